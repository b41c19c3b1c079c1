/-! what the class keeps of the YEARS -/
def kat (M : MT) (a : Nat) (l : List Int) (h : Int) : Prop := M 47 a = (l.length : Int) ∧ M 48 a = h ∧ SL M 46 (40 * a) l
theorem kat.fr {M M' : MT} {a : Nat} {l : List Int} {h : Int} (k : kat M a l h) (f : ∀ q, q = 46 ∨ q = 47 ∨ q = 48 → ∀ j, M' q j = M q j) : kat M' a l h := ⟨(f _ (by omega) _).trans k.1, (f _ (by omega) _).trans k.2.1, fun i hi => (f _ (by omega) _).trans (k.2.2 i hi)⟩
def KP (D : DT) (e : Int) (M : MT) : Prop := (∀ yr, yr < 40 → ∀ t, t < dn D → kat M (6 * yr + t) (yN (yrs D e (yr + 1)) t) (holdY D (yrs D e (yr + 1)) t)) ∧ ∀ l, l < dl D → M (28 + l) 4 = yC (yrs D e 40) l ∧ M (28 + l) 5 = yB (yrs D e 40) l ∧ M (28 + l) 6 = yM (yrs D e 40) l
def KC (D : DT) (M : MT) : Prop := M 40 7 = -1 ∨ ∃ e : Int, 0 ≤ e ∧ M 40 7 = e ∧ KP D e M
/-- what a query that doesn't live the YEARS may change -/
def FQ (M M' : MT) : Prop := ∀ q k, ¬ (73 ≤ q ∧ q ≤ 91) → M' q k = M q k
theorem FQ.rf {M : MT} : FQ M M := fun _ _ _ => rfl
theorem FQ.tr {M M' M'' : MT} (h : FQ M M') (h' : FQ M' M'') : FQ M M'' := fun q k a => (h' q k a).trans (h q k a)
theorem FQ.fc {M M' : MT} (h : FQ M M') : FC M M' := fun q k a _ => h q k (by omega)
theorem FQ.fr {S : List Nat} {M M' : MT} (h : Fr S M M') (hs : ∀ q ∈ S, 73 ≤ q ∧ q ≤ 91) : FQ M M' := fun q k a => h q (fun hq => a (hs q hq)) k
theorem KP.fr {D : DT} (ok : okD D) {e : Int} {M M' : MT} (h : KP D e M) (f : ∀ q k, 28 ≤ q ∧ q ≤ 39 ∨ 46 ≤ q ∧ q ≤ 48 → M' q k = M q k) : KP D e M' := by
  have o3 := ok.2.2.2.2.1
  refine ⟨fun yr hy t ht => (h.1 yr hy t ht).fr (fun q hq j => f q j (by omega)), fun l hl => ?_⟩
  rw [f _ _ (by omega), f _ _ (by omega), f _ _ (by omega)]
  exact h.2 l hl
theorem KC.fq {D : DT} (ok : okD D) {M M' : MT} (h : KC D M) (f : FQ M M') : KC D M' := by
  unfold KC
  rw [f 40 7 (by omega)]
  rcases h with h | ⟨e, h0, h1, h2⟩
  · exact Or.inl h
  · exact Or.inr ⟨e, h0, h1, h2.fr ok (fun q k hq => f q k (by omega))⟩
theorem ix6 {a t : Nat} (ha : a < 100) (ht : t < 100) : w32 (w32 ((a : Int) * 6) + (t : Int)) = ((6 * a + t : Nat) : Int) := by
  rw [w32_s (x := (a : Int) * 6) (by omega) (by omega), w32_s (by omega) (by omega)]
  omega
theorem ixk {a : Nat} (ha : a < 1000) : w32 ((a : Int) * 40) = ((40 * a : Nat) : Int) := by
  rw [w32_s (by omega) (by omega)]
  omega
theorem SL.cpk {M : MT} {o o2 k : Nat} {l : List Int} (h : SL M o 0 l) : SL (mcp M o o2 0 (k : Int) (l.length : Int)) o2 k l := by
  intro i hi
  unfold mcp
  rw [if_pos ⟨rfl, by omega, by omega⟩]
  have h1 := h i hi
  rw [← h1]
  congr 1
  omega
section CYK
variable {G : GT} {M : MT} {P : MT → Prop} {D : DT}
theorem c_ye_keep (ok : okD D) (yr : Nat) (hyr : yr < 40) (b c : Int) (y : YT) (h1 : CD D M) (h2 : YPC D M y) (h3 : YI D b c y) (hp : ∀ M', Fr [46, 47, 48] M M' → (∀ a l h, l.length ≤ 40 → a < 6 * yr → kat M a l h → kat M' a l h) → (∀ t, t < dn D → kat M' (6 * yr + t) (yN y t) (holdY D y t)) → P M') : ClV G J_ye_keep M [pR 40, pR 1, pI (yr : Int)] P := by
  have o1 := ok.1
  have o3 := ok.2.2.2.2.1
  have lp : ∀ (d i : Nat) (M1 : MT), i + d = dn D → Fr [46, 47, 48] M M1 → (∀ a l h, l.length ≤ 40 → a < 6 * yr → kat M a l h → kat M1 a l h) → (∀ t, t < i → kat M1 (6 * yr + t) (yN y t) (holdY D y t)) → WpV G J_ye_keep 2 [(0, pR 40), (1, pR 1), (2, pI (yr : Int)), (3, pI (i : Int))] [] M1 P := by
    intro d
    induction d with
    | zero =>
      intro i M1 hi hf ho hn
      have e1 : M1 1 4 = (dn D : Int) := (hf 1 (by simp) 4).trans h1.1
      exact b_ye_keep_2 _ _ ⟨fun _ => hp M1 hf ho (fun t ht => hn t (by omega)), fun c => by rw [e1] at c; omega⟩
    | succ d ih =>
      intro i M1 hi hf ho hn
      have e1 : M1 1 4 = (dn D : Int) := (hf 1 (by simp) 4).trans h1.1
      have il : i < dn D := by omega
      have tn := h2.1 i il
      have ln := (h3.1 i il).1.1
      have e43 : M1 43 i = yH y i := (hf 43 (by simp) i).trans (h2.2.1 i il)
      have es : M1 (49 + 4 * i) 1 = ((yN y i).length : Int) := (hf _ (by simp; omega) 1).trans tn.1
      have fin : ∀ (M2 : MT) (g : Int), g = holdY D y i → M2 = mu (mu M1 47 (6 * yr + i) ((yN y i).length : Int)) 48 (6 * yr + i) g → ∀ M3 : MT, M3 = mcp M2 (49 + 4 * i + 1) 46 0 ((40 * (6 * yr + i) : Nat) : Int) ((yN y i).length : Int) → WpV G J_ye_keep 2 [(0, pR 40), (1, pR 1), (2, pI (yr : Int)), (3, pI (w32 ((i : Int) + 1)))] [] M3 P := by
        rintro M2 g hg rfl M3 rfl
        rw [wi (by omega)]
        have sl2 : SL (mu (mu M1 47 (6 * yr + i) ((yN y i).length : Int)) 48 (6 * yr + i) g) (49 + 4 * i + 1) 0 (yN y i) := fun k hk => by
          rw [mu_o (by omega), mu_o (by omega), hf _ (by simp; omega)]
          exact tn.2 k hk
        have r46 : ∀ k, (k < 40 * (6 * yr + i) ∨ 40 * (6 * yr + i) + (yN y i).length ≤ k) → mcp (mu (mu M1 47 (6 * yr + i) ((yN y i).length : Int)) 48 (6 * yr + i) g) (49 + 4 * i + 1) 46 0 ((40 * (6 * yr + i) : Nat) : Int) ((yN y i).length : Int) 46 k = M1 46 k := fun k hk => by
          unfold mcp
          rw [if_neg (by omega), mu_o (by omega), mu_o (by omega)]
        have r47 : ∀ q k, q ≠ 46 → mcp (mu (mu M1 47 (6 * yr + i) ((yN y i).length : Int)) 48 (6 * yr + i) g) (49 + 4 * i + 1) 46 0 ((40 * (6 * yr + i) : Nat) : Int) ((yN y i).length : Int) q k = mu (mu M1 47 (6 * yr + i) ((yN y i).length : Int)) 48 (6 * yr + i) g q k := fun q k hq => by
          unfold mcp
          rw [if_neg (by omega)]
        have old : ∀ a l h, l.length ≤ 40 → a < 6 * yr + i → kat M1 a l h → kat (mcp (mu (mu M1 47 (6 * yr + i) ((yN y i).length : Int)) 48 (6 * yr + i) g) (49 + 4 * i + 1) 46 0 ((40 * (6 * yr + i) : Nat) : Int) ((yN y i).length : Int)) a l h := fun a l h hl ha k => by
          refine ⟨?_, ?_, fun j hj => ?_⟩
          · rw [r47 _ _ (by decide), mu_o (by decide), mu_k (by omega)]
            exact k.1
          · rw [r47 _ _ (by decide), mu_k (by omega), mu_o (by decide)]
            exact k.2.1
          · rw [r46 _ (by omega)]
            exact k.2.2 j hj
        refine ih (i + 1) _ (by omega) (Fr.tr (Fr.tr (Fr.tr hf (Fr.mu1 (by simp))) (Fr.mu1 (by simp))) (Fr.cp1 (by simp))) (fun a l h hl ha k => old a l h hl (by omega) (ho a l h hl ha k)) (fun t ht => ?_)
        by_cases et : t = i
        · rw [et]
          refine ⟨?_, ?_, sl2.cpk⟩
          · rw [r47 _ _ (by decide), mu_o (by decide), mu_eq]
          · rw [r47 _ _ (by decide), mu_eq, hg]
        · exact old _ _ _ (h3.1 t (by omega)).1.1 (by omega) (hn t (by omega))
      refine b_ye_keep_2 _ _ ⟨fun c => by rw [e1] at c; omega, fun _ => ⟨⟨by omega, by omega⟩, ?_⟩⟩
      rw [ix6 (by omega) (by omega), tN (6 * yr + i), tN i, es, ixk (by omega)]
      refine ⟨⟨by omega, by omega⟩, ?_⟩
      rintro M2 rfl
      refine ⟨⟨by omega, by omega⟩, ?_⟩
      rw [mu_o (by decide), e43]
      refine ⟨fun c2 => ⟨⟨by omega, by omega⟩, ?_⟩, fun c2 => ⟨⟨by omega, by omega⟩, ?_⟩⟩
      · obtain ⟨h, b1, b2, b3, b4, b5, b6⟩ := h3.2.1 i il c2
        have ov := ok.2.2.2.2.2 h b2
        have e2 : M1 (28 + h) 2 = dL D h 2 := (hf _ (by simp; omega) 2).trans (h1.2.2.2.2 h b2 2 (by omega))
        rw [b1, tN, mu_o (by omega), e2]
        refine ⟨⟨by omega, by omega⟩, ⟨by omega, by omega⟩, ?_⟩
        rintro M3 rfl
        refine ⟨⟨by omega, by omega⟩, ⟨by omega, by omega⟩, ?_⟩
        rw [mu_o (by omega), mu_o (by omega), es]
        refine ⟨⟨⟨by omega, by omega, by omega⟩, by omega, by omega⟩, ?_⟩
        refine fin _ _ ?_ rfl
        unfold holdY
        rw [if_neg c2, b1, tN]
      · rintro M3 rfl
        refine ⟨⟨by omega, by omega⟩, ⟨by omega, by omega⟩, ?_⟩
        rw [mu_o (by omega), mu_o (by omega), es]
        refine ⟨⟨⟨by omega, by omega, by omega⟩, by omega, by omega⟩, ?_⟩
        refine fin _ _ ?_ rfl
        unfold holdY
        rw [if_pos c2]
  exact e_ye_keep _ (lp (dn D) 0 M (by omega) Fr.rf (fun _ _ _ _ _ k => k) (fun t ht => absurd ht (Nat.not_lt_zero t)))
theorem c_ye_begin (ok : okD D) (h1 : CD D M) (hp : ∀ M', FY M M' → YPC D M' (startY D) → P M') : ClV G J_ye_begin M [pR 40, pR 1] P := by
  have o1 := ok.1
  have o3 := ok.2.2.2.2.1
  have lp2 : ∀ (d i : Nat) (M1 : MT), i + d = dl D → FY M M1 → (∀ t, t < dn D → Tn M1 (49 + 4 * t) (dT D t) ∧ M1 43 t = -1) → (∀ l, l < i → M1 (28 + l) 4 = 0 ∧ M1 (28 + l) 5 = 0 ∧ M1 (28 + l) 6 = 0) → WpV G J_ye_begin 40 [(1, pR 1), (2, pI (i : Int))] [] M1 P := by
    intro d
    induction d with
    | zero =>
      intro i M1 hi hf hn hl
      have hc := h1.fc ok hf.fc
      exact b_ye_begin_40 _ ⟨fun _ => hp M1 hf ⟨fun t ht => (hn t ht).1, fun t ht => (hn t ht).2, fun t ht h => absurd rfl h, fun l hl2 => hl l (by omega)⟩, fun c => by rw [hc.2.2.2.1] at c; omega⟩
    | succ d ih =>
      intro i M1 hi hf hn hl
      have hc := h1.fc ok hf.fc
      refine b_ye_begin_40 _ ⟨fun c => by rw [hc.2.2.2.1] at c; omega, fun _ => ⟨⟨by omega, by omega⟩, ?_⟩⟩
      rw [tN, wi (by omega)]
      rintro M2 rfl M3 rfl M4 rfl
      refine ih (i + 1) _ (by omega) (FY.tr (FY.tr (FY.tr hf (FY.lo (by omega) (by omega))) (FY.lo (by omega) (by omega))) (FY.lo (by omega) (by omega))) (fun t ht => ?_) (fun l hl2 => ?_)
      · obtain ⟨a, b⟩ := hn t ht
        exact ⟨⟨by rw [mu_o (by omega), mu_o (by omega), mu_o (by omega)]; exact a.1, fun k hk => by rw [mu_o (by omega), mu_o (by omega), mu_o (by omega)]; exact a.2 k hk⟩, by rw [mu_o (by omega), mu_o (by omega), mu_o (by omega)]; exact b⟩
      · by_cases el : l = i
        · rw [el, mu_k (by decide), mu_k (by decide), mu_eq, mu_k (by decide), mu_eq, mu_eq]
          exact ⟨rfl, rfl, rfl⟩
        · rw [mu_o (by omega), mu_o (by omega), mu_o (by omega), mu_o (by omega), mu_o (by omega), mu_o (by omega), mu_o (by omega), mu_o (by omega), mu_o (by omega)]
          exact hl l (by omega)
  have lp : ∀ (d i : Nat) (M1 : MT), i + d = dn D → FY M M1 → (∀ t, t < i → Tn M1 (49 + 4 * t) (dT D t) ∧ M1 43 t = -1) → WpV G J_ye_begin 2 [(0, pR 40), (1, pR 1), (2, pI (i : Int))] [] M1 P := by
    intro d
    induction d with
    | zero =>
      intro i M1 hi hf hn
      have hc := h1.fc ok hf.fc
      exact b_ye_begin_2 _ ⟨fun _ => lp2 (dl D) 0 M1 (by omega) hf (fun t ht => hn t (by omega)) (fun l hl => absurd hl (Nat.not_lt_zero l)), fun c => by rw [hc.1] at c; omega⟩
    | succ d ih =>
      intro i M1 hi hf hn
      have hc := h1.fc ok hf.fc
      refine b_ye_begin_2 _ ⟨fun c => by rw [hc.1] at c; omega, fun _ => ⟨⟨by omega, by omega⟩, ⟨by omega, by omega⟩, ?_⟩⟩
      rw [tN, wi (by omega)]
      refine c_tu_become (49 + 4 * i) (k_now i (by omega)).2 (10 + 2 * i) (k_tunes i (by omega)).2 (dT D i) (hc.2.1 i (by omega)) (ok.2.1 i (by omega)).2.1 (by omega) (by omega) (fun M2 hf2 ht2 => ⟨⟨by omega, by omega⟩, ?_⟩)
      rintro M3 rfl
      refine ih (i + 1) _ (by omega) (FY.tr (FY.tr hf (FY.fr hf2 (by intro q hq; simp at hq; omega))) (FY.m1 (by omega))) (fun t ht => ?_)
      by_cases et : t = i
      · rw [et]
        exact ⟨⟨by rw [mu_o (by omega)]; exact ht2.1, fun k hk => by rw [mu_o (by omega)]; exact ht2.2 k hk⟩, mu_eq _ _ _ _⟩
      · obtain ⟨a, b⟩ := hn t (by omega)
        have a2 := a.fr hf2 (nm2 (by omega) (by omega)) (nm2 (by omega) (by omega))
        exact ⟨⟨by rw [mu_o (by omega)]; exact a2.1, fun k hk => by rw [mu_o (by omega)]; exact a2.2 k hk⟩, by rw [mu_k et, hf2 43 (nm2 (by omega) (by omega))]; exact b⟩
  exact e_ye_begin (lp (dn D) 0 M (by omega) FY.rf (fun t ht => absurd ht (Nat.not_lt_zero t)))
theorem c_ye_live (ok : okD D) (e : Int) (he : 0 ≤ e) (h1 : CD D M) (hk : KC D M) (hp : ∀ M', FC M M' → M' 40 7 = e → KP D e M' → P M') : ClV G J_ye_live M [pR 40, pR 1, pI e, pR 84] P := by
  have lp : ∀ (d i : Nat) (M1 : MT), i + d = 40 → FC M M1 → YPC D M1 (yrs D e i) → (∀ yr, yr < i → ∀ t, t < dn D → kat M1 (6 * yr + t) (yN (yrs D e (yr + 1)) t) (holdY D (yrs D e (yr + 1)) t)) → WpV G J_ye_live 17 [(0, pR 40), (1, pR 1), (2, pI e), (3, pR 84), (4, pI (i : Int))] [] M1 P := by
    intro d
    induction d with
    | zero =>
      intro i M1 hi hf hy hk
      have hie : i = 40 := by omega
      subst hie
      refine b_ye_live_17 _ _ ⟨fun _ => ?_, fun c => absurd c (by omega)⟩
      rintro M2 rfl
      have o3 := ok.2.2.2.2.1
      refine hp _ (fun q k a b => by rw [mu_o (by omega)]; exact hf q k a b) (mu_eq _ _ _ _) ⟨fun yr hyr t ht => (hk yr hyr t ht).fr (fun q hq j => mu_o (by omega)), fun l hl => ?_⟩
      rw [mu_o (by omega), mu_o (by omega), mu_o (by omega)]
      exact hy.2.2.2 l hl
    | succ d ih =>
      intro i M1 hi hf hy hk
      have hI := YI.yrs ok e i
      have hI1 : YI D ((i : Int) + 1) i (yrs D e i) := hI.up (by omega) (by omega)
      refine b_ye_live_17 _ _ ⟨fun c => absurd c (by omega), fun _ => ?_⟩
      refine c_ye_lendOut ok i _ (h1.fc ok hf) hy hI1 (fun M2 f2 y2 => ?_)
      have hI2 := YI.lendsAll ok hI1 (dl D) (Nat.le_refl _)
      refine c_ye_humLent ok _ _ _ (h1.fc ok (hf.tr f2.fc)) y2 (hI2.up (Int.le_refl _) (show (i : Int) ≤ (i : Int) + 1 by omega)) (fun M3 f3 y3 => ?_)
      have hI3 := YI.humAll ok (hI2.up (Int.le_refl _) (show (i : Int) ≤ (i : Int) + 1 by omega)) (dn D) (Nat.le_refl _)
      refine c_ye_comeBack ok i (by omega) e _ (h1.fc ok ((hf.tr f2.fc).tr f3.fc)) y3 hI3 (fun M4 f4 y4 => ?_)
      have hI4 := YI.backAll ok (e := e) hI3 (dn D) (Nat.le_refl _)
      have f24 := (f2.tr f3).tr f4
      have fc4 := hf.tr f24.fc
      refine c_ye_keep ok i (by omega) _ _ _ (h1.fc ok fc4) y4 hI4 (fun M5 f5 ko kn => ?_)
      rw [wi (by omega)]
      have o1 := ok.1
      have o3 := ok.2.2.2.2.1
      refine ih (i + 1) M5 (by omega) (fc4.tr (FC.fr f5 (by intro q hq; simp at hq; omega))) ?_ (fun yr hyr t ht => ?_)
      · have y5 : YPC D M4 (yrs D e (i + 1)) := y4
        refine ⟨fun t ht => (y5.1 t ht).fr f5 (by simp; omega) (by simp; omega), fun t ht => (f5 _ (by simp) _).trans (y5.2.1 t ht), fun t ht hh => (y5.2.2.1 t ht hh).fr f5 (by simp; omega) (by simp; omega), fun l hl => ?_⟩
        rw [f5 (28 + l) (by simp; omega), f5 (28 + l) (by simp; omega), f5 (28 + l) (by simp; omega)]
        exact y5.2.2.2 l hl
      · by_cases ey : yr = i
        · rw [ey]
          exact kn t ht
        · have h24 := (hk yr (by omega) t ht).fr (M' := M4) (fun q hq j => f24 q j (by omega) (by omega) (by omega) (by omega))
          exact ko _ _ _ ((YI.yrs ok e (yr + 1)).1 t ht).1.1 (by omega) h24
  refine e_ye_live _ ⟨fun c => ?_, fun c => ?_⟩
  · refine c_ye_begin ok h1 (fun M1 f1 y1 => ?_)
    exact lp 40 0 M1 (by omega) f1.fc y1 (fun yr hyr => absurd hyr (Nat.not_lt_zero yr))
  · rcases hk with h | ⟨e2, h0, h1', h2⟩
    · omega
    · have ee : e2 = e := by omega
      subst ee
      exact hp M FC.rf h1' h2
end CYK
