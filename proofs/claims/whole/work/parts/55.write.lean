/-! write, count: class and model -/
def wrN (S : ST) (yr t s : Nat) : Nat := if sSz S s < (yN (yrs (DS S) (sE S) (yr + 1)) t).length then sSz S s else (yN (yrs (DS S) (sE S) (yr + 1)) t).length
def wrF (S : ST) (yr t s n : Nat) (k : Nat) : Int := if k < n then cutN (sFm S s) ((yN (yrs (DS S) (sE S) (yr + 1)) t).getD k 0) else sIt S s k
def writeR (S : ST) (yr t s : Int) : Int × ST := if (0 ≤ yr ∧ yr ≤ 39) ∧ (0 ≤ t ∧ t < (dn (DS S) : Int)) ∧ (0 ≤ s ∧ s ≤ 3) then (if sFm S s.toNat = -1 then (-11, setF S 1) else ((wrN S yr.toNat t.toNat s.toNat : Int), setH S (sFm S, sSz S, fu (sIt S) s.toNat (wrF S yr.toNat t.toNat s.toNat (wrN S yr.toNat t.toNat s.toNat))))) else (-2, S)
theorem ok_write {S : ST} (ok : okST S) (yr t s : Int) : okST (writeR S yr t s).2 := by
  unfold writeR
  split
  · split
    · exact ok
    · exact ok
  · exact ok
def countA (S : ST) (w : Int) : Int := if w = 0 then (dn (DS S) : Int) else if w = 1 then (db (DS S) : Int) else if w = 2 then ((sT S).2 : Int) else if w = 3 then ((sB S).2 : Int) else if w = 4 then ((sL S).1 : Int) else if w = 5 then sumI (yC (yrs (DS S) (sE S) 40)) (dl (DS S)) else if w = 6 then sE S else if w = 7 then sumI (sizeT (DS S)) (dn (DS S)) else if w = 8 then sF S else -2
section CWR
variable {G : GT} {M : MT} {S : ST} {P : Int → MT → Prop}
theorem c_tl_write (ok : okST S) (h : RC S M) (yr t s : Int) (hp : ∀ M', FX M M' → RC (writeR S yr t s).2 M' → P (writeR S yr t s).1 M') : ClI G J_tl_write M [pR 0, pI yr, pI t, pI s] P := by
  unfold writeR at hp
  have okd := ok.d
  have o1 := okd.1
  have no : ¬ ((0 ≤ yr ∧ yr ≤ 39) ∧ (0 ≤ t ∧ t < (dn (DS S) : Int)) ∧ (0 ≤ s ∧ s ≤ 3)) → P (-2) M := fun c => by
    rw [if_neg c] at hp
    exact hp M FX.rf h
  refine e_tl_write _ _ _ (c_tl_isYear _ ⟨fun c => no (fun z => b01_0.mp c z.1), fun c => c_tl_isTune (dn (DS S)) o1 h.cd.1 _ ⟨fun c2 => no (fun z => b01_0.mp c2 z.2.1), fun c2 => c_tl_isSheet _ ⟨fun c3 => ?_, fun c3 => no (fun z => b01_0.mp c3 z.2.2)⟩⟩⟩)
  have z1 := b01_n.mp c
  have z2 := b01_n.mp c2
  have z3 := b01_n.mp c3
  rw [if_pos ⟨z1, z2, z3⟩] at hp
  obtain ⟨y, rfl⟩ : ∃ x : Nat, yr = (x : Int) := ⟨yr.toNat, by omega⟩
  obtain ⟨u, rfl⟩ : ∃ x : Nat, t = (x : Int) := ⟨t.toNat, by omega⟩
  obtain ⟨v, rfl⟩ : ∃ x : Nat, s = (x : Int) := ⟨s.toNat, by omega⟩
  rw [tN, tN, tN] at hp
  rw [tN]
  have hh := h.2.2.2.2.1 v (by omega)
  have hz := ok.2.2.2.2 v (by omega)
  have sv := (k_sheets v (by omega)).2
  refine ⟨⟨by omega, by omega⟩, c_sh_isLost _ sv ⟨fun c4 => ?_, fun c4 => ?_⟩⟩
  · have z4 := b01_0.mp c4
    rw [hh.1] at z4
    rw [if_neg z4] at hp
    rw [h.2.2.2.1.1]
    refine c_ye_live okd (sE S) ok.2.2.2.1.1 h.cd h.2.2.2.2.2 (fun M1 f1 g1 k1 => c_ye_sizeOf y u (by omega) (by omega) okd k1 ?_)
    have e5 : M1 (93 + 2 * v) 2 = (sSz S v : Int) := (f1 _ _ (by omega) (by omega)).trans hh.2.1
    have hl := ((YI.yrs okd (sE S) (y + 1)).1 u (by omega)).1.1
    have hm : (if ((yN (yrs (DS S) (sE S) (y + 1)) u).length : Int) < (sSz S v : Int) then ((yN (yrs (DS S) (sE S) (y + 1)) u).length : Int) else (sSz S v : Int)) = (wrN S y u v : Int) := by
      unfold wrN
      split <;> split <;> omega
    have hwn : wrN S y u v ≤ sSz S v ∧ wrN S y u v ≤ (yN (yrs (DS S) (sE S) (y + 1)) u).length := by
      unfold wrN
      split <;> omega
    rw [e5, hm]
    generalize wrN S y u v = n at *
    have lp : ∀ (d i : Nat) (M2 : MT), i + d = n → (∀ q k, ¬ (q = 93 + 2 * v + 1 ∧ k < i) → M2 q k = M1 q k) → (∀ k, k < i → M2 (93 + 2 * v + 1) k = cutN (sFm S v) ((yN (yrs (DS S) (sE S) (y + 1)) u).getD k 0)) → WpI G J_tl_write 88 [(0, pR 0), (1, pI (y : Int)), (2, pI (u : Int)), (4, pR (93 + 2 * v)), (5, pI (n : Int)), (6, pI (i : Int))] [] M2 P := by
      intro d
      induction d with
      | zero =>
        intro i M2 hi g2 q2
        have hie : i = n := by omega
        subst hie
        have rc1 := h.fc ok f1 (Or.inr ⟨sE S, ok.2.2.2.1.1, g1, k1⟩)
        refine b_tl_write_88 _ _ _ sv _ _ ⟨fun _ => hp M2 (f1.fx.tr (fun q k a => g2 q k (by omega))) (rc1.setH ok _ (fun q k a => g2 q k (by omega)) (fun x hx => ?_)), fun c => absurd c (by omega)⟩
        have hx2 := rc1.2.2.2.2.1 x hx
        show M2 (93 + 2 * x) 1 = sFm S x ∧ M2 (93 + 2 * x) 2 = ((sSz S x : Nat) : Int) ∧ ∀ k, k < sSz S x → M2 (93 + 2 * x + 1) k = fu (sIt S) v (wrF S y u v i) x k
        refine ⟨(g2 _ _ (by omega)).trans hx2.1, (g2 _ _ (by omega)).trans hx2.2.1, fun k hk => ?_⟩
        by_cases ex : x = v
        · rw [ex, fu_eq]
          unfold wrF
          by_cases ck : k < i
          · rw [if_pos ck]
            exact q2 k ck
          · rw [if_neg ck, g2 _ _ (by omega)]
            rw [ex] at hx2 hk
            exact hx2.2.2 k hk
        · rw [fu_ne ex, g2 _ _ (by omega)]
          exact hx2.2.2 k hk
      | succ d ih =>
        intro i M2 hi g2 q2
        have k2 : KP (DS S) (sE S) M2 := k1.fr okd (fun q k a => g2 q k (by omega))
        refine b_tl_write_88 _ _ _ sv _ _ ⟨fun c => absurd c (by omega), fun _ => c_ye_noteOf y u (by omega) (by omega) okd _ k2 ?_⟩
        rw [if_pos ⟨by omega, by omega⟩, tN, wi (by omega)]
        refine c_sh_put _ sv i (by omega) _ ?_
        rw [g2 (93 + 2 * v) 1 (by omega), f1 _ _ (by omega) (by omega), hh.1]
        refine ih (i + 1) _ (by omega) (fun q k a => ?_) (fun k hk => ?_)
        · by_cases e : q = 93 + 2 * v + 1
          · rw [e, mu_k (by omega), ← e]
            exact g2 q k (by omega)
          · rw [mu_o e]
            exact g2 q k (by omega)
        · by_cases ek : k = i
          · rw [ek, mu_eq]
          · rw [mu_k ek]
            exact q2 k (by omega)
    exact lp n 0 M1 (by omega) (fun _ _ _ => rfl) (fun k hk => absurd hk (Nat.not_lt_zero k))
  · have z4 := b01_n.mp c4
    rw [hh.1] at z4
    rw [if_pos z4] at hp
    exact c_tl_fnd ok h 1 (by decide) (by decide) hp
theorem c_mo_write (ok : okST S) (h : RM S M) (yr t s : Int) (hp : ∀ M', FO M M' → RM (writeR S yr t s).2 M' → P (writeR S yr t s).1 M') : ClI G J_mo_write M [pR 101, pI yr, pI t, pI s] P := by
  unfold writeR at hp
  have okd := ok.d
  have o1 := okd.1
  refine e_mo_write _ _ _ (h.rd ok _ (fun M1 f1 h1 => ?_))
  have r1 := h.fa f1
  have no : ¬ ((0 ≤ yr ∧ yr ≤ 39) ∧ (0 ≤ t ∧ t < (dn (DS S) : Int)) ∧ (0 ≤ s ∧ s ≤ 3)) → P (-2) M1 := fun c => by
    rw [if_neg c] at hp
    exact hp M1 f1.fo r1
  refine c_mo_isYear _ ⟨fun c => no (fun z => b01_0.mp c z.1), fun c => c_mo_isTune (dn (DS S)) o1 h1.1 _ ⟨fun c2 => no (fun z => b01_0.mp c2 z.2.1), fun c2 => c_mo_isSheet _ ⟨fun c3 => ?_, fun c3 => no (fun z => b01_0.mp c3 z.2.2)⟩⟩⟩
  have z1 := b01_n.mp c
  have z2 := b01_n.mp c2
  have z3 := b01_n.mp c3
  rw [if_pos ⟨z1, z2, z3⟩] at hp
  obtain ⟨y, rfl⟩ : ∃ x : Nat, yr = (x : Int) := ⟨yr.toNat, by omega⟩
  obtain ⟨u, rfl⟩ : ∃ x : Nat, t = (x : Int) := ⟨t.toNat, by omega⟩
  obtain ⟨v, rfl⟩ : ∃ x : Nat, s = (x : Int) := ⟨s.toNat, by omega⟩
  rw [tN, tN, tN] at hp
  rw [tN, tN]
  have hh := r1.2.2.2.2 v (by omega)
  have hz := ok.2.2.2.2 v (by omega)
  rw [hh.1]
  refine ⟨⟨by omega, by omega⟩, fun c4 => ?_, fun c4 => ?_⟩
  · rw [if_neg (by omega)] at hp
    rw [r1.2.2.2.1.1]
    refine c_mo_lives okd y (by omega) (sE S) h1 (fun M2 f2 y2 => ⟨⟨by omega, by omega⟩, ⟨by omega, by omega⟩, ?_⟩)
    have r2 := r1.fa f2.fa
    have nw := y2.1 u (by omega)
    have hl := ((YI.yrs okd (sE S) (y + 1)).1 u (by omega)).1.1
    rw [(r2.2.2.2.2 v (by omega)).2.1, nw.1]
    refine c_mo_lesser _ _ ?_
    have hm : (if (sSz S v : Int) < ((yN (yrs (DS S) (sE S) (y + 1)) u).length : Int) then (sSz S v : Int) else ((yN (yrs (DS S) (sE S) (y + 1)) u).length : Int)) = (wrN S y u v : Int) := by
      unfold wrN
      split <;> split <;> omega
    have hwn : wrN S y u v ≤ sSz S v ∧ wrN S y u v ≤ (yN (yrs (DS S) (sE S) (y + 1)) u).length := by
      unfold wrN
      split <;> omega
    rw [hm]
    generalize wrN S y u v = n at *
    have fo2 : FO M M2 := f1.fo.tr f2.fa.fo
    have lp : ∀ (d i : Nat) (M3 : MT), i + d = n → (∀ q k, ¬ (q = 104 ∧ 60 * v ≤ k ∧ k < 60 * v + i) → M3 q k = M2 q k) → (∀ k, k < i → M3 104 (60 * v + k) = cutN (sFm S v) ((yN (yrs (DS S) (sE S) (y + 1)) u).getD k 0)) → WpI G J_mo_write 73 [(0, pR 101), (2, pI (u : Int)), (3, pI (v : Int)), (4, pI (n : Int)), (5, pI (i : Int))] [] M3 P := by
      intro d
      induction d with
      | zero =>
        intro i M3 hi g3 q3
        have hie : i = n := by omega
        subst hie
        refine b_mo_write_73 _ _ _ _ ⟨fun _ => hp M3 (fo2.tr (fun q k a => g3 q k (by omega))) (r2.setH _ (fun q k a b c d => g3 q k (by omega)) (fun x hx => ?_)), fun c => absurd c (by omega)⟩
        have hx2 := r2.2.2.2.2 x hx
        have ox := (ok.2.2.2.2 x hx).2
        show M3 102 x = sFm S x ∧ M3 103 x = ((sSz S x : Nat) : Int) ∧ ∀ k, k < sSz S x → M3 104 (60 * x + k) = fu (sIt S) v (wrF S y u v i) x k
        refine ⟨(g3 _ _ (by omega)).trans hx2.1, (g3 _ _ (by omega)).trans hx2.2.1, fun k hk => ?_⟩
        by_cases ex : x = v
        · rw [ex, fu_eq]
          unfold wrF
          by_cases ck : k < i
          · rw [if_pos ck]
            exact q3 k ck
          · rw [if_neg ck, g3 _ _ (by omega)]
            rw [ex] at hx2 hk
            exact hx2.2.2 k hk
        · rw [fu_ne ex, g3 _ _ (by omega)]
          exact hx2.2.2 k hk
      | succ d ih =>
        intro i M3 hi g3 q3
        refine b_mo_write_73 _ _ _ _ ⟨fun c => absurd c (by omega), fun _ => ⟨⟨by omega, by omega⟩, ?_⟩⟩
        rw [ix40 (by omega) (by omega), ix60 (by omega) (by omega), tN, tN, tN, g3 102 v (by omega), g3 112 _ (by omega), nw.at (by omega), (r2.2.2.2.2 v (by omega)).1, wi (by omega)]
        refine ⟨by omega, c_mo_cut _ _ ⟨by omega, ?_⟩⟩
        rintro M4 rfl
        refine ih (i + 1) _ (by omega) (fun q k a => ?_) (fun k hk => ?_)
        · rw [← g3 q k (by omega)]
          by_cases e : q = 104
          · rw [e, mu_k (by omega)]
          · rw [mu_o e]
        · by_cases ek : k = i
          · rw [ek, mu_eq]
          · rw [mu_k (by omega)]
            exact q3 k (by omega)
    exact lp n 0 M2 (by omega) (fun _ _ _ => rfl) (fun k hk => absurd hk (Nat.not_lt_zero k))
  · rw [if_pos (by omega)] at hp
    exact c_mo_fnd r1 1 (by decide) (by decide) (fun M2 f2 r2 => hp M2 (f1.fo.tr f2) r2)
theorem c_tl_count (ok : okST S) (h : RC S M) (w : Int) (hp : ∀ M', FC M M' → KC (DS S) M' → P (countA S w) M') : ClI G J_tl_count M [pR 0, pI w] P := by
  have okd := ok.d
  have hc := h.cd
  unfold countA at hp
  have z := hp M FC.rf h.2.2.2.2.2
  refine e_tl_count _ ⟨fun c => ?_, fun c => ?_, fun c => ?_, fun c => ?_, fun c => ?_, fun c => ?_, fun c => ?_, fun c => ?_, fun c => ?_, fun c => ?_⟩
  · rw [if_pos c] at z
    rw [hc.1]
    exact z
  · rw [if_neg (by omega), if_pos c] at z
    rw [hc.2.2.1.1]
    exact z
  · rw [if_neg (by omega), if_neg (by omega), if_pos c] at z
    rw [h.1.1]
    exact z
  · rw [if_neg (by omega), if_neg (by omega), if_neg (by omega), if_pos c] at z
    rw [h.2.1.1]
    exact z
  · rw [if_neg (by omega), if_neg (by omega), if_neg (by omega), if_neg (by omega), if_pos c] at z
    rw [h.2.2.1.1]
    exact z
  · rw [if_neg (by omega), if_neg (by omega), if_neg (by omega), if_neg (by omega), if_neg (by omega), if_pos c] at hp
    rw [h.2.2.2.1.1]
    exact c_ye_live okd (sE S) ok.2.2.2.1.1 hc h.2.2.2.2.2 (fun M1 f1 g1 k1 => c_bk_countingLoans okd (hc.fc okd f1) k1 (hp M1 f1 (Or.inr ⟨sE S, ok.2.2.2.1.1, g1, k1⟩)))
  · rw [if_neg (by omega), if_neg (by omega), if_neg (by omega), if_neg (by omega), if_neg (by omega), if_neg (by omega), if_pos c] at z
    rw [h.2.2.2.1.1]
    exact z
  · rw [if_neg (by omega), if_neg (by omega), if_neg (by omega), if_neg (by omega), if_neg (by omega), if_neg (by omega), if_neg (by omega), if_pos c] at z
    exact c_bk_toldNotes okd hc z
  · rw [if_neg (by omega), if_neg (by omega), if_neg (by omega), if_neg (by omega), if_neg (by omega), if_neg (by omega), if_neg (by omega), if_neg (by omega), if_pos c] at z
    rw [h.2.2.2.1.2]
    exact z
  · rw [if_neg (by omega), if_neg (by omega), if_neg (by omega), if_neg (by omega), if_neg (by omega), if_neg (by omega), if_neg (by omega), if_neg (by omega), if_neg (by omega)] at z
    exact z
theorem c_mo_count (ok : okST S) (h : RM S M) (w : Int) (hp : ∀ M', FA M M' → P (countA S w) M') : ClI G J_mo_count M [pR 101, pI w] P := by
  have okd := ok.d
  have o1 := okd.1
  have o3 := okd.2.2.2.2.1
  refine e_mo_count _ (h.rd ok _ (fun M1 f1 h1 => ?_))
  have r1 := h.fa f1
  have z := hp M1 f1
  unfold countA at hp z
  refine ⟨fun c => ?_, fun c => ?_, fun c => ?_, fun c => ?_, fun c => ?_, fun c => ?_, fun c => ?_, fun c => ?_, fun c => ?_, fun c => ?_⟩
  · rw [if_pos c] at z
    rw [h1.1]
    exact z
  · rw [if_neg (by omega), if_pos c] at z
    rw [h1.2.2.1]
    exact z
  · rw [if_neg (by omega), if_neg (by omega), if_pos c] at z
    rw [c, show w32 (2 - 2) = ((0 : Nat) : Int) by decide, tN, r1.1.1]
    exact ⟨by omega, z⟩
  · rw [if_neg (by omega), if_neg (by omega), if_neg (by omega), if_pos c] at z
    rw [c, show w32 (3 - 2) = ((1 : Nat) : Int) by decide, tN, r1.2.1.1]
    exact ⟨by omega, z⟩
  · rw [if_neg (by omega), if_neg (by omega), if_neg (by omega), if_neg (by omega), if_pos c] at z
    rw [r1.2.2.1.1]
    exact z
  · rw [if_neg (by omega), if_neg (by omega), if_neg (by omega), if_neg (by omega), if_neg (by omega), if_pos c] at hp
    rw [r1.2.2.2.1.1]
    refine c_mo_lives okd 39 (by omega) (sE S) h1 (fun M2 f2 y2 => ?_)
    have hc2 := h1.fm f2
    have y2 : YPM (DS S) M2 (yrs (DS S) (sE S) 40) := y2
    have lp : ∀ (d i : Nat), i + d = dl (DS S) → WpI G J_mo_count 92 [(0, pR 101), (2, pI (sumI (yC (yrs (DS S) (sE S) 40)) i)), (3, pI (i : Int))] [] M2 P := by
      intro d
      induction d with
      | zero =>
        intro i hi
        have hie : i = dl (DS S) := by omega
        subst hie
        exact b_mo_count_92 _ _ ⟨fun _ => hp M2 (f1.tr f2.fa), fun c => by rw [hc2.2.2.2.2.1] at c; omega⟩
      | succ d ih =>
        intro i hi
        have b1 := sumI_in (f := yC (yrs (DS S) (sE S) 40)) (a := 0) (b := 1) i (fun j hj => by have := (yCB01 (DS S) (sE S) 40 j).1; omega)
        have b2 := (yCB01 (DS S) (sE S) 40 i).1
        refine b_mo_count_92 _ _ ⟨fun c => by rw [hc2.2.2.2.2.1] at c; omega, fun _ => ⟨⟨by omega, by omega⟩, ?_⟩⟩
        rw [tN, (y2.2.2.2 i (by omega)).1, wi (by omega), w32_s (by omega) (by omega)]
        exact ih (i + 1) (by omega)
    exact lp (dl (DS S)) 0 (by omega)
  · rw [if_neg (by omega), if_neg (by omega), if_neg (by omega), if_neg (by omega), if_neg (by omega), if_neg (by omega), if_pos c] at z
    rw [r1.2.2.2.1.1]
    exact z
  · rw [if_neg (by omega), if_neg (by omega), if_neg (by omega), if_neg (by omega), if_neg (by omega), if_neg (by omega), if_neg (by omega), if_pos c] at z
    have lp : ∀ (d i : Nat), i + d = dn (DS S) → WpI G J_mo_count 124 [(0, pR 101), (2, pI (sumI (sizeT (DS S)) i)), (3, pI (i : Int))] [] M1 P := by
      intro d
      induction d with
      | zero =>
        intro i hi
        have hie : i = dn (DS S) := by omega
        subst hie
        exact b_mo_count_124 _ _ ⟨fun _ => z, fun c => by rw [h1.1] at c; omega⟩
      | succ d ih =>
        intro i hi
        have b1 := sumI_in (f := sizeT (DS S)) i (fun j hj => sizeT_in okd j (by omega))
        have b2 := sizeT_in okd i (by omega)
        have e1 : M1 109 i = sizeT (DS S) i := (h1.2.1 i (by omega)).1
        refine b_mo_count_124 _ _ ⟨fun c => by rw [h1.1] at c; omega, fun _ => ⟨⟨by omega, by omega⟩, ?_⟩⟩
        rw [tN, e1, wi (by omega), w32_s (by omega) (by omega)]
        exact ih (i + 1) (by omega)
    exact lp (dn (DS S)) 0 (by omega)
  · rw [if_neg (by omega), if_neg (by omega), if_neg (by omega), if_neg (by omega), if_neg (by omega), if_neg (by omega), if_neg (by omega), if_neg (by omega), if_pos c] at z
    rw [r1.2.2.2.1.2]
    exact z
  · rw [if_neg (by omega), if_neg (by omega), if_neg (by omega), if_neg (by omega), if_neg (by omega), if_neg (by omega), if_neg (by omega), if_neg (by omega), if_neg (by omega)] at z
    exact z
end CWR
