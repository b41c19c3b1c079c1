/-! FAIR, as the class has it -/
def bwOk (nB : Nat) (bw : Nat → Int × Int × Int) : Prop := ∀ i, i < nB → (bw i).2.1 = 0 ∨ (bw i).2.1 = 1 ∨ (bw i).2.1 = 2
def humB (bw : Nat → Int × Int × Int) (i : Nat) (l : List Int) : List Int := humL (bw i).1 (bw i).2.1 (bw i).2.2 l
/-- the class's borrowers -/
def CB (M : MT) (nB : Nat) (bw : Nat → Int × Int × Int) : Prop := M 1 5 = (nB : Int) ∧ ∀ i, i < nB → M (22 + i) 0 = (bw i).1 ∧ M (22 + i) 1 = (bw i).2.1 ∧ M (22 + i) 2 = (bw i).2.2
theorem CB.fr {S : List Nat} {M M' : MT} {nB : Nat} {bw : Nat → Int × Int × Int} (h : CB M nB bw) (f : Fr S M M') (h1 : 1 ∉ S) (h2 : ∀ i, i < nB → 22 + i ∉ S) : CB M' nB bw := ⟨(f 1 h1 5).trans h.1, fun i hi => ⟨(f _ (h2 i hi) 0).trans (h.2 i hi).1, (f _ (h2 i hi) 1).trans (h.2 i hi).2.1, (f _ (h2 i hi) 2).trans (h.2 i hi).2.2⟩⟩
/-- d years more, by a seed, for the t-th of nT tunes -/
def fairL (nT nB t : Nat) (bw : Nat → Int × Int × Int) : Nat → Int → List Int → List Int
  | 0, _, l => l
  | d + 1, s, l => fairL nT nB t bw d (lcg (lcg s)) (if lotN (lcg s) nT = (t : Int) then humB bw (lotN (lcg (lcg s)) nB).toNat l else l)
section CFAIR
variable {G : GT} {M : MT}
theorem c_ch_fairSize {P : Int → MT → Prop} (seed : Int) (years t nT nB : Nat) (bw : Nat → Int × Int × Int) (l : List Int) (hy : years ≤ 40) (hT : nT ≤ 6) (ht : t < nT) (hnT : M 1 4 = (nT : Int)) (hB : nB ≤ 6) (hb : CB M nB bw) (ho : bwOk nB bw) (hl : l.length ≤ 40) (htn : Tn M (10 + 2 * t) l)
    (hp : ∀ M', Fr [86, 87, 88, 89, 90] M M' → P (if nB = 0 then (l.length : Int) else ((fairL nT nB t bw years seed l).length : Int)) M') : ClI G J_ch_fairSize M [pR 86, pR 1, pI seed, pI (years : Int), pI (t : Int)] P := by
  have lp : ∀ (d y : Nat) (M1 : MT) (lc : List Int), y + d = years → Fr [86, 87, 88, 89, 90] M M1 → Tn M1 87 lc → lc.length ≤ 40 → (nB = 0 → lc = l) → fairL nT nB t bw d (M1 86 3) lc = fairL nT nB t bw years seed l → WpI G J_ch_fairSize 22 [(0, pR 86), (1, pR 1), (3, pI (years : Int)), (4, pI (t : Int)), (5, pI (y : Int))] [] M1 P := by
    intro d
    induction d with
    | zero =>
      intro y M1 lc hyd hf htn1 hlc h0 hF
      refine b_ch_fairSize_22 _ _ _ ⟨fun _ => ?_, fun c => absurd c (by omega)⟩
      have hF' : lc = fairL nT nB t bw years seed l := hF
      have h := hp M1 hf
      rw [← hF'] at h
      rw [htn1.1]
      by_cases hz : nB = 0
      · rw [if_pos hz, ← h0 hz] at h
        exact h
      · rw [if_neg hz] at h
        exact h
    | succ d ih =>
      intro y M1 lc hyd hf htn1 hlc h0 hF
      have hb1 := hb.fr hf (by decide) (fun i hi => by simp only [List.mem_cons, List.not_mem_nil, or_false, not_or]; omega)
      have e14 : M1 1 4 = (nT : Int) := (hf 1 (by decide) 4).trans hnT
      refine b_ch_fairSize_22 _ _ _ ⟨fun c => absurd c (by omega), fun _ => ⟨fun c => ?_, fun c => ?_⟩⟩
      · rw [hb1.1] at c
        have hz : nB = 0 := by omega
        have h := hp M1 hf
        rw [if_pos hz, ← h0 hz] at h
        rw [htn1.1]
        exact h
      · rw [hb1.1] at c
        rw [e14]
        refine c_ch_lot nT hT ?_
        rw [if_neg (by omega), mu_o (by decide), hb1.1]
        refine c_ch_lot nB hB ?_
        rw [if_neg (by omega), mu_eq]
        have hF' : fairL nT nB t bw d (lcg (lcg (M1 86 3))) (if lotN (lcg (M1 86 3)) nT = (t : Int) then humB bw (lotN (lcg (lcg (M1 86 3))) nB).toNat lc else lc) = fairL nT nB t bw years seed l := hF
        have hf2 : Fr [86, 87, 88, 89, 90] M1 (mu (mu M1 86 3 (lcg (M1 86 3))) 86 3 (lcg (lcg (M1 86 3)))) := (Fr.mu1 (by simp)).tr (Fr.mu1 (by simp))
        have hw := lotN_in (lcg (lcg (M1 86 3))) (show 0 < nB by omega) hB
        have ht2 : Tn (mu (mu M1 86 3 (lcg (M1 86 3))) 86 3 (lcg (lcg (M1 86 3)))) 87 lc := htn1.fr (S := [86]) ((Fr.mu1 (by simp)).tr (Fr.mu1 (by simp))) (by decide) (by decide)
        refine ⟨fun c2 => ?_, fun c2 => ⟨⟨by omega, by omega⟩, ?_⟩⟩
        · rw [if_neg c2] at hF'
          rw [wi (by omega)]
          exact ih (y + 1) _ lc (by omega) (hf.tr hf2) ht2 hlc h0 (by rw [mu_eq]; exact hF')
        · rw [if_pos c2] at hF'
          generalize hwn : (lotN (lcg (lcg (M1 86 3))) nB).toNat = w at hF' ⊢
          have hwl : w < nB := by omega
          have hb2 := (hb1.2 w hwl)
          refine c_ch_hum w (by omega) lc (bw w).1 (bw w).2.1 (bw w).2.2 hlc ht2 (by rw [mu_o (by omega), mu_o (by omega)]; exact hb2.1) (by rw [mu_o (by omega), mu_o (by omega)]; exact hb2.2.1) (by rw [mu_o (by omega), mu_o (by omega)]; exact hb2.2.2) (ho w hwl) (fun M3 hf3 ht3 => ?_)
          rw [wi (by omega)]
          refine ih (y + 1) M3 _ (by omega) ((hf.tr hf2).tr (hf3.up (by simp))) ht3 (humL_le _ _ _ _) (fun e => by omega) ?_
          rw [hf3 86 (by decide) 3, mu_eq]
          exact hF'
  refine e_ch_fairSize _ _ _ ?_
  rintro M1 rfl
  refine ⟨⟨by omega, by omega⟩, ?_⟩
  rw [tN]
  refine c_tu_become 87 tu_chnow (10 + 2 * t) (k_tunes t (by omega)).2 l (htn.fr (S := [86]) (Fr.mu1 (by simp)) (by simp; omega) (by simp; omega)) hl (by omega) (by omega) (fun M2 hf2 ht2 => ?_)
  refine lp years 0 M2 l (by omega) ((Fr.mu1 (by simp)).tr (hf2.up (by simp))) ht2 hl (fun _ => rfl) ?_
  rw [hf2 86 (by decide) 3, mu_eq]
end CFAIR
