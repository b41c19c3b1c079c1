/-! COMMON as the class counts it, a row of the table in a long -/
theorem hy_carry (a b : Nat → Int) (n j : Nat) (hn : n ≤ 40) (r m : Int) (hr : ∀ t, t < n → bt r t = decide (lcp a b (t + 1) j = lcp a b t j)) (hm : ∀ t, t < n → bt m t = decide (a t = b j)) : ∀ t, t ≤ n → cy r (land r m) t = decide (lcp a b t (j + 1) = lcp a b t j + 1) := by
  intro t
  induction t with
  | zero =>
    intro _
    rw [cy_0, lcp_z, lcp_z]
    rfl
  | succ t ih =>
    intro h
    rw [cy_s, bt_land, hr t (by omega), hm t (by omega), ih (by omega), lcp_s]
    have h1 := lcp_up a b t j
    have h2 := lcp_rt a b t j
    generalize lcp a b t j = p at *
    generalize lcp a b (t + 1) j = q at *
    generalize lcp a b t (j + 1) = u at *
    by_cases e1 : a t = b j
    · rw [if_pos e1]
      by_cases e2 : q = p
      · have e3 : p + 1 = q + 1 := by omega
        simp [e1, e2, Bool.atLeastTwo]
      · have e3 : ¬ p + 1 = q + 1 := by omega
        simp [e1, e2, Bool.atLeastTwo]
        omega
    · rw [if_neg e1, Nat.max_def]
      by_cases e2 : q = p <;> by_cases e3 : u = p + 1
      · subst e2; subst e3
        have e4 : ¬ q + 1 ≤ q := by omega
        simp [e1, Bool.atLeastTwo]
      · have e5 : u = p := by omega
        subst e2; subst e5
        simp [e1, Bool.atLeastTwo]
      · have e6 : q = p + 1 := by omega
        subst e6; subst e3
        simp [e1, Bool.atLeastTwo]
      · have e6 : q = p + 1 := by omega
        have e5 : u = p := by omega
        subst e6; subst e5
        simp [e1, Bool.atLeastTwo]
theorem hy_step (a b : Nat → Int) (n j : Nat) (hn : n ≤ 40) (r m : Int) (hr : ∀ t, t < n → bt r t = decide (lcp a b (t + 1) j = lcp a b t j)) (hm : ∀ t, t < n → bt m t = decide (a t = b j)) : ∀ t, t < n → bt (lor (w64 (r + land r m)) (w64 (r - land r m))) t = decide (lcp a b (t + 1) (j + 1) = lcp a b t (j + 1)) := by
  intro t ht
  rw [bt_lor, bt_add r (land r m) (by omega), bt_subm r m (by omega), bt_land, hy_carry a b n j hn r m hr hm t (by omega), hr t ht, hm t ht, lcp_s]
  have h1 := lcp_up a b t j
  have h2 := lcp_rt a b t j
  generalize lcp a b t j = p at *
  generalize lcp a b (t + 1) j = q at *
  generalize lcp a b t (j + 1) = u at *
  by_cases e1 : a t = b j
  · rw [if_pos e1]
    by_cases e2 : q = p <;> by_cases e3 : u = p + 1
    · subst e2; subst e3; simp [e1]
    · have e5 : u = p := by omega
      subst e2; subst e5
      simp [e1]
    · have e6 : q = p + 1 := by omega
      subst e6; subst e3
      simp [e1]
    · have e6 : q = p + 1 := by omega
      have e5 : u = p := by omega
      subst e6; subst e5
      simp [e1]
  · rw [if_neg e1, Nat.max_def]
    by_cases e2 : q = p <;> by_cases e3 : u = p + 1
    · subst e2; subst e3
      simp [e1]
    · have e5 : u = p := by omega
      subst e2; subst e5
      simp [e1]
    · have e6 : q = p + 1 := by omega
      subst e6; subst e3
      simp [e1]
    · have e6 : q = p + 1 := by omega
      have e5 : u = p := by omega
      subst e6; subst e5
      simp [e1]
section CLI
variable {G : GT}
theorem c_li_of {M : MT} {P : Int → MT → Prop} (o1 : Nat) (f1 : TU o1) (o2 : Nat) (f2 : TU o2) (la lb : List Int) (ha : Tn M o1 la) (hb : Tn M o2 lb) (g1 : la.length ≤ 40) (g2 : lb.length ≤ 40) (na : ∀ i, i < la.length → 0 ≤ gl la i ∧ gl la i < 7) (nb : ∀ i, i < lb.length → 0 ≤ gl lb i ∧ gl lb i < 7) (d1 : o1 ∉ [85]) (d2 : o1 + 1 ∉ [85]) (d3 : o2 ∉ [85]) (d4 : o2 + 1 ∉ [85])
    (hp : ∀ M', Fr [85] M M' → P (lcs la lb : Int) M') : ClI G J_li_of M [pR 84, pR o1, pR o2] P := by
  have row : ∀ (M1 : MT), Fr [85] M M1 → (∀ v, v < 7 → ∀ t, t < 64 → bt (M1 85 v) t = (decide (t < la.length) && decide (gl la t = (v : Int)))) → ∀ (d j : Nat) (r : Int), j + d = lb.length → (∀ t, t < la.length → bt r t = decide (lcp (gl la) (gl lb) (t + 1) j = lcp (gl la) (gl lb) t j)) → WpI G J_li_of 61 [(0, pR 84), (1, pR o1), (2, pR o2), (3, pL r), (5, pI (j : Int))] [] M1 P := by
    intro M1 hf hm d
    have ta := ha.fr hf d1 d2
    have tb := hb.fr hf d3 d4
    induction d with
    | zero =>
      intro j r hj hr
      refine b_li_of_61 o1 f1 o2 f2 r _ ⟨fun _ => ?_, fun c => ?_⟩
      · refine c_jl_bitCount _ ?_
        rw [pcN_cn, ta.1]
        have h := cn_tel 64 la.length (fun t => lcp (gl la) (gl lb) t lb.length) (fun t => (nv (land (lxor r (-1)) (w64 (lshl 1 (la.length : Int) - 1)))).testBit t) (by omega) (fun t ht => ?_) (fun t h1 h2 => ?_) (fun t ht => lcp_up _ _ _ _)
        · have h' : cn (fun t => (nv (land (lxor r (-1)) (w64 (lshl 1 (la.length : Int) - 1)))).testBit t) 64 = lcs la lb := by
            have h0 : lcp (gl la) (gl lb) 0 lb.length = 0 := rfl
            have h9 : cn (fun t => (nv (land (lxor r (-1)) (w64 (lshl 1 (la.length : Int) - 1)))).testBit t) 64 + lcp (gl la) (gl lb) 0 lb.length = lcs la lb := h
            omega
          rw [h']
          exact hp M1 hf
        · rw [nv_bt, bt_land, bt_not r (by omega), bt_mask la.length (by omega) t (by omega), hr t ht, show j = lb.length by omega]
          have h1 := lcp_up (gl la) (gl lb) t lb.length
          by_cases e : lcp (gl la) (gl lb) (t + 1) lb.length = lcp (gl la) (gl lb) t lb.length
          · simp [e, ht]
          · have e2 : lcp (gl la) (gl lb) (t + 1) lb.length = lcp (gl la) (gl lb) t lb.length + 1 := by omega
            simp [e2, ht]
        · rw [nv_bt, bt_land, bt_mask la.length (by omega) t h2]
          simp [Nat.not_lt.mpr h1]
      · rw [tb.1] at c
        omega
    | succ d ih =>
      intro j r hj hr
      have ev : M1 (o2 + 1) j = gl lb j := by
        have h1 := tb.2 j (by omega)
        rwa [Nat.zero_add] at h1
      have hb1 := nb j (by omega)
      have e0 : ((j : Nat) : Int).toNat = j := by omega
      refine b_li_of_61 o1 f1 o2 f2 r _ ⟨fun c => ?_, fun c => ⟨⟨by omega, by omega⟩, ?_, ?_⟩⟩
      · rw [tb.1] at c
        omega
      · rw [e0, ev]
        exact hb1
      · rw [e0, ev, wi (by omega)]
        refine ih (j + 1) _ (by omega) (hy_step (gl la) (gl lb) la.length j g1 r _ hr (fun t ht => ?_))
        rw [hm _ (by omega) t (by omega)]
        have e9 : ((gl lb j).toNat : Int) = gl lb j := by omega
        rw [e9]
        simp [ht]
  have fill : ∀ (d i : Nat) (M1 : MT), i + d = la.length → Fr [85] M M1 → (∀ v, v < 7 → ∀ t, t < 64 → bt (M1 85 v) t = (decide (t < i) && decide (gl la t = (v : Int)))) → WpI G J_li_of 23 [(0, pR 84), (1, pR o1), (2, pR o2), (3, pI (i : Int))] [] M1 P := by
    intro d
    induction d with
    | zero =>
      intro i M1 hi hf hm
      have ta := ha.fr hf d1 d2
      refine b_li_of_23 o1 f1 o2 f2 _ ⟨fun _ => ?_, fun c => ?_⟩
      · refine row M1 hf (by rw [show i = la.length by omega] at hm; exact hm) lb.length 0 (-1) (by omega) (fun t ht => ?_)
        rw [bt_m1 t (by omega), lcp_0, lcp_0]
        rfl
      · rw [ta.1] at c
        omega
    | succ d ih =>
      intro i M1 hi hf hm
      have ta := ha.fr hf d1 d2
      have ev : M1 (o1 + 1) i = gl la i := by
        have h1 := ta.2 i (by omega)
        rwa [Nat.zero_add] at h1
      have ha1 := na i (by omega)
      have e0 : ((i : Nat) : Int).toNat = i := by omega
      refine b_li_of_23 o1 f1 o2 f2 _ ⟨fun c => ?_, fun c => ⟨⟨by omega, by omega⟩, ?_, ?_, ?_⟩⟩
      · rw [ta.1] at c
        omega
      · rw [e0, ev]; exact ha1
      · rw [e0, ev]; exact ha1
      · rintro M2 rfl
        rw [e0, ev, wi (by omega)]
        refine ih (i + 1) _ (by omega) (hf.tr (Fr.mu1 (by simp))) (fun v hv t ht => ?_)
        by_cases hc : v = (gl la i).toNat
        · rw [hc, mu_eq, bt_lor, bt_shl i (by omega) t ht, hm _ (by omega) t ht]
          have e9 : ((gl la i).toNat : Int) = gl la i := by omega
          rw [e9]
          by_cases h1 : t = i
          · subst h1
            simp
          · have h2 : (t < i + 1) ↔ t < i := by omega
            simp [h1, h2]
        · rw [mu_k hc, hm v hv t ht]
          by_cases h1 : t = i
          · subst h1
            have h3 : ¬ gl la t = (v : Int) := by omega
            simp [h3]
          · have h2 : (t < i + 1) ↔ t < i := by omega
            simp [h2]
  have zero : ∀ (d j : Nat) (M1 : MT), j + d = 7 → Fr [85] M M1 → (∀ v, v < j → M1 85 v = 0) → WpI G J_li_of 2 [(0, pR 84), (1, pR o1), (2, pR o2), (3, pI (j : Int))] [] M1 P := by
    intro d
    induction d with
    | zero =>
      intro j M1 hj hf hz
      refine b_li_of_2 o1 f1 o2 f2 _ ⟨fun _ => ?_, fun c => ?_⟩
      · refine fill la.length 0 M1 (by omega) hf (fun v hv t ht => ?_)
        rw [hz v (by omega), bt_0]
        simp
      · omega
    | succ d ih =>
      intro j M1 hj hf hz
      refine b_li_of_2 o1 f1 o2 f2 _ ⟨fun c => ?_, fun _ => ⟨⟨by omega, by omega⟩, ?_⟩⟩
      · omega
      · rintro M2 rfl
        rw [wi (by omega), show ((j : Nat) : Int).toNat = j by omega]
        refine ih (j + 1) _ (by omega) (hf.tr (Fr.mu1 (by simp))) (fun v hv => ?_)
        by_cases hc : v = j
        · rw [hc, mu_eq]
        · rw [mu_k hc]
          exact hz v (by omega)
  exact e_li_of o1 f1 o2 f2 (zero 7 0 M (by omega) Fr.rf (fun v hv => absurd hv (Nat.not_lt_zero v)))
end CLI
