/-! TURNS of the class -/
theorem td (a b : Nat) : Int.tdiv (a : Int) (b : Int) = ((a / b : Nat) : Int) := rfl
theorem wn {i : Nat} (h : i < 1000000) : w32 (i : Int) = (i : Int) := w32_s (by omega) (by omega)
theorem tm (a b : Nat) : Int.tmod (a : Int) (b : Int) = ((a % b : Nat) : Int) := rfl
/-- the k-th borrower of the r-th row of n -/
def fig (D : DT) (n r k : Nat) : Nat := r / (db D) ^ (n - 1 - k) % db D
/-- what a tune is behind k turns -/
def hw (D : DT) (l : List Int) (w : Nat → Nat) : Nat → List Int
  | 0 => l
  | k + 1 => humB (dB D) (w k) (hw D l w k)
theorem hw_cg (D : DT) (l : List Int) {w w' : Nat → Nat} : ∀ k, (∀ j, j < k → w' j = w j) → hw D l w' k = hw D l w k
  | 0, _ => rfl
  | k + 1, h => by
    show humB (dB D) (w' k) (hw D l w' k) = humB (dB D) (w k) (hw D l w k)
    rw [h k (by omega), hw_cg D l k (fun j hj => h j (by omega))]
theorem hw_ok {D : DT} (ok : okD D) {l : List Int} (hl : okN l) {w : Nat → Nat} : ∀ k, (∀ j, j < k → w j < db D) → okN (hw D l w k)
  | 0, _ => hl
  | k + 1, h => okN_humB ok (h k (by omega)) (hw_ok ok hl k (fun j hj => h j (by omega)))
theorem pw_le {b n : Nat} (hb : b ≤ 6) (hn : n ≤ 3) : b ^ n ≤ 216 := by
  have h1 : b ^ n ≤ 6 ^ n := Nat.pow_le_pow_left hb n
  have h2 : 6 ^ n ≤ 6 ^ 3 := Nat.pow_le_pow_right (by omega) hn
  omega
theorem fig_lt {D : DT} (h : 0 < db D) (n r k : Nat) : fig D n r k < db D := Nat.mod_lt _ h
theorem pw_pos {b n : Nat} (h : 0 < n → 0 < b) : 0 < b ^ n := by
  rcases Nat.eq_zero_or_pos n with h0 | h0
  · rw [h0]
    exact Nat.one_pos
  · exact Nat.pow_pos (h h0)
theorem pw_nz {b n r : Nat} (hr : r < b ^ n) (hn : 0 < n) : 0 < b := by
  rcases Nat.eq_zero_or_pos b with h | h
  · rw [h, Nat.zero_pow hn] at hr
    omega
  · exact h
/-- the class's memory of the row before -/
def TRI (D : DT) (l : List Int) (M : MT) (K : Nat) (w : Nat → Nat) : Prop := K ≤ 3 ∧ M 73 2 = (K : Int) ∧ (∀ k, k < K → M 75 k = (w k : Int) ∧ w k < db D) ∧ ∀ k, k ≤ K → Tn M (76 + 2 * k) (hw D l w k)
section CTR
variable {G : GT} {M : MT} {D : DT}
theorem c_tr_rowsOf {P : Int → MT → Prop} (ok : okD D) (h : CD D M) (n : Int) (hn : -1000 ≤ n ∧ n ≤ 3) (hp : P (((db D) ^ n.toNat : Nat) : Int) M) : ClI G J_tr_rowsOf M [pR 73, pR 1, pI n] P := by
  have o2 := ok.2.2.1
  have lp : ∀ (d i : Nat), i + d = n.toNat → WpI G J_tr_rowsOf 5 [(1, pR 1), (2, pI n), (3, pI (((db D) ^ i : Nat) : Int)), (4, pI (i : Int))] [] M P := by
    intro d
    induction d with
    | zero =>
      intro i hi
      refine b_tr_rowsOf_5 _ _ _ ⟨fun _ => ?_, fun c => absurd c (by omega)⟩
      rw [show i = n.toNat by omega]
      exact hp
    | succ d ih =>
      intro i hi
      refine b_tr_rowsOf_5 _ _ _ ⟨fun c => absurd c (by omega), fun _ => ?_⟩
      have h1 := pw_le (b := db D) (n := i + 1) o2 (by omega)
      have h2 : (db D) ^ (i + 1) = (db D) ^ i * db D := rfl
      rw [wi (by omega), h.2.2.1.1, ← Int.natCast_mul, ← h2, w32_s (by omega) (by omega)]
      exact ih (i + 1) (by omega)
  exact e_tr_rowsOf _ (lp n.toNat 0 (by omega))
theorem c_tr_turnOf {P : Int → MT → Prop} (ok : okD D) (h : CD D M) (n r k : Nat) (hn : n ≤ 3) (hk : k ≤ 3) (hr : r < 1000) (hp : P (if k < n ∧ 0 < db D then (fig D n r k : Int) else -1) M) : ClI G J_tr_turnOf M [pR 73, pR 1, pI (n : Int), pI (r : Int), pI (k : Int)] P := by
  have o2 := ok.2.2.1
  refine e_tr_turnOf _ _ _ ?_
  rw [w32_s (x := (n : Int) - 1) (by omega) (by omega), w32_s (by omega) (by omega), h.2.2.1.1]
  refine c_tr_rowsOf ok h _ (by omega) ⟨fun c => ?_, fun c => ⟨fun c2 => ?_, fun c2 => ⟨fun c3 => ?_, fun c3 => ⟨by omega, by omega, ?_⟩⟩⟩⟩
  · rw [if_neg (by omega)] at hp
    exact hp
  · rw [if_neg (by omega)] at hp
    exact hp
  · have : 0 < (db D) ^ ((n : Int) - 1 - (k : Int)).toNat := Nat.pow_pos (by omega)
    omega
  · rw [if_pos (by omega)] at hp
    have e1 : ((n : Int) - 1 - (k : Int)).toNat = n - 1 - k := by omega
    have l1 : r / (db D) ^ (n - 1 - k) ≤ r := Nat.div_le_self _ _
    have l2 : r / (db D) ^ (n - 1 - k) % db D < db D := Nat.mod_lt _ (by omega)
    rw [e1, td, wn (by omega), tm, wn (by omega)]
    exact hp
theorem c_tr_begin {P : MT → Prop} (ok : okD D) (h : CD D M) (t : Nat) (ht : t < dn D) (hp : ∀ M' w, FQ M M' → TRI D (dT D t) M' 0 w → P M') : ClV G J_tr_begin M [pR 73, pR (10 + 2 * t)] P := by
  have o1 := ok.1
  refine e_tr_begin _ (k_tunes t (by omega)).2 ?_
  refine c_tu_become 76 (k_hummed 0 (by omega)).2 (10 + 2 * t) (k_tunes t (by omega)).2 _ (h.2.1 t ht) (ok.2.1 t ht).2.1 (by omega) (by omega) (fun M1 f1 t1 => ?_)
  rintro M2 rfl
  refine hp _ (fun _ => 0) (FQ.tr (FQ.fr f1 (by intro q hq; simp at hq; omega)) (fun q k a => mu_o (by omega))) ⟨by omega, mu_eq _ _ _ _, fun k hk => absurd hk (Nat.not_lt_zero k), fun k hk => ?_⟩
  have : k = 0 := by omega
  subst this
  exact ⟨by rw [mu_o (by omega)]; exact t1.1, fun i hi => by rw [mu_o (by omega)]; exact t1.2 i hi⟩
theorem c_tr_after {P : Nat → MT → Prop} (ok : okD D) (h : CD D M) (l : List Int) (hl : okN l) (n r : Nat) (hn : n ≤ 3) (hr : r < (db D) ^ n) (K : Nat) (w : Nat → Nat) (ht : TRI D l M K w)
    (hp : ∀ M' K' w', FQ M M' → TRI D l M' K' w' → Tn M' (76 + 2 * n) (hw D l (fig D n r) n) → P (76 + 2 * n) M') : ClR G J_tr_after M [pR 73, pR 1, pI (n : Int), pI (r : Int)] P := by
  have o2 := ok.2.2.1
  have hr2 : r < 1000 := by
    have := pw_le (b := db D) (n := n) o2 hn
    omega
  have lp : ∀ (d i : Nat) (M1 : MT) (K : Nat) (w : Nat → Nat), i + d = n → FQ M M1 → TRI D l M1 K w → i ≤ K → (∀ j, j < i → w j = fig D n r j) → WpR G J_tr_after 3 [(0, pR 73), (1, pR 1), (2, pI (n : Int)), (3, pI (r : Int)), (4, pI (i : Int))] [] M1 P := by
    intro d
    induction d with
    | zero =>
      intro i M1 K w hi hf ht hik hw'
      have hie : i = n := by omega
      subst hie
      refine b_tr_after_3 _ _ _ ⟨fun _ => ⟨⟨by omega, by omega⟩, ?_⟩, fun c => absurd c (by omega)⟩
      rw [tN]
      refine hp M1 K w hf ht ?_
      rw [← hw_cg D l i (fun j hj => hw' j hj)]
      exact ht.2.2.2 i hik
    | succ d ih =>
      intro i M1 K w hi hf ht hik hw'
      have hc := h.fc ok hf.fc
      have hb : 0 < db D := pw_nz hr (by omega)
      have hfl := fig_lt hb n r i
      obtain ⟨t1, t2, t3, t4⟩ := ht
      have hum : ∀ M2 : MT, M2 = mu M1 75 i (fig D n r i : Int) → ClV G J_tu_becomeHummed M2 [pR (76 + 2 * (i + 1)), pR (76 + 2 * i), pR (22 + fig D n r i)] (fun M3 => ∀ M4 : MT, M4 = mu M3 73 2 ((i + 1 : Nat) : Int) → WpR G J_tr_after 3 [(0, pR 73), (1, pR 1), (2, pI (n : Int)), (3, pI (r : Int)), (4, pI ((i + 1 : Nat) : Int))] [] M4 P) := by
        rintro M2 rfl
        have bb := hc.2.2.1.2 (fig D n r i) hfl
        have ti := t4 i hik
        have hli := hw_ok ok hl i (fun j hj => (t3 j (by omega)).2)
        refine c_tu_becomeHummed (76 + 2 * (i + 1)) (k_hummed (i + 1) (by omega)).2 (76 + 2 * i) (k_hummed i (by omega)).2 (22 + fig D n r i) (k_borrowers _ (by omega)).2 (hw D l w i) (dB D (fig D n r i)).1 (dB D (fig D n r i)).2.1 (dB D (fig D n r i)).2.2 hli.1 ⟨by omega, by omega, by omega⟩ (nm2 (by omega) (by omega)) ⟨by rw [mu_o (by omega)]; exact ti.1, fun j hj => by rw [mu_o (by omega)]; exact ti.2 j hj⟩ (by rw [mu_o (by omega)]; exact bb.1) (by rw [mu_o (by omega)]; exact bb.2.1) (by rw [mu_o (by omega)]; exact bb.2.2) (ok.bw _ hfl) (fun M3 f3 h3 => ?_)
        rintro M4 rfl
        have hsame : ∀ j, j ≤ i → hw D l (fu w i (fig D n r i)) j = hw D l w j := fun j hj => hw_cg D l j (fun q hq => fu_ne (by omega))
        refine ih (i + 1) _ (i + 1) (fu w i (fig D n r i)) (by omega) (FQ.tr hf (FQ.tr (M' := mu M1 75 i (fig D n r i : Int)) (fun q k a => mu_o (by omega)) (FQ.tr (FQ.fr f3 (by intro q hq; simp at hq; omega)) (fun q k a => mu_o (by omega))))) ⟨by omega, mu_eq _ _ _ _, fun k hk => ?_, fun k hk => ?_⟩ (Nat.le_refl _) (fun j hj => ?_)
        · rw [mu_o (by omega), f3 75 (nm2 (by omega) (by omega))]
          by_cases ek : k = i
          · rw [ek, mu_eq, fu_eq]
            exact ⟨rfl, hfl⟩
          · rw [mu_k ek, fu_ne ek]
            exact t3 k (by omega)
        · by_cases ek : k = i + 1
          · rw [ek]
            have e2 : hw D l (fu w i (fig D n r i)) (i + 1) = humB (dB D) (fig D n r i) (hw D l w i) := by
              show humB (dB D) (fu w i (fig D n r i) i) (hw D l (fu w i (fig D n r i)) i) = _
              rw [fu_eq, hsame i (Nat.le_refl _)]
            rw [e2]
            exact ⟨by rw [mu_o (by omega)]; exact h3.1, fun j hj => by rw [mu_o (by omega)]; exact h3.2 j hj⟩
          · rw [hsame k (by omega)]
            have tk := t4 k (by omega)
            refine ⟨?_, fun j hj => ?_⟩
            · rw [mu_o (by omega), f3 _ (nm2 (by omega) (by omega)), mu_o (by omega)]
              exact tk.1
            · rw [mu_o (by omega), f3 _ (nm2 (by omega) (by omega)), mu_o (by omega)]
              exact tk.2 j hj
        · by_cases ej : j = i
          · rw [ej, fu_eq]
          · rw [fu_ne ej]
            exact hw' j (by omega)
      refine b_tr_after_3 _ _ _ ⟨fun c => absurd c (by omega), fun _ => c_tr_turnOf ok hc n r i hn (by omega) hr2 ?_⟩
      rw [if_pos ⟨by omega, hb⟩, wi (by omega), tN, tN, tN, t2]
      refine ⟨fun c => absurd c (by omega), fun _ => ⟨fun c => ⟨⟨by omega, by omega⟩, ?_⟩, fun c => ⟨⟨by omega, by omega⟩, fun c2 => ?_, fun c2 => ⟨⟨by omega, by omega⟩, ?_⟩⟩⟩⟩
      · intro M2 hM2
        exact ⟨⟨by omega, by omega⟩, ⟨by omega, by omega⟩, ⟨by omega, by omega⟩, hum M2 hM2⟩
      · rw [(t3 i (by omega)).1] at c2
        refine ih (i + 1) M1 K w (by omega) hf ⟨t1, t2, t3, t4⟩ (by omega) (fun j hj => ?_)
        by_cases ej : j = i
        · rw [ej]
          omega
        · exact hw' j (by omega)
      · intro M2 hM2
        exact ⟨⟨by omega, by omega⟩, ⟨by omega, by omega⟩, ⟨by omega, by omega⟩, hum M2 hM2⟩
  exact e_tr_after _ _ (lp n 0 M K w (by omega) FQ.rf ht (Nat.zero_le _) (fun j hj => absurd hj (Nat.not_lt_zero j)))
end CTR
