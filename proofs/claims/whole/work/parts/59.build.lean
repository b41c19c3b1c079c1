/-! cells that are being made -/
def MI (o k : Nat) : Int := if (o = 6 ∨ o = 8) ∧ k = 2 then -1 else if o = 40 ∧ k = 7 then -1 else if (o = 93 ∨ o = 95 ∨ o = 97 ∨ o = 99) ∧ k = 1 then -1 else if o = 0 ∧ k = 6 then 2 else if o = 102 ∧ k < 4 then -1 else if o = 101 ∧ k = 14 then 2 else 0
theorem MI_0 {o : Nat} (h : o ≠ 6 ∧ o ≠ 8 ∧ o ≠ 40 ∧ o ≠ 93 ∧ o ≠ 95 ∧ o ≠ 97 ∧ o ≠ 99 ∧ o ≠ 0 ∧ o ≠ 102 ∧ o ≠ 101) (k : Nat) : MI o k = 0 := by
  unfold MI
  rw [if_neg (by omega), if_neg (by omega), if_neg (by omega), if_neg (by omega), if_neg (by omega), if_neg (by omega)]
theorem rf_ob {o : Nat} (h : SH o = (3, 2) ∨ SH o = (10, 3) ∨ SH o = (2, 3)) (k : Nat) : RF o k = if k = 0 then some (o + 1) else none := if_pos h
theorem rf_no {o : Nat} (h : (SH o).1 = 20 ∨ (SH o).1 = 21 ∨ (SH o).1 = 4 ∨ (SH o).1 = 5) (k : Nat) : RF o k = none := by
  unfold RF
  rw [if_neg (by intro z; rcases z with z | z | z <;> rw [z] at h <;> revert h <;> decide)]
  rw [if_neg (fun z => by subst z; revert h; decide), if_neg (fun z => by subst z; revert h; decide), if_neg (fun z => by subst z; revert h; decide), if_neg (fun z => by subst z; revert h; decide), if_neg (fun z => by subst z; revert h; decide), if_neg (fun z => by subst z; revert h; decide), if_neg (fun z => by subst z; revert h; decide), if_neg (fun z => by subst z; revert h; decide), if_neg (fun z => by subst z; revert h; decide), if_neg (fun z => by subst z; revert h; decide), if_neg (fun z => by subst z; revert h; decide), if_neg (fun z => by subst z; revert h; decide), if_neg (fun z => by subst z; revert h; decide), if_neg (fun z => by subst z; revert h; decide), if_neg (fun z => by subst z; revert h; decide)]
/-- below a all is as before; from a to n all is as it will be, but the cells in S, which have pd of their references, and numbers E -/
def OL (a : Nat) (R0 : RT) (M0 : MT) (R : RT) (M : MT) : Prop := ∀ q, q < a → ∀ k, R q k = R0 q k ∧ M q k = M0 q k
def CK (a n : Nat) (R : RT) (M : MT) : Prop := ∀ q, a ≤ q → q < n → ∀ k, R q k = RF q k ∧ M q k = MI q k
def BU (S : List Nat) (pd : Nat → Nat) (E : MT) (a n : Nat) (R0 : RT) (M0 : MT) (R : RT) (M : MT) : Prop := OL a R0 M0 R M ∧ (∀ q, a ≤ q → q < n → q ∉ S → ∀ k, R q k = RF q k ∧ M q k = MI q k) ∧ ∀ q ∈ S, (a ≤ q ∧ q < n) ∧ ∀ k, R q k = (if k < pd q then RF q k else none) ∧ M q k = E q k
def E0 : MT := fun _ _ => 0
def p0 : Nat → Nat := fun _ => 0
theorem rz_eq (R : RT) (n k : Nat) : rz R n n k = none := if_pos rfl
theorem rz_ne {R : RT} {n q k : Nat} (h : q ≠ n) : rz R n q k = R q k := if_neg h
theorem mz_eq (M : MT) (n k : Nat) : mz M n n k = 0 := if_pos rfl
theorem mz_ne {M : MT} {n q k : Nat} (h : q ≠ n) : mz M n q k = M q k := if_neg h
theorem ru_o {R : RT} {o f q k : Nat} {v : Option Nat} (h : ¬ (q = o ∧ k = f)) : ru R o f v q k = R q k := if_neg h
theorem ru_eq (R : RT) (o f : Nat) (v : Option Nat) : ru R o f v o f = v := if_pos ⟨rfl, rfl⟩
theorem BU.start {a : Nat} {R : RT} {M : MT} (h1 : ∀ k, R a k = none) (h2 : ∀ k, M a k = 0) : BU [a] p0 E0 a (a + 1) R M R M := by
  refine ⟨fun q hq k => ⟨rfl, rfl⟩, fun q h3 h4 h5 => absurd (show q ∈ [a] by simp; omega) h5, fun q hq => ?_⟩
  rw [List.mem_singleton] at hq
  subst hq
  exact ⟨⟨Nat.le_refl _, by omega⟩, fun k => ⟨h1 k, h2 k⟩⟩
theorem BU.call {S : List Nat} {pd : Nat → Nat} {E : MT} {a n n' : Nat} {R0 R R' : RT} {M0 M M' : MT} (h : BU S pd E a n R0 M0 R M) (ho : OL n (rz R n) (mz M n) R' M') (hc : CK n n' R' M') (ha : a ≤ n) (hn : n ≤ n') : BU S pd E a n' R0 M0 R' M' := by
  have key : ∀ q, q < n → ∀ k, R' q k = R q k ∧ M' q k = M q k := fun q hq k => by
    have := ho q hq k
    rw [rz_ne (by omega), mz_ne (by omega)] at this
    exact this
  refine ⟨fun q hq k => ?_, fun q h1 h2 h3 k => ?_, fun q hq => ?_⟩
  · have a1 := key q (by omega) k
    have a2 := h.1 q hq k
    exact ⟨a1.1.trans a2.1, a1.2.trans a2.2⟩
  · rcases Nat.lt_or_ge q n with h4 | h4
    · have a1 := key q h4 k
      have a2 := h.2.1 q h1 h4 h3 k
      exact ⟨a1.1.trans a2.1, a1.2.trans a2.2⟩
    · exact hc q h4 h2 k
  · obtain ⟨⟨a1, a2⟩, a3⟩ := h.2.2 q hq
    exact ⟨⟨a1, by omega⟩, fun k => ⟨(key q a2 k).1.trans (a3 k).1, (key q a2 k).2.trans (a3 k).2⟩⟩
theorem BU.arr {S : List Nat} {pd : Nat → Nat} {E : MT} {a n : Nat} {R0 R : RT} {M0 M : MT} (h : BU S pd E a n R0 M0 R M) (ha : a ≤ n) (h1 : ∀ k, RF n k = none) (h2 : ∀ k, MI n k = 0) : BU S pd E a (n + 1) R0 M0 (rz R n) (mz M n) :=
  h.call (fun _ _ _ => ⟨rfl, rfl⟩) (fun q h3 h4 k => by
    have e : q = n := by omega
    rw [e, rz_eq, mz_eq, h1, h2]
    exact ⟨rfl, rfl⟩) ha (by omega)
theorem BU.arrP {S : List Nat} {pd : Nat → Nat} {E : MT} {a n : Nat} {R0 R : RT} {M0 M : MT} (h : BU S pd E a n R0 M0 R M) (ha : a ≤ n) (h1 : pd n = 0) (h2 : ∀ k, E n k = 0) : BU (n :: S) pd E a (n + 1) R0 M0 (rz R n) (mz M n) := by
  refine ⟨fun q hq k => ?_, fun q h3 h4 h5 k => ?_, fun q hq => ?_⟩
  · rw [rz_ne (by omega), mz_ne (by omega)]
    exact h.1 q hq k
  · rw [List.mem_cons, not_or] at h5
    rw [rz_ne h5.1, mz_ne h5.1]
    exact h.2.1 q h3 (by have := h5.1; omega) h5.2 k
  · rcases List.mem_cons.mp hq with e | hq
    · rw [e]
      refine ⟨⟨ha, by omega⟩, fun k => ?_⟩
      rw [rz_eq, mz_eq, h1, h2, if_neg (Nat.not_lt_zero k)]
      exact ⟨rfl, rfl⟩
    · obtain ⟨⟨a1, a2⟩, a3⟩ := h.2.2 q hq
      refine ⟨⟨a1, by omega⟩, fun k => ?_⟩
      rw [rz_ne (by omega), mz_ne (by omega)]
      exact a3 k
theorem BU.put {S : List Nat} {pd : Nat → Nat} {E : MT} {a n : Nat} {R0 R : RT} {M0 M : MT} (h : BU S pd E a n R0 M0 R M) (o f r : Nat) (ho : o ∈ S) (hf : pd o = f) (hr : RF o f = some r) : BU S (fu pd o (f + 1)) E a n R0 M0 (ru R o f (some r)) M := by
  obtain ⟨⟨b1, b2⟩, b3⟩ := h.2.2 o ho
  refine ⟨fun q hq k => ?_, fun q h3 h4 h5 k => ?_, fun q hq => ?_⟩
  · rw [ru_o (by omega)]
    exact h.1 q hq k
  · have e : q ≠ o := fun z => h5 (by rw [z]; exact ho)
    rw [ru_o (fun z => e z.1)]
    exact h.2.1 q h3 h4 h5 k
  · obtain ⟨a1, a3⟩ := h.2.2 q hq
    refine ⟨a1, fun k => ⟨?_, (a3 k).2⟩⟩
    by_cases e : q = o
    · rw [e, fu_eq]
      by_cases e2 : k = f
      · rw [e2, ru_eq, if_pos (by omega), hr]
      · rw [ru_o (fun z => e2 z.2), (b3 k).1, hf]
        by_cases e3 : k < f
        · rw [if_pos e3, if_pos (by omega)]
        · rw [if_neg e3, if_neg (by omega)]
    · rw [ru_o (fun z => e z.1), fu_ne e]
      exact (a3 k).1
theorem BU.num {S : List Nat} {pd : Nat → Nat} {E : MT} {a n : Nat} {R0 R : RT} {M0 M : MT} (h : BU S pd E a n R0 M0 R M) (o f : Nat) (v : Int) (ho : o ∈ S) : BU S pd (mu E o f v) a n R0 M0 R (mu M o f v) := by
  obtain ⟨⟨b1, b2⟩, b3⟩ := h.2.2 o ho
  refine ⟨fun q hq k => ?_, fun q h3 h4 h5 k => ?_, fun q hq => ?_⟩
  · rw [mu_o (by omega)]
    exact h.1 q hq k
  · have e : q ≠ o := fun z => h5 (by rw [z]; exact ho)
    rw [mu_o e]
    exact h.2.1 q h3 h4 h5 k
  · obtain ⟨a1, a3⟩ := h.2.2 q hq
    refine ⟨a1, fun k => ⟨(a3 k).1, ?_⟩⟩
    unfold mu
    split
    · rfl
    · exact (a3 k).2
theorem BU.fin {S : List Nat} {pd : Nat → Nat} {E : MT} {a n : Nat} {R0 R : RT} {M0 M : MT} (h : BU S pd E a n R0 M0 R M) (hs : ∀ q ∈ S, ∀ k, (pd q ≤ k → RF q k = none) ∧ E q k = MI q k) : OL a R0 M0 R M ∧ CK a n R M := by
  refine ⟨h.1, fun q h1 h2 k => ?_⟩
  by_cases hq : q ∈ S
  · obtain ⟨a1, a3⟩ := h.2.2 q hq
    refine ⟨?_, (a3 k).2.trans (hs q hq k).2⟩
    rw [(a3 k).1]
    split
    · rfl
    · exact ((hs q hq k).1 (by omega)).symm
  · exact h.2.1 q h1 h2 hq k
theorem BU.ref {S : List Nat} {pd : Nat → Nat} {E : MT} {a n : Nat} {R0 R : RT} {M0 M : MT} (h : BU S pd E a n R0 M0 R M) {o f r : Nat} (ho : o ∈ S) (hf : f < pd o) (hr : RF o f = some r) : R o f = some r := by
  rw [((h.2.2 o ho).2 f).1, if_pos hf, hr]
section INIT1
variable {G : GT} {R : RT} {M : MT} {Q : QT}
theorem i_tu (o : Nat) (h1 : SH o = (3, 2)) (h2 : SH (o + 1) = (20, 40)) (h3 : o + 2 ≤ XO) (m1 : ∀ k, MI o k = 0) (m2 : ∀ k, MI (o + 1) k = 0) (hR : ∀ k, R o k = none) (hM : ∀ k, M o k = 0) (hq : ∀ R' M', OL o R M R' M' → CK o (o + 2) R' M' → Q none (o + 2) R' M') : Cl G J_tu_init [pR o] (o + 1) R M Q := by
  have b0 := BU.start hR hM
  show Wp G J_tu_init 0 0 0 [(0, pR o)] [] (o + 1) R M Q
  refine wp_aload_n d_tu_init_0 rfl 0 rfl ?_
  refine wp_objInit d_tu_init_1 lk_tu_3 (Nat.le_of_ble_eq_true rfl) (Nat.le_of_ble_eq_true rfl) w_oin w_oco ?_
  refine wp_aload_n d_tu_init_4 rfl 0 rfl ?_
  refine wp_bipush d_tu_init_5 ⟨by decide, by decide⟩ (by decide) ?_
  refine wp_newai (N := 40) d_tu_init_7 h2 rfl (Nat.le_of_ble_eq_true rfl) h3 w_arr_int ⟨Nat.le_of_ble_eq_true rfl, Nat.le_of_ble_eq_true rfl⟩ ?_
  have b1 := b0.arr (by omega) (rf_no (Or.inl (by rw [h2]))) m2
  refine wp_putr d_tu_init_9 0 h1 rfl (by omega) (by omega) (Nat.le_of_ble_eq_true rfl) rfl (fun _ => ⟨rfl, rfl⟩) rfl rfl rfl lk_tu_9 ?_
  have b2 := b1.put o 0 (o + 1) List.mem_cons_self rfl (rf_ob (Or.inl h1) 0)
  refine wp_vret d_tu_init_12 rfl ⟨Nat.le_of_ble_eq_true rfl, Nat.le_of_ble_eq_true rfl⟩ ?_
  have f := b2.fin (fun q hq k => by
    rw [List.mem_singleton] at hq
    subst hq
    refine ⟨fun hk => ?_, (m1 k).symm⟩
    rw [fu_eq] at hk
    rw [rf_ob (Or.inl h1), if_neg (by omega)])
  exact hq _ _ f.1 f.2
theorem i_bo (o : Nat) (h1 : SH o = (4, 3)) (m1 : ∀ k, MI o k = 0) (hR : ∀ k, R o k = none) (hM : ∀ k, M o k = 0) (hq : ∀ R' M', OL o R M R' M' → CK o (o + 1) R' M' → Q none (o + 1) R' M') : Cl G J_bo_init [pR o] (o + 1) R M Q := by
  show Wp G J_bo_init 0 0 0 [(0, pR o)] [] (o + 1) R M Q
  refine wp_aload_n d_bo_init_0 rfl 0 rfl ?_
  refine wp_objInit d_bo_init_1 lk_bo_1 (Nat.le_of_ble_eq_true rfl) (Nat.le_of_ble_eq_true rfl) w_oin w_oco ?_
  refine wp_vret d_bo_init_4 rfl ⟨Nat.le_of_ble_eq_true rfl, Nat.le_of_ble_eq_true rfl⟩ (hq _ _ (fun _ _ _ => ⟨rfl, rfl⟩) (fun q h2 h3 k => ?_))
  have e : q = o := by omega
  rw [e, hR, hM, rf_no (Or.inr (Or.inr (Or.inl (by rw [h1])))), m1]
  exact ⟨rfl, rfl⟩
theorem i_lo (o : Nat) (h1 : SH o = (5, 7)) (m1 : ∀ k, MI o k = 0) (hR : ∀ k, R o k = none) (hM : ∀ k, M o k = 0) (hq : ∀ R' M', OL o R M R' M' → CK o (o + 1) R' M' → Q none (o + 1) R' M') : Cl G J_lo_init [pR o] (o + 1) R M Q := by
  show Wp G J_lo_init 0 0 0 [(0, pR o)] [] (o + 1) R M Q
  refine wp_aload_n d_lo_init_0 rfl 0 rfl ?_
  refine wp_objInit d_lo_init_1 lk_lo_1 (Nat.le_of_ble_eq_true rfl) (Nat.le_of_ble_eq_true rfl) w_oin w_oco ?_
  refine wp_vret d_lo_init_4 rfl ⟨Nat.le_of_ble_eq_true rfl, Nat.le_of_ble_eq_true rfl⟩ (hq _ _ (fun _ _ _ => ⟨rfl, rfl⟩) (fun q h2 h3 k => ?_))
  have e : q = o := by omega
  rw [e, hR, hM, rf_no (Or.inr (Or.inr (Or.inr (by rw [h1])))), m1]
  exact ⟨rfl, rfl⟩
theorem i_sh (o : Nat) (h1 : SH o = (10, 3)) (h2 : SH (o + 1) = (20, 60)) (h3 : o + 2 ≤ XO) (m1 : ∀ k, MI o k = if k = 1 then -1 else 0) (m2 : ∀ k, MI (o + 1) k = 0) (hR : ∀ k, R o k = none) (hM : ∀ k, M o k = 0) (hq : ∀ R' M', OL o R M R' M' → CK o (o + 2) R' M' → Q none (o + 2) R' M') : Cl G J_sh_init [pR o] (o + 1) R M Q := by
  have b0 := BU.start hR hM
  show Wp G J_sh_init 0 0 0 [(0, pR o)] [] (o + 1) R M Q
  refine wp_aload_n d_sh_init_0 rfl 0 rfl ?_
  refine wp_objInit d_sh_init_1 lk_sh_3 (Nat.le_of_ble_eq_true rfl) (Nat.le_of_ble_eq_true rfl) w_oin w_oco ?_
  refine wp_aload_n d_sh_init_4 rfl 0 rfl ?_
  refine wp_bipush d_sh_init_5 ⟨by decide, by decide⟩ (by decide) ?_
  refine wp_newai (N := 60) d_sh_init_7 h2 rfl (Nat.le_of_ble_eq_true rfl) h3 w_arr_int ⟨Nat.le_of_ble_eq_true rfl, Nat.le_of_ble_eq_true rfl⟩ ?_
  have b1 := b0.arr (by omega) (rf_no (Or.inl (by rw [h2]))) m2
  refine wp_putr d_sh_init_9 0 h1 rfl (by omega) (by omega) (Nat.le_of_ble_eq_true rfl) rfl (fun _ => ⟨rfl, rfl⟩) rfl rfl rfl lk_sh_9 ?_
  have b2 := b1.put o 0 (o + 1) List.mem_cons_self rfl (rf_ob (Or.inr (Or.inl h1)) 0)
  refine wp_aload_n d_sh_init_12 rfl 0 rfl ?_
  refine wp_iconst d_sh_init_13 ⟨by decide, by decide⟩ ?_
  refine wp_puti d_sh_init_14 1 h1 rfl (by omega) (Nat.le_of_ble_eq_true rfl) (Or.inl rfl) rfl lk_sh_15 ?_
  have b3 := b2.num o 1 (-1) List.mem_cons_self
  refine wp_vret d_sh_init_17 rfl ⟨Nat.le_of_ble_eq_true rfl, Nat.le_of_ble_eq_true rfl⟩ ?_
  have f := b3.fin (fun q hq k => by
    rw [List.mem_singleton] at hq
    subst hq
    refine ⟨fun hk => ?_, ?_⟩
    · rw [fu_eq] at hk
      rw [rf_ob (Or.inr (Or.inl h1)), if_neg (by omega)]
    · rw [m1]
      by_cases e : k = 1
      · rw [e, mu_eq, if_pos rfl]
      · rw [mu_k e, if_neg e]
        rfl)
  exact hq _ _ f.1 f.2
theorem i_tx (o N : Nat) (hN : N < 60) (h1 : SH o = (2, 3)) (h2 : SH (o + 1) = (20, N)) (h3 : o + 2 ≤ XO) (m1 : ∀ k, MI o k = if k = 2 then -1 else 0) (m2 : ∀ k, MI (o + 1) k = 0) (hR : ∀ k, R o k = none) (hM : ∀ k, M o k = 0) (hq : ∀ R' M', OL o R M R' M' → CK o (o + 2) R' M' → Q none (o + 2) R' M') : Cl G J_tx_init [pR o, pI (N : Int)] (o + 1) R M Q := by
  have b0 := BU.start hR hM
  show Wp G J_tx_init 0 0 0 [(0, pR o), (1, pI (N : Int))] [] (o + 1) R M Q
  refine wp_aload_n d_tx_init_0 rfl 0 rfl ?_
  refine wp_objInit d_tx_init_1 lk_tx_3 (Nat.le_of_ble_eq_true rfl) (Nat.le_of_ble_eq_true rfl) w_oin w_oco ?_
  refine wp_aload_n d_tx_init_4 rfl 0 rfl ?_
  refine wp_iconst d_tx_init_5 ⟨by decide, by decide⟩ ?_
  refine wp_puti d_tx_init_6 2 h1 rfl (by omega) (Nat.le_of_ble_eq_true rfl) (Or.inl rfl) rfl lk_tx_9 ?_
  have b1 := b0.num o 2 (-1) List.mem_cons_self
  refine wp_aload_n d_tx_init_9 rfl 0 rfl ?_
  refine wp_iload_n d_tx_init_10 rfl 1 rfl ?_
  refine wp_newai (N := N) d_tx_init_11 h2 rfl (by omega) h3 w_arr_int ⟨Nat.le_of_ble_eq_true rfl, show 0 + N ≤ 59 by omega⟩ ?_
  have b2 := b1.arr (by omega) (rf_no (Or.inl (by rw [h2]))) m2
  refine wp_putr d_tx_init_13 0 h1 rfl (by omega) (by omega) (Nat.le_of_ble_eq_true rfl) rfl (fun _ => ⟨rfl, rfl⟩) rfl rfl rfl lk_tx_15 ?_
  have b3 := b2.put o 0 (o + 1) List.mem_cons_self rfl (rf_ob (Or.inr (Or.inr h1)) 0)
  refine wp_vret d_tx_init_16 rfl ⟨Nat.le_of_ble_eq_true rfl, show 0 + N ≤ 59 by omega⟩ ?_
  have f := b3.fin (fun q hq k => by
    rw [List.mem_singleton] at hq
    subst hq
    refine ⟨fun hk => ?_, ?_⟩
    · rw [fu_eq] at hk
      rw [rf_ob (Or.inr (Or.inr h1)), if_neg (by omega)]
    · rw [m1]
      by_cases e : k = 2
      · rw [e, mu_eq, if_pos rfl]
      · rw [mu_k e, if_neg e]
        rfl)
  exact hq _ _ f.1 f.2
end INIT1
