/-! lots -/
def lcg (s : Int) : Int := w32 (w32 (1103515245 * s) + 12345)
def lotN (s : Int) (m : Nat) : Int := w32 (Int.tmod (iushr s 16) (m : Int))
theorem iushr16 (s : Int) : 0 ≤ iushr s 16 ∧ iushr s 16 < 65536 := by
  unfold iushr
  have h : ((Int32.ofInt s).toUInt32 >>> ((Int32.ofInt 16).toUInt32 &&& Int32.toUInt32 31)).toNat < 65536 := by
    have e : ((Int32.ofInt 16).toUInt32 &&& Int32.toUInt32 31).toNat % 32 = 16 := by decide
    rw [UInt32.toNat_shiftRight, e, Nat.shiftRight_eq_div_pow]
    have h2 := (Int32.ofInt s).toUInt32.toNat_lt
    omega
  generalize ((Int32.ofInt s).toUInt32 >>> ((Int32.ofInt 16).toUInt32 &&& Int32.toUInt32 31)) = u at h ⊢
  have h3 : u.toBitVec.toNat < 65536 := h
  have e2 : u.toInt32.toInt = (u.toBitVec.toNat : Int) := by
    show u.toBitVec.toInt = _
    exact BitVec.toInt_eq_toNat_of_lt (by omega)
  rw [e2]
  omega
theorem lotN_in (s : Int) {m : Nat} (h0 : 0 < m) (h : m ≤ 6) : 0 ≤ lotN s m ∧ lotN s m < (m : Int) := by
  have h1 := iushr16 s
  have a := Int.tmod_nonneg (m : Int) h1.1
  have b := Int.tmod_lt_of_pos (iushr s 16) (show (0 : Int) < (m : Int) by omega)
  unfold lotN
  rw [w32_s (by omega) (by omega)]
  exact ⟨a, b⟩
section CCH
variable {G : GT} {M : MT}
theorem c_ch_lot {P : Int → MT → Prop} (m : Nat) (hm : m ≤ 6) (hp : P (if m = 0 then 0 else lotN (lcg (M 86 3)) m) (mu M 86 3 (lcg (M 86 3)))) : ClI G J_ch_lot M [pR 86, pI (m : Int)] P := by
  refine e_ch_lot _ ?_
  rintro M1 rfl
  refine ⟨fun c => ?_, fun c => ⟨by omega, ?_⟩⟩
  · rw [if_pos (by omega)] at hp
    exact hp
  · rw [if_neg (by omega)] at hp
    rw [mu_eq]
    exact hp
theorem c_ch_hum {P : MT → Prop} (i : Nat) (hi : i < 6) (l : List Int) (x h y : Int) (hl : l.length ≤ 40) (ht : Tn M 87 l) (b1 : M (22 + i) 0 = x) (b2 : M (22 + i) 1 = h) (b3 : M (22 + i) 2 = y) (hh : h = 0 ∨ h = 1 ∨ h = 2) (hp : ∀ M', Fr [87, 88, 89, 90] M M' → Tn M' 87 (humL x h y l) → P M') : ClV G J_ch_hum M [pR 86, pR (22 + i)] P := by
  refine e_ch_hum _ (k_borrowers i hi).2 ?_
  refine c_tu_becomeHummed 89 tu_chspare 87 tu_chnow (22 + i) (k_borrowers i hi).2 l x h y hl ⟨by decide, by decide, by decide⟩ (by simp; omega) ht b1 b2 b3 hh (fun M1 hf1 ht1 => ?_)
  refine c_tu_become 87 tu_chnow 89 tu_chspare _ ht1 (humL_le x h y l) (by decide) (by decide) (fun M2 hf2 ht2 => hp M2 ?_ ht2)
  exact (hf1.up (by simp)).tr (hf2.up (by simp))
end CCH
