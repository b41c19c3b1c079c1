/-! the law's loop, from its entry to its end -/
section LEXT
variable {G : GT} {J : MD} {k z pc : Nat} {L : LT} {st : List PV} {n : Nat} {R R' : RT} {M M' : MT} {Q : QT}
theorem wp_ext (h : ∀ q, q < n → ∀ k, R q k = R' q k ∧ M q k = M' q k) (kk : Wp G J k z pc L st n R' M' Q) : Wp G J k z pc L st n R M Q := by
  intro p e s m args below meth c cx ad0 n0 ad H locs ls X hl ok
  obtain ⟨x1, x2, x3, x4, x5, x6, x7, x8⟩ := X
  have hws : wsOf G ad n R M = wsOf G ad n R' M' := by
    unfold wsOf
    refine List.map_congr_left (fun o ho => ?_)
    have ho2 := List.mem_range.mp ho
    rw [cont_eq (R := R') (M := M') (R' := R) (M' := M) (ad' := ad) (fun k => by rw [(h o ho2 k).1]) (fun k => (h o ho2 k).2)]
  have hok : okM n R' M' := ⟨fun o ho k => by rw [← (h o ho k).2]; exact x5.1 o ho k, fun o ho k r hr => x5.2 o ho k r (by rw [(h o ho k).1]; exact hr)⟩
  rw [hws] at x6 x7
  exact kk p e s m args below meth c cx ad0 n0 ad H locs ls ⟨x1, x2, x3, x4, hok, x6, x7, x8⟩ hl ok
end LEXT
def S0 : ST := ((fun _ => 0, 0), (fun _ => 0, 0), (0, fun _ _ => 0), (2, 0), (fun _ => -1, fun _ => 0, fun _ _ => 0))
theorem ok_S0 : okST S0 := ⟨⟨Nat.zero_le _, fun k hk => absurd hk (Nat.not_lt_zero k)⟩, ⟨Nat.zero_le _, fun k hk => absurd hk (Nat.not_lt_zero k)⟩, ⟨Nat.zero_le _, fun k hk => absurd hk (Nat.not_lt_zero k)⟩, ⟨by decide, by decide⟩, fun s _ => ⟨⟨show (-1 : Int) ≤ -1 by decide, show (-1 : Int) ≤ 2 by decide⟩, Nat.zero_le _⟩⟩
theorem rc_S0 : RC S0 MI := by
  refine ⟨⟨rfl, fun k hk => absurd hk (Nat.not_lt_zero k), rfl, rfl, fun k hk => absurd hk (Nat.not_lt_zero k)⟩, ⟨rfl, fun k hk => absurd hk (Nat.not_lt_zero k), rfl, rfl, fun k hk => absurd hk (Nat.not_lt_zero k)⟩, ⟨rfl, fun k hk => absurd hk (Nat.not_lt_zero k)⟩, ⟨rfl, rfl⟩, fun s hs => ?_, Or.inl rfl⟩
  match s, hs with
  | 0, _ => exact ⟨rfl, rfl, fun k hk => absurd hk (Nat.not_lt_zero k)⟩
  | 1, _ => exact ⟨rfl, rfl, fun k hk => absurd hk (Nat.not_lt_zero k)⟩
  | 2, _ => exact ⟨rfl, rfl, fun k hk => absurd hk (Nat.not_lt_zero k)⟩
  | 3, _ => exact ⟨rfl, rfl, fun k hk => absurd hk (Nat.not_lt_zero k)⟩
theorem rm_S0 : RM S0 MI := by
  refine ⟨⟨rfl, fun k hk => absurd hk (Nat.not_lt_zero k)⟩, ⟨rfl, fun k hk => absurd hk (Nat.not_lt_zero k)⟩, ⟨rfl, fun k hk => absurd hk (Nat.not_lt_zero k)⟩, ⟨rfl, rfl⟩, fun s hs => ?_⟩
  match s, hs with
  | 0, _ => exact ⟨rfl, rfl, fun k hk => absurd hk (Nat.not_lt_zero k)⟩
  | 1, _ => exact ⟨rfl, rfl, fun k hk => absurd hk (Nat.not_lt_zero k)⟩
  | 2, _ => exact ⟨rfl, rfl, fun k hk => absurd hk (Nat.not_lt_zero k)⟩
  | 3, _ => exact ⟨rfl, rfl, fun k hk => absurd hk (Nat.not_lt_zero k)⟩
set_option maxHeartbeats 8000000 in
theorem lw_loop {G : GT} {k z : Nat} (hL : G.2.2.2.2.2.1 ≤ 448) (hk : k ≤ 600000) (hz : z ≤ 7302250) {Q : QT} (hq : ∀ M, Q (some (pI 1)) NN RF M) : ∀ (d i : Nat) (S : ST) (M : MT), G.2.2.2.2.2.1 ≤ i + 7 * d → i ≤ 455 → okST S → RC S M → RM S M → Wp G J_lw_law k z 18 [(0, pR 1001), (1, pR 0), (2, pR 101), (3, pI (i : Int))] [] NN RF M Q := by
  intro d
  have hend : ∀ (i : Nat) (M : MT), Wp G J_lw_law k z 1373 [(0, pR 1001), (1, pR 0), (2, pR 101), (3, pI (i : Int))] [] NN RF M Q := fun i M => by
    refine wp_iconst d_lw_law_1373 ⟨by decide, by decide⟩ ?_
    exact wp_zret d_lw_law_1374 rfl ⟨hk, hz⟩ (Or.inr rfl) (hq M)
  induction d with
  | zero =>
    intro i S M hi hi2 ok h g
    refine wp_iload_n d_lw_law_18 rfl 3 rfl ?_
    refine wp_aload_n d_lw_law_19 rfl 0 rfl ?_
    refine wp_slen d_lw_law_20 ⟨by omega, by omega⟩ ?_
    refine wp_bipush d_lw_law_21 ⟨by decide, by decide⟩ (by decide) ?_
    refine wp_isub d_lw_law_23 ?_
    rw [w32_s (by omega) (by omega)]
    exact wp_icmp_gt 1373 d_lw_law_24 (by decide) (fun _ => hend i M) (fun c => absurd c (by omega))
  | succ d ih =>
    intro i S M hi hi2 ok h g
    refine wp_iload_n d_lw_law_18 rfl 3 rfl ?_
    refine wp_aload_n d_lw_law_19 rfl 0 rfl ?_
    refine wp_slen d_lw_law_20 ⟨by omega, by omega⟩ ?_
    refine wp_bipush d_lw_law_21 ⟨by decide, by decide⟩ (by decide) ?_
    refine wp_isub d_lw_law_23 ?_
    rw [w32_s (by omega) (by omega)]
    refine wp_icmp_gt 1373 d_lw_law_24 (by decide) (fun _ => hend i M) (fun c => ?_)
    have hi7 : i + 7 ≤ G.2.2.2.2.2.1 := by omega
    have kont : ∀ S' M', okST S' → RC S' M' → RM S' M' → Wp G J_lw_law k z 1367 [(0, pR 1001), (1, pR 0), (2, pR 101), (3, pI (i : Int))] [] NN RF M' Q := fun S' M' ok' h' g' => by
      refine wp_iinc (L2 := [(0, pR 1001), (1, pR 0), (2, pR 101), (3, pI (w32 ((i : Int) + 7)))]) d_lw_law_1367 3 rfl (Nat.le_of_ble_eq_true rfl) [1, 2, 3, 0] rfl ?_
      refine wp_goto 18 d_lw_law_1370 (by decide) ?_
      rw [w32_s (by omega) (by omega), show (i : Int) + 7 = ((i + 7 : Nat) : Int) by omega]
      exact ih (i + 7) S' M' (by omega) (by omega) ok' h' g'
    refine wp_aload_n d_lw_law_27 rfl 0 rfl ?_
    refine wp_iload_n d_lw_law_28 rfl 3 rfl ?_
    refine wp_sld d_lw_law_29 (by omega) (by omega) ?_
    refine wp_bipush d_lw_law_30 ⟨by decide, by decide⟩ (by decide) ?_
    refine wp_iand d_lw_law_32 ?_
    generalize iand (G.2.2.2.2.2.2 ((i : Int)).toNat).toInt 63 = v
    by_cases c0 : v = 0
    · exact wp_tabIn 188 d_lw_law_33 (by omega) (by omega) (by rw [c0]; rfl) (by decide) (lw_c0 ok h g i hi7 hL hk hz kont)
    by_cases c1 : v = 1
    · exact wp_tabIn 221 d_lw_law_33 (by omega) (by omega) (by rw [c1]; rfl) (by decide) (lw_c1 ok h g i hi7 hL hk hz kont)
    by_cases c2 : v = 2
    · exact wp_tabIn 244 d_lw_law_33 (by omega) (by omega) (by rw [c2]; rfl) (by decide) (lw_c2 ok h g i hi7 hL hk hz kont)
    by_cases c3 : v = 3
    · exact wp_tabIn 267 d_lw_law_33 (by omega) (by omega) (by rw [c3]; rfl) (by decide) (lw_c3 ok h g i hi7 hL hk hz kont)
    by_cases c4 : v = 4
    · exact wp_tabIn 290 d_lw_law_33 (by omega) (by omega) (by rw [c4]; rfl) (by decide) (lw_c4 ok h g i hi7 hL hk hz kont)
    by_cases c5 : v = 5
    · exact wp_tabIn 323 d_lw_law_33 (by omega) (by omega) (by rw [c5]; rfl) (by decide) (lw_c5 ok h g i hi7 hL hk hz kont)
    by_cases c6 : v = 6
    · exact wp_tabIn 356 d_lw_law_33 (by omega) (by omega) (by rw [c6]; rfl) (by decide) (lw_c6 ok h g i hi7 hL hk hz kont)
    by_cases c7 : v = 7
    · exact wp_tabIn 409 d_lw_law_33 (by omega) (by omega) (by rw [c7]; rfl) (by decide) (lw_c7 ok h g i hi7 hL hk hz kont)
    by_cases c8 : v = 8
    · exact wp_tabIn 422 d_lw_law_33 (by omega) (by omega) (by rw [c8]; rfl) (by decide) (lw_c8 ok h g i hi7 hL hk hz kont)
    by_cases c9 : v = 9
    · exact wp_tabIn 445 d_lw_law_33 (by omega) (by omega) (by rw [c9]; rfl) (by decide) (lw_c9 ok h g i hi7 hL hk hz kont)
    by_cases c10 : v = 10
    · exact wp_tabIn 468 d_lw_law_33 (by omega) (by omega) (by rw [c10]; rfl) (by decide) (lw_c10 ok h g i hi7 hL hk hz kont)
    by_cases c11 : v = 11
    · exact wp_tabIn 511 d_lw_law_33 (by omega) (by omega) (by rw [c11]; rfl) (by decide) (lw_c11 ok h g i hi7 hL hk hz kont)
    by_cases c12 : v = 12
    · exact wp_tabIn 544 d_lw_law_33 (by omega) (by omega) (by rw [c12]; rfl) (by decide) (lw_c12 ok h g i hi7 hL hk hz kont)
    by_cases c13 : v = 13
    · exact wp_tabIn 577 d_lw_law_33 (by omega) (by omega) (by rw [c13]; rfl) (by decide) (lw_c13 ok h g i hi7 hL hk hz kont)
    by_cases c14 : v = 14
    · exact wp_tabIn 600 d_lw_law_33 (by omega) (by omega) (by rw [c14]; rfl) (by decide) (lw_c14 ok h g i hi7 hL hk hz kont)
    by_cases c15 : v = 15
    · exact wp_tabIn 623 d_lw_law_33 (by omega) (by omega) (by rw [c15]; rfl) (by decide) (lw_c15 ok h g i hi7 hL hk hz kont)
    by_cases c16 : v = 16
    · exact wp_tabIn 666 d_lw_law_33 (by omega) (by omega) (by rw [c16]; rfl) (by decide) (lw_c16 ok h g i hi7 hL hk hz kont)
    by_cases c17 : v = 17
    · exact wp_tabIn 709 d_lw_law_33 (by omega) (by omega) (by rw [c17]; rfl) (by decide) (lw_c17 ok h g i hi7 hL hk hz kont)
    by_cases c18 : v = 18
    · exact wp_tabIn 752 d_lw_law_33 (by omega) (by omega) (by rw [c18]; rfl) (by decide) (lw_c18 ok h g i hi7 hL hk hz kont)
    by_cases c19 : v = 19
    · exact wp_tabIn 785 d_lw_law_33 (by omega) (by omega) (by rw [c19]; rfl) (by decide) (lw_c19 ok h g i hi7 hL hk hz kont)
    by_cases c20 : v = 20
    · exact wp_tabIn 818 d_lw_law_33 (by omega) (by omega) (by rw [c20]; rfl) (by decide) (lw_c20 ok h g i hi7 hL hk hz kont)
    by_cases c21 : v = 21
    · exact wp_tabIn 841 d_lw_law_33 (by omega) (by omega) (by rw [c21]; rfl) (by decide) (lw_c21 ok h g i hi7 hL hk hz kont)
    by_cases c22 : v = 22
    · exact wp_tabIn 864 d_lw_law_33 (by omega) (by omega) (by rw [c22]; rfl) (by decide) (lw_c22 ok h g i hi7 hL hk hz kont)
    by_cases c23 : v = 23
    · exact wp_tabIn 897 d_lw_law_33 (by omega) (by omega) (by rw [c23]; rfl) (by decide) (lw_c23 ok h g i hi7 hL hk hz kont)
    by_cases c24 : v = 24
    · exact wp_tabIn 920 d_lw_law_33 (by omega) (by omega) (by rw [c24]; rfl) (by decide) (lw_c24 ok h g i hi7 hL hk hz kont)
    by_cases c25 : v = 25
    · exact wp_tabIn 943 d_lw_law_33 (by omega) (by omega) (by rw [c25]; rfl) (by decide) (lw_c25 ok h g i hi7 hL hk hz kont)
    by_cases c26 : v = 26
    · exact wp_tabIn 1019 d_lw_law_33 (by omega) (by omega) (by rw [c26]; rfl) (by decide) (lw_c26 ok h g i hi7 hL hk hz kont)
    by_cases c27 : v = 27
    · exact wp_tabIn 1062 d_lw_law_33 (by omega) (by omega) (by rw [c27]; rfl) (by decide) (lw_c27 ok h g i hi7 hL hk hz kont)
    by_cases c28 : v = 28
    · exact wp_tabIn 1105 d_lw_law_33 (by omega) (by omega) (by rw [c28]; rfl) (by decide) (lw_c28 ok h g i hi7 hL hk hz kont)
    by_cases c29 : v = 29
    · exact wp_tabIn 1128 d_lw_law_33 (by omega) (by omega) (by rw [c29]; rfl) (by decide) (lw_c29 ok h g i hi7 hL hk hz kont)
    by_cases c30 : v = 30
    · exact wp_tabIn 1181 d_lw_law_33 (by omega) (by omega) (by rw [c30]; rfl) (by decide) (lw_c30 ok h g i hi7 hL hk hz kont)
    by_cases c31 : v = 31
    · exact wp_tabIn 1224 d_lw_law_33 (by omega) (by omega) (by rw [c31]; rfl) (by decide) (lw_c31 ok h g i hi7 hL hk hz kont)
    by_cases c32 : v = 32
    · exact wp_tabIn 1287 d_lw_law_33 (by omega) (by omega) (by rw [c32]; rfl) (by decide) (lw_c32 ok h g i hi7 hL hk hz kont)
    by_cases c33 : v = 33
    · exact wp_tabIn 1330 d_lw_law_33 (by omega) (by omega) (by rw [c33]; rfl) (by decide) (lw_c33 ok h g i hi7 hL hk hz kont)
    by_cases c34 : v = 34
    · exact wp_tabIn 1353 d_lw_law_33 (by omega) (by omega) (by rw [c34]; rfl) (by decide) (lw_c34 ok h g i hi7 hL hk hz kont)
    exact wp_tabOut 1367 d_lw_law_33 (by omega) (by decide) (kont S M ok h g)
set_option maxHeartbeats 8000000 in
theorem lw_body {G : GT} (hL : G.2.2.2.2.2.1 ≤ 448) {Q : QT} (hq : ∀ M, Q (some (pI 1)) NN RF M) : Wp G J_lw_law 0 0 0 [(0, pR 1001)] [] 0 (fun _ _ => none) (fun _ _ => 0) Q := by
  refine wp_new d_lw_law_0 rfl rfl (Nat.le_of_ble_eq_true rfl) lk_lw_7 wx_tl wi_tl ⟨Nat.le_of_ble_eq_true rfl, Nat.le_of_ble_eq_true rfl⟩ ?_
  refine wp_dup d_lw_law_3 rfl ?_
  refine wp_callI [] 0 d_lw_law_4 jd_tl_init rfl lk_lw_9 rfl (Nat.le_of_ble_eq_true rfl) rfl ?_
  refine i_tl (rz_eq _ _) (mz_eq _ _) (fun R1 M1 o1 c1 => ?_)
  refine wp_astore_n (L2 := [(0, pR 1001), (1, pR 0)]) d_lw_law_7 rfl (Nat.le_of_ble_eq_true rfl) [1, 0] rfl ?_
  refine wp_new d_lw_law_8 rfl rfl (Nat.le_of_ble_eq_true rfl) lk_lw_10 wx_mo wi_mo ⟨Nat.le_of_ble_eq_true rfl, Nat.le_of_ble_eq_true rfl⟩ ?_
  refine wp_dup d_lw_law_11 rfl ?_
  refine wp_callI [] 101 d_lw_law_12 jd_mo_init rfl lk_lw_12 rfl (Nat.le_of_ble_eq_true rfl) rfl ?_
  refine i_mo (rz_eq _ _) (mz_eq _ _) (fun R2 M2 o2 c2 => ?_)
  refine wp_astore_n (L2 := [(0, pR 1001), (1, pR 0), (2, pR 101)]) d_lw_law_15 rfl (Nat.le_of_ble_eq_true rfl) [1, 2, 0] rfl ?_
  refine wp_iconst d_lw_law_16 ⟨by decide, by decide⟩ ?_
  refine wp_istore_n (L2 := [(0, pR 1001), (1, pR 0), (2, pR 101), (3, pI 0)]) d_lw_law_17 rfl (Nat.le_of_ble_eq_true rfl) [1, 2, 3, 0] rfl ?_
  refine wp_ext (R' := RF) (M' := MI) (fun q hq k => ?_) (lw_loop hL (Nat.le_of_ble_eq_true rfl) (Nat.le_of_ble_eq_true rfl) hq 65 0 S0 MI (by omega) (by omega) ok_S0 rc_S0 rm_S0)
  rcases Nat.lt_or_ge q 101 with h | h
  · have a := o2 q h k
    rw [rz_ne (by omega), mz_ne (by omega)] at a
    have b := c1 q (Nat.zero_le q) h k
    exact ⟨a.1.trans b.1, a.2.trans b.2⟩
  · exact c2 q h hq k
