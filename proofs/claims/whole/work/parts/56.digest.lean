/-! digest: class and model -/
def stp (h x : Int) : Int := w64 (w64 (31 * h) + x)
def alnD (D : DT) (e : Int) (t : Nat) (h : Int) : Int := stp (stp (stp (stp (stp (stp (stp (stp (stp h ((dT D t).length : Int)) (notesN D e 5 t (-1))) (notesN D e 39 t (-1))) (notesN D e 5 t 2)) (hasN D e 5 t)) (lendN D t 9 (-1))) (lendN D t 9 0)) (lonN D t 3 (-1))) (lonN D t 3 0)
def togD (D : DT) (t : Nat) (h : Int) : Int := stp (stp (stp (stp (stp (stp (stp (stp (stp (stp h (whoN D 0 t 0)) (whoN D 0 t 1)) (farN D 0 t)) (nearN D t)) (motN D t)) (telV (telN D t) 0)) (telV (telN D t) 1)) (fairN D 7 9 t)) (humsA D 5 t 0 4 9 0)) (humsA D 5 t 0 4 9 1)
def borD (D : DT) (b : Nat) (h : Int) : Int := stp (stp (stp h (dB D b).1) (dB D b).2.1) (dB D b).2.2
def camD (D : DT) (e : Int) (l : Nat) (h : Int) : Int := stp (stp (stp h (cameN D e l 0)) (cameN D e l 1)) (cameN D e l 2)
def tunD (D : DT) (e : Int) (t : Nat) (h : Int) : Int := togD D t (alnD D e t h)
def cntD (S : ST) (k : Nat) (h : Int) : Int := stp h (countA S (k : Int))
def dig1 (S : ST) : Int := itr (cntD S) 8 17
def dig2 (S : ST) : Int := stp (stp (dig1 S) (pT (sT S)).1) (pB (sB S))
def dig3 (S : ST) : Int := itr (tunD (DS S) (sE S)) (dn (DS S)) (dig2 S)
def dig4 (S : ST) : Int := itr (borD (DS S)) (db (DS S)) (dig3 S)
def dig5 (S : ST) : Int := itr (camD (DS S) (sE S)) (dl (DS S)) (dig4 S)
def digA (S : ST) : Int := stp (stp (stp (stp (stp (stp (dig5 S) (intN (DS S) (sE S) 0)) (intN (DS S) (sE S) 9)) (intN (DS S) (sE S) 39)) (homeN (DS S) (sE S) 3)) (losesN (DS S) 9)) (bestF (DS S) 1 13)
theorem itr_s {α : Type} (f : Nat → α → α) (n : Nat) (a : α) : itr f (n + 1) a = f n (itr f n a) := rfl
theorem itr_0 {α : Type} (f : Nat → α → α) (a : α) : itr f 0 a = a := rfl
theorem camD_e (D : DT) (e : Int) (l : Nat) (h : Int) : camD D e l h = stp (stp (stp h (cameN D e l 0)) (cameN D e l 1)) (cameN D e l 2) := rfl
theorem borD_e (D : DT) (b : Nat) (h : Int) : borD D b h = stp (stp (stp h (dB D b).1) (dB D b).2.1) (dB D b).2.2 := rfl
theorem cntD_e (S : ST) (k : Nat) (h : Int) : cntD S k h = stp h (countA S (k : Int)) := rfl
theorem tunD_e (D : DT) (e : Int) (t : Nat) (h : Int) : tunD D e t h = togD D t (alnD D e t h) := rfl
theorem dig1_e (S : ST) : itr (cntD S) 8 17 = dig1 S := rfl
theorem dig2_e (S : ST) : stp (stp (dig1 S) (pT (sT S)).1) (pB (sB S)) = dig2 S := rfl
theorem dig3_e (S : ST) : itr (tunD (DS S) (sE S)) (dn (DS S)) (dig2 S) = dig3 S := rfl
theorem dig4_e (S : ST) : itr (borD (DS S)) (db (DS S)) (dig3 S) = dig4 S := rfl
theorem dig5_e (S : ST) : itr (camD (DS S) (sE S)) (dl (DS S)) (dig4 S) = dig5 S := rfl
theorem stp_e (h x : Int) : w64 (w64 (31 * h) + x) = stp h x := rfl
section CDG
variable {G : GT} {M : MT} {S : ST} {P : Int → MT → Prop} {D : DT} {e : Int}
theorem nq {t : Nat} (ht : t < dn D) : (0 : Int) ≤ (t : Int) ∧ (t : Int) < (dn D : Int) := by omega
theorem c_tl_digestAlone (ok : okD D) (he : 0 ≤ e) (q : QC D e M) (t : Nat) (ht : t < dn D) (h : Int) (hp : ∀ M', FC M M' → KC D M' → P (alnD D e t h) M') : ClL G J_tl_digestAlone M [pR 0, pL h, pI (t : Int)] P := by
  have q0 := q
  have g0 : FC M M := FC.rf
  have a0 : tuneA D (t : Int) (-1) = ((dT D t).length : Int) := by unfold tuneA; rw [if_pos ⟨nq ht, by omega⟩, if_pos rfl, tN]
  refine e_tl_digestAlone _ _ (c_tl_tune ok q0.1 _ _ ?_)
  rw [a0]
  have a1 : notesA D e 5 (t : Int) (-1) = notesN D e 5 t (-1) := by unfold notesA; rw [if_pos ⟨by omega, nq ht, by omega⟩, tN]; rfl
  refine b_tl_digestAlone_15 _ _ (c_tl_notes ok he q0 _ _ _ (fun M1 f1 k1 => ?_))
  have q1 := q0.to ok f1 k1
  have g1 := g0.tr f1
  rw [a1]
  have a2 : notesA D e 39 (t : Int) (-1) = notesN D e 39 t (-1) := by unfold notesA; rw [if_pos ⟨by omega, nq ht, by omega⟩, tN]; rfl
  refine b_tl_digestAlone_32 _ _ (c_tl_notes ok he q1 _ _ _ (fun M2 f2 k2 => ?_))
  have q2 := q1.to ok f2 k2
  have g2 := g1.tr f2
  rw [a2]
  have a3 : notesA D e 5 (t : Int) 2 = notesN D e 5 t 2 := by unfold notesA; rw [if_pos ⟨by omega, nq ht, by omega⟩, tN]; rfl
  refine b_tl_digestAlone_50 _ _ (c_tl_notes ok he q2 _ _ _ (fun M3 f3 k3 => ?_))
  have q3 := q2.to ok f3 k3
  have g3 := g2.tr f3
  rw [a3]
  have a4 : hasA D e 5 (t : Int) = hasN D e 5 t := by unfold hasA; rw [if_pos ⟨by omega, nq ht⟩, tN]; rfl
  refine b_tl_digestAlone_67 _ _ (c_tl_has ok he q3 _ _ (fun M4 f4 k4 => ?_))
  have q4 := q3.to ok f4 k4
  have g4 := g3.tr f4
  rw [a4]
  have a5 : lendA D (t : Int) 9 (-1) = lendN D t 9 (-1) := by unfold lendA; rw [if_pos ⟨nq ht, by omega, by omega⟩, tN]
  refine b_tl_digestAlone_83 _ _ (c_tl_lend ok q4.1 _ _ _ (fun M5 f5 => ?_))
  have q5 := q4.to ok f5.fc (q4.2.1.fq ok f5)
  have g5 := g4.tr f5.fc
  rw [a5]
  have a6 : lendA D (t : Int) 9 0 = lendN D t 9 0 := by unfold lendA; rw [if_pos ⟨nq ht, by omega, by omega⟩, tN]
  refine b_tl_digestAlone_101 _ _ (c_tl_lend ok q5.1 _ _ _ (fun M6 f6 => ?_))
  have q6 := q5.to ok f6.fc (q5.2.1.fq ok f6)
  have g6 := g5.tr f6.fc
  rw [a6]
  have a7 : lonA D (t : Int) 3 (-1) = lonN D t 3 (-1) := by unfold lonA; rw [if_pos ⟨nq ht, by omega, by omega⟩, tN]; rfl
  refine b_tl_digestAlone_119 _ _ (c_tl_longest ok q6.1 _ _ _ (fun M7 f7 => ?_))
  have q7 := q6.to ok f7.fc (q6.2.1.fq ok f7)
  have g7 := g6.tr f7.fc
  rw [a7]
  have a8 : lonA D (t : Int) 3 0 = lonN D t 3 0 := by unfold lonA; rw [if_pos ⟨nq ht, by omega, by omega⟩, tN]; rfl
  refine b_tl_digestAlone_136 _ _ (c_tl_longest ok q7.1 _ _ _ (fun M8 f8 => ?_))
  have q8 := q7.to ok f8.fc (q7.2.1.fq ok f8)
  have g8 := g7.tr f8.fc
  rw [a8]
  exact hp _ g8 q8.2.1
theorem c_tl_digestTogether (ok : okD D) (q : QC D e M) (t : Nat) (ht : t < dn D) (h : Int) (hp : ∀ M', FC M M' → KC D M' → P (togD D t h) M') : ClL G J_tl_digestTogether M [pR 0, pL h, pI (t : Int)] P := by
  have q0 := q
  have g0 : FC M M := FC.rf
  have a0 : whoA D 0 (t : Int) 0 = whoN D 0 t 0 := by unfold whoA; rw [if_pos ⟨by omega, nq ht, by omega⟩, tN]; rfl
  refine e_tl_digestTogether _ _ (c_tl_who ok q0.1 _ _ _ (fun M1 f1 => ?_))
  have q1 := q0.to ok f1.fc (q0.2.1.fq ok f1)
  have g1 := g0.tr f1.fc
  rw [a0]
  have a1 : whoA D 0 (t : Int) 1 = whoN D 0 t 1 := by unfold whoA; rw [if_pos ⟨by omega, nq ht, by omega⟩, tN]; rfl
  refine b_tl_digestTogether_16 _ _ (c_tl_who ok q1.1 _ _ _ (fun M2 f2 => ?_))
  have q2 := q1.to ok f2.fc (q1.2.1.fq ok f2)
  have g2 := g1.tr f2.fc
  rw [a1]
  have a2 : farA D 0 (t : Int) = farN D 0 t := by unfold farA; rw [if_pos ⟨by omega, nq ht⟩, tN]; rfl
  refine b_tl_digestTogether_33 _ _ (c_tl_far ok q2.1 _ _ (fun M3 f3 => ?_))
  have q3 := q2.to ok f3.fc (q2.2.1.fq ok f3)
  have g3 := g2.tr f3.fc
  rw [a2]
  have a3 : nearA D (t : Int) = nearN D t := by unfold nearA; rw [if_pos (nq ht), tN]
  refine b_tl_digestTogether_49 _ _ (c_tl_nearest ok q3.1 _ (fun M4 f4 => ?_))
  have q4 := q3.to ok f4.fc (q3.2.1.fq ok f4)
  have g4 := g3.tr f4.fc
  rw [a3]
  have a4 : motA D (t : Int) = motN D t := by unfold motA; rw [if_pos (nq ht), tN]
  refine b_tl_digestTogether_64 _ _ (c_tl_mothers ok q4.1 _ (fun M5 f5 => ?_))
  have q5 := q4.to ok f5.fc (q4.2.1.fq ok f5)
  have g5 := g4.tr f5.fc
  rw [a4]
  have a5 : telA D (t : Int) 0 = telV (telN D t) 0 := by unfold telA; rw [if_pos ⟨nq ht, by omega⟩, tN]
  refine b_tl_digestTogether_79 _ _ (c_tl_tells ok q5.1 _ _ ?_)
  rw [a5]
  have a6 : telA D (t : Int) 1 = telV (telN D t) 1 := by unfold telA; rw [if_pos ⟨nq ht, by omega⟩, tN]
  refine b_tl_digestTogether_95 _ _ (c_tl_tells ok q5.1 _ _ ?_)
  rw [a6]
  have a7 : fairA D 7 9 (t : Int) = fairN D 7 9 t := by unfold fairA; rw [if_pos ⟨by omega, nq ht⟩, tN]; rfl
  refine b_tl_digestTogether_111 _ _ (c_tl_fair ok q5.1 _ _ _ (fun M6 f6 => ?_))
  have q6 := q5.to ok f6.fc (q5.2.1.fq ok f6)
  have g6 := g5.tr f6.fc
  rw [a7]
  have a8 : humsA D 5 (t : Int) 0 4 9 0 = humsA D 5 t 0 4 9 0 := by rfl
  refine b_tl_digestTogether_130 _ _ (c_tl_hums ok q6.1 _ _ _ _ _ _ (fun M7 f7 => ?_))
  have q7 := q6.to ok f7.fc (q6.2.1.fq ok f7)
  have g7 := g6.tr f7.fc
  rw [a8]
  have a9 : humsA D 5 (t : Int) 0 4 9 1 = humsA D 5 t 0 4 9 1 := by rfl
  refine b_tl_digestTogether_150 _ _ (c_tl_hums ok q7.1 _ _ _ _ _ _ (fun M8 f8 => ?_))
  have q8 := q7.to ok f8.fc (q7.2.1.fq ok f8)
  have g8 := g7.tr f8.fc
  rw [a9]
  exact hp _ g8 q8.2.1
theorem c_tl_digest (ok : okST S) (h : RC S M) (hp : ∀ M', FC M M' → KC (DS S) M' → P (digA S) M') : ClL G J_tl_digest M [pR 0] P := by
  have okd := ok.d
  have he := ok.2.2.2.1.1
  have o1 := okd.1
  have o2 := okd.2.2.1
  have o3 := okd.2.2.2.2.1
  have fin : ∀ M1, FC M M1 → KC (DS S) M1 → ClI G J_tl_interest M1 [pR 0, pI 0] (fun x2 M2 => WpL G J_tl_digest 199 [(0, pR 0), (1, pL (w64 ((w64 (31 * dig5 S)) + x2)))] [] M2 P) := by
    intro M1 g1 k1
    have q1 := h.qc.to okd g1 k1
    refine c_tl_interest okd he q1 0 (fun M2 f2 k2 => b_tl_digest_199 _ (c_tl_interest okd he (q1.to okd f2 k2) 9 (fun M3 f3 k3 => b_tl_digest_213 _ (c_tl_interest okd he ((q1.to okd f2 k2).to okd f3 k3) 39 (fun M4 f4 k4 => ?_)))))
    have q4 := ((q1.to okd f2 k2).to okd f3 k3).to okd f4 k4
    have g4 := ((g1.tr f2).tr f3).tr f4
    refine b_tl_digest_227 _ (c_tl_home okd he q4 3 (fun M5 f5 k5 => b_tl_digest_240 _ (c_tl_loses okd (q4.to okd f5 k5) 9 (fun M6 f6 k6 => b_tl_digest_254 _ (c_tl_best okd ((q4.to okd f5 k5).to okd f6 k6) 1 (fun M7 f7 k7 => ?_))))))
    rw [show intA (DS S) (sE S) 0 = intN (DS S) (sE S) 0 from rfl, show intA (DS S) (sE S) 9 = intN (DS S) (sE S) 9 from rfl, show intA (DS S) (sE S) 39 = intN (DS S) (sE S) 39 from rfl, show homeA (DS S) (sE S) 3 = homeN (DS S) (sE S) 3 from rfl, show losesA (DS S) 9 = losesN (DS S) 9 from rfl, show bestA (DS S) 1 = bestF (DS S) 1 13 from rfl]
    exact hp M7 (((g4.tr f5).tr f6).tr f7) k7
  have came : ∀ (d i : Nat) (M1 : MT), i + d = dl (DS S) → FC M M1 → KC (DS S) M1 → WpL G J_tl_digest 139 [(0, pR 0), (1, pL (itr (camD (DS S) (sE S)) i (dig4 S))), (3, pI (i : Int))] [] M1 P := by
    intro d
    induction d with
    | zero =>
      intro i M1 hi g1 k1
      have q1 := h.qc.to okd g1 k1
      have hie : i = dl (DS S) := by omega
      subst hie
      rw [dig5_e]
      exact b_tl_digest_139 _ _ ⟨fun _ => fin M1 g1 k1, fun c => by rw [q1.1.2.2.2.1] at c; omega⟩
    | succ d ih =>
      intro i M1 hi g1 k1
      have q1 := h.qc.to okd g1 k1
      have a : ∀ w : Int, 0 ≤ w ∧ w ≤ 2 → cameA (DS S) (sE S) (i : Int) w = cameN (DS S) (sE S) i w := fun w hw => by unfold cameA; rw [if_pos ⟨by omega, hw⟩, tN]
      refine b_tl_digest_139 _ _ ⟨fun c => by rw [q1.1.2.2.2.1] at c; omega, fun _ => b_tl_digest_153 _ _ _ ⟨fun c => absurd c (by omega), fun _ => c_tl_came okd he q1 _ _ (fun M2 f2 k2 => b_tl_digest_174 _ _ _ ?_)⟩⟩
      have q2 := q1.to okd f2 k2
      rw [a 0 (by omega), show w32 (0 + 1) = 1 by decide]
      refine b_tl_digest_153 _ _ _ ⟨fun c => absurd c (by omega), fun _ => c_tl_came okd he q2 _ _ (fun M3 f3 k3 => b_tl_digest_174 _ _ _ ?_)⟩
      have q3 := q2.to okd f3 k3
      rw [a 1 (by omega), show w32 (1 + 1) = 2 by decide]
      refine b_tl_digest_153 _ _ _ ⟨fun c => absurd c (by omega), fun _ => c_tl_came okd he q3 _ _ (fun M4 f4 k4 => b_tl_digest_174 _ _ _ ?_)⟩
      rw [a 2 (by omega), show w32 (2 + 1) = 3 by decide]
      refine b_tl_digest_153 _ _ _ ⟨fun _ => ?_, fun c => absurd c (by omega)⟩
      rw [wi (by omega)]
      have nx := ih (i + 1) M4 (by omega) (((g1.tr f2).tr f3).tr f4) k4
      rw [itr_s, camD_e] at nx
      rw [stp_e, stp_e, stp_e]
      exact nx
  have bors : ∀ (M1 : MT), FC M M1 → KC (DS S) M1 → ∀ (d i : Nat), i + d = db (DS S) → WpL G J_tl_digest 90 [(0, pR 0), (1, pL (itr (borD (DS S)) i (dig3 S))), (3, pI (i : Int))] [] M1 P := by
    intro M1 g1 k1 d
    have q1 := h.qc.to okd g1 k1
    induction d with
    | zero =>
      intro i hi
      have hie : i = db (DS S) := by omega
      subst hie
      have nx := came (dl (DS S)) 0 M1 (by omega) g1 k1
      rw [itr_0] at nx
      rw [dig4_e]
      exact b_tl_digest_90 _ _ ⟨fun _ => nx, fun c => by rw [q1.1.2.2.1.1] at c; omega⟩
    | succ d ih =>
      intro i hi
      have a0 : borA (DS S) (i : Int) 0 = (dB (DS S) i).1 := by unfold borA; rw [if_pos ⟨by omega, by omega⟩, if_pos rfl, tN]
      have a1 : borA (DS S) (i : Int) 1 = (dB (DS S) i).2.1 := by unfold borA; rw [if_pos ⟨by omega, by omega⟩, if_neg (by decide), if_pos rfl, tN]
      have a2 : borA (DS S) (i : Int) 2 = (dB (DS S) i).2.2 := by unfold borA; rw [if_pos ⟨by omega, by omega⟩, if_neg (by decide), if_neg (by decide), tN]
      refine b_tl_digest_90 _ _ ⟨fun c => by rw [q1.1.2.2.1.1] at c; omega, fun _ => b_tl_digest_104 _ _ _ ⟨fun c => absurd c (by omega), fun _ => c_tl_borrower okd q1.1 _ _ (b_tl_digest_125 _ _ _ ?_)⟩⟩
      rw [a0, show w32 (0 + 1) = 1 by decide]
      refine b_tl_digest_104 _ _ _ ⟨fun c => absurd c (by omega), fun _ => c_tl_borrower okd q1.1 _ _ (b_tl_digest_125 _ _ _ ?_)⟩
      rw [a1, show w32 (1 + 1) = 2 by decide]
      refine b_tl_digest_104 _ _ _ ⟨fun c => absurd c (by omega), fun _ => c_tl_borrower okd q1.1 _ _ (b_tl_digest_125 _ _ _ ?_)⟩
      rw [a2, show w32 (2 + 1) = 3 by decide]
      refine b_tl_digest_104 _ _ _ ⟨fun _ => ?_, fun c => absurd c (by omega)⟩
      rw [wi (by omega)]
      have nx := ih (i + 1) (by omega)
      rw [itr_s, borD_e] at nx
      rw [stp_e, stp_e, stp_e]
      exact nx
  have tuns : ∀ (d i : Nat) (M1 : MT), i + d = dn (DS S) → FC M M1 → KC (DS S) M1 → WpL G J_tl_digest 59 [(0, pR 0), (1, pL (itr (tunD (DS S) (sE S)) i (dig2 S))), (3, pI (i : Int))] [] M1 P := by
    intro d
    induction d with
    | zero =>
      intro i M1 hi g1 k1
      have q1 := h.qc.to okd g1 k1
      have hie : i = dn (DS S) := by omega
      subst hie
      have nx := bors M1 g1 k1 (db (DS S)) 0 (by omega)
      rw [itr_0] at nx
      rw [dig3_e]
      exact b_tl_digest_59 _ _ ⟨fun _ => nx, fun c => by rw [q1.1.1] at c; omega⟩
    | succ d ih =>
      intro i M1 hi g1 k1
      have q1 := h.qc.to okd g1 k1
      refine b_tl_digest_59 _ _ ⟨fun c => by rw [q1.1.1] at c; omega, fun _ => c_tl_digestAlone okd he q1 i (by omega) _ (fun M2 f2 k2 => c_tl_digestTogether okd (q1.to okd f2 k2) i (by omega) _ (fun M3 f3 k3 => b_tl_digest_82 _ _ ?_))⟩
      rw [wi (by omega)]
      have nx := ih (i + 1) M3 (by omega) ((g1.tr f2).tr f3) k3
      rw [itr_s, tunD_e] at nx
      exact nx
  have faults : ∀ (M1 : MT), FC M M1 → KC (DS S) M1 → WpL G J_tl_digest 33 [(0, pR 0), (1, pL (dig1 S)), (3, pI 0)] [] M1 P := by
    intro M1 g1 k1
    have r1 := h.fc ok g1 k1
    refine b_tl_digest_33 _ _ ⟨fun c => absurd c (by omega), fun _ => c_tl_fault r1 _ (b_tl_digest_51 _ _ ?_)⟩
    rw [show w32 (0 + 1) = 1 by decide]
    refine b_tl_digest_33 _ _ ⟨fun c => absurd c (by omega), fun _ => c_tl_fault r1 _ (b_tl_digest_51 _ _ ?_)⟩
    rw [show w32 (1 + 1) = 2 by decide]
    have nx := tuns (dn (DS S)) 0 M1 (by omega) g1 k1
    rw [itr_0] at nx
    have a0 : faultA S 0 = (pT (sT S)).1 := rfl
    have a1 : faultA S 1 = pB (sB S) := rfl
    rw [a0, a1, stp_e, stp_e, dig2_e]
    exact b_tl_digest_33 _ _ ⟨fun _ => nx, fun c => absurd c (by omega)⟩
  have cnts : ∀ (d i : Nat) (M1 : MT), i + d = 8 → FC M M1 → KC (DS S) M1 → WpL G J_tl_digest 6 [(0, pR 0), (1, pL (itr (cntD S) i 17)), (3, pI (i : Int))] [] M1 P := by
    intro d
    induction d with
    | zero =>
      intro i M1 hi g1 k1
      have hie : i = 8 := by omega
      subst hie
      rw [dig1_e]
      exact b_tl_digest_6 _ _ ⟨fun _ => faults M1 g1 k1, fun c => absurd c (by omega)⟩
    | succ d ih =>
      intro i M1 hi g1 k1
      refine b_tl_digest_6 _ _ ⟨fun c => absurd c (by omega), fun _ => c_tl_count ok (h.fc ok g1 k1) _ (fun M2 f2 k2 => b_tl_digest_25 _ _ ?_)⟩
      rw [wi (by omega)]
      have nx := ih (i + 1) M2 (by omega) (g1.tr f2) k2
      rw [itr_s, cntD_e] at nx
      rw [stp_e]
      exact nx
  have nx := cnts 8 0 M (by omega) FC.rf h.2.2.2.2.2
  rw [itr_0] at nx
  exact e_tl_digest (b_tl_digest_4 _ nx)
theorem c_mo_tellsTune (ok : okD D) (h1 : MW D M) (he : M 101 14 = e) (rd : ∀ M', FA M M' → Rd G D M') (t : Nat) (ht : t < dn D) (h : Int) (hp : ∀ M', FA M M' → MW D M' → P (togD D t (alnD D e t h)) M') : ClL G J_mo_tellsTune M [pR 101, pL h, pI (t : Int)] P := by
  have o1 := ok.1
  have m0 := h1
  have e0 := he
  have g0 : FM M M := FM.rf
  refine e_mo_tellsTune _ _ ⟨⟨by omega, by omega⟩, ?_⟩
  rw [tN, (h1.2.1 t ht).1]
  refine b_mo_tellsTune_15 _ _ (c_mo_notesOf ok m0 e0 5 t (by omega) ht (-1) (by omega) (fun M1 f1 => ?_))
  have m1 := m0.fm f1
  have e1 := (f1 101 (by omega) (by omega) 14).trans e0
  have g1 := g0.tr f1
  refine b_mo_tellsTune_32 _ _ (c_mo_notesOf ok m1 e1 39 t (by omega) ht (-1) (by omega) (fun M2 f2 => ?_))
  have m2 := m1.fm f2
  have e2 := (f2 101 (by omega) (by omega) 14).trans e1
  have g2 := g1.tr f2
  refine b_mo_tellsTune_50 _ _ (c_mo_notesOf ok m2 e2 5 t (by omega) ht 2 (by omega) (fun M3 f3 => ?_))
  have m3 := m2.fm f3
  have e3 := (f3 101 (by omega) (by omega) 14).trans e2
  have g3 := g2.tr f3
  refine b_mo_tellsTune_67 _ _ (c_mo_hasOf ok m3 e3 5 t (by omega) ht (fun M4 f4 => ?_))
  have m4 := m3.fm f4
  have e4 := (f4 101 (by omega) (by omega) 14).trans e3
  have g4 := g3.tr f4
  refine b_mo_tellsTune_83 _ _ (c_mo_lendOf ok m4 t ht 9 (-1) (by omega) (by omega) (fun M5 f5 => ?_))
  have m5 := m4.fm f5
  have e5 := (f5 101 (by omega) (by omega) 14).trans e4
  have g5 := g4.tr f5
  refine b_mo_tellsTune_101 _ _ (c_mo_lendOf ok m5 t ht 9 0 (by omega) (by omega) (fun M6 f6 => ?_))
  have m6 := m5.fm f6
  have e6 := (f6 101 (by omega) (by omega) 14).trans e5
  have g6 := g5.tr f6
  refine b_mo_tellsTune_119 _ _ (c_mo_longestOf ok m6 t 3 ht (by omega) (-1) (by omega) (fun M7 f7 => ?_))
  have m7 := m6.fm f7
  have e7 := (f7 101 (by omega) (by omega) 14).trans e6
  have g7 := g6.tr f7
  refine b_mo_tellsTune_136 _ _ (c_mo_longestOf ok m7 t 3 ht (by omega) 0 (by omega) (fun M8 f8 => ?_))
  have m8 := m7.fm f8
  have e8 := (f8 101 (by omega) (by omega) 14).trans e7
  have g8 := g7.tr f8
  refine b_mo_tellsTune_153 _ _ (c_mo_whoOf ok m8 0 t (by omega) ht 0 (fun M9 f9 => ?_))
  have m9 := m8.fm f9
  have e9 := (f9 101 (by omega) (by omega) 14).trans e8
  have g9 := g8.tr f9
  refine b_mo_tellsTune_170 _ _ (c_mo_whoOf ok m9 0 t (by omega) ht 1 (fun M10 f10 => ?_))
  have m10 := m9.fm f10
  have e10 := (f10 101 (by omega) (by omega) 14).trans e9
  have g10 := g9.tr f10
  refine b_mo_tellsTune_187 _ _ (c_mo_farOf ok m10 0 t (by omega) ht (fun M11 f11 => ?_))
  have m11 := m10.fm f11
  have e11 := (f11 101 (by omega) (by omega) 14).trans e10
  have g11 := g10.tr f11
  refine b_mo_tellsTune_203 _ _ (c_mo_nearestOf ok m11 t ht (fun M12 f12 => ?_))
  have m12 := m11.fm f12
  have e12 := (f12 101 (by omega) (by omega) 14).trans e11
  have g12 := g11.tr f12
  refine b_mo_tellsTune_218 _ _ (c_mo_mothersOf ok m12 t ht (fun M13 f13 => ?_))
  have m13 := m12.fm f13
  have e13 := (f13 101 (by omega) (by omega) 14).trans e12
  have g13 := g12.tr f13
  have ti := tel_in D t 4096
  refine b_mo_tellsTune_233 _ _ (c_mo_tellsOf ok m13 t ht (c_mo_tellsBits _ _ ti (b_mo_tellsTune_256 _ _ _ (c_mo_tellsBits _ _ ti ?_))))
  refine b_mo_tellsTune_272 _ _ (c_mo_fairOf ok m13 7 9 t (by omega) ht (fun M14 f14 => ?_))
  have g14 := (g13.tr f14).fa
  refine b_mo_tellsTune_291 _ _ (c_mo_hums ok (rd _ g14) 5 (t : Int) 0 4 9 0 (fun M15 f15 m15 => ?_))
  have g15 := g14.tr f15
  refine b_mo_tellsTune_311 _ _ (c_mo_hums ok (rd _ g15) 5 (t : Int) 0 4 9 1 (fun M16 f16 m16 => ?_))
  exact hp _ (g15.tr f16) m16
theorem c_mo_digest (ok : okST S) (h : RM S M) (hp : ∀ M', FA M M' → P (digA S) M') : ClL G J_mo_digest M [pR 101] P := by
  have okd := ok.d
  have o1 := okd.1
  have o2 := okd.2.2.1
  have o3 := okd.2.2.2.2.1
  have rd : ∀ M', FA M M' → Rd G (DS S) M' := fun M' f => (h.fa f).rd ok
  have he : ∀ M', FA M M' → M' 101 14 = sE S := fun M' f => (h.fa f).2.2.2.1.1
  have fin : ∀ M1, FA M M1 → MW (DS S) M1 → ClI G J_mo_interestBy M1 [pR 101, pI 0, pI (M1 101 14)] (fun x2 M2 => WpL G J_mo_digest 191 [(0, pR 101), (1, pL (w64 ((w64 (31 * dig5 S)) + x2)))] [] M2 P) := by
    intro M1 g1 m1
    rw [he M1 g1]
    refine c_mo_interestBy okd m1 (sE S) 0 (by omega) (fun M2 f2 => b_mo_digest_191 _ ?_)
    have g2 := g1.tr f2.fa
    rw [he M2 g2]
    refine c_mo_interestBy okd (m1.fm f2) (sE S) 9 (by omega) (fun M3 f3 => b_mo_digest_209 _ ?_)
    have g3 := g2.tr f3.fa
    rw [he M3 g3]
    refine c_mo_interestBy okd ((m1.fm f2).fm f3) (sE S) 39 (by omega) (fun M4 f4 => ?_)
    have g4 := g3.tr f4.fa
    have m4 := ((m1.fm f2).fm f3).fm f4
    refine b_mo_digest_227 _ (c_mo_homeOf okd m4 (he M4 g4) 3 (by omega) (fun M5 f5 => b_mo_digest_240 _ (c_mo_losesOf okd (m4.fm f5) 9 (fun M6 f6 => b_mo_digest_254 _ (c_mo_bestOf okd ((m4.fm f5).fm f6) 1 (fun M7 f7 => ?_))))))
    exact hp M7 (((g4.tr f5.fa).tr f6.fa).tr f7.fa)
  have came : ∀ (d i : Nat) (M1 : MT), i + d = dl (DS S) → FA M M1 → MW (DS S) M1 → WpL G J_mo_digest 130 [(0, pR 101), (1, pL (itr (camD (DS S) (sE S)) i (dig4 S))), (3, pI (i : Int))] [] M1 P := by
    intro d
    induction d with
    | zero =>
      intro i M1 hi g1 m1
      have hie : i = dl (DS S) := by omega
      subst hie
      rw [dig5_e]
      exact b_mo_digest_130 _ _ ⟨fun _ => fin M1 g1 m1, fun c => by rw [m1.2.2.2.2.1] at c; omega⟩
    | succ d ih =>
      intro i M1 hi g1 m1
      refine b_mo_digest_130 _ _ ⟨fun c => by rw [m1.2.2.2.2.1] at c; omega, fun _ => b_mo_digest_141 _ _ _ ⟨fun c => absurd c (by omega), fun _ => c_mo_cameOf okd m1 (he M1 g1) i (by omega) 0 (fun M2 f2 => b_mo_digest_162 _ _ _ ?_)⟩⟩
      have g2 := g1.tr f2.fa
      rw [show w32 (0 + 1) = 1 by decide]
      refine b_mo_digest_141 _ _ _ ⟨fun c => absurd c (by omega), fun _ => c_mo_cameOf okd (m1.fm f2) (he M2 g2) i (by omega) 1 (fun M3 f3 => b_mo_digest_162 _ _ _ ?_)⟩
      have g3 := g2.tr f3.fa
      rw [show w32 (1 + 1) = 2 by decide]
      refine b_mo_digest_141 _ _ _ ⟨fun c => absurd c (by omega), fun _ => c_mo_cameOf okd ((m1.fm f2).fm f3) (he M3 g3) i (by omega) 2 (fun M4 f4 => b_mo_digest_162 _ _ _ ?_)⟩
      rw [show w32 (2 + 1) = 3 by decide]
      refine b_mo_digest_141 _ _ _ ⟨fun _ => ?_, fun c => absurd c (by omega)⟩
      rw [wi (by omega)]
      have nx := ih (i + 1) M4 (by omega) (g3.tr f4.fa) (((m1.fm f2).fm f3).fm f4)
      rw [itr_s, camD_e] at nx
      rw [stp_e, stp_e, stp_e]
      exact nx
  have bors : ∀ (M1 : MT), FA M M1 → MW (DS S) M1 → ∀ (d i : Nat), i + d = db (DS S) → WpL G J_mo_digest 80 [(0, pR 101), (1, pL (itr (borD (DS S)) i (dig3 S))), (3, pI (i : Int))] [] M1 P := by
    intro M1 g1 m1 d
    induction d with
    | zero =>
      intro i hi
      have hie : i = db (DS S) := by omega
      subst hie
      have nx := came (dl (DS S)) 0 M1 (by omega) g1 m1
      rw [itr_0] at nx
      rw [dig4_e]
      exact b_mo_digest_80 _ _ ⟨fun _ => nx, fun c => by rw [m1.2.2.1] at c; omega⟩
    | succ d ih =>
      intro i hi
      have bb := m1.2.2.2.1 i (by omega)
      have z0 : w32 (w32 (3 * (i : Int)) + 0) = ((3 * i : Nat) : Int) := by rw [ix3 (by omega), Int.add_zero, wn (by omega)]
      have z1 : w32 (w32 (3 * (i : Int)) + 1) = ((3 * i + 1 : Nat) : Int) := by rw [ix3 (by omega), wi (by omega)]
      have z2 : w32 (w32 (3 * (i : Int)) + 2) = ((3 * i + 2 : Nat) : Int) := by rw [ix3 (by omega), w2 (by omega)]
      refine b_mo_digest_80 _ _ ⟨fun c => by rw [m1.2.2.1] at c; omega, fun _ => b_mo_digest_91 _ _ _ ⟨fun c => absurd c (by omega), fun _ => ?_⟩⟩
      rw [z0, tN, bb.1]
      refine ⟨by omega, b_mo_digest_116 _ _ _ ?_⟩
      rw [show w32 (0 + 1) = 1 by decide]
      refine b_mo_digest_91 _ _ _ ⟨fun c => absurd c (by omega), fun _ => ?_⟩
      rw [z1, tN, bb.2.1]
      refine ⟨by omega, b_mo_digest_116 _ _ _ ?_⟩
      rw [show w32 (1 + 1) = 2 by decide]
      refine b_mo_digest_91 _ _ _ ⟨fun c => absurd c (by omega), fun _ => ?_⟩
      rw [z2, tN, bb.2.2]
      refine ⟨by omega, b_mo_digest_116 _ _ _ ?_⟩
      rw [show w32 (2 + 1) = 3 by decide]
      refine b_mo_digest_91 _ _ _ ⟨fun _ => ?_, fun c => absurd c (by omega)⟩
      rw [wi (by omega)]
      have nx := ih (i + 1) (by omega)
      rw [itr_s, borD_e] at nx
      rw [stp_e, stp_e, stp_e]
      exact nx
  have tuns : ∀ (d i : Nat) (M1 : MT), i + d = dn (DS S) → FA M M1 → MW (DS S) M1 → WpL G J_mo_digest 57 [(0, pR 101), (1, pL (itr (tunD (DS S) (sE S)) i (dig2 S))), (3, pI (i : Int))] [] M1 P := by
    intro d
    induction d with
    | zero =>
      intro i M1 hi g1 m1
      have hie : i = dn (DS S) := by omega
      subst hie
      have nx := bors M1 g1 m1 (db (DS S)) 0 (by omega)
      rw [itr_0] at nx
      rw [dig3_e]
      exact b_mo_digest_57 _ _ ⟨fun _ => nx, fun c => by rw [m1.1] at c; omega⟩
    | succ d ih =>
      intro i M1 hi g1 m1
      refine b_mo_digest_57 _ _ ⟨fun c => by rw [m1.1] at c; omega, fun _ => c_mo_tellsTune okd m1 (he M1 g1) (fun M' f => rd M' (g1.tr f)) i (by omega) _ (fun M2 f2 m2 => b_mo_digest_72 _ _ ?_)⟩
      rw [wi (by omega)]
      have nx := ih (i + 1) M2 (by omega) (g1.tr f2) m2
      rw [itr_s, tunD_e] at nx
      exact nx
  have cnts : ∀ (d i : Nat) (M1 : MT), i + d = 8 → FA M M1 → WpL G J_mo_digest 6 [(0, pR 101), (1, pL (itr (cntD S) i 17)), (3, pI (i : Int))] [] M1 P := by
    intro d
    induction d with
    | zero =>
      intro i M1 hi g1
      have hie : i = 8 := by omega
      subst hie
      rw [dig1_e]
      refine b_mo_digest_6 _ _ ⟨fun _ => c_mo_readsTunesS ok (h.fa g1) (fun M2 f2 n2 t2 => b_mo_digest_43 _ (c_mo_readsBorrowersS ok ((h.fa g1).fa f2.fa) (fun M3 f3 n3 t3 => b_mo_digest_55 _ ?_))), fun c => absurd c (by omega)⟩
      have g3 := (g1.tr f2.fa).tr f3.fa
      have r3 := h.fa g3
      have nx := tuns (dn (DS S)) 0 M3 (by omega) g3 ⟨(f3 101 7 (by omega) (by omega)).trans n2, fun j hj => ⟨(f3 109 j (by omega) (by omega)).trans (t2 j hj).1, fun i hi => (f3 108 _ (by omega) (by omega)).trans ((t2 j hj).2 i hi)⟩, n3, t3, r3.2.2.1.1, r3.2.2.1.2⟩
      rw [itr_0] at nx
      rw [stp_e, stp_e, dig2_e]
      exact nx
    | succ d ih =>
      intro i M1 hi g1
      refine b_mo_digest_6 _ _ ⟨fun c => absurd c (by omega), fun _ => c_mo_count ok (h.fa g1) _ (fun M2 f2 => b_mo_digest_25 _ _ ?_)⟩
      rw [wi (by omega)]
      have nx := ih (i + 1) M2 (by omega) (g1.tr f2)
      rw [itr_s, cntD_e] at nx
      rw [stp_e]
      exact nx
  have nx := cnts 8 0 M (by omega) FA.rf
  rw [itr_0] at nx
  exact e_mo_digest (b_mo_digest_4 _ nx)
end CDG
