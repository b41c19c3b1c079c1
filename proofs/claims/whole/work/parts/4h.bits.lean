/-! tells: bits of a number of places, and which places tell a tune from all others -/
def bcI (x : Int) : Int :=
  let a := w32 (x - iand (iushr x 1) 1431655765)
  let b := w32 (iand a 858993459 + iand (iushr a 2) 858993459)
  let c := iand (w32 (b + iushr b 4)) 252645135
  let d := w32 (c + iushr c 8)
  let e := w32 (d + iushr d 16)
  iand e 63
def bcOk (p : Nat) : Bool := let q := iand (p : Int) (w32 ((p : Int) - 1)); decide (0 ≤ bcI (p : Int)) && (decide (bcI (p : Int) ≤ 12) && (decide (p = 0) || (decide (0 ≤ q) && (decide (q < (p : Int)) && decide (bcI (p : Int) = bcI q + 1)))))
theorem bc_k0 : ∀ a, a < 16 → ∀ b, b < 64 → bcOk (64 * a + b) = true := by decide +kernel
theorem bc_k1 : ∀ a, a < 16 → ∀ b, b < 64 → bcOk (1024 + (64 * a + b)) = true := by decide +kernel
theorem bc_k2 : ∀ a, a < 16 → ∀ b, b < 64 → bcOk (2048 + (64 * a + b)) = true := by decide +kernel
theorem bc_k3 : ∀ a, a < 16 → ∀ b, b < 64 → bcOk (3072 + (64 * a + b)) = true := by decide +kernel
