/-! names: the classes and their fields, the methods -/
def TB : List Cond := lw_tbl.filter goodWord
theorem mem_tb (i : Nat) {w : Cond} (h : lw_tbl[i]? = some w) (g : goodWord w = true) : w ∈ TB := List.mem_filter.mpr ⟨List.mem_of_getElem? h, g⟩
theorem tb_goodIn : GoodIn TB TB := fun w h => ⟨h, good_of_word (List.mem_filter.mp h).2⟩
def F_tl : u_T := fun k => match k with
  | 0 => ("TuneLoans", "book", "LTuneLoans$Book;", true)
  | 1 => ("TuneLoans", "years", "LTuneLoans$Years;", true)
  | 2 => ("TuneLoans", "turns", "LTuneLoans$Turns;", true)
  | 3 => ("TuneLoans", "likeness", "LTuneLoans$Likeness;", true)
  | 4 => ("TuneLoans", "chance", "LTuneLoans$Chance;", true)
  | 5 => ("TuneLoans", "sheets", "[LTuneLoans$Sheet;", true)
  | 6 => ("TuneLoans", "ear", "I", false)
  | _ => ("TuneLoans", "finding", "I", false)
def fy_tl : Nat → FieldType := fun k => match k with
  | 0 => .object "TuneLoans$Book"
  | 1 => .object "TuneLoans$Years"
  | 2 => .object "TuneLoans$Turns"
  | 3 => .object "TuneLoans$Likeness"
  | 4 => .object "TuneLoans$Chance"
  | 5 => .array (.object "TuneLoans$Sheet")
  | 6 => .int
  | _ => .int
def F_bk : u_T := fun k => match k with
  | 0 => ("TuneLoans$Book", "texts", "[LTuneLoans$Text;", true)
  | 1 => ("TuneLoans$Book", "tunes", "[LTuneLoans$Tune;", true)
  | 2 => ("TuneLoans$Book", "borrowers", "[LTuneLoans$Borrower;", true)
  | 3 => ("TuneLoans$Book", "loans", "[LTuneLoans$Loan;", true)
  | 4 => ("TuneLoans$Book", "tuneCount", "I", false)
  | 5 => ("TuneLoans$Book", "borrowerCount", "I", false)
  | _ => ("TuneLoans$Book", "loanCount", "I", false)
def fy_bk : Nat → FieldType := fun k => match k with
  | 0 => .array (.object "TuneLoans$Text")
  | 1 => .array (.object "TuneLoans$Tune")
  | 2 => .array (.object "TuneLoans$Borrower")
  | 3 => .array (.object "TuneLoans$Loan")
  | 4 => .int
  | 5 => .int
  | _ => .int
def F_tx : u_T := fun k => match k with
  | 0 => ("TuneLoans$Text", "bytes", "[I", true)
  | 1 => ("TuneLoans$Text", "size", "I", false)
  | _ => ("TuneLoans$Text", "faultAt", "I", false)
def fy_tx : Nat → FieldType := fun k => match k with
  | 0 => .array .int
  | 1 => .int
  | _ => .int
def F_tu : u_T := fun k => match k with
  | 0 => ("TuneLoans$Tune", "notes", "[I", true)
  | _ => ("TuneLoans$Tune", "size", "I", false)
def fy_tu : Nat → FieldType := fun k => match k with
  | 0 => .array .int
  | _ => .int
def F_bo : u_T := fun k => match k with
  | 0 => ("TuneLoans$Borrower", "x", "I", false)
  | 1 => ("TuneLoans$Borrower", "how", "I", false)
  | _ => ("TuneLoans$Borrower", "y", "I", false)
def fy_bo : Nat → FieldType := fun k => match k with
  | 0 => .int
  | 1 => .int
  | _ => .int
def F_lo : u_T := fun k => match k with
  | 0 => ("TuneLoans$Loan", "year", "I", false)
  | 1 => ("TuneLoans$Loan", "tune", "I", false)
  | 2 => ("TuneLoans$Loan", "borrower", "I", false)
  | 3 => ("TuneLoans$Loan", "years", "I", false)
  | 4 => ("TuneLoans$Loan", "counts", "Z", false)
  | 5 => ("TuneLoans$Loan", "bad", "Z", false)
  | _ => ("TuneLoans$Loan", "more", "I", false)
def fy_lo : Nat → FieldType := fun k => match k with
  | 0 => .int
  | 1 => .int
  | 2 => .int
  | 3 => .int
  | 4 => .boolean
  | 5 => .boolean
  | _ => .int
def F_ye : u_T := fun k => match k with
  | 0 => ("TuneLoans$Years", "now", "[LTuneLoans$Tune;", true)
  | 1 => ("TuneLoans$Years", "lent", "[LTuneLoans$Tune;", true)
  | 2 => ("TuneLoans$Years", "loanOf", "[I", true)
  | 3 => ("TuneLoans$Years", "spare", "LTuneLoans$Tune;", true)
  | 4 => ("TuneLoans$Years", "keptNotes", "[I", true)
  | 5 => ("TuneLoans$Years", "keptSizes", "[I", true)
  | 6 => ("TuneLoans$Years", "keptHolders", "[I", true)
  | _ => ("TuneLoans$Years", "livedEar", "I", false)
def fy_ye : Nat → FieldType := fun k => match k with
  | 0 => .array (.object "TuneLoans$Tune")
  | 1 => .array (.object "TuneLoans$Tune")
  | 2 => .array .int
  | 3 => .object "TuneLoans$Tune"
  | 4 => .array .int
  | 5 => .array .int
  | 6 => .array .int
  | _ => .int
def F_tr : u_T := fun k => match k with
  | 0 => ("TuneLoans$Turns", "hummed", "[LTuneLoans$Tune;", true)
  | 1 => ("TuneLoans$Turns", "row", "[I", true)
  | _ => ("TuneLoans$Turns", "known", "I", false)
def fy_tr : Nat → FieldType := fun k => match k with
  | 0 => .array (.object "TuneLoans$Tune")
  | 1 => .array .int
  | _ => .int
def F_li : u_T := fun k => match k with
  | _ => ("TuneLoans$Likeness", "places", "[J", true)
def fy_li : Nat → FieldType := fun k => match k with
  | _ => .array .long
def F_ch : u_T := fun k => match k with
  | 0 => ("TuneLoans$Chance", "now", "LTuneLoans$Tune;", true)
  | 1 => ("TuneLoans$Chance", "spare", "LTuneLoans$Tune;", true)
  | 2 => ("TuneLoans$Chance", "weights", "[J", true)
  | _ => ("TuneLoans$Chance", "seed", "I", false)
def fy_ch : Nat → FieldType := fun k => match k with
  | 0 => .object "TuneLoans$Tune"
  | 1 => .object "TuneLoans$Tune"
  | 2 => .array .long
  | _ => .int
def F_sh : u_T := fun k => match k with
  | 0 => ("TuneLoans$Sheet", "items", "[I", true)
  | 1 => ("TuneLoans$Sheet", "form", "I", false)
  | _ => ("TuneLoans$Sheet", "size", "I", false)
def fy_sh : Nat → FieldType := fun k => match k with
  | 0 => .array .int
  | 1 => .int
  | _ => .int
def F_mo : u_T := fun k => match k with
  | 0 => ("TuneLoansModel", "forms", "[I", true)
  | 1 => ("TuneLoansModel", "sizes", "[I", true)
  | 2 => ("TuneLoansModel", "items", "[I", true)
  | 3 => ("TuneLoansModel", "moved", "[I", true)
  | 4 => ("TuneLoansModel", "latest", "I", false)
  | 5 => ("TuneLoansModel", "bytes", "[I", true)
  | 6 => ("TuneLoansModel", "typed", "[I", true)
  | 7 => ("TuneLoansModel", "tunes", "I", false)
  | 8 => ("TuneLoansModel", "told", "[I", true)
  | 9 => ("TuneLoansModel", "toldLong", "[I", true)
  | 10 => ("TuneLoansModel", "borrowers", "I", false)
  | 11 => ("TuneLoansModel", "hummer", "[I", true)
  | 12 => ("TuneLoansModel", "loans", "I", false)
  | 13 => ("TuneLoansModel", "loan", "[I", true)
  | 14 => ("TuneLoansModel", "hears", "I", false)
  | 15 => ("TuneLoansModel", "now", "[I", true)
  | 16 => ("TuneLoansModel", "nowLong", "[I", true)
  | 17 => ("TuneLoansModel", "lent", "[I", true)
  | 18 => ("TuneLoansModel", "lentLong", "[I", true)
  | 19 => ("TuneLoansModel", "holder", "[I", true)
  | 20 => ("TuneLoansModel", "heldBy", "[I", true)
  | 21 => ("TuneLoansModel", "counts", "[I", true)
  | 22 => ("TuneLoansModel", "bads", "[I", true)
  | 23 => ("TuneLoansModel", "mores", "[I", true)
  | 24 => ("TuneLoansModel", "changed", "[I", true)
  | _ => ("TuneLoansModel", "row", "[I", true)
def fy_mo : Nat → FieldType := fun k => match k with
  | 0 => .array .int
  | 1 => .array .int
  | 2 => .array .int
  | 3 => .array .int
  | 4 => .int
  | 5 => .array .int
  | 6 => .array .int
  | 7 => .int
  | 8 => .array .int
  | 9 => .array .int
  | 10 => .int
  | 11 => .array .int
  | 12 => .int
  | 13 => .array .int
  | 14 => .int
  | 15 => .array .int
  | 16 => .array .int
  | 17 => .array .int
  | 18 => .array .int
  | 19 => .array .int
  | 20 => .array .int
  | 21 => .array .int
  | 22 => .array .int
  | 23 => .array .int
  | 24 => .array .int
  | _ => .array .int
def CL : List vw_C := [("TuneLoans", F_tl, 8), ("TuneLoans$Book", F_bk, 7), ("TuneLoans$Text", F_tx, 3), ("TuneLoans$Tune", F_tu, 2), ("TuneLoans$Borrower", F_bo, 3), ("TuneLoans$Loan", F_lo, 7), ("TuneLoans$Years", F_ye, 8), ("TuneLoans$Turns", F_tr, 3), ("TuneLoans$Likeness", F_li, 1), ("TuneLoans$Chance", F_ch, 4), ("TuneLoans$Sheet", F_sh, 3), ("TuneLoansModel", F_mo, 26)]
def fyc : Nat → Nat → FieldType := fun ci => match ci with
  | 0 => fy_tl
  | 1 => fy_bk
  | 2 => fy_tx
  | 3 => fy_tu
  | 4 => fy_bo
  | 5 => fy_lo
  | 6 => fy_ye
  | 7 => fy_tr
  | 8 => fy_li
  | 9 => fy_ch
  | 10 => fy_sh
  | _ => fy_mo
theorem cw_tl : ∀ w ∈ u_ws "TuneLoans" F_tl 8, w ∈ TB := by
  intro w h
  obtain ⟨k, hk, rfl⟩ := List.mem_map.mp h
  have hk := List.mem_range.mp hk
  match k, hk with
  | 0, _ => exact mem_tb 350 (by decide +kernel) (by decide +kernel)
  | 1, _ => exact mem_tb 352 (by decide +kernel) (by decide +kernel)
  | 2, _ => exact mem_tb 354 (by decide +kernel) (by decide +kernel)
  | 3, _ => exact mem_tb 356 (by decide +kernel) (by decide +kernel)
  | 4, _ => exact mem_tb 358 (by decide +kernel) (by decide +kernel)
  | 5, _ => exact mem_tb 360 (by decide +kernel) (by decide +kernel)
  | 6, _ => exact mem_tb 362 (by decide +kernel) (by decide +kernel)
  | 7, _ => exact mem_tb 364 (by decide +kernel) (by decide +kernel)
theorem cn_tl : ∀ a, a < 8 → ∀ b, b < 8 → a ≠ b → (F_tl a).2.1 ≠ (F_tl b).2.1 := by decide +kernel
theorem ct_tl : ∀ k, k < 8 → parseFieldDescriptor (F_tl k).2.2.1 = some (fy_tl k) := by decide +kernel
theorem cw_bk : ∀ w ∈ u_ws "TuneLoans$Book" F_bk 7, w ∈ TB := by
  intro w h
  obtain ⟨k, hk, rfl⟩ := List.mem_map.mp h
  have hk := List.mem_range.mp hk
  match k, hk with
  | 0, _ => exact mem_tb 224 (by decide +kernel) (by decide +kernel)
  | 1, _ => exact mem_tb 226 (by decide +kernel) (by decide +kernel)
  | 2, _ => exact mem_tb 228 (by decide +kernel) (by decide +kernel)
  | 3, _ => exact mem_tb 230 (by decide +kernel) (by decide +kernel)
  | 4, _ => exact mem_tb 232 (by decide +kernel) (by decide +kernel)
  | 5, _ => exact mem_tb 234 (by decide +kernel) (by decide +kernel)
  | 6, _ => exact mem_tb 236 (by decide +kernel) (by decide +kernel)
theorem cn_bk : ∀ a, a < 7 → ∀ b, b < 7 → a ≠ b → (F_bk a).2.1 ≠ (F_bk b).2.1 := by decide +kernel
theorem ct_bk : ∀ k, k < 7 → parseFieldDescriptor (F_bk k).2.2.1 = some (fy_bk k) := by decide +kernel
theorem cw_tx : ∀ w ∈ u_ws "TuneLoans$Text" F_tx 3, w ∈ TB := by
  intro w h
  obtain ⟨k, hk, rfl⟩ := List.mem_map.mp h
  have hk := List.mem_range.mp hk
  match k, hk with
  | 0, _ => exact mem_tb 115 (by decide +kernel) (by decide +kernel)
  | 1, _ => exact mem_tb 117 (by decide +kernel) (by decide +kernel)
  | 2, _ => exact mem_tb 119 (by decide +kernel) (by decide +kernel)
theorem cn_tx : ∀ a, a < 3 → ∀ b, b < 3 → a ≠ b → (F_tx a).2.1 ≠ (F_tx b).2.1 := by decide +kernel
theorem ct_tx : ∀ k, k < 3 → parseFieldDescriptor (F_tx k).2.2.1 = some (fy_tx k) := by decide +kernel
theorem cw_tu : ∀ w ∈ u_ws "TuneLoans$Tune" F_tu 2, w ∈ TB := by
  intro w h
  obtain ⟨k, hk, rfl⟩ := List.mem_map.mp h
  have hk := List.mem_range.mp hk
  match k, hk with
  | 0, _ => exact mem_tb 137 (by decide +kernel) (by decide +kernel)
  | 1, _ => exact mem_tb 139 (by decide +kernel) (by decide +kernel)
theorem cn_tu : ∀ a, a < 2 → ∀ b, b < 2 → a ≠ b → (F_tu a).2.1 ≠ (F_tu b).2.1 := by decide +kernel
theorem ct_tu : ∀ k, k < 2 → parseFieldDescriptor (F_tu k).2.2.1 = some (fy_tu k) := by decide +kernel
theorem cw_bo : ∀ w ∈ u_ws "TuneLoans$Borrower" F_bo 3, w ∈ TB := by
  intro w h
  obtain ⟨k, hk, rfl⟩ := List.mem_map.mp h
  have hk := List.mem_range.mp hk
  match k, hk with
  | 0, _ => exact mem_tb 156 (by decide +kernel) (by decide +kernel)
  | 1, _ => exact mem_tb 158 (by decide +kernel) (by decide +kernel)
  | 2, _ => exact mem_tb 160 (by decide +kernel) (by decide +kernel)
theorem cn_bo : ∀ a, a < 3 → ∀ b, b < 3 → a ≠ b → (F_bo a).2.1 ≠ (F_bo b).2.1 := by decide +kernel
theorem ct_bo : ∀ k, k < 3 → parseFieldDescriptor (F_bo k).2.2.1 = some (fy_bo k) := by decide +kernel
theorem cw_lo : ∀ w ∈ u_ws "TuneLoans$Loan" F_lo 7, w ∈ TB := by
  intro w h
  obtain ⟨k, hk, rfl⟩ := List.mem_map.mp h
  have hk := List.mem_range.mp hk
  match k, hk with
  | 0, _ => exact mem_tb 183 (by decide +kernel) (by decide +kernel)
  | 1, _ => exact mem_tb 185 (by decide +kernel) (by decide +kernel)
  | 2, _ => exact mem_tb 187 (by decide +kernel) (by decide +kernel)
  | 3, _ => exact mem_tb 189 (by decide +kernel) (by decide +kernel)
  | 4, _ => exact mem_tb 191 (by decide +kernel) (by decide +kernel)
  | 5, _ => exact mem_tb 193 (by decide +kernel) (by decide +kernel)
  | 6, _ => exact mem_tb 195 (by decide +kernel) (by decide +kernel)
theorem cn_lo : ∀ a, a < 7 → ∀ b, b < 7 → a ≠ b → (F_lo a).2.1 ≠ (F_lo b).2.1 := by decide +kernel
theorem ct_lo : ∀ k, k < 7 → parseFieldDescriptor (F_lo k).2.2.1 = some (fy_lo k) := by decide +kernel
theorem cw_ye : ∀ w ∈ u_ws "TuneLoans$Years" F_ye 8, w ∈ TB := by
  intro w h
  obtain ⟨k, hk, rfl⟩ := List.mem_map.mp h
  have hk := List.mem_range.mp hk
  match k, hk with
  | 0, _ => exact mem_tb 255 (by decide +kernel) (by decide +kernel)
  | 1, _ => exact mem_tb 257 (by decide +kernel) (by decide +kernel)
  | 2, _ => exact mem_tb 259 (by decide +kernel) (by decide +kernel)
  | 3, _ => exact mem_tb 261 (by decide +kernel) (by decide +kernel)
  | 4, _ => exact mem_tb 263 (by decide +kernel) (by decide +kernel)
  | 5, _ => exact mem_tb 265 (by decide +kernel) (by decide +kernel)
  | 6, _ => exact mem_tb 267 (by decide +kernel) (by decide +kernel)
  | 7, _ => exact mem_tb 269 (by decide +kernel) (by decide +kernel)
theorem cn_ye : ∀ a, a < 8 → ∀ b, b < 8 → a ≠ b → (F_ye a).2.1 ≠ (F_ye b).2.1 := by decide +kernel
theorem ct_ye : ∀ k, k < 8 → parseFieldDescriptor (F_ye k).2.2.1 = some (fy_ye k) := by decide +kernel
theorem cw_tr : ∀ w ∈ u_ws "TuneLoans$Turns" F_tr 3, w ∈ TB := by
  intro w h
  obtain ⟨k, hk, rfl⟩ := List.mem_map.mp h
  have hk := List.mem_range.mp hk
  match k, hk with
  | 0, _ => exact mem_tb 283 (by decide +kernel) (by decide +kernel)
  | 1, _ => exact mem_tb 285 (by decide +kernel) (by decide +kernel)
  | 2, _ => exact mem_tb 287 (by decide +kernel) (by decide +kernel)
theorem cn_tr : ∀ a, a < 3 → ∀ b, b < 3 → a ≠ b → (F_tr a).2.1 ≠ (F_tr b).2.1 := by decide +kernel
theorem ct_tr : ∀ k, k < 3 → parseFieldDescriptor (F_tr k).2.2.1 = some (fy_tr k) := by decide +kernel
theorem cw_li : ∀ w ∈ u_ws "TuneLoans$Likeness" F_li 1, w ∈ TB := by
  intro w h
  obtain ⟨k, hk, rfl⟩ := List.mem_map.mp h
  have hk := List.mem_range.mp hk
  match k, hk with
  | 0, _ => exact mem_tb 297 (by decide +kernel) (by decide +kernel)
theorem cn_li : ∀ a, a < 1 → ∀ b, b < 1 → a ≠ b → (F_li a).2.1 ≠ (F_li b).2.1 := by decide +kernel
theorem ct_li : ∀ k, k < 1 → parseFieldDescriptor (F_li k).2.2.1 = some (fy_li k) := by decide +kernel
theorem cw_ch : ∀ w ∈ u_ws "TuneLoans$Chance" F_ch 4, w ∈ TB := by
  intro w h
  obtain ⟨k, hk, rfl⟩ := List.mem_map.mp h
  have hk := List.mem_range.mp hk
  match k, hk with
  | 0, _ => exact mem_tb 313 (by decide +kernel) (by decide +kernel)
  | 1, _ => exact mem_tb 315 (by decide +kernel) (by decide +kernel)
  | 2, _ => exact mem_tb 317 (by decide +kernel) (by decide +kernel)
  | 3, _ => exact mem_tb 319 (by decide +kernel) (by decide +kernel)
theorem cn_ch : ∀ a, a < 4 → ∀ b, b < 4 → a ≠ b → (F_ch a).2.1 ≠ (F_ch b).2.1 := by decide +kernel
theorem ct_ch : ∀ k, k < 4 → parseFieldDescriptor (F_ch k).2.2.1 = some (fy_ch k) := by decide +kernel
theorem cw_sh : ∀ w ∈ u_ws "TuneLoans$Sheet" F_sh 3, w ∈ TB := by
  intro w h
  obtain ⟨k, hk, rfl⟩ := List.mem_map.mp h
  have hk := List.mem_range.mp hk
  match k, hk with
  | 0, _ => exact mem_tb 335 (by decide +kernel) (by decide +kernel)
  | 1, _ => exact mem_tb 337 (by decide +kernel) (by decide +kernel)
  | 2, _ => exact mem_tb 339 (by decide +kernel) (by decide +kernel)
theorem cn_sh : ∀ a, a < 3 → ∀ b, b < 3 → a ≠ b → (F_sh a).2.1 ≠ (F_sh b).2.1 := by decide +kernel
theorem ct_sh : ∀ k, k < 3 → parseFieldDescriptor (F_sh k).2.2.1 = some (fy_sh k) := by decide +kernel
theorem cw_mo : ∀ w ∈ u_ws "TuneLoansModel" F_mo 26, w ∈ TB := by
  intro w h
  obtain ⟨k, hk, rfl⟩ := List.mem_map.mp h
  have hk := List.mem_range.mp hk
  match k, hk with
  | 0, _ => exact mem_tb 892 (by decide +kernel) (by decide +kernel)
  | 1, _ => exact mem_tb 894 (by decide +kernel) (by decide +kernel)
  | 2, _ => exact mem_tb 896 (by decide +kernel) (by decide +kernel)
  | 3, _ => exact mem_tb 898 (by decide +kernel) (by decide +kernel)
  | 4, _ => exact mem_tb 900 (by decide +kernel) (by decide +kernel)
  | 5, _ => exact mem_tb 902 (by decide +kernel) (by decide +kernel)
  | 6, _ => exact mem_tb 904 (by decide +kernel) (by decide +kernel)
  | 7, _ => exact mem_tb 906 (by decide +kernel) (by decide +kernel)
  | 8, _ => exact mem_tb 908 (by decide +kernel) (by decide +kernel)
  | 9, _ => exact mem_tb 910 (by decide +kernel) (by decide +kernel)
  | 10, _ => exact mem_tb 912 (by decide +kernel) (by decide +kernel)
  | 11, _ => exact mem_tb 914 (by decide +kernel) (by decide +kernel)
  | 12, _ => exact mem_tb 916 (by decide +kernel) (by decide +kernel)
  | 13, _ => exact mem_tb 918 (by decide +kernel) (by decide +kernel)
  | 14, _ => exact mem_tb 920 (by decide +kernel) (by decide +kernel)
  | 15, _ => exact mem_tb 922 (by decide +kernel) (by decide +kernel)
  | 16, _ => exact mem_tb 924 (by decide +kernel) (by decide +kernel)
  | 17, _ => exact mem_tb 926 (by decide +kernel) (by decide +kernel)
  | 18, _ => exact mem_tb 928 (by decide +kernel) (by decide +kernel)
  | 19, _ => exact mem_tb 930 (by decide +kernel) (by decide +kernel)
  | 20, _ => exact mem_tb 932 (by decide +kernel) (by decide +kernel)
  | 21, _ => exact mem_tb 934 (by decide +kernel) (by decide +kernel)
  | 22, _ => exact mem_tb 936 (by decide +kernel) (by decide +kernel)
  | 23, _ => exact mem_tb 938 (by decide +kernel) (by decide +kernel)
  | 24, _ => exact mem_tb 940 (by decide +kernel) (by decide +kernel)
  | 25, _ => exact mem_tb 942 (by decide +kernel) (by decide +kernel)
  | k + 26, hk => exact absurd hk (by omega)
theorem cn_mo : ∀ a, a < 26 → ∀ b, b < 26 → a ≠ b → (F_mo a).2.1 ≠ (F_mo b).2.1 := by decide +kernel
theorem ct_mo : ∀ k, k < 26 → parseFieldDescriptor (F_mo k).2.2.1 = some (fy_mo k) := by decide +kernel
theorem cl_ok : ∀ (ci : Nat) (C : String) (T : u_T) (N : Nat), CL[ci]? = some (C, T, N) → (∀ w ∈ u_ws C T N, w ∈ TB) ∧ (∀ a, a < N → ∀ b, b < N → a ≠ b → (T a).2.1 ≠ (T b).2.1) ∧ ∀ k, k < N → parseFieldDescriptor (T k).2.2.1 = some (fyc ci k) := by
  intro ci C T N h
  match ci, h with
  | 0, h => cases h; exact ⟨cw_tl, cn_tl, ct_tl⟩
  | 1, h => cases h; exact ⟨cw_bk, cn_bk, ct_bk⟩
  | 2, h => cases h; exact ⟨cw_tx, cn_tx, ct_tx⟩
  | 3, h => cases h; exact ⟨cw_tu, cn_tu, ct_tu⟩
  | 4, h => cases h; exact ⟨cw_bo, cn_bo, ct_bo⟩
  | 5, h => cases h; exact ⟨cw_lo, cn_lo, ct_lo⟩
  | 6, h => cases h; exact ⟨cw_ye, cn_ye, ct_ye⟩
  | 7, h => cases h; exact ⟨cw_tr, cn_tr, ct_tr⟩
  | 8, h => cases h; exact ⟨cw_li, cn_li, ct_li⟩
  | 9, h => cases h; exact ⟨cw_ch, cn_ch, ct_ch⟩
  | 10, h => cases h; exact ⟨cw_sh, cn_sh, ct_sh⟩
  | 11, h => cases h; exact ⟨cw_mo, cn_mo, ct_mo⟩
  | ci + 12, h => simp [CL] at h
/-- a method: its name, its bytes, its locals, its answer, its room (frames, cells, slots, locals) -/
abbrev MD : Type := MethodName × ByteArray × Nat × Option FieldType × Nat × Nat × Nat × Nat
abbrev J_bk_init : MD := (⟨"TuneLoans$Book", "<init>", "()V"⟩, prog_2_method_1_code, 2, none, 2, 38, 504, 61)
abbrev J_bk_readTunes : MD := (⟨"TuneLoans$Book", "readTunes", "()V"⟩, prog_2_method_2_code, 7, none, 2, 0, 0, 43)
abbrev J_bk_readBorrowers : MD := (⟨"TuneLoans$Book", "readBorrowers", "()V"⟩, prog_2_method_3_code, 4, none, 5, 0, 0, 149)
abbrev J_bk_goesOn : MD := (⟨"TuneLoans$Book", "goesOn", "(LTuneLoans$Text;I)Z"⟩, prog_2_method_4_code, 4, (some .boolean), 4, 0, 0, 126)
abbrev J_bk_toldNotes : MD := (⟨"TuneLoans$Book", "toldNotes", "()I"⟩, prog_2_method_5_code, 3, (some .int), 0, 0, 0, 0)
abbrev J_bk_countingLoans : MD := (⟨"TuneLoans$Book", "countingLoans", "()I"⟩, prog_2_method_6_code, 3, (some .int), 0, 0, 0, 0)
abbrev J_bo_init : MD := (⟨"TuneLoans$Borrower", "<init>", "()V"⟩, prog_3_method_1_code, 1, none, 1, 0, 0, 40)
abbrev J_ch_init : MD := (⟨"TuneLoans$Chance", "<init>", "()V"⟩, prog_4_method_1_code, 1, none, 2, 5, 94, 60)
abbrev J_ch_weigh : MD := (⟨"TuneLoans$Chance", "weigh", "(II)V"⟩, prog_4_method_2_code, 5, none, 0, 0, 0, 0)
abbrev J_ch_weightOf : MD := (⟨"TuneLoans$Chance", "weightOf", "(LTuneLoans$Tune;LTuneLoans$Borrower;II)J"⟩, prog_4_method_3_code, 8, (some .long), 3, 0, 0, 102)
abbrev J_ch_fairSize : MD := (⟨"TuneLoans$Chance", "fairSize", "(LTuneLoans$Book;III)I"⟩, prog_4_method_4_code, 8, (some .int), 3, 0, 0, 102)
abbrev J_ch_lot : MD := (⟨"TuneLoans$Chance", "lot", "(I)I"⟩, prog_4_method_5_code, 2, (some .int), 0, 0, 0, 0)
abbrev J_ch_hum : MD := (⟨"TuneLoans$Chance", "hum", "(LTuneLoans$Borrower;)V"⟩, prog_4_method_6_code, 2, none, 2, 0, 0, 81)
abbrev J_li_init : MD := (⟨"TuneLoans$Likeness", "<init>", "()V"⟩, prog_5_method_1_code, 1, none, 1, 1, 7, 40)
abbrev J_li_of : MD := (⟨"TuneLoans$Likeness", "of", "(LTuneLoans$Tune;LTuneLoans$Tune;)I"⟩, prog_5_method_2_code, 8, (some .int), 1, 0, 0, 21)
abbrev J_lo_init : MD := (⟨"TuneLoans$Loan", "<init>", "()V"⟩, prog_6_method_1_code, 1, none, 1, 0, 0, 40)
abbrev J_sh_init : MD := (⟨"TuneLoans$Sheet", "<init>", "()V"⟩, prog_7_method_1_code, 1, none, 1, 1, 60, 40)
abbrev J_sh_isLost : MD := (⟨"TuneLoans$Sheet", "isLost", "()Z"⟩, prog_7_method_2_code, 1, (some .boolean), 0, 0, 0, 0)
abbrev J_sh_begin : MD := (⟨"TuneLoans$Sheet", "begin", "(II)V"⟩, prog_7_method_3_code, 4, none, 0, 0, 0, 0)
abbrev J_sh_put : MD := (⟨"TuneLoans$Sheet", "put", "(II)V"⟩, prog_7_method_4_code, 3, none, 0, 0, 0, 0)
abbrev J_sh_hasSpan : MD := (⟨"TuneLoans$Sheet", "hasSpan", "(II)Z"⟩, prog_7_method_5_code, 3, (some .boolean), 0, 0, 0, 0)
abbrev J_tx_init : MD := (⟨"TuneLoans$Text", "<init>", "(I)V"⟩, prog_8_method_1_code, 2, none, 1, 1, 59, 40)
abbrev J_tx_noteAt : MD := (⟨"TuneLoans$Text", "noteAt", "(I)I"⟩, prog_8_method_2_code, 2, (some .int), 1, 0, 0, 22)
abbrev J_tu_init : MD := (⟨"TuneLoans$Tune", "<init>", "()V"⟩, prog_9_method_1_code, 1, none, 1, 1, 40, 40)
abbrev J_tu_at : MD := (⟨"TuneLoans$Tune", "at", "(I)I"⟩, prog_9_method_2_code, 2, (some .int), 0, 0, 0, 0)
abbrev J_tu_add : MD := (⟨"TuneLoans$Tune", "add", "(I)V"⟩, prog_9_method_3_code, 2, none, 0, 0, 0, 0)
abbrev J_tu_become : MD := (⟨"TuneLoans$Tune", "become", "(LTuneLoans$Tune;)V"⟩, prog_9_method_4_code, 2, none, 1, 0, 0, 60)
abbrev J_tu_becomeHummed : MD := (⟨"TuneLoans$Tune", "becomeHummed", "(LTuneLoans$Tune;LTuneLoans$Borrower;)V"⟩, prog_9_method_5_code, 6, none, 1, 0, 0, 21)
abbrev J_tu_bits : MD := (⟨"TuneLoans$Tune", "bits", "()I"⟩, prog_9_method_6_code, 3, (some .int), 0, 0, 0, 0)
abbrev J_tu_isLike : MD := (⟨"TuneLoans$Tune", "isLike", "(LTuneLoans$Tune;)Z"⟩, prog_9_method_7_code, 3, (some .boolean), 0, 0, 0, 0)
abbrev J_tr_init : MD := (⟨"TuneLoans$Turns", "<init>", "()V"⟩, prog_10_method_1_code, 2, none, 2, 10, 175, 60)
abbrev J_tr_begin : MD := (⟨"TuneLoans$Turns", "begin", "(LTuneLoans$Tune;)V"⟩, prog_10_method_2_code, 2, none, 2, 0, 0, 81)
abbrev J_tr_rowsOf : MD := (⟨"TuneLoans$Turns", "rowsOf", "(LTuneLoans$Book;I)I"⟩, prog_10_method_3_code, 5, (some .int), 0, 0, 0, 0)
abbrev J_tr_turnOf : MD := (⟨"TuneLoans$Turns", "turnOf", "(LTuneLoans$Book;III)I"⟩, prog_10_method_4_code, 7, (some .int), 1, 0, 0, 24)
abbrev J_tr_after : MD := (⟨"TuneLoans$Turns", "after", "(LTuneLoans$Book;II)LTuneLoans$Tune;"⟩, prog_10_method_5_code, 6, (some (.object "TuneLoans$Tune")), 2, 0, 0, 50)
abbrev J_tr_figures : MD := (⟨"TuneLoans$Turns", "figures", "(LTuneLoans$Book;II)I"⟩, prog_10_method_6_code, 6, (some .int), 2, 0, 0, 50)
abbrev J_ye_init : MD := (⟨"TuneLoans$Years", "<init>", "()V"⟩, prog_11_method_1_code, 2, none, 2, 32, 10644, 60)
abbrev J_ye_forget : MD := (⟨"TuneLoans$Years", "forget", "()V"⟩, prog_11_method_2_code, 1, none, 0, 0, 0, 0)
abbrev J_ye_live : MD := (⟨"TuneLoans$Years", "live", "(LTuneLoans$Book;ILTuneLoans$Likeness;)V"⟩, prog_11_method_3_code, 5, none, 3, 0, 0, 108)
abbrev J_ye_sizeOf : MD := (⟨"TuneLoans$Years", "sizeOf", "(II)I"⟩, prog_11_method_4_code, 3, (some .int), 0, 0, 0, 0)
abbrev J_ye_noteOf : MD := (⟨"TuneLoans$Years", "noteOf", "(III)I"⟩, prog_11_method_5_code, 5, (some .int), 0, 0, 0, 0)
abbrev J_ye_holderOf : MD := (⟨"TuneLoans$Years", "holderOf", "(II)I"⟩, prog_11_method_6_code, 3, (some .int), 0, 0, 0, 0)
abbrev J_ye_allAtBank : MD := (⟨"TuneLoans$Years", "allAtBank", "(LTuneLoans$Book;I)Z"⟩, prog_11_method_7_code, 4, (some .boolean), 1, 0, 0, 22)
abbrev J_ye_begin : MD := (⟨"TuneLoans$Years", "begin", "(LTuneLoans$Book;)V"⟩, prog_11_method_8_code, 4, none, 2, 0, 0, 81)
abbrev J_ye_lendOut : MD := (⟨"TuneLoans$Years", "lendOut", "(LTuneLoans$Book;I)V"⟩, prog_11_method_9_code, 6, none, 2, 0, 0, 81)
abbrev J_ye_humLent : MD := (⟨"TuneLoans$Years", "humLent", "(LTuneLoans$Book;)V"⟩, prog_11_method_10_code, 3, none, 2, 0, 0, 81)
abbrev J_ye_comeBack : MD := (⟨"TuneLoans$Years", "comeBack", "(LTuneLoans$Book;IILTuneLoans$Likeness;)V"⟩, prog_11_method_11_code, 8, none, 2, 0, 0, 81)
abbrev J_ye_keep : MD := (⟨"TuneLoans$Years", "keep", "(LTuneLoans$Book;I)V"⟩, prog_11_method_12_code, 5, none, 1, 0, 0, 60)
abbrev J_tl_init : MD := (⟨"TuneLoans", "<init>", "()V"⟩, prog_1_method_1_code, 2, none, 3, 200, 20000, 82)
abbrev J_tl_type : MD := (⟨"TuneLoans", "type", "(II)I"⟩, prog_1_method_2_code, 4, (some .int), 7, 0, 0, 194)
abbrev J_tl_wipe : MD := (⟨"TuneLoans", "wipe", "(I)I"⟩, prog_1_method_3_code, 3, (some .int), 7, 0, 0, 194)
abbrev J_tl_undo : MD := (⟨"TuneLoans", "undo", "(I)I"⟩, prog_1_method_4_code, 3, (some .int), 7, 0, 0, 194)
abbrev J_tl_fault : MD := (⟨"TuneLoans", "fault", "(I)I"⟩, prog_1_method_5_code, 2, (some .int), 2, 0, 0, 42)
abbrev J_tl_tune : MD := (⟨"TuneLoans", "tune", "(II)I"⟩, prog_1_method_6_code, 4, (some .int), 2, 0, 0, 43)
abbrev J_tl_borrower : MD := (⟨"TuneLoans", "borrower", "(II)I"⟩, prog_1_method_7_code, 4, (some .int), 2, 0, 0, 43)
abbrev J_tl_loan : MD := (⟨"TuneLoans", "loan", "(IIII)I"⟩, prog_1_method_8_code, 6, (some .int), 2, 0, 0, 42)
abbrev J_tl_back : MD := (⟨"TuneLoans", "back", "()I"⟩, prog_1_method_9_code, 1, (some .int), 1, 0, 0, 20)
abbrev J_tl_read : MD := (⟨"TuneLoans", "read", "(I)I"⟩, prog_1_method_10_code, 7, (some .int), 3, 0, 0, 67)
abbrev J_tl_ear : MD := (⟨"TuneLoans", "ear", "(I)I"⟩, prog_1_method_11_code, 3, (some .int), 2, 0, 0, 42)
abbrev J_tl_notes : MD := (⟨"TuneLoans", "notes", "(III)I"⟩, prog_1_method_12_code, 4, (some .int), 4, 0, 0, 132)
abbrev J_tl_has : MD := (⟨"TuneLoans", "has", "(II)I"⟩, prog_1_method_13_code, 3, (some .int), 4, 0, 0, 132)
abbrev J_tl_came : MD := (⟨"TuneLoans", "came", "(II)I"⟩, prog_1_method_14_code, 5, (some .int), 4, 0, 0, 132)
abbrev J_tl_interest : MD := (⟨"TuneLoans", "interest", "(I)I"⟩, prog_1_method_15_code, 2, (some .int), 5, 0, 0, 156)
abbrev J_tl_home : MD := (⟨"TuneLoans", "home", "(I)I"⟩, prog_1_method_16_code, 3, (some .int), 4, 0, 0, 132)
abbrev J_tl_lend : MD := (⟨"TuneLoans", "lend", "(III)I"⟩, prog_1_method_17_code, 7, (some .int), 3, 0, 0, 102)
abbrev J_tl_longest : MD := (⟨"TuneLoans", "longest", "(III)I"⟩, prog_1_method_18_code, 9, (some .int), 3, 0, 0, 102)
abbrev J_tl_who : MD := (⟨"TuneLoans", "who", "(III)I"⟩, prog_1_method_19_code, 10, (some .int), 3, 0, 0, 102)
abbrev J_tl_common : MD := (⟨"TuneLoans", "common", "(II)I"⟩, prog_1_method_20_code, 3, (some .int), 2, 0, 0, 48)
abbrev J_tl_far : MD := (⟨"TuneLoans", "far", "(II)I"⟩, prog_1_method_21_code, 3, (some .int), 2, 0, 0, 48)
abbrev J_tl_nearest : MD := (⟨"TuneLoans", "nearest", "(I)I"⟩, prog_1_method_22_code, 6, (some .int), 3, 0, 0, 70)
abbrev J_tl_mothers : MD := (⟨"TuneLoans", "mothers", "(I)I"⟩, prog_1_method_23_code, 5, (some .int), 2, 0, 0, 48)
abbrev J_tl_tells : MD := (⟨"TuneLoans", "tells", "(II)I"⟩, prog_1_method_24_code, 7, (some .int), 3, 0, 0, 67)
abbrev J_tl_loses : MD := (⟨"TuneLoans", "loses", "(I)I"⟩, prog_1_method_25_code, 2, (some .int), 5, 0, 0, 156)
abbrev J_tl_best : MD := (⟨"TuneLoans", "best", "(I)I"⟩, prog_1_method_26_code, 3, (some .int), 5, 0, 0, 156)
abbrev J_tl_hums : MD := (⟨"TuneLoans", "hums", "(IIIIII)J"⟩, prog_1_method_27_code, 13, (some .long), 4, 0, 0, 129)
abbrev J_tl_fair : MD := (⟨"TuneLoans", "fair", "(III)I"⟩, prog_1_method_28_code, 4, (some .int), 4, 0, 0, 129)
abbrev J_tl_sheet : MD := (⟨"TuneLoans", "sheet", "(III)I"⟩, prog_1_method_29_code, 4, (some .int), 2, 0, 0, 42)
abbrev J_tl_lose : MD := (⟨"TuneLoans", "lose", "(I)I"⟩, prog_1_method_30_code, 3, (some .int), 2, 0, 0, 42)
abbrev J_tl_lay : MD := (⟨"TuneLoans", "lay", "(IIII)I"⟩, prog_1_method_31_code, 6, (some .int), 3, 0, 0, 66)
abbrev J_tl_get : MD := (⟨"TuneLoans", "get", "(III)I"⟩, prog_1_method_32_code, 4, (some .int), 3, 0, 0, 66)
abbrev J_tl_copy : MD := (⟨"TuneLoans", "copy", "(IIIII)I"⟩, prog_1_method_33_code, 8, (some .int), 2, 0, 0, 60)
abbrev J_tl_write : MD := (⟨"TuneLoans", "write", "(III)I"⟩, prog_1_method_34_code, 7, (some .int), 4, 0, 0, 132)
abbrev J_tl_count : MD := (⟨"TuneLoans", "count", "(I)I"⟩, prog_1_method_35_code, 2, (some .int), 4, 0, 0, 132)
abbrev J_tl_digest : MD := (⟨"TuneLoans", "digest", "()J"⟩, prog_1_method_36_code, 5, (some .long), 6, 0, 0, 186)
abbrev J_tl_digestAlone : MD := (⟨"TuneLoans", "digestAlone", "(JI)J"⟩, prog_1_method_37_code, 6, (some .long), 5, 0, 0, 155)
abbrev J_tl_digestTogether : MD := (⟨"TuneLoans", "digestTogether", "(JI)J"⟩, prog_1_method_38_code, 6, (some .long), 5, 0, 0, 161)
abbrev J_tl_within : MD := (⟨"TuneLoans", "within", "(III)Z"⟩, prog_1_method_39_code, 3, (some .boolean), 0, 0, 0, 0)
abbrev J_tl_isText : MD := (⟨"TuneLoans", "isText", "(I)Z"⟩, prog_1_method_40_code, 1, (some .boolean), 1, 0, 0, 22)
abbrev J_tl_isYear : MD := (⟨"TuneLoans", "isYear", "(I)Z"⟩, prog_1_method_41_code, 1, (some .boolean), 1, 0, 0, 22)
abbrev J_tl_isEar : MD := (⟨"TuneLoans", "isEar", "(I)Z"⟩, prog_1_method_42_code, 1, (some .boolean), 1, 0, 0, 22)
abbrev J_tl_isSheet : MD := (⟨"TuneLoans", "isSheet", "(I)Z"⟩, prog_1_method_43_code, 1, (some .boolean), 1, 0, 0, 22)
abbrev J_tl_isForm : MD := (⟨"TuneLoans", "isForm", "(I)Z"⟩, prog_1_method_44_code, 1, (some .boolean), 1, 0, 0, 22)
abbrev J_tl_isTune : MD := (⟨"TuneLoans", "isTune", "(I)Z"⟩, prog_1_method_45_code, 2, (some .boolean), 1, 0, 0, 22)
abbrev J_tl_isBorrower : MD := (⟨"TuneLoans", "isBorrower", "(I)Z"⟩, prog_1_method_46_code, 2, (some .boolean), 1, 0, 0, 22)
abbrev J_tl_found : MD := (⟨"TuneLoans", "found", "(I)I"⟩, prog_1_method_47_code, 2, (some .int), 0, 0, 0, 0)
abbrev J_tl_resized : MD := (⟨"TuneLoans", "resized", "(II)I"⟩, prog_1_method_48_code, 3, (some .int), 6, 0, 0, 172)
abbrev J_tl_interestBy : MD := (⟨"TuneLoans", "interestBy", "(II)I"⟩, prog_1_method_49_code, 5, (some .int), 4, 0, 0, 132)
abbrev J_tl_tellFromAll : MD := (⟨"TuneLoans", "tellFromAll", "(II)Z"⟩, prog_1_method_50_code, 4, (some .boolean), 2, 0, 0, 44)
abbrev J_tl_tellFrom : MD := (⟨"TuneLoans", "tellFrom", "(LTuneLoans$Tune;LTuneLoans$Tune;I)Z"⟩, prog_1_method_51_code, 4, (some .boolean), 1, 0, 0, 21)
abbrev J_tl_refusalOfItem : MD := (⟨"TuneLoans", "refusalOfItem", "(III)I"⟩, prog_1_method_52_code, 5, (some .int), 2, 0, 0, 42)
abbrev J_mo_init : MD := (⟨"TuneLoansModel", "<init>", "()V"⟩, prog_13_method_1_code, 2, none, 1, 40, 4000, 40)
abbrev J_mo_in : MD := (⟨"TuneLoansModel", "in", "(JJJ)Z"⟩, prog_13_method_3_code, 6, (some .boolean), 0, 0, 0, 0)
abbrev J_mo_no : MD := (⟨"TuneLoansModel", "no", "(I)J"⟩, prog_13_method_4_code, 1, (some .long), 0, 0, 0, 0)
abbrev J_mo_isTwo : MD := (⟨"TuneLoansModel", "isTwo", "(I)Z"⟩, prog_13_method_5_code, 1, (some .boolean), 1, 0, 0, 25)
abbrev J_mo_isIn : MD := (⟨"TuneLoansModel", "isIn", "(II)Z"⟩, prog_13_method_6_code, 2, (some .boolean), 0, 0, 0, 0)
abbrev J_mo_ones : MD := (⟨"TuneLoansModel", "ones", "(I)I"⟩, prog_13_method_7_code, 3, (some .int), 0, 0, 0, 0)
abbrev J_mo_lesser : MD := (⟨"TuneLoansModel", "lesser", "(II)I"⟩, prog_13_method_8_code, 2, (some .int), 0, 0, 0, 0)
abbrev J_mo_greater : MD := (⟨"TuneLoansModel", "greater", "(II)I"⟩, prog_13_method_9_code, 2, (some .int), 0, 0, 0, 0)
abbrev J_mo_part : MD := (⟨"TuneLoansModel", "part", "(JJI)J"⟩, prog_13_method_10_code, 11, (some .long), 0, 0, 0, 0)
abbrev J_mo_finds : MD := (⟨"TuneLoansModel", "finds", "(I)I"⟩, prog_13_method_11_code, 2, (some .int), 0, 0, 0, 0)
abbrev J_mo_isSheet : MD := (⟨"TuneLoansModel", "isSheet", "(I)Z"⟩, prog_13_method_12_code, 1, (some .boolean), 1, 0, 0, 25)
abbrev J_mo_sheet : MD := (⟨"TuneLoansModel", "sheet", "(III)I"⟩, prog_13_method_13_code, 5, (some .int), 2, 0, 0, 45)
abbrev J_mo_lose : MD := (⟨"TuneLoansModel", "lose", "(I)I"⟩, prog_13_method_14_code, 2, (some .int), 2, 0, 0, 45)
abbrev J_mo_lacks : MD := (⟨"TuneLoansModel", "lacks", "(III)I"⟩, prog_13_method_15_code, 4, (some .int), 1, 0, 0, 25)
abbrev J_mo_cut : MD := (⟨"TuneLoansModel", "cut", "(II)I"⟩, prog_13_method_16_code, 2, (some .int), 0, 0, 0, 0)
abbrev J_mo_lay : MD := (⟨"TuneLoansModel", "lay", "(IIII)I"⟩, prog_13_method_17_code, 6, (some .int), 2, 0, 0, 48)
abbrev J_mo_get : MD := (⟨"TuneLoansModel", "get", "(III)I"⟩, prog_13_method_18_code, 4, (some .int), 2, 0, 0, 48)
abbrev J_mo_copy : MD := (⟨"TuneLoansModel", "copy", "(IIIII)I"⟩, prog_13_method_19_code, 7, (some .int), 2, 0, 0, 45)
abbrev J_mo_type : MD := (⟨"TuneLoansModel", "type", "(II)I"⟩, prog_13_method_20_code, 3, (some .int), 2, 0, 0, 45)
abbrev J_mo_wipe : MD := (⟨"TuneLoansModel", "wipe", "(I)I"⟩, prog_13_method_21_code, 3, (some .int), 2, 0, 0, 45)
abbrev J_mo_undo : MD := (⟨"TuneLoansModel", "undo", "(I)I"⟩, prog_13_method_22_code, 2, (some .int), 2, 0, 0, 45)
abbrev J_mo_tunesFault : MD := (⟨"TuneLoansModel", "tunesFault", "(I)I"⟩, prog_13_method_23_code, 2, (some .int), 0, 0, 0, 0)
abbrev J_mo_readsTunes : MD := (⟨"TuneLoansModel", "readsTunes", "()I"⟩, prog_13_method_24_code, 4, (some .int), 1, 0, 0, 25)
abbrev J_mo_howOf : MD := (⟨"TuneLoansModel", "howOf", "(I)I"⟩, prog_13_method_25_code, 1, (some .int), 0, 0, 0, 0)
abbrev J_mo_readsBorrowers : MD := (⟨"TuneLoansModel", "readsBorrowers", "()I"⟩, prog_13_method_26_code, 6, (some .int), 1, 0, 0, 25)
abbrev J_mo_reads : MD := (⟨"TuneLoansModel", "reads", "()V"⟩, prog_13_method_27_code, 1, none, 2, 0, 0, 50)
abbrev J_mo_fault : MD := (⟨"TuneLoansModel", "fault", "(I)I"⟩, prog_13_method_28_code, 2, (some .int), 2, 0, 0, 50)
abbrev J_mo_isTune : MD := (⟨"TuneLoansModel", "isTune", "(I)Z"⟩, prog_13_method_29_code, 2, (some .boolean), 1, 0, 0, 25)
abbrev J_mo_isBorrower : MD := (⟨"TuneLoansModel", "isBorrower", "(I)Z"⟩, prog_13_method_30_code, 2, (some .boolean), 1, 0, 0, 25)
abbrev J_mo_isYear : MD := (⟨"TuneLoansModel", "isYear", "(I)Z"⟩, prog_13_method_31_code, 1, (some .boolean), 1, 0, 0, 25)
abbrev J_mo_tune : MD := (⟨"TuneLoansModel", "tune", "(II)I"⟩, prog_13_method_32_code, 3, (some .int), 3, 0, 0, 70)
abbrev J_mo_borrower : MD := (⟨"TuneLoansModel", "borrower", "(II)I"⟩, prog_13_method_33_code, 3, (some .int), 3, 0, 0, 70)
abbrev J_mo_loan : MD := (⟨"TuneLoansModel", "loan", "(IIII)I"⟩, prog_13_method_34_code, 5, (some .int), 2, 0, 0, 45)
abbrev J_mo_back : MD := (⟨"TuneLoansModel", "back", "()I"⟩, prog_13_method_35_code, 1, (some .int), 0, 0, 0, 0)
abbrev J_mo_read : MD := (⟨"TuneLoansModel", "read", "(I)I"⟩, prog_13_method_36_code, 5, (some .int), 3, 0, 0, 69)
abbrev J_mo_ear : MD := (⟨"TuneLoansModel", "ear", "(I)I"⟩, prog_13_method_37_code, 3, (some .int), 1, 0, 0, 25)
abbrev J_mo_begins : MD := (⟨"TuneLoansModel", "begins", "(II)V"⟩, prog_13_method_38_code, 4, none, 0, 0, 0, 0)
abbrev J_mo_hummed : MD := (⟨"TuneLoansModel", "hummed", "(II)V"⟩, prog_13_method_39_code, 10, none, 1, 0, 0, 21)
abbrev J_mo_commonOf : MD := (⟨"TuneLoansModel", "commonOf", "([III[III)I"⟩, prog_13_method_40_code, 11, (some .int), 1, 0, 0, 21)
abbrev J_mo_startsAll : MD := (⟨"TuneLoansModel", "startsAll", "()V"⟩, prog_13_method_41_code, 2, none, 1, 0, 0, 23)
abbrev J_mo_lends : MD := (⟨"TuneLoansModel", "lends", "(I)V"⟩, prog_13_method_42_code, 4, none, 2, 0, 0, 46)
abbrev J_mo_returns : MD := (⟨"TuneLoansModel", "returns", "(II)V"⟩, prog_13_method_43_code, 6, none, 2, 0, 0, 51)
abbrev J_mo_goesOn : MD := (⟨"TuneLoansModel", "goesOn", "(II)V"⟩, prog_13_method_44_code, 5, none, 3, 0, 0, 76)
abbrev J_mo_lives : MD := (⟨"TuneLoansModel", "lives", "(II)V"⟩, prog_13_method_45_code, 4, none, 4, 0, 0, 100)
abbrev J_mo_notesOf : MD := (⟨"TuneLoansModel", "notesOf", "(III)I"⟩, prog_13_method_46_code, 4, (some .int), 5, 0, 0, 123)
abbrev J_mo_notes : MD := (⟨"TuneLoansModel", "notes", "(III)I"⟩, prog_13_method_47_code, 4, (some .int), 6, 0, 0, 146)
abbrev J_mo_hasOf : MD := (⟨"TuneLoansModel", "hasOf", "(II)I"⟩, prog_13_method_48_code, 3, (some .int), 5, 0, 0, 123)
abbrev J_mo_has : MD := (⟨"TuneLoansModel", "has", "(II)I"⟩, prog_13_method_49_code, 3, (some .int), 6, 0, 0, 145)
abbrev J_mo_cameOf : MD := (⟨"TuneLoansModel", "cameOf", "(II)I"⟩, prog_13_method_50_code, 3, (some .int), 5, 0, 0, 123)
abbrev J_mo_came : MD := (⟨"TuneLoansModel", "came", "(II)I"⟩, prog_13_method_51_code, 3, (some .int), 6, 0, 0, 145)
abbrev J_mo_interestBy : MD := (⟨"TuneLoansModel", "interestBy", "(II)I"⟩, prog_13_method_52_code, 5, (some .int), 5, 0, 0, 123)
abbrev J_mo_interest : MD := (⟨"TuneLoansModel", "interest", "(I)I"⟩, prog_13_method_53_code, 2, (some .int), 6, 0, 0, 147)
abbrev J_mo_homeOf : MD := (⟨"TuneLoansModel", "homeOf", "(I)I"⟩, prog_13_method_54_code, 5, (some .int), 4, 0, 0, 100)
abbrev J_mo_home : MD := (⟨"TuneLoansModel", "home", "(I)I"⟩, prog_13_method_55_code, 2, (some .int), 5, 0, 0, 124)
abbrev J_mo_codes : MD := (⟨"TuneLoansModel", "codes", "(I)I"⟩, prog_13_method_56_code, 4, (some .int), 0, 0, 0, 0)
abbrev J_mo_figureOf : MD := (⟨"TuneLoansModel", "figureOf", "(III)I"⟩, prog_13_method_57_code, 6, (some .int), 0, 0, 0, 0)
abbrev J_mo_turns : MD := (⟨"TuneLoansModel", "turns", "(III)V"⟩, prog_13_method_58_code, 5, none, 2, 0, 0, 50)
abbrev J_mo_notesNow : MD := (⟨"TuneLoansModel", "notesNow", "()I"⟩, prog_13_method_59_code, 3, (some .int), 0, 0, 0, 0)
abbrev J_mo_lendOf : MD := (⟨"TuneLoansModel", "lendOf", "(III)I"⟩, prog_13_method_60_code, 6, (some .int), 3, 0, 0, 74)
abbrev J_mo_lend : MD := (⟨"TuneLoansModel", "lend", "(III)I"⟩, prog_13_method_61_code, 4, (some .int), 4, 0, 0, 99)
abbrev J_mo_longestOf : MD := (⟨"TuneLoansModel", "longestOf", "(III)I"⟩, prog_13_method_62_code, 7, (some .int), 3, 0, 0, 74)
abbrev J_mo_longest : MD := (⟨"TuneLoansModel", "longest", "(III)I"⟩, prog_13_method_63_code, 4, (some .int), 4, 0, 0, 100)
abbrev J_mo_isNow : MD := (⟨"TuneLoansModel", "isNow", "(I)Z"⟩, prog_13_method_64_code, 4, (some .boolean), 0, 0, 0, 0)
abbrev J_mo_rowOf : MD := (⟨"TuneLoansModel", "rowOf", "(II)I"⟩, prog_13_method_65_code, 5, (some .int), 1, 0, 0, 25)
abbrev J_mo_whoOf : MD := (⟨"TuneLoansModel", "whoOf", "(III)I"⟩, prog_13_method_66_code, 8, (some .int), 3, 0, 0, 74)
abbrev J_mo_who : MD := (⟨"TuneLoansModel", "who", "(III)I"⟩, prog_13_method_67_code, 4, (some .int), 4, 0, 0, 101)
abbrev J_mo_commonBoth : MD := (⟨"TuneLoansModel", "commonBoth", "(II)I"⟩, prog_13_method_68_code, 3, (some .int), 2, 0, 0, 51)
abbrev J_mo_common : MD := (⟨"TuneLoansModel", "common", "(II)I"⟩, prog_13_method_69_code, 3, (some .int), 3, 0, 0, 73)
abbrev J_mo_farOf : MD := (⟨"TuneLoansModel", "farOf", "(II)I"⟩, prog_13_method_70_code, 3, (some .int), 3, 0, 0, 73)
abbrev J_mo_far : MD := (⟨"TuneLoansModel", "far", "(II)I"⟩, prog_13_method_71_code, 3, (some .int), 4, 0, 0, 95)
abbrev J_mo_nearestOf : MD := (⟨"TuneLoansModel", "nearestOf", "(I)I"⟩, prog_13_method_72_code, 4, (some .int), 4, 0, 0, 95)
abbrev J_mo_nearest : MD := (⟨"TuneLoansModel", "nearest", "(I)I"⟩, prog_13_method_73_code, 2, (some .int), 5, 0, 0, 118)
abbrev J_mo_mothersOf : MD := (⟨"TuneLoansModel", "mothersOf", "(I)I"⟩, prog_13_method_74_code, 4, (some .int), 3, 0, 0, 73)
abbrev J_mo_mothers : MD := (⟨"TuneLoansModel", "mothers", "(I)I"⟩, prog_13_method_75_code, 2, (some .int), 4, 0, 0, 96)
abbrev J_mo_noteAt : MD := (⟨"TuneLoansModel", "noteAt", "(II)I"⟩, prog_13_method_76_code, 3, (some .int), 0, 0, 0, 0)
abbrev J_mo_tellsOf : MD := (⟨"TuneLoansModel", "tellsOf", "(I)I"⟩, prog_13_method_77_code, 8, (some .int), 1, 0, 0, 22)
abbrev J_mo_tellsBits : MD := (⟨"TuneLoansModel", "tellsBits", "(II)I"⟩, prog_13_method_78_code, 2, (some .int), 1, 0, 0, 22)
abbrev J_mo_tells : MD := (⟨"TuneLoansModel", "tells", "(II)I"⟩, prog_13_method_79_code, 3, (some .int), 3, 0, 0, 70)
abbrev J_mo_losesOf : MD := (⟨"TuneLoansModel", "losesOf", "(I)I"⟩, prog_13_method_80_code, 2, (some .int), 6, 0, 0, 147)
abbrev J_mo_loses : MD := (⟨"TuneLoansModel", "loses", "(I)I"⟩, prog_13_method_81_code, 2, (some .int), 7, 0, 0, 168)
abbrev J_mo_bestOf : MD := (⟨"TuneLoansModel", "bestOf", "(I)I"⟩, prog_13_method_82_code, 3, (some .int), 6, 0, 0, 147)
abbrev J_mo_best : MD := (⟨"TuneLoansModel", "best", "(I)I"⟩, prog_13_method_83_code, 2, (some .int), 7, 0, 0, 169)
abbrev J_mo_humsOf : MD := (⟨"TuneLoansModel", "humsOf", "(IIIIII)J"⟩, prog_13_method_84_code, 17, (some .long), 2, 0, 0, 50)
abbrev J_mo_hums : MD := (⟨"TuneLoansModel", "hums", "(IIIIII)J"⟩, prog_13_method_85_code, 8, (some .long), 3, 0, 0, 86)
abbrev J_mo_fairOf : MD := (⟨"TuneLoansModel", "fairOf", "(III)I"⟩, prog_13_method_86_code, 7, (some .int), 2, 0, 0, 50)
abbrev J_mo_fair : MD := (⟨"TuneLoansModel", "fair", "(III)I"⟩, prog_13_method_87_code, 4, (some .int), 3, 0, 0, 76)
abbrev J_mo_write : MD := (⟨"TuneLoansModel", "write", "(III)I"⟩, prog_13_method_88_code, 6, (some .int), 5, 0, 0, 123)
abbrev J_mo_count : MD := (⟨"TuneLoansModel", "count", "(I)I"⟩, prog_13_method_89_code, 4, (some .int), 5, 0, 0, 123)
abbrev J_mo_tellsTune : MD := (⟨"TuneLoansModel", "tellsTune", "(JI)J"⟩, prog_13_method_90_code, 7, (some .long), 6, 0, 0, 146)
abbrev J_mo_digest : MD := (⟨"TuneLoansModel", "digest", "()J"⟩, prog_13_method_91_code, 5, (some .long), 7, 0, 0, 172)
abbrev J_ji_bitCount : MD := (⟨"java/lang/Integer", "bitCount", "(I)I"⟩, prog_15_method_49_code, 1, (some .int), 0, 0, 0, 0)
abbrev J_jl_bitCount : MD := (⟨"java/lang/Long", "bitCount", "(J)I"⟩, prog_16_method_50_code, 2, (some .int), 0, 0, 0, 0)
abbrev J_jm_max : MD := (⟨"java/lang/Math", "max", "(II)I"⟩, prog_17_method_65_code, 2, (some .int), 0, 0, 0, 0)
abbrev J_jm_min : MD := (⟨"java/lang/Math", "min", "(II)I"⟩, prog_17_method_69_code, 2, (some .int), 0, 0, 0, 0)
abbrev J_js_length : MD := (⟨"java/lang/String", "length", "()I"⟩, prog_18_method_54_code, 1, (some .int), 1, 0, 0, 20)
abbrev J_js_indexOf1 : MD := (⟨"java/lang/String", "indexOf", "(I)I"⟩, prog_18_method_79_code, 2, (some .int), 3, 0, 0, 105)
abbrev J_js_indexOf2 : MD := (⟨"java/lang/String", "indexOf", "(II)I"⟩, prog_18_method_80_code, 3, (some .int), 2, 0, 0, 83)
abbrev J_js_coder : MD := (⟨"java/lang/String", "coder", "()B"⟩, prog_18_method_152_code, 1, (some .byte), 0, 0, 0, 0)
abbrev J_js_isLatin1 : MD := (⟨"java/lang/String", "isLatin1", "()Z"⟩, prog_18_method_154_code, 1, (some .boolean), 0, 0, 0, 0)
abbrev J_js_checkBoundsBeginEnd : MD := (⟨"java/lang/String", "checkBoundsBeginEnd", "(III)V"⟩, prog_18_method_158_code, 3, none, 0, 0, 0, 0)
abbrev J_j1_canEncode : MD := (⟨"java/lang/StringLatin1", "canEncode", "(I)Z"⟩, prog_19_method_4_code, 1, (some .boolean), 0, 0, 0, 0)
abbrev J_j1_indexOf3 : MD := (⟨"java/lang/StringLatin1", "indexOf", "([BIII)I"⟩, prog_19_method_22_code, 4, (some .int), 1, 0, 0, 60)
abbrev J_j1_indexOfChar : MD := (⟨"java/lang/StringLatin1", "indexOfChar", "([BIII)I"⟩, prog_19_method_23_code, 6, (some .int), 0, 0, 0, 0)
abbrev J_lw_law : MD := (⟨"TuneLoansLaw", "law", "([I)Z"⟩, code, 4, (some .boolean), 13, 600000, 7302250, 506)
