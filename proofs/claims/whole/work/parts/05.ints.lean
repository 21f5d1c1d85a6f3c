/-! numbers of the machine as integers: iI, lI; rows of the world as functions of integers: aI, aL -/
def iI (z : Int) : Int32 := Int32.ofInt z
def lI (z : Int) : Int64 := Int64.ofInt z
abbrev iR (z : Int) : Prop := -2147483648 ≤ z ∧ z ≤ 2147483647
abbrev lR (z : Int) : Prop := -9223372036854775808 ≤ z ∧ z ≤ 9223372036854775807
abbrev vI (z : Int) : Value := .int (iI z)
abbrev vL (z : Int) : Value := .long (lI z)
def aI (f : Int → Int) : Nat → Int32 := fun j => iI (f (j : Int))
def aL (f : Int → Int) : Nat → Int64 := fun j => lI (f (j : Int))
def uI (f : Int → Int) (k v : Int) : Int → Int := fun j => if j = k then v else f j
def uZ {α : Type} (f : Nat → α) (k : Nat) (v : α) : Nat → α := fun j => bif Nat.beq j k then v else f j
theorem uI_s (f : Int → Int) (k v : Int) : uI f k v k = v := if_pos rfl
theorem uI_n (f : Int → Int) {k j : Int} (v : Int) (h : j ≠ k) : uI f k v j = f j := if_neg h
theorem iI_toInt {z : Int} (h : iR z) : (iI z).toInt = z := Int32.toInt_ofInt_of_le h.1 (by have := h.2; omega)
theorem lI_toInt {z : Int} (h : lR z) : (lI z).toInt = z := Int64.toInt_ofInt_of_le h.1 (by have := h.2; omega)
theorem iI_of (x : Int32) : iI x.toInt = x := Int32.ofInt_toInt x
theorem lI_of (x : Int64) : lI x.toInt = x := Int64.ofInt_toInt x
theorem iI_rng (x : Int32) : iR x.toInt := by
  have h1 := Int32.le_toInt x
  have h2 := Int32.toInt_lt x
  exact ⟨h1, by omega⟩
theorem lI_rng (x : Int64) : lR x.toInt := by
  have h1 := Int64.le_toInt x
  have h2 := Int64.toInt_lt x
  exact ⟨h1, by omega⟩
theorem iI_lt {a b : Int} (ha : iR a) (hb : iR b) : iI a < iI b ↔ a < b := by rw [Int32.lt_iff_toInt_lt, iI_toInt ha, iI_toInt hb]
theorem iI_le {a b : Int} (ha : iR a) (hb : iR b) : iI a ≤ iI b ↔ a ≤ b := by rw [Int32.le_iff_toInt_le, iI_toInt ha, iI_toInt hb]
theorem iI_eq {a b : Int} (ha : iR a) (hb : iR b) : iI a = iI b ↔ a = b := by rw [← Int32.toInt_inj, iI_toInt ha, iI_toInt hb]
theorem lI_lt {a b : Int} (ha : lR a) (hb : lR b) : lI a < lI b ↔ a < b := by rw [Int64.lt_iff_toInt_lt, lI_toInt ha, lI_toInt hb]
theorem lI_le {a b : Int} (ha : lR a) (hb : lR b) : lI a ≤ lI b ↔ a ≤ b := by rw [Int64.le_iff_toInt_le, lI_toInt ha, lI_toInt hb]
theorem lI_eq {a b : Int} (ha : lR a) (hb : lR b) : lI a = lI b ↔ a = b := by rw [← Int64.toInt_inj, lI_toInt ha, lI_toInt hb]
theorem iI_add (a b : Int) : iI a + iI b = iI (a + b) := (Int32.ofInt_add a b).symm
theorem iI_sub (a b : Int) : iI a - iI b = iI (a - b) := (Int32.ofInt_sub a b).symm
theorem iI_mul (a b : Int) : iI a * iI b = iI (a * b) := (Int32.ofInt_mul a b).symm
theorem iI_neg (a : Int) : -iI a = iI (-a) := (Int32.ofInt_neg a).symm
theorem lI_add (a b : Int) : lI a + lI b = lI (a + b) := (Int64.ofInt_add a b).symm
theorem lI_sub (a b : Int) : lI a - lI b = lI (a - b) := (Int64.ofInt_sub a b).symm
theorem lI_mul (a b : Int) : lI a * lI b = lI (a * b) := (Int64.ofInt_mul a b).symm
theorem lI_neg (a : Int) : -lI a = lI (-a) := (Int64.ofInt_neg a).symm
theorem iI_div {a b : Int} (ha : iR a) (hb : iR b) : iI a / iI b = iI (a.tdiv b) := (Int32.ofInt_tdiv ha.1 ha.2 hb.1 hb.2).symm
theorem lI_div {a b : Int} (ha : lR a) (hb : lR b) : lI a / lI b = lI (a.tdiv b) := (Int64.ofInt_tdiv ha.1 ha.2 hb.1 hb.2).symm
theorem iI_rem {a b : Int} (ha : iR a) (hb : iR b) : iI a - iI a / iI b * iI b = iI (a.tmod b) := by
  rw [iI_div ha hb, iI_mul, iI_sub, Int.tmod_def, Int.mul_comm]
theorem lI_rem {a b : Int} (ha : lR a) (hb : lR b) : lI a - lI a / lI b * lI b = lI (a.tmod b) := by
  rw [lI_div ha hb, lI_mul, lI_sub, Int.tmod_def, Int.mul_comm]
theorem iI_ne0 {b : Int} (hb : iR b) (h : b ≠ 0) : ¬ iI b = 0 := fun q => h ((iI_eq hb ⟨by decide, by decide⟩).mp q)
theorem lI_ne0 {b : Int} (hb : lR b) (h : b ≠ 0) : ¬ lI b = 0 := fun q => h ((lI_eq hb ⟨by decide, by decide⟩).mp q)
theorem iI_wide {a : Int} (ha : iR a) : (iI a).toInt64 = lI a := Int32.toInt64_ofInt ha.1 ha.2
theorem lI_cut (a : Int) : (lI a).toInt32 = iI a := Int64.toInt32_ofInt
theorem iI_clamp {z : Int} (h0 : 0 ≤ z) (h1 : z ≤ 2147483647) : (iI z).toNatClampNeg = z.toNat := Int32.toNatClampNeg_ofInt_of_le (by omega) (by omega)
theorem iI_in {z : Int} {n : Nat} (h0 : 0 ≤ z) (h1 : z < n) (hn : n ≤ 2147483647) : vp_in (iI z) n := by
  rw [vp_in_iff, iI_toInt ⟨by omega, by omega⟩]
  exact ⟨h0, h1⟩
theorem aI_at (f : Int → Int) {z : Int} {n : Nat} (h0 : 0 ≤ z) (h1 : z < n) (hn : n ≤ 2147483647) : aI f (iI z).toNatClampNeg = iI (f z) := by
  rw [iI_clamp h0 (by omega)]
  show iI (f _) = _
  rw [Int.toNat_of_nonneg h0]
theorem aL_at (f : Int → Int) {z : Int} {n : Nat} (h0 : 0 ≤ z) (h1 : z < n) (hn : n ≤ 2147483647) : aL f (iI z).toNatClampNeg = lI (f z) := by
  rw [iI_clamp h0 (by omega)]
  show lI (f _) = _
  rw [Int.toNat_of_nonneg h0]
theorem aI_up (f : Int → Int) {z v : Int} {n : Nat} (h0 : 0 ≤ z) (h1 : z < n) (hn : n ≤ 2147483647) : upd (aI f) (iI z).toNatClampNeg (iI v) = aI (uI f z v) := by
  rw [iI_clamp h0 (by omega)]
  funext j
  show (if j = z.toNat then iI v else iI (f j)) = iI (if (j : Int) = z then v else f j)
  by_cases h : j = z.toNat
  · rw [if_pos h, if_pos (by omega)]
  · rw [if_neg h, if_neg (by omega)]
theorem aL_up (f : Int → Int) {z v : Int} {n : Nat} (h0 : 0 ≤ z) (h1 : z < n) (hn : n ≤ 2147483647) : vp_updL (aL f) (iI z).toNatClampNeg (lI v) = aL (uI f z v) := by
  rw [iI_clamp h0 (by omega)]
  funext j
  show (if j = z.toNat then lI v else lI (f j)) = lI (if (j : Int) = z then v else f j)
  by_cases h : j = z.toNat
  · rw [if_pos h, if_pos (by omega)]
  · rw [if_neg h, if_neg (by omega)]
def cI3 (a b : Int) : Int := if a < b then -1 else if a = b then 0 else 1
theorem lg_cI3 {a b : Int} (ha : lR a) (hb : lR b) : lg_cmp (lI a) (lI b) = iI (cI3 a b) := by
  show (if lI b < lI a then (1 : Int32) else if lI a = lI b then 0 else -1) = iI (if a < b then -1 else if a = b then 0 else 1)
  rcases Int.lt_trichotomy a b with h | h | h
  · rw [if_neg (fun q => by have := (lI_lt hb ha).mp q; omega), if_neg (fun q => by have := (lI_eq ha hb).mp q; omega), if_pos h]
    rfl
  · rw [if_neg (fun q => by have := (lI_lt hb ha).mp q; omega), if_pos ((lI_eq ha hb).mpr h), if_neg (by omega), if_pos h]
    rfl
  · rw [if_pos ((lI_lt hb ha).mpr h), if_neg (by omega), if_neg (by omega)]
    rfl
theorem cI3_lt (a b : Int) : cI3 a b < 0 ↔ a < b := by unfold cI3; split <;> (try split) <;> omega
theorem cI3_le (a b : Int) : cI3 a b ≤ 0 ↔ a ≤ b := by unfold cI3; split <;> (try split) <;> omega
theorem cI3_eq (a b : Int) : cI3 a b = 0 ↔ a = b := by unfold cI3; split <;> (try split) <;> omega
theorem cI3_ge (a b : Int) : 0 ≤ cI3 a b ↔ b ≤ a := by unfold cI3; split <;> (try split) <;> omega
theorem cI3_gt (a b : Int) : 0 < cI3 a b ↔ b < a := by unfold cI3; split <;> (try split) <;> omega
theorem cI3_R (a b : Int) : iR (cI3 a b) := by unfold cI3 iR; split <;> (try split) <;> omega
