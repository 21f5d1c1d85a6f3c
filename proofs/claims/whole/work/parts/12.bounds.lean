/-! bounds of all that the worlds hold -/
theorem uZ_s {α : Type} (f : Nat → α) (k : Nat) (v : α) : uZ f k v k = v := by simp [uZ]
theorem uZ_n {α : Type} (f : Nat → α) {k j : Nat} (v : α) (h : j ≠ k) : uZ f k v j = f j := by
  have hb : Nat.beq j k = false := by
    cases hb : Nat.beq j k
    · rfl
    · exact absurd (Nat.eq_of_beq_eq_true hb) h
  simp [uZ, hb]
def xglo : Nat → Int := fun k => match k with
  | 2 => 0
  | 4 => 0
  | 5 => 0
  | 8 => 0
  | 9 => 0
  | 10 => 0
  | 11 => 0
  | 13 => 0
  | 14 => 0
  | 15 => 0
  | 16 => 0
  | 17 => 0
  | 18 => 0
  | 19 => -1
  | 21 => 0
  | 22 => 0
  | 23 => 0
  | 24 => 0
  | 25 => 0
  | 26 => -1
  | 27 => -1
  | 29 => 0
  | 30 => 0
  | 31 => 0
  | 32 => 0
  | 34 => -9223372036854775808
  | 35 => -9223372036854775808
  | 37 => -9223372036854775808
  | 38 => -9223372036854775808
  | 39 => -9223372036854775808
  | 41 => 0
  | 42 => 0
  | 43 => 0
  | 44 => 0
  | _ => -9223372036854775808
def xghi : Nat → Int := fun k => match k with
  | 2 => 255
  | 4 => 9999
  | 5 => 100
  | 8 => 9999
  | 9 => 100
  | 10 => 1
  | 11 => 1
  | 13 => 7
  | 14 => 5
  | 15 => 3
  | 16 => 500
  | 17 => 3
  | 18 => 1
  | 19 => 399
  | 21 => 99
  | 22 => 9
  | 23 => 999
  | 24 => 500
  | 25 => 9999
  | 26 => 999
  | 27 => 399
  | 29 => 1000000
  | 30 => 1000000
  | 31 => 5000
  | 32 => 9999
  | 34 => 9223372036854775807
  | 35 => 9223372036854775807
  | 37 => 9223372036854775807
  | 38 => 9223372036854775807
  | 39 => 9223372036854775807
  | 41 => 65535
  | 42 => 65535
  | 43 => 40
  | 44 => 101
  | _ => 9223372036854775807
def xzlo : Nat → Int := fun k => match k with
  | 0 => 0
  | 1 => 0
  | 2 => 0
  | 3 => 0
  | 4 => 0
  | 5 => 0
  | 6 => 0
  | 7 => 0
  | 8 => 0
  | 9 => 0
  | 10 => 0
  | 11 => 0
  | 12 => 0
  | 13 => 0
  | 14 => 0
  | 15 => 0
  | 16 => 0
  | 17 => 0
  | 18 => -9223372036854775808
  | 19 => -9223372036854775808
  | 20 => 0
  | _ => -9223372036854775808
def xzhi : Nat → Int := fun k => match k with
  | 0 => 999
  | 1 => 4
  | 2 => 200
  | 3 => 50
  | 4 => 1
  | 5 => 200
  | 6 => 1
  | 7 => 1
  | 8 => 4
  | 9 => 200
  | 10 => 200
  | 11 => 4
  | 12 => 200
  | 13 => 50
  | 14 => 1
  | 15 => 200
  | 16 => 100
  | 17 => 400
  | 18 => 9223372036854775807
  | 19 => 9223372036854775807
  | 20 => 1
  | _ => 9223372036854775807
def xBz (z : Nat → Int) : Prop := ∀ k : Nat, k < 21 → xzlo k ≤ z k ∧ z k ≤ xzhi k
def xBg (g : Nat → Int → Int) : Prop := ∀ k : Nat, k < 45 → ∀ j : Int, xglo k ≤ g k j ∧ g k j ≤ xghi k
theorem xBz_u {z : Nat → Int} (h : xBz z) (k : Nat) {v : Int} (hv : xzlo k ≤ v ∧ v ≤ xzhi k) : xBz (uZ z k v) := by
  intro j hj
  by_cases e : j = k
  · subst e
    have : uZ z j v j = v := uZ_s z j v
    rw [this]; exact hv
  · have : uZ z k v j = z j := uZ_n z v e
    rw [this]; exact h j hj
theorem xBg_u {g : Nat → Int → Int} (h : xBg g) (k : Nat) {f : Int → Int} (hf : ∀ j : Int, xglo k ≤ f j ∧ f j ≤ xghi k) : xBg (uZ g k f) := by
  intro j hj i
  by_cases e : j = k
  · subst e
    have : uZ g j f j = f := uZ_s g j f
    rw [this]; exact hf i
  · have : uZ g k f j = g j := uZ_n g f e
    rw [this]; exact h j hj i
theorem xBg_i {g : Nat → Int → Int} (h : xBg g) (k : Nat) (hk : k < 45) {i v : Int} (hv : xglo k ≤ v ∧ v ≤ xghi k) : xBg (uZ g k (uI (g k) i v)) := by
  refine xBg_u h k (fun j => ?_)
  unfold uI
  by_cases e : j = i
  · rw [if_pos e]; exact hv
  · rw [if_neg e]; exact h k hk j
theorem xB2 {g : Nat → Int → Int} (h : xBg g) (j : Int) : 0 ≤ g 2 j ∧ g 2 j ≤ 255 := h 2 (by decide) j
theorem xB4 {g : Nat → Int → Int} (h : xBg g) (j : Int) : 0 ≤ g 4 j ∧ g 4 j ≤ 9999 := h 4 (by decide) j
theorem xB5 {g : Nat → Int → Int} (h : xBg g) (j : Int) : 0 ≤ g 5 j ∧ g 5 j ≤ 100 := h 5 (by decide) j
theorem xB8 {g : Nat → Int → Int} (h : xBg g) (j : Int) : 0 ≤ g 8 j ∧ g 8 j ≤ 9999 := h 8 (by decide) j
theorem xB9 {g : Nat → Int → Int} (h : xBg g) (j : Int) : 0 ≤ g 9 j ∧ g 9 j ≤ 100 := h 9 (by decide) j
theorem xB10 {g : Nat → Int → Int} (h : xBg g) (j : Int) : 0 ≤ g 10 j ∧ g 10 j ≤ 1 := h 10 (by decide) j
theorem xB11 {g : Nat → Int → Int} (h : xBg g) (j : Int) : 0 ≤ g 11 j ∧ g 11 j ≤ 1 := h 11 (by decide) j
theorem xB13 {g : Nat → Int → Int} (h : xBg g) (j : Int) : 0 ≤ g 13 j ∧ g 13 j ≤ 7 := h 13 (by decide) j
theorem xB14 {g : Nat → Int → Int} (h : xBg g) (j : Int) : 0 ≤ g 14 j ∧ g 14 j ≤ 5 := h 14 (by decide) j
theorem xB15 {g : Nat → Int → Int} (h : xBg g) (j : Int) : 0 ≤ g 15 j ∧ g 15 j ≤ 3 := h 15 (by decide) j
theorem xB16 {g : Nat → Int → Int} (h : xBg g) (j : Int) : 0 ≤ g 16 j ∧ g 16 j ≤ 500 := h 16 (by decide) j
theorem xB17 {g : Nat → Int → Int} (h : xBg g) (j : Int) : 0 ≤ g 17 j ∧ g 17 j ≤ 3 := h 17 (by decide) j
theorem xB18 {g : Nat → Int → Int} (h : xBg g) (j : Int) : 0 ≤ g 18 j ∧ g 18 j ≤ 1 := h 18 (by decide) j
theorem xB19 {g : Nat → Int → Int} (h : xBg g) (j : Int) : -1 ≤ g 19 j ∧ g 19 j ≤ 399 := h 19 (by decide) j
theorem xB21 {g : Nat → Int → Int} (h : xBg g) (j : Int) : 0 ≤ g 21 j ∧ g 21 j ≤ 99 := h 21 (by decide) j
theorem xB22 {g : Nat → Int → Int} (h : xBg g) (j : Int) : 0 ≤ g 22 j ∧ g 22 j ≤ 9 := h 22 (by decide) j
theorem xB23 {g : Nat → Int → Int} (h : xBg g) (j : Int) : 0 ≤ g 23 j ∧ g 23 j ≤ 999 := h 23 (by decide) j
theorem xB24 {g : Nat → Int → Int} (h : xBg g) (j : Int) : 0 ≤ g 24 j ∧ g 24 j ≤ 500 := h 24 (by decide) j
theorem xB25 {g : Nat → Int → Int} (h : xBg g) (j : Int) : 0 ≤ g 25 j ∧ g 25 j ≤ 9999 := h 25 (by decide) j
theorem xB26 {g : Nat → Int → Int} (h : xBg g) (j : Int) : -1 ≤ g 26 j ∧ g 26 j ≤ 999 := h 26 (by decide) j
theorem xB27 {g : Nat → Int → Int} (h : xBg g) (j : Int) : -1 ≤ g 27 j ∧ g 27 j ≤ 399 := h 27 (by decide) j
theorem xB29 {g : Nat → Int → Int} (h : xBg g) (j : Int) : 0 ≤ g 29 j ∧ g 29 j ≤ 1000000 := h 29 (by decide) j
theorem xB30 {g : Nat → Int → Int} (h : xBg g) (j : Int) : 0 ≤ g 30 j ∧ g 30 j ≤ 1000000 := h 30 (by decide) j
theorem xB31 {g : Nat → Int → Int} (h : xBg g) (j : Int) : 0 ≤ g 31 j ∧ g 31 j ≤ 5000 := h 31 (by decide) j
theorem xB32 {g : Nat → Int → Int} (h : xBg g) (j : Int) : 0 ≤ g 32 j ∧ g 32 j ≤ 9999 := h 32 (by decide) j
theorem xB34 {g : Nat → Int → Int} (h : xBg g) (j : Int) : -9223372036854775808 ≤ g 34 j ∧ g 34 j ≤ 9223372036854775807 := h 34 (by decide) j
theorem xB35 {g : Nat → Int → Int} (h : xBg g) (j : Int) : -9223372036854775808 ≤ g 35 j ∧ g 35 j ≤ 9223372036854775807 := h 35 (by decide) j
theorem xB37 {g : Nat → Int → Int} (h : xBg g) (j : Int) : -9223372036854775808 ≤ g 37 j ∧ g 37 j ≤ 9223372036854775807 := h 37 (by decide) j
theorem xB38 {g : Nat → Int → Int} (h : xBg g) (j : Int) : -9223372036854775808 ≤ g 38 j ∧ g 38 j ≤ 9223372036854775807 := h 38 (by decide) j
theorem xB39 {g : Nat → Int → Int} (h : xBg g) (j : Int) : -9223372036854775808 ≤ g 39 j ∧ g 39 j ≤ 9223372036854775807 := h 39 (by decide) j
theorem xB41 {g : Nat → Int → Int} (h : xBg g) (j : Int) : 0 ≤ g 41 j ∧ g 41 j ≤ 65535 := h 41 (by decide) j
theorem xB42 {g : Nat → Int → Int} (h : xBg g) (j : Int) : 0 ≤ g 42 j ∧ g 42 j ≤ 65535 := h 42 (by decide) j
theorem xB43 {g : Nat → Int → Int} (h : xBg g) (j : Int) : 0 ≤ g 43 j ∧ g 43 j ≤ 40 := h 43 (by decide) j
theorem xB44 {g : Nat → Int → Int} (h : xBg g) (j : Int) : 0 ≤ g 44 j ∧ g 44 j ≤ 101 := h 44 (by decide) j
theorem xZ0 {z : Nat → Int} (h : xBz z) : 0 ≤ z 0 ∧ z 0 ≤ 999 := h 0 (by decide)
theorem xZ1 {z : Nat → Int} (h : xBz z) : 0 ≤ z 1 ∧ z 1 ≤ 4 := h 1 (by decide)
theorem xZ2 {z : Nat → Int} (h : xBz z) : 0 ≤ z 2 ∧ z 2 ≤ 200 := h 2 (by decide)
theorem xZ3 {z : Nat → Int} (h : xBz z) : 0 ≤ z 3 ∧ z 3 ≤ 50 := h 3 (by decide)
theorem xZ4 {z : Nat → Int} (h : xBz z) : 0 ≤ z 4 ∧ z 4 ≤ 1 := h 4 (by decide)
theorem xZ5 {z : Nat → Int} (h : xBz z) : 0 ≤ z 5 ∧ z 5 ≤ 200 := h 5 (by decide)
theorem xZ6 {z : Nat → Int} (h : xBz z) : 0 ≤ z 6 ∧ z 6 ≤ 1 := h 6 (by decide)
theorem xZ7 {z : Nat → Int} (h : xBz z) : 0 ≤ z 7 ∧ z 7 ≤ 1 := h 7 (by decide)
theorem xZ8 {z : Nat → Int} (h : xBz z) : 0 ≤ z 8 ∧ z 8 ≤ 4 := h 8 (by decide)
theorem xZ9 {z : Nat → Int} (h : xBz z) : 0 ≤ z 9 ∧ z 9 ≤ 200 := h 9 (by decide)
theorem xZ10 {z : Nat → Int} (h : xBz z) : 0 ≤ z 10 ∧ z 10 ≤ 200 := h 10 (by decide)
theorem xZ11 {z : Nat → Int} (h : xBz z) : 0 ≤ z 11 ∧ z 11 ≤ 4 := h 11 (by decide)
theorem xZ12 {z : Nat → Int} (h : xBz z) : 0 ≤ z 12 ∧ z 12 ≤ 200 := h 12 (by decide)
theorem xZ13 {z : Nat → Int} (h : xBz z) : 0 ≤ z 13 ∧ z 13 ≤ 50 := h 13 (by decide)
theorem xZ14 {z : Nat → Int} (h : xBz z) : 0 ≤ z 14 ∧ z 14 ≤ 1 := h 14 (by decide)
theorem xZ15 {z : Nat → Int} (h : xBz z) : 0 ≤ z 15 ∧ z 15 ≤ 200 := h 15 (by decide)
theorem xZ16 {z : Nat → Int} (h : xBz z) : 0 ≤ z 16 ∧ z 16 ≤ 100 := h 16 (by decide)
theorem xZ17 {z : Nat → Int} (h : xBz z) : 0 ≤ z 17 ∧ z 17 ≤ 400 := h 17 (by decide)
theorem xZ18 {z : Nat → Int} (h : xBz z) : -9223372036854775808 ≤ z 18 ∧ z 18 ≤ 9223372036854775807 := h 18 (by decide)
theorem xZ19 {z : Nat → Int} (h : xBz z) : -9223372036854775808 ≤ z 19 ∧ z 19 ≤ 9223372036854775807 := h 19 (by decide)
theorem xZ20 {z : Nat → Int} (h : xBz z) : 0 ≤ z 20 ∧ z 20 ≤ 1 := h 20 (by decide)
def mglo : Nat → Int := fun k => match k with
  | 1 => -128
  | 2 => 0
  | 3 => 0
  | 4 => 0
  | 5 => 0
  | 6 => 0
  | 7 => 0
  | 8 => 0
  | 9 => 0
  | 10 => -1
  | 11 => 0
  | 12 => 0
  | 13 => 0
  | 14 => 0
  | 15 => 0
  | 16 => 0
  | 17 => 0
  | 18 => 0
  | 19 => 0
  | 20 => 0
  | 21 => -1
  | 22 => 0
  | 23 => 0
  | 24 => -9223372036854775808
  | 25 => -9223372036854775808
  | 26 => -9223372036854775808
  | 27 => -2147483648
  | 28 => 0
  | _ => -9223372036854775808
def mghi : Nat → Int := fun k => match k with
  | 1 => 127
  | 2 => 9999
  | 3 => 9999
  | 4 => 1
  | 5 => 7
  | 6 => 5
  | 7 => 3
  | 8 => 500
  | 9 => 3
  | 10 => 399
  | 11 => 1
  | 12 => 1000000
  | 13 => 1000000
  | 14 => 5000
  | 15 => 9999
  | 16 => 99
  | 17 => 9
  | 18 => 999
  | 19 => 500
  | 20 => 9999
  | 21 => 999
  | 22 => 99
  | 23 => 100
  | 24 => 9223372036854775807
  | 25 => 9223372036854775807
  | 26 => 9223372036854775807
  | 27 => 2147483647
  | 28 => 40
  | _ => 9223372036854775807
def mzlo : Nat → Int := fun k => match k with
  | 0 => 0
  | 1 => 0
  | 2 => 0
  | 3 => 0
  | 4 => 0
  | 5 => 0
  | 6 => -2147483648
  | 7 => 0
  | 8 => 0
  | 9 => 0
  | 10 => -9223372036854775808
  | 11 => 0
  | 12 => 0
  | 13 => 0
  | 14 => 0
  | _ => -9223372036854775808
def mzhi : Nat → Int := fun k => match k with
  | 0 => 1
  | 1 => 200
  | 2 => 200
  | 3 => 200
  | 4 => 4
  | 5 => 200
  | 6 => 2147483647
  | 7 => 4
  | 8 => 200
  | 9 => 200
  | 10 => 9223372036854775807
  | 11 => 100
  | 12 => 999
  | 13 => 400
  | 14 => 1
  | _ => 9223372036854775807
def mBz (z : Nat → Int) : Prop := ∀ k : Nat, k < 15 → mzlo k ≤ z k ∧ z k ≤ mzhi k
def mBg (g : Nat → Int → Int) : Prop := ∀ k : Nat, k < 29 → ∀ j : Int, mglo k ≤ g k j ∧ g k j ≤ mghi k
theorem mBz_u {z : Nat → Int} (h : mBz z) (k : Nat) {v : Int} (hv : mzlo k ≤ v ∧ v ≤ mzhi k) : mBz (uZ z k v) := by
  intro j hj
  by_cases e : j = k
  · subst e
    have : uZ z j v j = v := uZ_s z j v
    rw [this]; exact hv
  · have : uZ z k v j = z j := uZ_n z v e
    rw [this]; exact h j hj
theorem mBg_u {g : Nat → Int → Int} (h : mBg g) (k : Nat) {f : Int → Int} (hf : ∀ j : Int, mglo k ≤ f j ∧ f j ≤ mghi k) : mBg (uZ g k f) := by
  intro j hj i
  by_cases e : j = k
  · subst e
    have : uZ g j f j = f := uZ_s g j f
    rw [this]; exact hf i
  · have : uZ g k f j = g j := uZ_n g f e
    rw [this]; exact h j hj i
theorem mBg_i {g : Nat → Int → Int} (h : mBg g) (k : Nat) (hk : k < 29) {i v : Int} (hv : mglo k ≤ v ∧ v ≤ mghi k) : mBg (uZ g k (uI (g k) i v)) := by
  refine mBg_u h k (fun j => ?_)
  unfold uI
  by_cases e : j = i
  · rw [if_pos e]; exact hv
  · rw [if_neg e]; exact h k hk j
theorem mB1 {g : Nat → Int → Int} (h : mBg g) (j : Int) : -128 ≤ g 1 j ∧ g 1 j ≤ 127 := h 1 (by decide) j
theorem mB2 {g : Nat → Int → Int} (h : mBg g) (j : Int) : 0 ≤ g 2 j ∧ g 2 j ≤ 9999 := h 2 (by decide) j
theorem mB3 {g : Nat → Int → Int} (h : mBg g) (j : Int) : 0 ≤ g 3 j ∧ g 3 j ≤ 9999 := h 3 (by decide) j
theorem mB4 {g : Nat → Int → Int} (h : mBg g) (j : Int) : 0 ≤ g 4 j ∧ g 4 j ≤ 1 := h 4 (by decide) j
theorem mB5 {g : Nat → Int → Int} (h : mBg g) (j : Int) : 0 ≤ g 5 j ∧ g 5 j ≤ 7 := h 5 (by decide) j
theorem mB6 {g : Nat → Int → Int} (h : mBg g) (j : Int) : 0 ≤ g 6 j ∧ g 6 j ≤ 5 := h 6 (by decide) j
theorem mB7 {g : Nat → Int → Int} (h : mBg g) (j : Int) : 0 ≤ g 7 j ∧ g 7 j ≤ 3 := h 7 (by decide) j
theorem mB8 {g : Nat → Int → Int} (h : mBg g) (j : Int) : 0 ≤ g 8 j ∧ g 8 j ≤ 500 := h 8 (by decide) j
theorem mB9 {g : Nat → Int → Int} (h : mBg g) (j : Int) : 0 ≤ g 9 j ∧ g 9 j ≤ 3 := h 9 (by decide) j
theorem mB10 {g : Nat → Int → Int} (h : mBg g) (j : Int) : -1 ≤ g 10 j ∧ g 10 j ≤ 399 := h 10 (by decide) j
theorem mB11 {g : Nat → Int → Int} (h : mBg g) (j : Int) : 0 ≤ g 11 j ∧ g 11 j ≤ 1 := h 11 (by decide) j
theorem mB12 {g : Nat → Int → Int} (h : mBg g) (j : Int) : 0 ≤ g 12 j ∧ g 12 j ≤ 1000000 := h 12 (by decide) j
theorem mB13 {g : Nat → Int → Int} (h : mBg g) (j : Int) : 0 ≤ g 13 j ∧ g 13 j ≤ 1000000 := h 13 (by decide) j
theorem mB14 {g : Nat → Int → Int} (h : mBg g) (j : Int) : 0 ≤ g 14 j ∧ g 14 j ≤ 5000 := h 14 (by decide) j
theorem mB15 {g : Nat → Int → Int} (h : mBg g) (j : Int) : 0 ≤ g 15 j ∧ g 15 j ≤ 9999 := h 15 (by decide) j
theorem mB16 {g : Nat → Int → Int} (h : mBg g) (j : Int) : 0 ≤ g 16 j ∧ g 16 j ≤ 99 := h 16 (by decide) j
theorem mB17 {g : Nat → Int → Int} (h : mBg g) (j : Int) : 0 ≤ g 17 j ∧ g 17 j ≤ 9 := h 17 (by decide) j
theorem mB18 {g : Nat → Int → Int} (h : mBg g) (j : Int) : 0 ≤ g 18 j ∧ g 18 j ≤ 999 := h 18 (by decide) j
theorem mB19 {g : Nat → Int → Int} (h : mBg g) (j : Int) : 0 ≤ g 19 j ∧ g 19 j ≤ 500 := h 19 (by decide) j
theorem mB20 {g : Nat → Int → Int} (h : mBg g) (j : Int) : 0 ≤ g 20 j ∧ g 20 j ≤ 9999 := h 20 (by decide) j
theorem mB21 {g : Nat → Int → Int} (h : mBg g) (j : Int) : -1 ≤ g 21 j ∧ g 21 j ≤ 999 := h 21 (by decide) j
theorem mB22 {g : Nat → Int → Int} (h : mBg g) (j : Int) : 0 ≤ g 22 j ∧ g 22 j ≤ 99 := h 22 (by decide) j
theorem mB23 {g : Nat → Int → Int} (h : mBg g) (j : Int) : 0 ≤ g 23 j ∧ g 23 j ≤ 100 := h 23 (by decide) j
theorem mB24 {g : Nat → Int → Int} (h : mBg g) (j : Int) : -9223372036854775808 ≤ g 24 j ∧ g 24 j ≤ 9223372036854775807 := h 24 (by decide) j
theorem mB25 {g : Nat → Int → Int} (h : mBg g) (j : Int) : -9223372036854775808 ≤ g 25 j ∧ g 25 j ≤ 9223372036854775807 := h 25 (by decide) j
theorem mB26 {g : Nat → Int → Int} (h : mBg g) (j : Int) : -9223372036854775808 ≤ g 26 j ∧ g 26 j ≤ 9223372036854775807 := h 26 (by decide) j
theorem mB27 {g : Nat → Int → Int} (h : mBg g) (j : Int) : -2147483648 ≤ g 27 j ∧ g 27 j ≤ 2147483647 := h 27 (by decide) j
theorem mB28 {g : Nat → Int → Int} (h : mBg g) (j : Int) : 0 ≤ g 28 j ∧ g 28 j ≤ 40 := h 28 (by decide) j
theorem mZ0 {z : Nat → Int} (h : mBz z) : 0 ≤ z 0 ∧ z 0 ≤ 1 := h 0 (by decide)
theorem mZ1 {z : Nat → Int} (h : mBz z) : 0 ≤ z 1 ∧ z 1 ≤ 200 := h 1 (by decide)
theorem mZ2 {z : Nat → Int} (h : mBz z) : 0 ≤ z 2 ∧ z 2 ≤ 200 := h 2 (by decide)
theorem mZ3 {z : Nat → Int} (h : mBz z) : 0 ≤ z 3 ∧ z 3 ≤ 200 := h 3 (by decide)
theorem mZ4 {z : Nat → Int} (h : mBz z) : 0 ≤ z 4 ∧ z 4 ≤ 4 := h 4 (by decide)
theorem mZ5 {z : Nat → Int} (h : mBz z) : 0 ≤ z 5 ∧ z 5 ≤ 200 := h 5 (by decide)
theorem mZ6 {z : Nat → Int} (h : mBz z) : -2147483648 ≤ z 6 ∧ z 6 ≤ 2147483647 := h 6 (by decide)
theorem mZ7 {z : Nat → Int} (h : mBz z) : 0 ≤ z 7 ∧ z 7 ≤ 4 := h 7 (by decide)
theorem mZ8 {z : Nat → Int} (h : mBz z) : 0 ≤ z 8 ∧ z 8 ≤ 200 := h 8 (by decide)
theorem mZ9 {z : Nat → Int} (h : mBz z) : 0 ≤ z 9 ∧ z 9 ≤ 200 := h 9 (by decide)
theorem mZ10 {z : Nat → Int} (h : mBz z) : -9223372036854775808 ≤ z 10 ∧ z 10 ≤ 9223372036854775807 := h 10 (by decide)
theorem mZ11 {z : Nat → Int} (h : mBz z) : 0 ≤ z 11 ∧ z 11 ≤ 100 := h 11 (by decide)
theorem mZ12 {z : Nat → Int} (h : mBz z) : 0 ≤ z 12 ∧ z 12 ≤ 999 := h 12 (by decide)
theorem mZ13 {z : Nat → Int} (h : mBz z) : 0 ≤ z 13 ∧ z 13 ≤ 400 := h 13 (by decide)
theorem mZ14 {z : Nat → Int} (h : mBz z) : 0 ≤ z 14 ∧ z 14 ≤ 1 := h 14 (by decide)
