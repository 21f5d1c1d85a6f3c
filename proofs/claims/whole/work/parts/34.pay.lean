/-! pay: whose cents are over -/
theorem fb_holes : ∀ (m n : Nat) (f : Nat → Nat), (∀ i, i < n → f i < m) → (∀ i j, i < j → j < n → f i ≠ f j) → n ≤ m := by
  intro m
  induction m with
  | zero =>
    intro n f h1 _
    rcases Nat.eq_zero_or_pos n with h | h
    · omega
    · exact absurd (h1 0 h) (Nat.not_lt_zero _)
  | succ m ih =>
    intro n f h1 h2
    by_cases hx : ∃ i, i < n ∧ f i = m
    · obtain ⟨a, ha, hfa⟩ := hx
      have hg := ih (n - 1) (fun i => if i < a then f i else f (i + 1)) (by
        intro i hi
        by_cases q : i < a
        · simp only [if_pos q]
          have b1 := h1 i (by omega)
          have b2 := h2 i a q ha
          omega
        · simp only [if_neg q]
          have b1 := h1 (i + 1) (by omega)
          have b2 := h2 a (i + 1) (by omega) (by omega)
          omega) (by
        intro i j hij hj
        by_cases q : i < a
        · by_cases r : j < a
          · simp only [if_pos q, if_pos r]
            exact h2 i j hij (by omega)
          · simp only [if_pos q, if_neg r]
            exact h2 i (j + 1) (by omega) (by omega)
        · have r : ¬ j < a := by omega
          simp only [if_neg q, if_neg r]
          exact h2 (i + 1) (j + 1) (by omega) (by omega))
      omega
    · have hg := ih n f (fun i hi => by
        have b1 := h1 i hi
        have b2 : f i ≠ m := fun e => hx ⟨i, hi, e⟩
        omega) h2
      omega
/-- two of them in one place -/
theorem fb_twice {m n : Nat} {f : Nat → Nat} (h : ∀ i, i < n → f i < m) (hm : m < n) : ∃ i j, i < j ∧ j < n ∧ f i = f j := by
  refine Classical.byContradiction fun hx => ?_
  have := fb_holes m n f h (fun i j hij hj e => hx ⟨i, j, hij, hj, e⟩)
  omega
/-- as many as places, none twice: each place is taken -/
theorem fb_onto {n : Nat} {f : Nat → Nat} (h : ∀ i, i < n → f i < n) (h2 : ∀ i j, i < j → j < n → f i ≠ f j) {y : Nat} (hy : y < n) : ∃ i, i < n ∧ f i = y := by
  refine Classical.byContradiction fun hx => ?_
  have hne : ∀ i, i < n → f i ≠ y := fun i hi e => hx ⟨i, hi, e⟩
  have := fb_holes (n - 1) n (fun i => if f i < y then f i else f i - 1) (by
    intro i hi
    have b1 := h i hi
    have b2 := hne i hi
    by_cases q : f i < y
    · simp only [if_pos q]; omega
    · simp only [if_neg q]; omega) (by
    intro i j hij hj
    have b1 := hne i (by omega)
    have b2 := hne j hj
    have b3 := h2 i j hij hj
    by_cases q : f i < y
    · by_cases r : f j < y
      · simp only [if_pos q, if_pos r]; exact b3
      · simp only [if_pos q, if_neg r]; omega
    · by_cases r : f j < y
      · simp only [if_neg q, if_pos r]; omega
      · simp only [if_neg q, if_neg r]; omega)
  omega

theorem sum8 (f : Int → Int) : sumI f 8 = f 0 + f 1 + f 2 + f 3 + f 4 + f 5 + f 6 + f 7 := by
  show 0 + f 0 + f 1 + f 2 + f 3 + f 4 + f 5 + f 6 + f 7 = _
  omega
theorem c8 {b : Int} (h : 0 ≤ b ∧ b < 8) : b = 0 ∨ b = 1 ∨ b = 2 ∨ b = 3 ∨ b = 4 ∨ b = 5 ∨ b = 6 ∨ b = 7 := by omega
def wjF (gr w : Int → Int) (q : Int) : Int → Int := fun s => if gr s = q then w s else 0
theorem wjF_sum {gr w : Int → Int} (hg : ∀ s, 0 ≤ gr s ∧ gr s < 8) (s : Int) : sumI (fun q => wjF gr w q s) 8 = w s := by
  rw [sum8]
  have h := c8 (hg s)
  unfold wjF
  rcases h with h | h | h | h | h | h | h | h <;> simp [h]
theorem wjF_all {gr w : Int → Int} (hg : ∀ s, 0 ≤ gr s ∧ gr s < 8) : ∀ n : Nat, sumI (fun q => sumZ (wjF gr w q) n) 8 = sumZ w n
  | 0 => rfl
  | n + 1 => by
    have h1 := wjF_all (w := w) hg n
    have h2 := wjF_sum hg (w := w) n
    rw [sum8] at h1 h2 ⊢
    show sumZ (wjF gr w 0) n + wjF gr w 0 n + (sumZ (wjF gr w 1) n + wjF gr w 1 n) + (sumZ (wjF gr w 2) n + wjF gr w 2 n) + (sumZ (wjF gr w 3) n + wjF gr w 3 n) + (sumZ (wjF gr w 4) n + wjF gr w 4 n) + (sumZ (wjF gr w 5) n + wjF gr w 5 n) + (sumZ (wjF gr w 6) n + wjF gr w 6 n) + (sumZ (wjF gr w 7) n + wjF gr w 7 n) = sumZ w n + w n
    omega
theorem wjF_tot {gr w : Int → Int} (hg : ∀ s, 0 ≤ gr s ∧ gr s < 8) (n : Int) : sumI (fun q => sumI (wjF gr w q) n) 8 = sumI w n := wjF_all hg n.toNat
theorem wjF_b {gr w : Int → Int} (hw : ∀ s, 0 ≤ w s ∧ w s ≤ 50000) (q s : Int) : 0 ≤ wjF gr w q s ∧ wjF gr w q s ≤ 50000 := by
  unfold wjF
  have := hw s
  split <;> omega
def btF (r : Int → Int) (j q : Int) : Int := if r q < r j ∨ (r j = r q ∧ j < q) then 1 else 0
def rkF (r : Int → Int) (q : Int) : Int := sumI (fun j => btF r j q) 8
theorem btF_b (r : Int → Int) (j q : Int) : 0 ≤ btF r j q ∧ btF r j q ≤ 1 := by
  unfold btF
  split <;> omega
theorem btF_1 {r : Int → Int} {j q : Int} (h : r q < r j ∨ (r j = r q ∧ j < q)) : btF r j q = 1 := if_pos h
theorem btF_0 {r : Int → Int} {j q : Int} (h : ¬ (r q < r j ∨ (r j = r q ∧ j < q))) : btF r j q = 0 := if_neg h
theorem rk_lt {r : Int → Int} {a b : Int} (ha : 0 ≤ a ∧ a < 8) (h : r b < r a ∨ (r a = r b ∧ a < b)) : rkF r a < rkF r b := by
  have key : ∀ j, btF r j a ≤ btF r j b := by
    intro j
    by_cases q : r a < r j ∨ (r j = r a ∧ j < a)
    · rw [btF_1 q, btF_1 (by omega)]
      exact Int.le_refl 1
    · rw [btF_0 q]
      exact (btF_b r j b).1
  have h1 : btF r a b = 1 := btF_1 h
  have h0 : btF r a a = 0 := btF_0 (by omega)
  unfold rkF
  rw [sum8, sum8]
  have k0 := key 0
  have k1 := key 1
  have k2 := key 2
  have k3 := key 3
  have k4 := key 4
  have k5 := key 5
  have k6 := key 6
  have k7 := key 7
  rcases c8 ha with rfl | rfl | rfl | rfl | rfl | rfl | rfl | rfl <;> omega
theorem rk_b (r : Int → Int) {q : Int} (hq : 0 ≤ q ∧ q < 8) : 0 ≤ rkF r q ∧ rkF r q < 8 := by
  have h0 : btF r q q = 0 := btF_0 (by omega)
  have b := btF_b r
  unfold rkF
  rw [sum8]
  have b0 := b 0 q
  have b1 := b 1 q
  have b2 := b 2 q
  have b3 := b 3 q
  have b4 := b 4 q
  have b5 := b 5 q
  have b6 := b 6 q
  have b7 := b 7 q
  rcases c8 hq with rfl | rfl | rfl | rfl | rfl | rfl | rfl | rfl <;> omega
theorem rk_on (r : Int → Int) {k : Int} (hk : 0 ≤ k ∧ k < 8) : ∃ j, 0 ≤ j ∧ j < 8 ∧ rkF r j = k := by
  obtain ⟨i, h1, h2⟩ := fb_onto (n := 8) (f := fun i => (rkF r i).toNat) (fun i hi => by have := rk_b r (q := i) (by omega); omega) (fun i j hij hj e => by
    have b1 := rk_b r (q := i) (by omega)
    have b2 := rk_b r (q := j) (by omega)
    have e2 : rkF r i = rkF r j := by
      have e3 : (rkF r i).toNat = (rkF r j).toNat := e
      omega
    rcases (show r (j : Int) < r (i : Int) ∨ (r (i : Int) = r (j : Int) ∧ (i : Int) < j) ∨ r (i : Int) < r (j : Int) by omega) with q | q | q
    · have := rk_lt (r := r) (a := i) (b := j) (by omega) (Or.inl q)
      omega
    · have := rk_lt (r := r) (a := i) (b := j) (by omega) (Or.inr q)
      omega
    · have := rk_lt (r := r) (a := j) (b := i) (by omega) (Or.inl q)
      omega) (y := k.toNat) (by omega)
  have b1 := rk_b r (q := i) (by omega)
  have h3 : (rkF r i).toNat = k.toNat := h2
  exact ⟨i, by omega, by omega, by omega⟩
theorem rk_one {r : Int → Int} {a b : Int} (ha : 0 ≤ a ∧ a < 8) (hb : 0 ≤ b ∧ b < 8) (h : rkF r a = rkF r b) : a = b := by
  rcases (show a = b ∨ (r b < r a ∨ (r a = r b ∧ a < b)) ∨ (r a < r b ∨ (r b = r a ∧ b < a)) by omega) with q | q | q
  · exact q
  · have := rk_lt ha q
    omega
  · have := rk_lt hb q
    omega
/-- what is left to give is behind k cents -/
def rsF (r : Int → Int) (k q : Int) : Int := if rkF r q < k then -1 else r q
theorem rk_pick {r w : Int → Int} {k b : Int} (hk : 0 ≤ k ∧ k < 8) (hr : ∀ q, 0 ≤ q → q < 8 → 0 ≤ r q) (hw : ∀ q, 0 ≤ q → q < 8 → w q = rsF r k q) (hb : 0 ≤ b ∧ b < 8) (hB : ∀ j, 0 ≤ j → j < 8 → w j ≤ w b ∧ (j < b → w j < w b)) : rkF r b = k := by
  obtain ⟨j, j0, j1, j2⟩ := rk_on r hk
  have wj : w j = r j := by rw [hw j j0 j1]; exact if_neg (by omega)
  have rj := hr j j0 j1
  have hj := hB j j0 j1
  have wb := hw b hb.1 hb.2
  unfold rsF at wb
  by_cases q : rkF r b < k
  · rw [if_pos q] at wb
    omega
  · rw [if_neg q] at wb
    rcases (show rkF r b = k ∨ k < rkF r b by omega) with e | e
    · exact e
    · exfalso
      by_cases ejb : j = b
      · subst ejb
        omega
      · rcases (show (r b < r j ∨ (r j = r b ∧ j < b)) ∨ (r j < r b ∨ (r b = r j ∧ b < j)) by omega) with z | z
        · rcases z with z | z
          · omega
          · have := hj.2 z.2
            omega
        · have := rk_lt hb z
          omega
theorem rs_up {r w : Int → Int} {k b : Int} (hw : ∀ q, 0 ≤ q → q < 8 → w q = rsF r k q) (hb : 0 ≤ b ∧ b < 8) (hk : rkF r b = k) : ∀ q, 0 ≤ q → q < 8 → uI w b (-1) q = rsF r (k + 1) q := by
  intro q h0 h1
  unfold rsF
  by_cases e : q = b
  · rw [e, uI_s, if_pos (by omega)]
  · rw [uI_n _ _ e, hw q h0 h1]
    unfold rsF
    have : rkF r q ≠ k := fun z => e (rk_one (r := r) ⟨h0, h1⟩ hb (by omega))
    by_cases z : rkF r q < k
    · rw [if_pos z, if_pos (by omega)]
    · rw [if_neg z, if_neg (by omega)]
def pdF (q0 r : Int → Int) (k q : Int) : Int := q0 q + (if rkF r q < k then 1 else 0)
theorem pd_up {q0 r w : Int → Int} {k b : Int} (hw : ∀ q, 0 ≤ q → q < 8 → w q = pdF q0 r k q) (hb : 0 ≤ b ∧ b < 8) (hk : rkF r b = k) : ∀ q, 0 ≤ q → q < 8 → uI w b (w b + 1) q = pdF q0 r (k + 1) q := by
  intro q h0 h1
  by_cases e : q = b
  · rw [e, uI_s, hw b hb.1 hb.2]
    unfold pdF
    rw [if_neg (by omega), if_pos (by omega)]
    omega
  · rw [uI_n _ _ e, hw q h0 h1]
    unfold pdF
    have : rkF r q ≠ k := fun z => e (rk_one (r := r) ⟨h0, h1⟩ hb (by omega))
    by_cases z : rkF r q < k
    · rw [if_pos z, if_pos (by omega)]
    · rw [if_neg z, if_neg (by omega)]
def qF (P A : Int) (W : Int → Int) : Int → Int := fun j => P * W j / A
def rF (P A : Int) (W : Int → Int) : Int → Int := fun j => P * W j % A
def ovF (P A : Int) (W : Int → Int) : Int := P - sumI (qF P A W) 8
def payF (P A : Int) (W : Int → Int) (q : Int) : Int := if A < 1 then 0 else pdF (qF P A W) (rF P A W) (ovF P A W) q
theorem ovF_b {P A : Int} {W : Int → Int} (hA : 1 ≤ A) (hW : sumI W 8 = A) : 0 ≤ ovF P A W ∧ ovF P A W < 8 := by
  have key : ∀ j, P * W j = A * qF P A W j + rF P A W j ∧ 0 ≤ rF P A W j ∧ rF P A W j < A := fun j => ⟨(Int.mul_ediv_add_emod (P * W j) A).symm, Int.emod_nonneg _ (by omega), Int.emod_lt_of_pos _ (by omega)⟩
  have k0 := key 0
  have k1 := key 1
  have k2 := key 2
  have k3 := key 3
  have k4 := key 4
  have k5 := key 5
  have k6 := key 6
  have k7 := key 7
  rw [sum8] at hW
  have e1 : P * A = P * W 0 + P * W 1 + P * W 2 + P * W 3 + P * W 4 + P * W 5 + P * W 6 + P * W 7 := by
    rw [← hW]
    simp only [Int.mul_add]
  have e2 : A * ovF P A W = P * A - (A * qF P A W 0 + A * qF P A W 1 + A * qF P A W 2 + A * qF P A W 3 + A * qF P A W 4 + A * qF P A W 5 + A * qF P A W 6 + A * qF P A W 7) := by
    unfold ovF
    rw [sum8, Int.mul_sub, Int.mul_comm A P]
    simp only [Int.mul_add]
  have e3 : 0 ≤ A * ovF P A W ∧ A * ovF P A W < 8 * A := by omega
  constructor
  · rcases Int.lt_or_le (ovF P A W) 0 with h | h
    · have : A * ovF P A W ≤ A * (-1) := Int.mul_le_mul_of_nonneg_left (by omega) (by omega)
      omega
    · exact h
  · rcases Int.lt_or_le (ovF P A W) 8 with h | h
    · exact h
    · have : A * 8 ≤ A * ovF P A W := Int.mul_le_mul_of_nonneg_left h (by omega)
      omega
theorem fst_mx {w : Int → Int} {b i b2 : Int} (h : 0 ≤ b ∧ b < i) (hB : ∀ j, 0 ≤ j → j < i → w j ≤ w b ∧ (j < b → w j < w b)) (h2 : (w b < w i ∧ b2 = i) ∨ (w i ≤ w b ∧ b2 = b)) : ∀ j, 0 ≤ j → j < i + 1 → w j ≤ w b2 ∧ (j < b2 → w j < w b2) := bh_st h hB h2
def wgX (g : Nat → Int → Int) (t s : Int) : Int := if cntX g t s then g 24 s * g 5 (g 15 (g 21 s)) else 0
abbrev goX (g : Nat → Int → Int) : Int → Int := fun s => g 13 (g 21 s)
theorem wgX_b {g : Nat → Int → Int} (hg : xBg g) (t s : Int) : 0 ≤ wgX g t s ∧ wgX g t s ≤ 50000 := by
  unfold wgX
  split
  · have := mul_b (xB24 hg s) (xB5 hg (g 15 (g 21 s)))
    omega
  · omega
def AX (z : Nat → Int) (g : Nat → Int → Int) (t : Int) : Int := sumI (wgX g t) (z 17)
def WX (z : Nat → Int) (g : Nat → Int → Int) (t q : Int) : Int := sumI (wjF (goX g) (wgX g t) q) (z 17)
theorem AX_b {z : Nat → Int} {g : Nat → Int → Int} (hz : xBz z) (hg : xBg g) (t : Int) : 0 ≤ AX z g t ∧ AX z g t ≤ 20000000 := by
  have h1 := xZ17 hz
  have h2 := sumI_b (f := wgX g t) (c := 50000) h1.1 (fun j _ _ => wgX_b hg t j)
  unfold AX
  omega
theorem WX_b {z : Nat → Int} {g : Nat → Int → Int} (hz : xBz z) (hg : xBg g) (t q : Int) : 0 ≤ WX z g t q ∧ WX z g t q ≤ 20000000 := by
  have h1 := xZ17 hz
  have h2 := sumI_b (f := wjF (goX g) (wgX g t) q) (c := 50000) h1.1 (fun j _ _ => wjF_b (wgX_b hg t) q j)
  unfold WX
  omega
theorem WX_A {z : Nat → Int} {g : Nat → Int → Int} (hg : xBg g) (t : Int) : sumI (WX z g t) 8 = AX z g t := wjF_tot (fun s => by have := xB13 hg (g 21 s); show 0 ≤ g 13 (g 21 s) ∧ g 13 (g 21 s) < 8; omega) (z 17)
theorem wj_up {gr w f : Int → Int} {i x : Int} (hi : 0 ≤ i) (hf : ∀ q, 0 ≤ q → q < 8 → f q = sumI (wjF gr w q) i) (hx : x = w i) : ∀ q, 0 ≤ q → q < 8 → uI f (gr i) (f (gr i) + x) q = sumI (wjF gr w q) (i + 1) := by
  intro q h0 h1
  rw [sumI_s _ hi, ← hf q h0 h1]
  by_cases e : q = gr i
  · rw [e, uI_s, hx]
    unfold wjF
    rw [if_pos rfl]
  · rw [uI_n _ _ e]
    unfold wjF
    rw [if_neg (fun z => e z.symm)]
    omega
theorem wj_kp {gr w f : Int → Int} {i : Int} (hi : 0 ≤ i) (hf : ∀ q, 0 ≤ q → q < 8 → f q = sumI (wjF gr w q) i) (hx : w i = 0) : ∀ q, 0 ≤ q → q < 8 → f q = sumI (wjF gr w q) (i + 1) := by
  intro q h0 h1
  rw [sumI_s _ hi, ← hf q h0 h1]
  unfold wjF
  split <;> omega

abbrev rm_X3_weigh : Room := { frames := 1, cells := 0, slots := 0, locals := 22 }
set_option maxHeartbeats 4000000 in
set_option maxRecDepth 100000 in
theorem ct_X3_weigh (l : Launch) (D : va_G) (cy : Nat → ClassId) (a : Nat → Nat) (z : Nat → Int) (g : Nat → Int → Int) (p0 : Int) (hz : xBz z) (hg : xBg g) (h0 : iR p0) : ML l yX3_weigh cX3_weigh 8 (rm_X3_weigh) D cy (xw cy a z g) [.ref (a 33), vI p0] (fun (v : Int) (u : sX) => (v = AX z g p0 ∧ u.1 = z ∧ ∃ f : Int → Int, u.2 = uZ g 34 f ∧ ∀ q, 0 ≤ q → q < 8 → f q = WX z g p0 q) ∧ xBz u.1 ∧ xBg u.2) (fun u => xw cy a u.1 u.2) 0 0 := by
  refine go_l (by decide +kernel) (Nat.le_of_ble_eq_true rfl) ?_
  intro p e s m args below meth c Q A ls C hnm hA w hl hend
  have hx := C.1
  have hb := C.2.1
  have b17_ := xZ17 hz
  have J26 : ∀ N : Nat, ∀ (t2 : Int) (i : Int) (f : Int → Int), (∀ j : Int, (-9223372036854775808 : Int) ≤ f j ∧ f j ≤ 9223372036854775807) → (0 ≤ i ∧ i ≤ z 17) → (t2 = sumI (wgX g p0) i) → (∀ q, 0 ≤ q → q < 8 → f q = sumI (wjF (goX g) (wgX g p0) q) i) → ((z 17 - i).toNat) < N → ∀ (H : Heap) (locs : List Loc) (ls : Array Slot), wd D A s.heap (xw cy a z (uZ g 34 f)) H locs → lv_has ls 8 [(0, .ref (a 33)), (1, vI p0), (2, vL t2), (4, vI i)] → W p l e (rm_X3_weigh) s m args below meth c H locs 0 0 Q (F0 m 26 ls []) := by
    intro N
    induction N with
    | zero => intro t2 i f bf hi ht hf hN9; exact absurd hN9 (Nat.not_lt_zero _)
    | succ N ih26 =>
      intro t2 i f bf hi ht hf hN26 H locs ls w hl
      refine lv_iload hx hb dX3_weigh_26 (lv_at hl 3 rfl) ?_
      refine lv_aload_n hx hb dX3_weigh_28 rfl (lv_at hl 0 rfl) ?_
      refine r_get C w 33 (v := .ref (a 20)) rfl rfl 1 (by decide) inX3 kf_X3_22 rfl dX3_weigh_29 ?_
      refine r_getN C w 20 (v := vI (z 17)) rfl rfl 7 (by decide) inX7 kt_X3_54 rfl dX3_weigh_32 ?_
      have qz1 := xZ17 hz
      refine r_icmp_ge (tgt := 127) hx hb dX3_weigh_35 (by decide) (by omega) (by omega) (fun c35 => ?_) (fun c35 => ?_)
      · skip
        refine lv_lload_n hx hb dX3_weigh_127 rfl (lv_at hl 2 rfl) ?_
        exact hend t2 (z, (uZ g 34 f)) _ _ _ _ dX3_weigh_128 w ⟨(by refine ⟨by rw [ht, show i = z 17 by omega]; rfl, rfl, f, rfl, ?_⟩; rw [show i = z 17 by omega] at hf; exact hf), hz, (xBg_u hg 34 bf)⟩
      · skip
        refine lv_aload_n hx hb dX3_weigh_38 rfl (lv_at hl 0 rfl) ?_
        refine r_get C w 33 (v := .ref (a 20)) rfl rfl 1 (by decide) inX3 kf_X3_22 rfl dX3_weigh_39 ?_
        refine lv_iload hx hb dX3_weigh_42 (lv_at hl 3 rfl) ?_
        refine lv_iload_n hx hb dX3_weigh_44 rfl (lv_at hl 1 rfl) ?_
        refine cVI C w hA (ct_X7_countsAsOf l D cy a z (uZ g 34 f) i p0 hz (xBg_u hg 34 bf) (by show 0 ≤ i ∧ i < 400; omega) (by show iR p0; omega)) ok_X7_countsAsOf km_X3_58 ⟨rfl, rfl⟩ ⟨by decide, by decide⟩ ⟨by decide, by decide⟩ rfl 20 rfl rfl hl.1 rfl (Nat.le_of_ble_eq_true rfl) dX3_weigh_45 (fun rv_1 uv_1 H locs w hp_1 => ?_)
        replace hp_1 : (rv_1 = 1 ∧ (g 23) i ≤ p0 ∧ ((g 26) i = -1 ∨ p0 < (g 26) i)) ∨ (rv_1 = 0 ∧ ¬ ((g 23) i ≤ p0 ∧ ((g 26) i = -1 ∨ p0 < (g 26) i))) := hp_1
        replace w : wd D A s.heap (xw cy a z (uZ g 34 f)) H locs := w
        refine r_if_eq (tgt := 121) hx hb dX3_weigh_48 (by decide) (by omega) (fun c48 => ?_) (fun c48 => ?_)
        · skip
          refine r_iinc (lv' := [(4, vI (i + 1)), (0, .ref (a 33)), (1, vI p0), (2, vL t2)]) hx hb dX3_weigh_121 hl (k := 3) rfl (by decide) rfl (fun ls hl => ?_)
          refine lv_goto (tgt := 26) hx hb dX3_weigh_124 (by decide) ?_
          exact ih26 t2 (i + 1) f bf (by omega) (by rw [sumI_s _ hi.1, ← ht]; first | rw [hwi] | (rw [show wgX g p0 i = 0 from if_neg (by omega)]; omega)) (by first | exact wj_up (gr := goX g) hi.1 hf hwi | exact wj_kp hi.1 hf (if_neg (by omega))) (by omega) _ _ _ w (lv_sub hl [1, 2, 3, 0] rfl)
        · skip
          refine lv_aload_n hx hb dX3_weigh_51 rfl (lv_at hl 0 rfl) ?_
          refine r_get C w 33 (v := .ref (a 20)) rfl rfl 1 (by decide) inX3 kf_X3_22 rfl dX3_weigh_52 ?_
          refine r_getN C w 20 (v := .ref (a 21)) rfl rfl 0 (by decide) inX7 kt_X3_79 rfl dX3_weigh_55 ?_
          refine lv_iload hx hb dX3_weigh_58 (lv_at hl 3 rfl) ?_
          refine r_iald C w 21 (f := (g 21)) rfl (by omega) (by omega) (by decide) dX3_weigh_60 ?_
          have qg2 := xB21 hg i
          refine lv_istore (lv' := [(5, vI ((g 21) i)), (0, .ref (a 33)), (1, vI p0), (2, vL t2), (4, vI i)]) hx hb dX3_weigh_61 hl (by decide) rfl (fun ls hl => ?_)
          refine lv_aload_n hx hb dX3_weigh_63 rfl (lv_at hl 1 rfl) ?_
          refine r_get C w 33 (v := .ref (a 20)) rfl rfl 1 (by decide) inX3 kf_X3_22 rfl dX3_weigh_64 ?_
          refine r_getN C w 20 (v := .ref (a 24)) rfl rfl 3 (by decide) inX7 kt_X3_51 rfl dX3_weigh_67 ?_
          refine lv_iload hx hb dX3_weigh_70 (lv_at hl 4 rfl) ?_
          refine r_iald C w 24 (f := (g 24)) rfl (by omega) (by omega) (by decide) dX3_weigh_72 ?_
          have qg3 := xB24 hg i
          refine r_i2l hx hb dX3_weigh_73 (by omega) ?_
          refine lv_aload_n hx hb dX3_weigh_74 rfl (lv_at hl 1 rfl) ?_
          refine r_get C w 33 (v := .ref (a 3)) rfl rfl 2 (by decide) inX3 kf_X3_26 rfl dX3_weigh_75 ?_
          refine r_getN C w 3 (v := .ref (a 5)) rfl rfl 1 (by decide) inX6 kt_X3_82 rfl dX3_weigh_78 ?_
          refine lv_aload_n hx hb dX3_weigh_81 rfl (lv_at hl 1 rfl) ?_
          refine r_get C w 33 (v := .ref (a 12)) rfl rfl 0 (by decide) inX3 kf_X3_18 rfl dX3_weigh_82 ?_
          refine r_getN C w 12 (v := .ref (a 15)) rfl rfl 2 (by decide) inX2 kt_X3_85 rfl dX3_weigh_85 ?_
          refine lv_iload hx hb dX3_weigh_88 (lv_at hl 0 rfl) ?_
          refine r_iald C w 15 (f := (g 15)) rfl (by omega) (by omega) (by decide) dX3_weigh_90 ?_
          have qg4 := xB15 hg ((g 21) i)
          refine r_iald C w 5 (f := (g 5)) rfl (by omega) (by omega) (by decide) dX3_weigh_91 ?_
          have qg5 := xB5 hg ((g 15) ((g 21) i))
          refine r_i2l hx hb dX3_weigh_92 (by omega) ?_
          refine r_lmul hx hb dX3_weigh_93 ?_
          refine lv_lstore (lv' := [(6, vL (((g 24) i) * ((g 5) ((g 15) ((g 21) i))))), (5, vI ((g 21) i)), (0, .ref (a 33)), (1, vI p0), (2, vL t2), (4, vI i)]) hx hb dX3_weigh_94 hl (by decide) rfl (fun ls hl => ?_)
          refine lv_aload_n hx hb dX3_weigh_96 rfl (lv_at hl 2 rfl) ?_
          refine r_get C w 33 (v := .ref (a 34)) rfl rfl 3 (by decide) inX3 kf_X3_9 rfl dX3_weigh_97 ?_
          refine lv_aload_n hx hb dX3_weigh_100 rfl (lv_at hl 2 rfl) ?_
          refine r_get C w 33 (v := .ref (a 12)) rfl rfl 0 (by decide) inX3 kf_X3_18 rfl dX3_weigh_101 ?_
          refine r_getN C w 12 (v := .ref (a 13)) rfl rfl 0 (by decide) inX2 kt_X3_90 rfl dX3_weigh_104 ?_
          refine lv_iload hx hb dX3_weigh_107 (lv_at hl 1 rfl) ?_
          refine r_iald C w 13 (f := (g 13)) rfl (by omega) (by omega) (by decide) dX3_weigh_109 ?_
          have qg6 := xB13 hg ((g 21) i)
          have hgr := xB13 hg (g 21 i)
          have hfg := hf (g 13 (g 21 i)) (by omega) (by omega)
          have hfb := sumI_b (f := wjF (goX g) (wgX g p0) (g 13 (g 21 i))) (c := 50000) hi.1 (fun j _ _ => wjF_b (wgX_b hg p0) _ j)
          have hwi : g 24 i * g 5 (g 15 (g 21 i)) = wgX g p0 i := (if_pos (by omega)).symm
          have hwb := wgX_b hg p0 i
          refine lv_dup2_11 hx hb dX3_weigh_110 rfl rfl ?_
          refine r_lald C w 34 (f := f) rfl (by omega) (by omega) (by decide) dX3_weigh_111 ?_
          refine lv_lload hx hb dX3_weigh_112 (lv_at hl 0 rfl) ?_
          refine r_ladd hx hb dX3_weigh_114 ?_
          refine r_last C w 34 (f := f) rfl (by omega) (by omega) (by decide) (ws' := xw cy a z (uZ g 34 (uI f ((g 13) ((g 21) i)) ((f ((g 13) ((g 21) i))) + (((g 24) i) * ((g 5) ((g 15) ((g 21) i)))))))) rfl dX3_weigh_115 (fun H locs w => ?_)
          have bg7 : ∀ j : Int, (-9223372036854775808 : Int) ≤ (uI f ((g 13) ((g 21) i)) ((f ((g 13) ((g 21) i))) + (((g 24) i) * ((g 5) ((g 15) ((g 21) i)))))) j ∧ (uI f ((g 13) ((g 21) i)) ((f ((g 13) ((g 21) i))) + (((g 24) i) * ((g 5) ((g 15) ((g 21) i)))))) j ≤ 9223372036854775807 := uI_b bf (by rw [hwi, hfg]; exact ⟨by omega, by omega⟩)
          refine lv_lload_n hx hb dX3_weigh_116 rfl (lv_at hl 4 rfl) ?_
          refine lv_lload hx hb dX3_weigh_117 (lv_at hl 0 rfl) ?_
          refine r_ladd hx hb dX3_weigh_119 ?_
          refine lv_lstore_n (lv' := [(2, vL (t2 + (((g 24) i) * ((g 5) ((g 15) ((g 21) i)))))), (6, vL (((g 24) i) * ((g 5) ((g 15) ((g 21) i))))), (5, vI ((g 21) i)), (0, .ref (a 33)), (1, vI p0), (4, vI i)]) hx hb dX3_weigh_120 rfl hl (by decide) rfl (fun ls hl => ?_)
          refine r_iinc (lv' := [(4, vI (i + 1)), (2, vL (t2 + (((g 24) i) * ((g 5) ((g 15) ((g 21) i)))))), (6, vL (((g 24) i) * ((g 5) ((g 15) ((g 21) i))))), (5, vI ((g 21) i)), (0, .ref (a 33)), (1, vI p0)]) hx hb dX3_weigh_121 hl (k := 5) rfl (by decide) rfl (fun ls hl => ?_)
          refine lv_goto (tgt := 26) hx hb dX3_weigh_124 (by decide) ?_
          exact ih26 (t2 + (((g 24) i) * ((g 5) ((g 15) ((g 21) i))))) (i + 1) (uI f ((g 13) ((g 21) i)) ((f ((g 13) ((g 21) i))) + (((g 24) i) * ((g 5) ((g 15) ((g 21) i)))))) bg7 (by omega) (by rw [sumI_s _ hi.1, ← ht]; first | rw [hwi] | (rw [show wgX g p0 i = 0 from if_neg (by omega)]; omega)) (by first | exact wj_up (gr := goX g) hi.1 hf hwi | exact wj_kp hi.1 hf (if_neg (by omega))) (by omega) _ _ _ w (lv_sub hl [4, 5, 1, 0] rfl)
  have J2 : ∀ N : Nat, ∀ (i2 : Int) (f : Int → Int), (∀ j : Int, (-9223372036854775808 : Int) ≤ f j ∧ f j ≤ 9223372036854775807) → (0 ≤ i2 ∧ i2 ≤ 8) → (∀ q, 0 ≤ q → q < i2 → f q = 0) → ((8 - i2).toNat) < N → ∀ (H : Heap) (locs : List Loc) (ls : Array Slot), wd D A s.heap (xw cy a z (uZ g 34 f)) H locs → lv_has ls 8 [(0, .ref (a 33)), (1, vI p0), (2, vI i2)] → W p l e (rm_X3_weigh) s m args below meth c H locs 0 0 Q (F0 m 2 ls []) := by
    intro N
    induction N with
    | zero => intro i2 f bf hi2 hf hN9; exact absurd hN9 (Nat.not_lt_zero _)
    | succ N ih2 =>
      intro i2 f bf hi2 hf hN2 H locs ls w hl
      refine lv_iload_n hx hb dX3_weigh_2 rfl (lv_at hl 2 rfl) ?_
      refine r_bipush hx hb dX3_weigh_3 (by decide) ?_
      refine r_icmp_ge (tgt := 21) hx hb dX3_weigh_5 (by decide) (by omega) (by omega) (fun c5 => ?_) (fun c5 => ?_)
      · skip
        refine r_lconst (z := 0) hx hb dX3_weigh_21 (by decide) ?_
        refine lv_lstore_n (lv' := [(2, vL 0), (0, .ref (a 33)), (1, vI p0)]) hx hb dX3_weigh_22 rfl hl (by decide) rfl (fun ls hl => ?_)
        refine r_iconst hx hb dX3_weigh_23 ?_
        refine lv_istore (lv' := [(4, vI 0), (2, vL 0), (0, .ref (a 33)), (1, vI p0)]) hx hb dX3_weigh_24 hl (by decide) rfl (fun ls hl => ?_)
        exact J26 _ 0 0 f bf (by omega) (by rfl) (by intro q h1 h2; rw [hf q h1 (by omega)]; rfl) (Nat.lt_succ_self _) _ _ _ w (lv_sub hl [2, 3, 1, 0] rfl)
      · skip
        refine lv_aload_n hx hb dX3_weigh_8 rfl (lv_at hl 0 rfl) ?_
        refine r_get C w 33 (v := .ref (a 34)) rfl rfl 3 (by decide) inX3 kf_X3_9 rfl dX3_weigh_9 ?_
        refine lv_iload_n hx hb dX3_weigh_12 rfl (lv_at hl 2 rfl) ?_
        refine r_lconst (z := 0) hx hb dX3_weigh_13 (by decide) ?_
        refine r_last C w 34 (f := f) rfl (by omega) (by omega) (by decide) (ws' := xw cy a z (uZ g 34 (uI f i2 0))) rfl dX3_weigh_14 (fun H locs w => ?_)
        have bg8 : ∀ j : Int, (-9223372036854775808 : Int) ≤ (uI f i2 0) j ∧ (uI f i2 0) j ≤ 9223372036854775807 := uI_b bf (by omega)
        refine r_iinc (lv' := [(2, vI (i2 + 1)), (0, .ref (a 33)), (1, vI p0)]) hx hb dX3_weigh_15 hl (k := 2) rfl (by decide) rfl (fun ls hl => ?_)
        refine lv_goto (tgt := 2) hx hb dX3_weigh_18 (by decide) ?_
        exact ih2 (i2 + 1) (uI f i2 0) bg8 (by omega) (by exact zeros_st hf) (by omega) _ _ _ w (lv_sub hl [1, 2, 0] rfl)
  replace hl : lv_has ls 8 [(0, .ref (a 33)), (1, vI p0)] := hl
  refine r_iconst hx hb dX3_weigh_0 ?_
  refine lv_istore_n (lv' := [(2, vI 0), (0, .ref (a 33)), (1, vI p0)]) hx hb dX3_weigh_1 rfl hl (by decide) rfl (fun ls hl => ?_)
  exact J2 _ 0 (g 34) (xB34 hg) (by omega) (by intro q h1 h2; omega) (Nat.lt_succ_self _) _ _ _ w (lv_sub hl [1, 2, 0] rfl)

abbrev rm_X3_placeByRest : Room := { frames := 0, cells := 0, slots := 0, locals := 0 }
set_option maxHeartbeats 4000000 in
set_option maxRecDepth 100000 in
theorem ct_X3_placeByRest (l : Launch) (D : va_G) (cy : Nat → ClassId) (a : Nat → Nat) (z : Nat → Int) (g : Nat → Int → Int) (p0 : Int) (hz : xBz z) (hg : xBg g) (h0 : 0 ≤ p0 ∧ p0 < 8) : MI l yX3_placeByRest cX3_placeByRest 4 .int (rm_X3_placeByRest) D cy (xw cy a z g) [.ref (a 33), vI p0] (fun (v : Int) (u : Unit) => v = rkF (g 35) p0) (fun _ => xw cy a z g) 0 0 := by
  refine go_i (by decide +kernel) (Nat.le_of_ble_eq_true rfl) (Or.inl rfl) ?_
  intro p e s m args below meth c Q A ls C hnm hA w hl hend
  have hx := C.1
  have hb := C.2.1
  have J4 : ∀ N : Nat, ∀ (k2 : Int) (i3 : Int), (0 ≤ i3 ∧ i3 ≤ 8) → (k2 = sumI (fun j => btF (g 35) j p0) i3) → ((8 - i3).toNat) < N → ∀ (H : Heap) (locs : List Loc) (ls : Array Slot), wd D A s.heap (xw cy a z g) H locs → lv_has ls 4 [(0, .ref (a 33)), (1, vI p0), (2, vI k2), (3, vI i3)] → W p l e (rm_X3_placeByRest) s m args below meth c H locs 0 0 Q (F0 m 4 ls []) := by
    intro N
    induction N with
    | zero => intro k2 i3 hi3 hk2 hN9; exact absurd hN9 (Nat.not_lt_zero _)
    | succ N ih4 =>
      intro k2 i3 hi3 hk2 hN4 H locs ls w hl
      refine lv_iload_n hx hb dX3_placeByRest_4 rfl (lv_at hl 3 rfl) ?_
      refine r_bipush hx hb dX3_placeByRest_5 (by decide) ?_
      refine r_icmp_ge (tgt := 56) hx hb dX3_placeByRest_7 (by decide) (by omega) (by omega) (fun c7 => ?_) (fun c7 => ?_)
      · skip
        refine lv_iload_n hx hb dX3_placeByRest_56 rfl (lv_at hl 2 rfl) ?_
        exact hend k2 () _ _ _ _ dX3_placeByRest_57 w (by rw [hk2, show i3 = 8 by omega]; rfl)
      · skip
        refine lv_aload_n hx hb dX3_placeByRest_10 rfl (lv_at hl 0 rfl) ?_
        refine r_get C w 33 (v := .ref (a 35)) rfl rfl 4 (by decide) inX3 kf_X3_15 rfl dX3_placeByRest_11 ?_
        refine lv_iload_n hx hb dX3_placeByRest_14 rfl (lv_at hl 3 rfl) ?_
        refine r_lald C w 35 (f := (g 35)) rfl (by omega) (by omega) (by decide) dX3_placeByRest_15 ?_
        refine lv_aload_n hx hb dX3_placeByRest_16 rfl (lv_at hl 0 rfl) ?_
        refine r_get C w 33 (v := .ref (a 35)) rfl rfl 4 (by decide) inX3 kf_X3_15 rfl dX3_placeByRest_17 ?_
        refine lv_iload_n hx hb dX3_placeByRest_20 rfl (lv_at hl 1 rfl) ?_
        refine r_lald C w 35 (f := (g 35)) rfl (by omega) (by omega) (by decide) dX3_placeByRest_21 ?_
        refine r_lcif_gt (tgt := 47) hx hb dX3_placeByRest_22 dX3_placeByRest_23 (by decide) (by exact xB35 hg _) (by exact xB35 hg _) (fun c22 => ?_) (fun c22 => ?_)
        · skip
          refine r_iinc (lv' := [(2, vI (k2 + 1)), (0, .ref (a 33)), (1, vI p0), (3, vI i3)]) hx hb dX3_placeByRest_47 hl (k := 2) rfl (by decide) rfl (fun ls hl => ?_)
          refine r_iinc (lv' := [(3, vI (i3 + 1)), (2, vI (k2 + 1)), (0, .ref (a 33)), (1, vI p0)]) hx hb dX3_placeByRest_50 hl (k := 3) rfl (by decide) rfl (fun ls hl => ?_)
          refine lv_goto (tgt := 4) hx hb dX3_placeByRest_53 (by decide) ?_
          exact ih4 (k2 + 1) (i3 + 1) (by omega) (by rw [sumI_s _ hi3.1, ← hk2]; first | rw [btF_1 (by omega)] | (rw [btF_0 (by omega)]; omega)) (by omega) _ _ _ w (lv_sub hl [2, 3, 1, 0] rfl)
        · skip
          refine lv_aload_n hx hb dX3_placeByRest_26 rfl (lv_at hl 0 rfl) ?_
          refine r_get C w 33 (v := .ref (a 35)) rfl rfl 4 (by decide) inX3 kf_X3_15 rfl dX3_placeByRest_27 ?_
          refine lv_iload_n hx hb dX3_placeByRest_30 rfl (lv_at hl 3 rfl) ?_
          refine r_lald C w 35 (f := (g 35)) rfl (by omega) (by omega) (by decide) dX3_placeByRest_31 ?_
          refine lv_aload_n hx hb dX3_placeByRest_32 rfl (lv_at hl 0 rfl) ?_
          refine r_get C w 33 (v := .ref (a 35)) rfl rfl 4 (by decide) inX3 kf_X3_15 rfl dX3_placeByRest_33 ?_
          refine lv_iload_n hx hb dX3_placeByRest_36 rfl (lv_at hl 1 rfl) ?_
          refine r_lald C w 35 (f := (g 35)) rfl (by omega) (by omega) (by decide) dX3_placeByRest_37 ?_
          refine r_lcif_ne (tgt := 50) hx hb dX3_placeByRest_38 dX3_placeByRest_39 (by decide) (by exact xB35 hg _) (by exact xB35 hg _) (fun c38 => ?_) (fun c38 => ?_)
          · skip
            refine r_iinc (lv' := [(3, vI (i3 + 1)), (0, .ref (a 33)), (1, vI p0), (2, vI k2)]) hx hb dX3_placeByRest_50 hl (k := 3) rfl (by decide) rfl (fun ls hl => ?_)
            refine lv_goto (tgt := 4) hx hb dX3_placeByRest_53 (by decide) ?_
            exact ih4 k2 (i3 + 1) (by omega) (by rw [sumI_s _ hi3.1, ← hk2]; first | rw [btF_1 (by omega)] | (rw [btF_0 (by omega)]; omega)) (by omega) _ _ _ w (lv_sub hl [1, 2, 3, 0] rfl)
          · skip
            refine lv_iload_n hx hb dX3_placeByRest_42 rfl (lv_at hl 3 rfl) ?_
            refine lv_iload_n hx hb dX3_placeByRest_43 rfl (lv_at hl 1 rfl) ?_
            refine r_icmp_ge (tgt := 50) hx hb dX3_placeByRest_44 (by decide) (by omega) (by omega) (fun c44 => ?_) (fun c44 => ?_)
            · skip
              refine r_iinc (lv' := [(3, vI (i3 + 1)), (0, .ref (a 33)), (1, vI p0), (2, vI k2)]) hx hb dX3_placeByRest_50 hl (k := 3) rfl (by decide) rfl (fun ls hl => ?_)
              refine lv_goto (tgt := 4) hx hb dX3_placeByRest_53 (by decide) ?_
              exact ih4 k2 (i3 + 1) (by omega) (by rw [sumI_s _ hi3.1, ← hk2]; first | rw [btF_1 (by omega)] | (rw [btF_0 (by omega)]; omega)) (by omega) _ _ _ w (lv_sub hl [1, 2, 3, 0] rfl)
            · skip
              refine r_iinc (lv' := [(2, vI (k2 + 1)), (0, .ref (a 33)), (1, vI p0), (3, vI i3)]) hx hb dX3_placeByRest_47 hl (k := 2) rfl (by decide) rfl (fun ls hl => ?_)
              refine r_iinc (lv' := [(3, vI (i3 + 1)), (2, vI (k2 + 1)), (0, .ref (a 33)), (1, vI p0)]) hx hb dX3_placeByRest_50 hl (k := 3) rfl (by decide) rfl (fun ls hl => ?_)
              refine lv_goto (tgt := 4) hx hb dX3_placeByRest_53 (by decide) ?_
              exact ih4 (k2 + 1) (i3 + 1) (by omega) (by rw [sumI_s _ hi3.1, ← hk2]; first | rw [btF_1 (by omega)] | (rw [btF_0 (by omega)]; omega)) (by omega) _ _ _ w (lv_sub hl [2, 3, 1, 0] rfl)
  replace hl : lv_has ls 4 [(0, .ref (a 33)), (1, vI p0)] := hl
  refine r_iconst hx hb dX3_placeByRest_0 ?_
  refine lv_istore_n (lv' := [(2, vI 0), (0, .ref (a 33)), (1, vI p0)]) hx hb dX3_placeByRest_1 rfl hl (by decide) rfl (fun ls hl => ?_)
  refine r_iconst hx hb dX3_placeByRest_2 ?_
  refine lv_istore_n (lv' := [(3, vI 0), (2, vI 0), (0, .ref (a 33)), (1, vI p0)]) hx hb dX3_placeByRest_3 rfl hl (by decide) rfl (fun ls hl => ?_)
  exact J4 _ 0 0 (by omega) (by rfl) (Nat.lt_succ_self _) _ _ _ w (lv_sub hl [2, 3, 1, 0] rfl)
