/-! sums; the next sale of a lot; claims; the pool -/
def sumZ (f : Int → Int) : Nat → Int
  | 0 => 0
  | n + 1 => sumZ f n + f n
def sumI (f : Int → Int) (i : Int) : Int := sumZ f i.toNat
theorem sumI_0 (f : Int → Int) : sumI f 0 = 0 := rfl
theorem sumI_s (f : Int → Int) {i : Int} (h : 0 ≤ i) : sumI f (i + 1) = sumI f i + f i := by
  unfold sumI
  rw [show (i + 1).toNat = i.toNat + 1 by omega]
  show sumZ f i.toNat + f (i.toNat : Int) = _
  rw [Int.toNat_of_nonneg h]
theorem sumZ_cg {f k : Int → Int} : ∀ {n : Nat}, (∀ j : Int, 0 ≤ j → j < n → f j = k j) → sumZ f n = sumZ k n
  | 0, _ => rfl
  | n + 1, h => by
    show sumZ f n + f n = sumZ k n + k n
    rw [sumZ_cg (n := n) (fun j h0 h1 => h j h0 (by omega)), h n (by omega) (by omega)]
theorem sumI_cg {f k : Int → Int} {n : Int} (h : ∀ j : Int, 0 ≤ j → j < n → f j = k j) : sumI f n = sumI k n := sumZ_cg (fun j h0 h1 => h j h0 (by omega))
theorem sumZ_b {f : Int → Int} {c : Int} : ∀ {n : Nat}, (∀ j : Int, 0 ≤ j → j < n → 0 ≤ f j ∧ f j ≤ c) → 0 ≤ sumZ f n ∧ sumZ f n ≤ n * c
  | 0, _ => by simp [sumZ]
  | n + 1, h => by
    have h1 := sumZ_b (n := n) (fun j h0 h1 => h j h0 (by omega))
    have h2 := h n (by omega) (by omega)
    have e : ((n + 1 : Nat) : Int) * c = n * c + c := by rw [Int.natCast_add, Int.add_mul]; simp
    show 0 ≤ sumZ f n + f n ∧ sumZ f n + f n ≤ _
    omega
theorem sumI_b {f : Int → Int} {c n : Int} (hn : 0 ≤ n) (h : ∀ j : Int, 0 ≤ j → j < n → 0 ≤ f j ∧ f j ≤ c) : 0 ≤ sumI f n ∧ sumI f n ≤ n * c := by
  have h1 := sumZ_b (f := f) (c := c) (n := n.toNat) (fun j h0 h1 => h j h0 (by omega))
  rw [Int.toNat_of_nonneg hn] at h1
  exact h1
theorem mul_b {x y a b : Int} (hx : 0 ≤ x ∧ x ≤ a) (hy : 0 ≤ y ∧ y ≤ b) : 0 ≤ x * y ∧ x * y ≤ a * b := by
  have h1 := Int.mul_nonneg hx.1 hy.1
  have h2 := Int.mul_le_mul_of_nonneg_right hx.2 hy.1
  have h3 : a * y ≤ a * b := Int.mul_le_mul_of_nonneg_left hy.2 (by omega)
  omega
def mx (a b : Int) : Int := if a ≤ b then b else a
theorem mx_of {a b v : Int} (h : (v = a ∨ v = b) ∧ a ≤ v ∧ b ≤ v) : v = mx a b := by
  unfold mx
  split <;> omega
abbrev cntX (g : Nat → Int → Int) (t s : Int) : Prop := g 23 s ≤ t ∧ (g 26 s = -1 ∨ t < g 26 s)
def clX (z : Nat → Int) (g : Nat → Int → Int) (s : Int) : Int := if g 27 s = -1 ∨ z 4 = 0 then 0 else mx (g 25 s - g 25 (g 27 s)) 0 * g 24 (g 27 s)
theorem clX_b {z : Nat → Int} {g : Nat → Int → Int} (hg : xBg g) (s : Int) : 0 ≤ clX z g s ∧ clX z g s ≤ 4999500 := by
  unfold clX
  split
  · omega
  · have h1 := xB25 hg s
    have h2 := xB25 hg (g 27 s)
    have h3 := xB24 hg (g 27 s)
    have h4 : 0 ≤ mx (g 25 s - g 25 (g 27 s)) 0 ∧ mx (g 25 s - g 25 (g 27 s)) 0 ≤ 9999 := by
      unfold mx
      split <;> omega
    have := mul_b h4 h3
    omega
def tX (z : Nat → Int) (g : Nat → Int → Int) (t s : Int) : Int := if cntX g t s then g 24 s * g 25 s else if g 27 s ≠ -1 ∧ g 23 (g 27 s) ≤ t then clX z g s else 0
theorem tX_1 {z : Nat → Int} {g : Nat → Int → Int} {t s : Int} (h : cntX g t s) : tX z g t s = g 24 s * g 25 s := if_pos h
theorem tX_2 {z : Nat → Int} {g : Nat → Int → Int} {t s : Int} (h : ¬ cntX g t s) (h2 : g 27 s ≠ -1 ∧ g 23 (g 27 s) ≤ t) : tX z g t s = clX z g s := by unfold tX; rw [if_neg h, if_pos h2]
theorem tX_3 {z : Nat → Int} {g : Nat → Int → Int} {t s : Int} (h : ¬ cntX g t s) (h2 : ¬ (g 27 s ≠ -1 ∧ g 23 (g 27 s) ≤ t)) : tX z g t s = 0 := by unfold tX; rw [if_neg h, if_neg h2]
theorem tX_b {z : Nat → Int} {g : Nat → Int → Int} (hg : xBg g) (t s : Int) : 0 ≤ tX z g t s ∧ tX z g t s ≤ 4999500 := by
  unfold tX
  split
  · have := mul_b (xB24 hg s) (xB25 hg s)
    omega
  · split
    · exact clX_b hg s
    · omega
def poolX (z : Nat → Int) (g : Nat → Int → Int) (t : Int) : Int := sumI (tX z g t) (z 17)
theorem poolX_b {z : Nat → Int} {g : Nat → Int → Int} (hz : xBz z) (hg : xBg g) (t : Int) : 0 ≤ poolX z g t ∧ poolX z g t ≤ 1999800000 := by
  have h1 := xZ17 hz
  have h2 := sumI_b (f := tX z g t) (c := 4999500) h1.1 (fun j _ _ => tX_b hg t j)
  unfold poolX
  omega

abbrev rm_X3_claimOf : Room := { frames := 1, cells := 0, slots := 0, locals := 13 }
set_option maxHeartbeats 4000000 in
set_option maxRecDepth 100000 in
theorem ct_X3_claimOf (l : Launch) (D : va_G) (cy : Nat → ClassId) (a : Nat → Nat) (z : Nat → Int) (g : Nat → Int → Int) (p0 : Int) (hz : xBz z) (hg : xBg g) (h0 : 0 ≤ p0 ∧ p0 < 400) : MI l yX3_claimOf cX3_claimOf 3 .int (rm_X3_claimOf) D cy (xw cy a z g) [.ref (a 33), vI p0] (fun (v : Int) (u : Unit) => v = clX z g p0) (fun _ => xw cy a z g) 0 0 := by
  refine go_i (by decide +kernel) (Nat.le_of_ble_eq_true rfl) (Or.inl rfl) ?_
  intro p e s m args below meth c Q A ls C hnm hA w hl hend
  have hx := C.1
  have hb := C.2.1
  replace hl : lv_has ls 3 [(0, .ref (a 33)), (1, vI p0)] := hl
  refine lv_aload_n hx hb dX3_claimOf_0 rfl (lv_at hl 0 rfl) ?_
  refine r_get C w 33 (v := .ref (a 20)) rfl rfl 1 (by decide) inX3 kf_X3_22 rfl dX3_claimOf_1 ?_
  refine r_getN C w 20 (v := .ref (a 27)) rfl rfl 6 (by decide) inX7 kt_X3_30 rfl dX3_claimOf_4 ?_
  refine lv_iload_n hx hb dX3_claimOf_7 rfl (lv_at hl 1 rfl) ?_
  refine r_iald C w 27 (f := (g 27)) rfl (by omega) (by omega) (by decide) dX3_claimOf_8 ?_
  have qg1 := xB27 hg p0
  refine lv_istore_n (lv' := [(2, vI ((g 27) p0)), (0, .ref (a 33)), (1, vI p0)]) hx hb dX3_claimOf_9 rfl hl (by decide) rfl (fun ls hl => ?_)
  refine lv_iload_n hx hb dX3_claimOf_10 rfl (lv_at hl 0 rfl) ?_
  refine r_iconst hx hb dX3_claimOf_11 ?_
  refine r_icmp_eq (tgt := 25) hx hb dX3_claimOf_12 (by decide) (by omega) (by omega) (fun c12 => ?_) (fun c12 => ?_)
  · skip
    refine r_iconst hx hb dX3_claimOf_25 ?_
    exact hend 0 () _ _ _ _ dX3_claimOf_26 w (by unfold clX; rw [if_pos (by omega)])
  · skip
    refine lv_aload_n hx hb dX3_claimOf_15 rfl (lv_at hl 1 rfl) ?_
    refine r_get C w 33 (v := .ref (a 3)) rfl rfl 2 (by decide) inX3 kf_X3_26 rfl dX3_claimOf_16 ?_
    refine r_getN C w 3 (v := vI (z 4)) rfl rfl 3 (by decide) inX6 kt_X3_36 rfl dX3_claimOf_19 ?_
    have qz2 := xZ4 hz
    refine r_if_ne (tgt := 27) hx hb dX3_claimOf_22 (by decide) (by omega) (fun c22 => ?_) (fun c22 => ?_)
    · skip
      refine lv_aload_n hx hb dX3_claimOf_27 rfl (lv_at hl 1 rfl) ?_
      refine r_get C w 33 (v := .ref (a 20)) rfl rfl 1 (by decide) inX3 kf_X3_22 rfl dX3_claimOf_28 ?_
      refine r_getN C w 20 (v := .ref (a 25)) rfl rfl 4 (by decide) inX7 kt_X3_42 rfl dX3_claimOf_31 ?_
      refine lv_iload_n hx hb dX3_claimOf_34 rfl (lv_at hl 2 rfl) ?_
      refine r_iald C w 25 (f := (g 25)) rfl (by omega) (by omega) (by decide) dX3_claimOf_35 ?_
      have qg3 := xB25 hg p0
      refine lv_aload_n hx hb dX3_claimOf_36 rfl (lv_at hl 1 rfl) ?_
      refine r_get C w 33 (v := .ref (a 20)) rfl rfl 1 (by decide) inX3 kf_X3_22 rfl dX3_claimOf_37 ?_
      refine r_getN C w 20 (v := .ref (a 25)) rfl rfl 4 (by decide) inX7 kt_X3_42 rfl dX3_claimOf_40 ?_
      refine lv_iload_n hx hb dX3_claimOf_43 rfl (lv_at hl 0 rfl) ?_
      refine r_iald C w 25 (f := (g 25)) rfl (by omega) (by omega) (by decide) dX3_claimOf_44 ?_
      have qg4 := xB25 hg ((g 27) p0)
      refine r_isub hx hb dX3_claimOf_45 ?_
      refine r_iconst hx hb dX3_claimOf_46 ?_
      refine r_mmax C km_X3_45 hl.1 (by decide) (Nat.le_of_ble_eq_true rfl) ⟨by decide, by decide⟩ (by omega) (by omega) dX3_claimOf_47 (fun rv_1 hp_1 => ?_)
      refine lv_aload_n hx hb dX3_claimOf_50 rfl (lv_at hl 1 rfl) ?_
      refine r_get C w 33 (v := .ref (a 20)) rfl rfl 1 (by decide) inX3 kf_X3_22 rfl dX3_claimOf_51 ?_
      refine r_getN C w 20 (v := .ref (a 24)) rfl rfl 3 (by decide) inX7 kt_X3_51 rfl dX3_claimOf_54 ?_
      refine lv_iload_n hx hb dX3_claimOf_57 rfl (lv_at hl 0 rfl) ?_
      refine r_iald C w 24 (f := (g 24)) rfl (by omega) (by omega) (by decide) dX3_claimOf_58 ?_
      have qg5 := xB24 hg ((g 27) p0)
      refine r_imul hx hb dX3_claimOf_59 ?_
      exact hend (rv_1 * ((g 24) ((g 27) p0))) () _ _ _ _ dX3_claimOf_60 w (by unfold clX; rw [if_neg (by omega), mx_of hp_1])
    · skip
      refine r_iconst hx hb dX3_claimOf_25 ?_
      exact hend 0 () _ _ _ _ dX3_claimOf_26 w (by unfold clX; rw [if_pos (by omega)])

abbrev rm_X3_poolAsOf : Room := { frames := 2, cells := 0, slots := 0, locals := 35 }
set_option maxHeartbeats 4000000 in
set_option maxRecDepth 100000 in
theorem ct_X3_poolAsOf (l : Launch) (D : va_G) (cy : Nat → ClassId) (a : Nat → Nat) (z : Nat → Int) (g : Nat → Int → Int) (p0 : Int) (hz : xBz z) (hg : xBg g) (h0 : iR p0) : ML l yX3_poolAsOf cX3_poolAsOf 6 (rm_X3_poolAsOf) D cy (xw cy a z g) [.ref (a 33), vI p0] (fun (v : Int) (u : Unit) => v = poolX z g p0) (fun _ => xw cy a z g) 0 0 := by
  refine go_l (by decide +kernel) (Nat.le_of_ble_eq_true rfl) ?_
  intro p e s m args below meth c Q A ls C hnm hA w hl hend
  have hx := C.1
  have hb := C.2.1
  have b17 := xZ17 hz
  have J5 : ∀ N : Nat, ∀ (i : Int) (t : Int), (0 ≤ i ∧ i ≤ z 17) → (t = sumI (tX z g p0) i) → ((z 17 - i).toNat) < N → ∀ (H : Heap) (locs : List Loc) (ls : Array Slot), wd D A s.heap (xw cy a z g) H locs → lv_has ls 6 [(0, .ref (a 33)), (1, vI p0), (2, vL t), (4, vI i)] → W p l e (rm_X3_poolAsOf) s m args below meth c H locs 0 0 Q (F0 m 5 ls []) := by
    intro N
    induction N with
    | zero => intro i t hi ht hN9; exact absurd hN9 (Nat.not_lt_zero _)
    | succ N ih5 =>
      intro i t hi ht hN5 H locs ls w hl
      refine lv_iload hx hb dX3_poolAsOf_5 (lv_at hl 3 rfl) ?_
      refine lv_aload_n hx hb dX3_poolAsOf_7 rfl (lv_at hl 0 rfl) ?_
      refine r_get C w 33 (v := .ref (a 20)) rfl rfl 1 (by decide) inX3 kf_X3_22 rfl dX3_poolAsOf_8 ?_
      refine r_getN C w 20 (v := vI (z 17)) rfl rfl 7 (by decide) inX7 kt_X3_54 rfl dX3_poolAsOf_11 ?_
      have qz1 := xZ17 hz
      refine r_icmp_ge (tgt := 107) hx hb dX3_poolAsOf_14 (by decide) (by omega) (by omega) (fun c14 => ?_) (fun c14 => ?_)
      · skip
        refine lv_lload_n hx hb dX3_poolAsOf_107 rfl (lv_at hl 2 rfl) ?_
        exact hend t () _ _ _ _ dX3_poolAsOf_108 w (by rw [ht, show i = z 17 by omega]; rfl)
      · skip
        refine lv_aload_n hx hb dX3_poolAsOf_17 rfl (lv_at hl 0 rfl) ?_
        refine r_get C w 33 (v := .ref (a 20)) rfl rfl 1 (by decide) inX3 kf_X3_22 rfl dX3_poolAsOf_18 ?_
        refine r_getN C w 20 (v := .ref (a 27)) rfl rfl 6 (by decide) inX7 kt_X3_30 rfl dX3_poolAsOf_21 ?_
        refine lv_iload hx hb dX3_poolAsOf_24 (lv_at hl 3 rfl) ?_
        refine r_iald C w 27 (f := (g 27)) rfl (by omega) (by omega) (by decide) dX3_poolAsOf_26 ?_
        have qg2 := xB27 hg i
        refine lv_istore (lv' := [(5, vI ((g 27) i)), (0, .ref (a 33)), (1, vI p0), (2, vL t), (4, vI i)]) hx hb dX3_poolAsOf_27 hl (by decide) rfl (fun ls hl => ?_)
        refine lv_aload_n hx hb dX3_poolAsOf_29 rfl (lv_at hl 1 rfl) ?_
        refine r_get C w 33 (v := .ref (a 20)) rfl rfl 1 (by decide) inX3 kf_X3_22 rfl dX3_poolAsOf_30 ?_
        refine lv_iload hx hb dX3_poolAsOf_33 (lv_at hl 4 rfl) ?_
        refine lv_iload_n hx hb dX3_poolAsOf_35 rfl (lv_at hl 2 rfl) ?_
        refine cVI C w hA (ct_X7_countsAsOf l D cy a z g i p0 hz hg (by show 0 ≤ i ∧ i < 400; omega) (by show iR p0; omega)) ok_X7_countsAsOf km_X3_58 ⟨rfl, rfl⟩ ⟨by decide, by decide⟩ ⟨by decide, by decide⟩ rfl 20 rfl rfl hl.1 rfl (Nat.le_of_ble_eq_true rfl) dX3_poolAsOf_36 (fun rv_1 uv_1 H locs w hp_1 => ?_)
        replace hp_1 : (rv_1 = 1 ∧ (g 23) i ≤ p0 ∧ ((g 26) i = -1 ∨ p0 < (g 26) i)) ∨ (rv_1 = 0 ∧ ¬ ((g 23) i ≤ p0 ∧ ((g 26) i = -1 ∨ p0 < (g 26) i))) := hp_1
        replace w : wd D A s.heap (xw cy a z g) H locs := w
        refine r_if_eq (tgt := 71) hx hb dX3_poolAsOf_39 (by decide) (by omega) (fun c39 => ?_) (fun c39 => ?_)
        · skip
          refine lv_iload hx hb dX3_poolAsOf_71 (lv_at hl 0 rfl) ?_
          refine r_iconst hx hb dX3_poolAsOf_73 ?_
          refine r_icmp_eq (tgt := 101) hx hb dX3_poolAsOf_74 (by decide) (by omega) (by omega) (fun c74 => ?_) (fun c74 => ?_)
          · skip
            refine r_iinc (lv' := [(4, vI (i + 1)), (5, vI ((g 27) i)), (0, .ref (a 33)), (1, vI p0), (2, vL t)]) hx hb dX3_poolAsOf_101 hl (k := 4) rfl (by decide) rfl (fun ls hl => ?_)
            refine lv_goto (tgt := 5) hx hb dX3_poolAsOf_104 (by decide) ?_
            exact ih5 (i + 1) t (by omega) (by rw [sumI_s _ hi.1, ← ht]; first | rw [tX_1 (by omega)] | rw [tX_2 (by omega) (by omega), hp_2] | (rw [tX_3 (by omega) (by omega)]; omega)) (by omega) _ _ _ w (lv_sub hl [2, 3, 4, 0] rfl)
          · skip
            refine lv_aload_n hx hb dX3_poolAsOf_77 rfl (lv_at hl 1 rfl) ?_
            refine r_get C w 33 (v := .ref (a 20)) rfl rfl 1 (by decide) inX3 kf_X3_22 rfl dX3_poolAsOf_78 ?_
            refine r_getN C w 20 (v := .ref (a 23)) rfl rfl 2 (by decide) inX7 kt_X3_62 rfl dX3_poolAsOf_81 ?_
            refine lv_iload hx hb dX3_poolAsOf_84 (lv_at hl 0 rfl) ?_
            refine r_iald C w 23 (f := (g 23)) rfl (by omega) (by omega) (by decide) dX3_poolAsOf_86 ?_
            have qg3 := xB23 hg ((g 27) i)
            refine lv_iload_n hx hb dX3_poolAsOf_87 rfl (lv_at hl 2 rfl) ?_
            refine r_icmp_gt (tgt := 101) hx hb dX3_poolAsOf_88 (by decide) (by omega) (by omega) (fun c88 => ?_) (fun c88 => ?_)
            · skip
              refine r_iinc (lv' := [(4, vI (i + 1)), (5, vI ((g 27) i)), (0, .ref (a 33)), (1, vI p0), (2, vL t)]) hx hb dX3_poolAsOf_101 hl (k := 4) rfl (by decide) rfl (fun ls hl => ?_)
              refine lv_goto (tgt := 5) hx hb dX3_poolAsOf_104 (by decide) ?_
              exact ih5 (i + 1) t (by omega) (by rw [sumI_s _ hi.1, ← ht]; first | rw [tX_1 (by omega)] | rw [tX_2 (by omega) (by omega), hp_2] | (rw [tX_3 (by omega) (by omega)]; omega)) (by omega) _ _ _ w (lv_sub hl [2, 3, 4, 0] rfl)
            · skip
              refine lv_lload_n hx hb dX3_poolAsOf_91 rfl (lv_at hl 3 rfl) ?_
              refine lv_aload_n hx hb dX3_poolAsOf_92 rfl (lv_at hl 1 rfl) ?_
              refine lv_iload hx hb dX3_poolAsOf_93 (lv_at hl 4 rfl) ?_
              refine cVI C w hA (ct_X3_claimOf l D cy a z g i hz hg (by show 0 ≤ i ∧ i < 400; omega)) ok_X3_claimOf km_X3_65 ⟨rfl, rfl⟩ ⟨by decide, by decide⟩ ⟨by decide, by decide⟩ rfl 33 rfl rfl hl.1 rfl (Nat.le_of_ble_eq_true rfl) dX3_poolAsOf_95 (fun rv_2 uv_2 H locs w hp_2 => ?_)
              replace w : wd D A s.heap (xw cy a z g) H locs := w
              have bcl_2 := clX_b (z := z) hg i
              refine r_i2l hx hb dX3_poolAsOf_98 (by rw [hp_2]; exact ⟨by omega, by omega⟩) ?_
              refine r_ladd hx hb dX3_poolAsOf_99 ?_
              refine lv_lstore_n (lv' := [(2, vL (t + rv_2)), (5, vI ((g 27) i)), (0, .ref (a 33)), (1, vI p0), (4, vI i)]) hx hb dX3_poolAsOf_100 rfl hl (by decide) rfl (fun ls hl => ?_)
              refine r_iinc (lv' := [(4, vI (i + 1)), (2, vL (t + rv_2)), (5, vI ((g 27) i)), (0, .ref (a 33)), (1, vI p0)]) hx hb dX3_poolAsOf_101 hl (k := 4) rfl (by decide) rfl (fun ls hl => ?_)
              refine lv_goto (tgt := 5) hx hb dX3_poolAsOf_104 (by decide) ?_
              exact ih5 (i + 1) (t + rv_2) (by omega) (by rw [sumI_s _ hi.1, ← ht]; first | rw [tX_1 (by omega)] | rw [tX_2 (by omega) (by omega), hp_2] | (rw [tX_3 (by omega) (by omega)]; omega)) (by omega) _ _ _ w (lv_sub hl [3, 4, 1, 0] rfl)
        · skip
          refine lv_lload_n hx hb dX3_poolAsOf_42 rfl (lv_at hl 3 rfl) ?_
          refine lv_aload_n hx hb dX3_poolAsOf_43 rfl (lv_at hl 1 rfl) ?_
          refine r_get C w 33 (v := .ref (a 20)) rfl rfl 1 (by decide) inX3 kf_X3_22 rfl dX3_poolAsOf_44 ?_
          refine r_getN C w 20 (v := .ref (a 24)) rfl rfl 3 (by decide) inX7 kt_X3_51 rfl dX3_poolAsOf_47 ?_
          refine lv_iload hx hb dX3_poolAsOf_50 (lv_at hl 4 rfl) ?_
          refine r_iald C w 24 (f := (g 24)) rfl (by omega) (by omega) (by decide) dX3_poolAsOf_52 ?_
          have qg4 := xB24 hg i
          refine r_i2l hx hb dX3_poolAsOf_53 (by omega) ?_
          refine lv_aload_n hx hb dX3_poolAsOf_54 rfl (lv_at hl 1 rfl) ?_
          refine r_get C w 33 (v := .ref (a 20)) rfl rfl 1 (by decide) inX3 kf_X3_22 rfl dX3_poolAsOf_55 ?_
          refine r_getN C w 20 (v := .ref (a 25)) rfl rfl 4 (by decide) inX7 kt_X3_42 rfl dX3_poolAsOf_58 ?_
          refine lv_iload hx hb dX3_poolAsOf_61 (lv_at hl 4 rfl) ?_
          refine r_iald C w 25 (f := (g 25)) rfl (by omega) (by omega) (by decide) dX3_poolAsOf_63 ?_
          have qg5 := xB25 hg i
          refine r_i2l hx hb dX3_poolAsOf_64 (by omega) ?_
          refine r_lmul hx hb dX3_poolAsOf_65 ?_
          refine r_ladd hx hb dX3_poolAsOf_66 ?_
          refine lv_lstore_n (lv' := [(2, vL (t + (((g 24) i) * ((g 25) i)))), (5, vI ((g 27) i)), (0, .ref (a 33)), (1, vI p0), (4, vI i)]) hx hb dX3_poolAsOf_67 rfl hl (by decide) rfl (fun ls hl => ?_)
          refine lv_goto (tgt := 101) hx hb dX3_poolAsOf_68 (by decide) ?_
          refine r_iinc (lv' := [(4, vI (i + 1)), (2, vL (t + (((g 24) i) * ((g 25) i)))), (5, vI ((g 27) i)), (0, .ref (a 33)), (1, vI p0)]) hx hb dX3_poolAsOf_101 hl (k := 4) rfl (by decide) rfl (fun ls hl => ?_)
          refine lv_goto (tgt := 5) hx hb dX3_poolAsOf_104 (by decide) ?_
          exact ih5 (i + 1) (t + (((g 24) i) * ((g 25) i))) (by omega) (by rw [sumI_s _ hi.1, ← ht]; first | rw [tX_1 (by omega)] | rw [tX_2 (by omega) (by omega), hp_2] | (rw [tX_3 (by omega) (by omega)]; omega)) (by omega) _ _ _ w (lv_sub hl [3, 4, 1, 0] rfl)
  replace hl : lv_has ls 6 [(0, .ref (a 33)), (1, vI p0)] := hl
  refine r_lconst (z := 0) hx hb dX3_poolAsOf_0 (by decide) ?_
  refine lv_lstore_n (lv' := [(2, vL 0), (0, .ref (a 33)), (1, vI p0)]) hx hb dX3_poolAsOf_1 rfl hl (by decide) rfl (fun ls hl => ?_)
  refine r_iconst hx hb dX3_poolAsOf_2 ?_
  refine lv_istore (lv' := [(4, vI 0), (2, vL 0), (0, .ref (a 33)), (1, vI p0)]) hx hb dX3_poolAsOf_3 hl (by decide) rfl (fun ls hl => ?_)
  exact J5 _ 0 0 (by omega) (by rfl) (Nat.lt_succ_self _) _ _ _ w (lv_sub hl [2, 3, 1, 0] rfl)

abbrev rm_X9_pool : Room := { frames := 3, cells := 0, slots := 0, locals := 60 }
set_option maxHeartbeats 4000000 in
set_option maxRecDepth 100000 in
theorem ct_X9_pool (l : Launch) (D : va_G) (cy : Nat → ClassId) (a : Nat → Nat) (z : Nat → Int) (g : Nat → Int → Int) (p0 : Int) (hz : xBz z) (hg : xBg g) (h0 : iR p0) : MI l yX9_pool cX9_pool 2 .int (rm_X9_pool) D cy (xw cy a z g) [.ref (a 0), vI p0] (fun (v : Int) (u : Unit) => v = poolX z g p0) (fun _ => xw cy a z g) 0 0 := by
  refine go_i (by decide +kernel) (Nat.le_of_ble_eq_true rfl) (Or.inl rfl) ?_
  intro p e s m args below meth c Q A ls C hnm hA w hl hend
  have hx := C.1
  have hb := C.2.1
  replace hl : lv_has ls 2 [(0, .ref (a 0)), (1, vI p0)] := hl
  refine lv_aload_n hx hb dX9_pool_0 rfl (lv_at hl 0 rfl) ?_
  refine r_get C w 0 (v := .ref (a 33)) rfl rfl 6 (by decide) inX9 kf_X9_58 rfl dX9_pool_1 ?_
  refine lv_iload_n hx hb dX9_pool_4 rfl (lv_at hl 1 rfl) ?_
  refine cVL C w hA (ct_X3_poolAsOf l D cy a z g p0 hz hg (by show iR p0; omega)) ok_X3_poolAsOf km_X9_214 ⟨rfl, rfl⟩ ⟨by decide, by decide⟩ ⟨by decide, by decide⟩ rfl 33 rfl rfl hl.1 rfl (Nat.le_of_ble_eq_true rfl) dX9_pool_5 (fun rv_1 uv_1 H locs w hp_1 => ?_)
  replace w : wd D A s.heap (xw cy a z g) H locs := w
  have bpl_1 := poolX_b hz hg p0
  refine r_l2i hx hb dX9_pool_8 ?_
  exact hend rv_1 () _ _ _ _ dX9_pool_9 w (by exact hp_1)

/-- the next one behind k, below n, with k's value; -1 without any -/
def isNx (f : Int → Int) (n k v : Int) : Prop := (k < v ∧ v < n ∧ f v = f k ∧ ∀ j, k < j → j < v → f j ≠ f k) ∨ (v = -1 ∧ ∀ j, k < j → j < n → f j ≠ f k)
theorem isNx_one {f : Int → Int} {n k v w : Int} (hk : 0 ≤ k) (h1 : isNx f n k v) (h2 : isNx f n k w) : v = w := by
  rcases h1 with ⟨a1, a2, a3, a4⟩ | ⟨a1, a2⟩ <;> rcases h2 with ⟨b1, b2, b3, b4⟩ | ⟨b1, b2⟩
  · rcases Int.lt_trichotomy v w with h | h | h
    · exact absurd a3 (b4 v a1 h)
    · exact h
    · exact absurd b3 (a4 w b1 h)
  · exact absurd a3 (b2 v a1 a2)
  · exact absurd b3 (a2 w b1 b2)
  · omega
theorem isNx_ex (f : Int → Int) (n k : Int) : ∃ v, isNx f n k v := by
  have key : ∀ m : Nat, (∃ v, (k < v ∧ v < k + 1 + m ∧ f v = f k ∧ ∀ j, k < j → j < v → f j ≠ f k)) ∨ (∀ j, k < j → j < k + 1 + m → f j ≠ f k) := by
    intro m
    induction m with
    | zero => exact Or.inr (fun j h1 h2 => absurd h2 (by omega))
    | succ m ih =>
      rcases ih with ⟨v, h1, h2, h3, h4⟩ | h
      · exact Or.inl ⟨v, h1, by omega, h3, h4⟩
      · by_cases e : f (k + 1 + m) = f k
        · exact Or.inl ⟨k + 1 + m, by omega, by omega, e, h⟩
        · refine Or.inr (fun j h1 h2 => ?_)
          by_cases q : j = k + 1 + m
          · rw [q]; exact e
          · exact h j h1 (by omega)
  rcases key (n - (k + 1)).toNat with ⟨v, h1, h2, h3, h4⟩ | h
  · by_cases q : v < n
    · exact ⟨v, Or.inl ⟨h1, q, h3, h4⟩⟩
    · exact ⟨-1, Or.inr ⟨rfl, fun j h5 h6 => h4 j h5 (by omega)⟩⟩
  · exact ⟨-1, Or.inr ⟨rfl, fun j h5 h6 => h j h5 (by omega)⟩⟩
noncomputable def nx (f : Int → Int) (n k : Int) : Int := Classical.choose (isNx_ex f n k)
theorem nx_is (f : Int → Int) (n k : Int) : isNx f n k (nx f n k) := Classical.choose_spec (isNx_ex f n k)
theorem nx_of {f : Int → Int} {n k v : Int} (hk : 0 ≤ k) (h : isNx f n k v) : v = nx f n k := isNx_one hk h (nx_is f n k)
theorem nx_b (f : Int → Int) {n k : Int} (hk : 0 ≤ k) : -1 ≤ nx f n k ∧ (nx f n k < n ∨ nx f n k = -1) := by
  rcases nx_is f n k with h | h <;> omega
abbrev cntM (g : Nat → Int → Int) (t s : Int) : Prop := g 18 s ≤ t ∧ (g 21 s = -1 ∨ t < g 21 s)
noncomputable def clM (z : Nat → Int) (g : Nat → Int → Int) (s : Int) : Int := if g 21 s = -1 ∨ nx (g 16) (z 13) s < 0 ∨ g 2 9 = 0 ∨ g 20 s ≤ g 20 (nx (g 16) (z 13) s) then 0 else (g 20 s - g 20 (nx (g 16) (z 13) s)) * g 19 (nx (g 16) (z 13) s)
theorem clM_b {z : Nat → Int} {g : Nat → Int → Int} (hg : mBg g) (s : Int) : 0 ≤ clM z g s ∧ clM z g s ≤ 4999500 := by
  unfold clM
  split
  · omega
  · have h1 := mB20 hg s
    have h2 := mB20 hg (nx (g 16) (z 13) s)
    have h3 := mB19 hg (nx (g 16) (z 13) s)
    have := mul_b (x := g 20 s - g 20 (nx (g 16) (z 13) s)) (a := 9999) (by omega) h3
    omega
noncomputable def tM (z : Nat → Int) (g : Nat → Int → Int) (t s : Int) : Int := (if cntM g t s then g 19 s * g 20 s else 0) + (if g 21 s ≠ -1 ∧ g 21 s ≤ t ∧ 0 ≤ nx (g 16) (z 13) s ∧ g 18 (nx (g 16) (z 13) s) ≤ t then clM z g s else 0)
theorem clM_0 {z : Nat → Int} {g : Nat → Int → Int} {s i : Int} (hi : (g 21 s = -1 ∧ i = -1) ∨ (g 21 s ≠ -1 ∧ i = nx (g 16) (z 13) s)) (h : i < 0 ∨ g 2 9 = 0 ∨ g 20 s ≤ g 20 i) : 0 = clM z g s := by
  unfold clM
  rcases hi with ⟨e1, e2⟩ | ⟨e1, e2⟩
  · rw [if_pos (Or.inl e1)]
  · rw [← e2, if_pos (Or.inr h)]
theorem clM_1 {z : Nat → Int} {g : Nat → Int → Int} {s i : Int} (hi : (g 21 s = -1 ∧ i = -1) ∨ (g 21 s ≠ -1 ∧ i = nx (g 16) (z 13) s)) (h : ¬ (i < 0 ∨ g 2 9 = 0 ∨ g 20 s ≤ g 20 i)) : (g 20 s - g 20 i) * g 19 i = clM z g s := by
  unfold clM
  rcases hi with ⟨e1, e2⟩ | ⟨e1, e2⟩
  · exact absurd (Or.inl (by omega)) h
  · rw [← e2, if_neg]
    intro q
    exact h (q.resolve_left e1)
theorem tM_p {z : Nat → Int} {g : Nat → Int → Int} {t t2 i : Int} (h0 : 0 ≤ i) (ht : t2 = sumI (tM z g t) i + (if cntM g t i then g 19 i * g 20 i else 0)) (hc : g 21 i ≠ -1 ∧ g 21 i ≤ t ∧ 0 ≤ nx (g 16) (z 13) i ∧ g 18 (nx (g 16) (z 13) i) ≤ t) : t2 + clM z g i = sumI (tM z g t) (i + 1) := by
  rw [sumI_s _ h0, ht, show tM z g t i = (if cntM g t i then g 19 i * g 20 i else 0) + clM z g i from by unfold tM; rw [if_pos hc]]
  omega
theorem tM_n {z : Nat → Int} {g : Nat → Int → Int} {t t2 i : Int} (h0 : 0 ≤ i) (ht : t2 = sumI (tM z g t) i + (if cntM g t i then g 19 i * g 20 i else 0)) (hc : ¬ (g 21 i ≠ -1 ∧ g 21 i ≤ t ∧ 0 ≤ nx (g 16) (z 13) i ∧ g 18 (nx (g 16) (z 13) i) ≤ t)) : t2 + 0 = sumI (tM z g t) (i + 1) := by
  rw [sumI_s _ h0, ht, show tM z g t i = (if cntM g t i then g 19 i * g 20 i else 0) + 0 from by unfold tM; rw [if_neg hc]]
  omega
theorem all_ext {P : Int → Prop} {a i : Int} (hf : ∀ j, a < j → j < i → P j) (hi : P i) : ∀ j, a < j → j < i + 1 → P j := by
  intro j h1 h2
  by_cases e : j = i
  · rw [e]; exact hi
  · exact hf j h1 (by omega)
noncomputable def poolM (z : Nat → Int) (g : Nat → Int → Int) (t : Int) : Int := sumI (tM z g t) (z 13)
abbrev rm_X10_nextOf : Room := { frames := 0, cells := 0, slots := 0, locals := 0 }
set_option maxHeartbeats 4000000 in
set_option maxRecDepth 100000 in
theorem ct_X10_nextOf (l : Launch) (D : va_G) (cy : Nat → ClassId) (a : Nat → Nat) (z : Nat → Int) (g : Nat → Int → Int) (p0 : Int) (hz : mBz z) (hg : mBg g) (h0 : 0 ≤ p0 ∧ p0 < 400) : MI l yX10_nextOf cX10_nextOf 3 .int (rm_X10_nextOf) D cy (mw cy a z g) [.ref (a 0), vI p0] (fun (v : Int) (u : Unit) => v = nx (g 16) (z 13) p0) (fun _ => mw cy a z g) 0 0 := by
  refine go_i (by decide +kernel) (Nat.le_of_ble_eq_true rfl) (Or.inl rfl) ?_
  intro p e s m args below meth c Q A ls C hnm hA w hl hend
  have hx := C.1
  have hb := C.2.1
  have b13 := mZ13 hz
  have J4 : ∀ N : Nat, ∀ (i : Int), (p0 < i ∧ i ≤ 400) → (∀ j, p0 < j → j < i → g 16 j ≠ g 16 p0) → ((400 - i).toNat) < N → ∀ (H : Heap) (locs : List Loc) (ls : Array Slot), wd D A s.heap (mw cy a z g) H locs → lv_has ls 3 [(0, .ref (a 0)), (1, vI p0), (2, vI i)] → W p l e (rm_X10_nextOf) s m args below meth c H locs 0 0 Q (F0 m 4 ls []) := by
    intro N
    induction N with
    | zero => intro i hi hf hN9; exact absurd hN9 (Nat.not_lt_zero _)
    | succ N ih4 =>
      intro i hi hf hN4 H locs ls w hl
      refine lv_iload_n hx hb dX10_nextOf_4 rfl (lv_at hl 2 rfl) ?_
      refine lv_aload_n hx hb dX10_nextOf_5 rfl (lv_at hl 0 rfl) ?_
      refine r_get C w 0 (v := vI (z 13)) rfl rfl 34 (by decide) inX10 kf_X10_198 rfl dX10_nextOf_6 ?_
      have qz1 := mZ13 hz
      refine r_icmp_ge (tgt := 35) hx hb dX10_nextOf_9 (by decide) (by omega) (by omega) (fun c9 => ?_) (fun c9 => ?_)
      · skip
        refine r_iconst hx hb dX10_nextOf_35 ?_
        exact hend (-1) () _ _ _ _ dX10_nextOf_36 w (by exact nx_of h0.1 (Or.inr ⟨rfl, fun j h1 h2 => hf j h1 (by omega)⟩))
      · skip
        refine lv_aload_n hx hb dX10_nextOf_12 rfl (lv_at hl 0 rfl) ?_
        refine r_get C w 0 (v := .ref (a 16)) rfl rfl 28 (by decide) inX10 kf_X10_57 rfl dX10_nextOf_13 ?_
        refine lv_iload_n hx hb dX10_nextOf_16 rfl (lv_at hl 2 rfl) ?_
        refine r_iald C w 16 (f := (g 16)) rfl (by omega) (by omega) (by decide) dX10_nextOf_17 ?_
        have qg2 := mB16 hg i
        refine lv_aload_n hx hb dX10_nextOf_18 rfl (lv_at hl 0 rfl) ?_
        refine r_get C w 0 (v := .ref (a 16)) rfl rfl 28 (by decide) inX10 kf_X10_57 rfl dX10_nextOf_19 ?_
        refine lv_iload_n hx hb dX10_nextOf_22 rfl (lv_at hl 1 rfl) ?_
        refine r_iald C w 16 (f := (g 16)) rfl (by omega) (by omega) (by decide) dX10_nextOf_23 ?_
        have qg3 := mB16 hg p0
        refine r_icmp_ne (tgt := 29) hx hb dX10_nextOf_24 (by decide) (by omega) (by omega) (fun c24 => ?_) (fun c24 => ?_)
        · skip
          refine r_iinc (lv' := [(2, vI (i + 1)), (0, .ref (a 0)), (1, vI p0)]) hx hb dX10_nextOf_29 hl (k := 2) rfl (by decide) rfl (fun ls hl => ?_)
          refine lv_goto (tgt := 4) hx hb dX10_nextOf_32 (by decide) ?_
          exact ih4 (i + 1) (by omega) (by exact all_ext hf c24) (by omega) _ _ _ w (lv_sub hl [1, 2, 0] rfl)
        · skip
          refine lv_iload_n hx hb dX10_nextOf_27 rfl (lv_at hl 2 rfl) ?_
          exact hend i () _ _ _ _ dX10_nextOf_28 w (by exact nx_of h0.1 (Or.inl ⟨by omega, by omega, c24, fun j h1 h2 => hf j h1 h2⟩))
  replace hl : lv_has ls 3 [(0, .ref (a 0)), (1, vI p0)] := hl
  refine lv_iload_n hx hb dX10_nextOf_0 rfl (lv_at hl 1 rfl) ?_
  refine r_iconst hx hb dX10_nextOf_1 ?_
  refine r_iadd hx hb dX10_nextOf_2 ?_
  refine lv_istore_n (lv' := [(2, vI (p0 + 1)), (0, .ref (a 0)), (1, vI p0)]) hx hb dX10_nextOf_3 rfl hl (by decide) rfl (fun ls hl => ?_)
  exact J4 _ (p0 + 1) (by omega) (by intro j h1 h2; omega) (Nat.lt_succ_self _) _ _ _ w (lv_sub hl [1, 2, 0] rfl)

abbrev rm_X10_claimOf : Room := { frames := 1, cells := 0, slots := 0, locals := 22 }
set_option maxHeartbeats 4000000 in
set_option maxRecDepth 100000 in
theorem ct_X10_claimOf (l : Launch) (D : va_G) (cy : Nat → ClassId) (a : Nat → Nat) (z : Nat → Int) (g : Nat → Int → Int) (p0 : Int) (hz : mBz z) (hg : mBg g) (h0 : 0 ≤ p0 ∧ p0 < 400) : MI l yX10_claimOf cX10_claimOf 3 .int (rm_X10_claimOf) D cy (mw cy a z g) [.ref (a 0), vI p0] (fun (v : Int) (u : Unit) => v = clM z g p0) (fun _ => mw cy a z g) 0 0 := by
  refine go_i (by decide +kernel) (Nat.le_of_ble_eq_true rfl) (Or.inl rfl) ?_
  intro p e s m args below meth c Q A ls C hnm hA w hl hend
  have hx := C.1
  have hb := C.2.1
  have b13 := mZ13 hz
  have J20 : ∀ (i : Int), ((g 21 p0 = -1 ∧ i = -1) ∨ (g 21 p0 ≠ -1 ∧ i = nx (g 16) (z 13) p0)) → (-1 ≤ i ∧ i < 400) → ∀ (H : Heap) (locs : List Loc) (ls : Array Slot), wd D A s.heap (mw cy a z g) H locs → lv_has ls 3 [(0, .ref (a 0)), (1, vI p0), (2, vI i)] → W p l e (rm_X10_claimOf) s m args below meth c H locs 0 0 Q (F0 m 20 ls []) := by
    intro i hi hj H locs ls w hl
    refine lv_iload_n hx hb dX10_claimOf_20 rfl (lv_at hl 2 rfl) ?_
    refine r_if_lt (tgt := 49) hx hb dX10_claimOf_21 (by decide) (by omega) (fun c21 => ?_) (fun c21 => ?_)
    · skip
      refine r_iconst hx hb dX10_claimOf_49 ?_
      refine lv_goto (tgt := 73) hx hb dX10_claimOf_50 (by decide) ?_
      exact hend 0 () _ _ _ _ dX10_claimOf_73 w (by first | exact clM_0 hi (by omega) | exact clM_1 hi (by omega))
    · skip
      refine lv_aload_n hx hb dX10_claimOf_24 rfl (lv_at hl 0 rfl) ?_
      refine r_get C w 0 (v := .ref (a 2)) rfl rfl 5 (by decide) inX10 kf_X10_13 rfl dX10_claimOf_25 ?_
      refine r_bipush hx hb dX10_claimOf_28 (by decide) ?_
      refine r_iald C w 2 (f := (g 2)) rfl (by omega) (by omega) (by decide) dX10_claimOf_30 ?_
      have qg1 := mB2 hg 9
      refine r_if_eq (tgt := 49) hx hb dX10_claimOf_31 (by decide) (by omega) (fun c31 => ?_) (fun c31 => ?_)
      · skip
        refine r_iconst hx hb dX10_claimOf_49 ?_
        refine lv_goto (tgt := 73) hx hb dX10_claimOf_50 (by decide) ?_
        exact hend 0 () _ _ _ _ dX10_claimOf_73 w (by first | exact clM_0 hi (by omega) | exact clM_1 hi (by omega))
      · skip
        refine lv_aload_n hx hb dX10_claimOf_34 rfl (lv_at hl 0 rfl) ?_
        refine r_get C w 0 (v := .ref (a 20)) rfl rfl 32 (by decide) inX10 kf_X10_69 rfl dX10_claimOf_35 ?_
        refine lv_iload_n hx hb dX10_claimOf_38 rfl (lv_at hl 2 rfl) ?_
        refine r_iald C w 20 (f := (g 20)) rfl (by omega) (by omega) (by decide) dX10_claimOf_39 ?_
        have qg2 := mB20 hg i
        refine lv_aload_n hx hb dX10_claimOf_40 rfl (lv_at hl 0 rfl) ?_
        refine r_get C w 0 (v := .ref (a 20)) rfl rfl 32 (by decide) inX10 kf_X10_69 rfl dX10_claimOf_41 ?_
        refine lv_iload_n hx hb dX10_claimOf_44 rfl (lv_at hl 1 rfl) ?_
        refine r_iald C w 20 (f := (g 20)) rfl (by omega) (by omega) (by decide) dX10_claimOf_45 ?_
        have qg3 := mB20 hg p0
        refine r_icmp_lt (tgt := 53) hx hb dX10_claimOf_46 (by decide) (by omega) (by omega) (fun c46 => ?_) (fun c46 => ?_)
        · skip
          refine lv_aload_n hx hb dX10_claimOf_53 rfl (lv_at hl 0 rfl) ?_
          refine r_get C w 0 (v := .ref (a 20)) rfl rfl 32 (by decide) inX10 kf_X10_69 rfl dX10_claimOf_54 ?_
          refine lv_iload_n hx hb dX10_claimOf_57 rfl (lv_at hl 1 rfl) ?_
          refine r_iald C w 20 (f := (g 20)) rfl (by omega) (by omega) (by decide) dX10_claimOf_58 ?_
          have qg4 := mB20 hg p0
          refine lv_aload_n hx hb dX10_claimOf_59 rfl (lv_at hl 0 rfl) ?_
          refine r_get C w 0 (v := .ref (a 20)) rfl rfl 32 (by decide) inX10 kf_X10_69 rfl dX10_claimOf_60 ?_
          refine lv_iload_n hx hb dX10_claimOf_63 rfl (lv_at hl 2 rfl) ?_
          refine r_iald C w 20 (f := (g 20)) rfl (by omega) (by omega) (by decide) dX10_claimOf_64 ?_
          have qg5 := mB20 hg i
          refine r_isub hx hb dX10_claimOf_65 ?_
          refine lv_aload_n hx hb dX10_claimOf_66 rfl (lv_at hl 0 rfl) ?_
          refine r_get C w 0 (v := .ref (a 19)) rfl rfl 31 (by decide) inX10 kf_X10_66 rfl dX10_claimOf_67 ?_
          refine lv_iload_n hx hb dX10_claimOf_70 rfl (lv_at hl 2 rfl) ?_
          refine r_iald C w 19 (f := (g 19)) rfl (by omega) (by omega) (by decide) dX10_claimOf_71 ?_
          have qg6 := mB19 hg i
          refine r_imul hx hb dX10_claimOf_72 ?_
          exact hend ((((g 20) p0) - ((g 20) i)) * ((g 19) i)) () _ _ _ _ dX10_claimOf_73 w (by first | exact clM_0 hi (by omega) | exact clM_1 hi (by omega))
        · skip
          refine r_iconst hx hb dX10_claimOf_49 ?_
          refine lv_goto (tgt := 73) hx hb dX10_claimOf_50 (by decide) ?_
          exact hend 0 () _ _ _ _ dX10_claimOf_73 w (by first | exact clM_0 hi (by omega) | exact clM_1 hi (by omega))
  replace hl : lv_has ls 3 [(0, .ref (a 0)), (1, vI p0)] := hl
  refine lv_aload_n hx hb dX10_claimOf_0 rfl (lv_at hl 0 rfl) ?_
  refine r_get C w 0 (v := .ref (a 21)) rfl rfl 33 (by decide) inX10 kf_X10_72 rfl dX10_claimOf_1 ?_
  refine lv_iload_n hx hb dX10_claimOf_4 rfl (lv_at hl 1 rfl) ?_
  refine r_iald C w 21 (f := (g 21)) rfl (by omega) (by omega) (by decide) dX10_claimOf_5 ?_
  have qg7 := mB21 hg p0
  refine r_iconst hx hb dX10_claimOf_6 ?_
  refine r_icmp_ne (tgt := 14) hx hb dX10_claimOf_7 (by decide) (by omega) (by omega) (fun c7 => ?_) (fun c7 => ?_)
  · skip
    refine lv_aload_n hx hb dX10_claimOf_14 rfl (lv_at hl 0 rfl) ?_
    refine lv_iload_n hx hb dX10_claimOf_15 rfl (lv_at hl 1 rfl) ?_
    refine cVI C w hA (ct_X10_nextOf l D cy a z g p0 hz hg (by show 0 ≤ p0 ∧ p0 < 400; omega)) ok_X10_nextOf km_X10_211 ⟨rfl, rfl⟩ ⟨by decide, by decide⟩ ⟨by decide, by decide⟩ rfl 0 rfl rfl hl.1 rfl (Nat.le_of_ble_eq_true rfl) dX10_claimOf_16 (fun rv_1 uv_1 H locs w hp_1 => ?_)
    replace w : wd D A s.heap (mw cy a z g) H locs := w
    replace hp_1 : rv_1 = nx (g 16) (z 13) p0 := hp_1
    have bnx_1 := nx_b (g 16) (n := (z 13)) (k := p0) (by omega)
    rw [← hp_1] at bnx_1
    refine lv_istore_n (lv' := [(2, vI rv_1), (0, .ref (a 0)), (1, vI p0)]) hx hb dX10_claimOf_19 rfl hl (by decide) rfl (fun ls hl => ?_)
    exact J20 rv_1 (by first | exact Or.inl ⟨by omega, rfl⟩ | exact Or.inr ⟨by omega, hp_1⟩) (by omega) _ _ _ w (lv_sub hl [1, 2, 0] rfl)
  · skip
    refine r_iconst hx hb dX10_claimOf_10 ?_
    refine lv_goto (tgt := 19) hx hb dX10_claimOf_11 (by decide) ?_
    refine lv_istore_n (lv' := [(2, vI (-1)), (0, .ref (a 0)), (1, vI p0)]) hx hb dX10_claimOf_19 rfl hl (by decide) rfl (fun ls hl => ?_)
    exact J20 (-1) (by first | exact Or.inl ⟨by omega, rfl⟩ | exact Or.inr ⟨by omega, hp_1⟩) (by omega) _ _ _ w (lv_sub hl [1, 2, 0] rfl)

abbrev rm_X10_poolOf : Room := { frames := 2, cells := 0, slots := 0, locals := 44 }
set_option maxHeartbeats 4000000 in
set_option maxRecDepth 100000 in
theorem ct_X10_poolOf (l : Launch) (D : va_G) (cy : Nat → ClassId) (a : Nat → Nat) (z : Nat → Int) (g : Nat → Int → Int) (p0 : Int) (hz : mBz z) (hg : mBg g) (h0 : iR p0) : ML l yX10_poolOf cX10_poolOf 6 (rm_X10_poolOf) D cy (mw cy a z g) [.ref (a 0), vI p0] (fun (v : Int) (u : Unit) => v = poolM z g p0) (fun _ => mw cy a z g) 0 0 := by
  refine go_l (by decide +kernel) (Nat.le_of_ble_eq_true rfl) ?_
  intro p e s m args below meth c Q A ls C hnm hA w hl hend
  have hx := C.1
  have hb := C.2.1
  have b13 := mZ13 hz
  have J5 : ∀ N : Nat, ∀ (i : Int) (t : Int), (0 ≤ i ∧ i ≤ z 13) → (t = sumI (tM z g p0) i) → ((z 13 - i).toNat) < N → ∀ (H : Heap) (locs : List Loc) (ls : Array Slot), wd D A s.heap (mw cy a z g) H locs → lv_has ls 6 [(0, .ref (a 0)), (1, vI p0), (2, vL t), (4, vI i)] → W p l e (rm_X10_poolOf) s m args below meth c H locs 0 0 Q (F0 m 5 ls []) := by
    intro N
    induction N with
    | zero => intro i t hi ht hN9; exact absurd hN9 (Nat.not_lt_zero _)
    | succ N ih5 =>
      intro i t hi ht hN5 H locs ls w hl
      have J97 : ∀ (t2 : Int) (b : Int), (i < z 13) → (t2 = sumI (tM z g p0) i + (if cntM g p0 i then g 19 i * g 20 i else 0)) → ((b = 1 ∧ (g 21 i ≠ -1 ∧ g 21 i ≤ p0 ∧ 0 ≤ nx (g 16) (z 13) i ∧ g 18 (nx (g 16) (z 13) i) ≤ p0)) ∨ (b = 0 ∧ ¬ (g 21 i ≠ -1 ∧ g 21 i ≤ p0 ∧ 0 ≤ nx (g 16) (z 13) i ∧ g 18 (nx (g 16) (z 13) i) ≤ p0))) → ∀ (H : Heap) (locs : List Loc) (ls : Array Slot), wd D A s.heap (mw cy a z g) H locs → lv_has ls 6 [(0, .ref (a 0)), (1, vI p0), (2, vL t2), (4, vI i), (5, vI b)] → W p l e (rm_X10_poolOf) s m args below meth c H locs 0 0 Q (F0 m 97 ls []) := by
        intro t2 b hlt ht2 hb2 H locs ls w hl
        refine lv_lload_n hx hb dX10_poolOf_97 rfl (lv_at hl 2 rfl) ?_
        refine lv_iload hx hb dX10_poolOf_98 (lv_at hl 4 rfl) ?_
        refine r_if_eq (tgt := 113) hx hb dX10_poolOf_100 (by decide) (by omega) (fun c100 => ?_) (fun c100 => ?_)
        · skip
          refine r_lconst (z := 0) hx hb dX10_poolOf_113 (by decide) ?_
          refine r_ladd hx hb dX10_poolOf_114 ?_
          refine lv_lstore_n (lv' := [(2, vL (t2 + 0)), (0, .ref (a 0)), (1, vI p0), (4, vI i), (5, vI b)]) hx hb dX10_poolOf_115 rfl hl (by decide) rfl (fun ls hl => ?_)
          refine r_iinc (lv' := [(4, vI (i + 1)), (2, vL (t2 + 0)), (0, .ref (a 0)), (1, vI p0), (5, vI b)]) hx hb dX10_poolOf_116 hl (k := 3) rfl (by decide) rfl (fun ls hl => ?_)
          refine lv_goto (tgt := 5) hx hb dX10_poolOf_119 (by decide) ?_
          exact ih5 (i + 1) (t2 + 0) (by omega) (by first | (rw [hp_1]; exact tM_p hi.1 ht2 (by omega)) | exact tM_n hi.1 ht2 (by omega)) (by omega) _ _ _ w (lv_sub hl [2, 3, 1, 0] rfl)
        · skip
          refine lv_aload_n hx hb dX10_poolOf_103 rfl (lv_at hl 0 rfl) ?_
          refine lv_iload hx hb dX10_poolOf_104 (lv_at hl 3 rfl) ?_
          refine cVI C w hA (ct_X10_claimOf l D cy a z g i hz hg (by show 0 ≤ i ∧ i < 400; omega)) ok_X10_claimOf km_X10_215 ⟨rfl, rfl⟩ ⟨by decide, by decide⟩ ⟨by decide, by decide⟩ rfl 0 rfl rfl hl.1 rfl (Nat.le_of_ble_eq_true rfl) dX10_poolOf_106 (fun rv_1 uv_1 H locs w hp_1 => ?_)
          replace w : wd D A s.heap (mw cy a z g) H locs := w
          have bcl_1 := clM_b (z := z) hg i
          refine r_i2l hx hb dX10_poolOf_109 (by rw [hp_1]; exact ⟨by omega, by omega⟩) ?_
          refine lv_goto (tgt := 114) hx hb dX10_poolOf_110 (by decide) ?_
          refine r_ladd hx hb dX10_poolOf_114 ?_
          refine lv_lstore_n (lv' := [(2, vL (t2 + rv_1)), (0, .ref (a 0)), (1, vI p0), (4, vI i), (5, vI b)]) hx hb dX10_poolOf_115 rfl hl (by decide) rfl (fun ls hl => ?_)
          refine r_iinc (lv' := [(4, vI (i + 1)), (2, vL (t2 + rv_1)), (0, .ref (a 0)), (1, vI p0), (5, vI b)]) hx hb dX10_poolOf_116 hl (k := 3) rfl (by decide) rfl (fun ls hl => ?_)
          refine lv_goto (tgt := 5) hx hb dX10_poolOf_119 (by decide) ?_
          exact ih5 (i + 1) (t2 + rv_1) (by omega) (by first | (rw [hp_1]; exact tM_p hi.1 ht2 (by omega)) | exact tM_n hi.1 ht2 (by omega)) (by omega) _ _ _ w (lv_sub hl [2, 3, 1, 0] rfl)
      have J44 : ∀ (t2 : Int), (i < z 13) → (t2 = sumI (tM z g p0) i + (if cntM g p0 i then g 19 i * g 20 i else 0)) → ∀ (H : Heap) (locs : List Loc) (ls : Array Slot), wd D A s.heap (mw cy a z g) H locs → lv_has ls 6 [(0, .ref (a 0)), (1, vI p0), (2, vL t2), (4, vI i)] → W p l e (rm_X10_poolOf) s m args below meth c H locs 0 0 Q (F0 m 44 ls []) := by
        intro t2 hlt ht2 H locs ls w hl
        refine lv_aload_n hx hb dX10_poolOf_44 rfl (lv_at hl 0 rfl) ?_
        refine r_get C w 0 (v := .ref (a 21)) rfl rfl 33 (by decide) inX10 kf_X10_72 rfl dX10_poolOf_45 ?_
        refine lv_iload hx hb dX10_poolOf_48 (lv_at hl 3 rfl) ?_
        refine r_iald C w 21 (f := (g 21)) rfl (by omega) (by omega) (by decide) dX10_poolOf_50 ?_
        have qg1 := mB21 hg i
        refine r_iconst hx hb dX10_poolOf_51 ?_
        refine r_icmp_eq (tgt := 94) hx hb dX10_poolOf_52 (by decide) (by omega) (by omega) (fun c52 => ?_) (fun c52 => ?_)
        · skip
          refine r_iconst hx hb dX10_poolOf_94 ?_
          refine lv_istore (lv' := [(5, vI 0), (0, .ref (a 0)), (1, vI p0), (2, vL t2), (4, vI i)]) hx hb dX10_poolOf_95 hl (by decide) rfl (fun ls hl => ?_)
          exact J97 t2 0 (by omega) (by exact ht2) (by first | (refine Or.inl ⟨rfl, by omega, by omega, ?_, ?_⟩ <;> rw [← hp_3] <;> omega) | (refine Or.inr ⟨rfl, ?_⟩; intro q; first | omega | (rw [← hp_2] at q; omega) | (rw [← hp_3] at q; omega))) _ _ _ w (lv_sub hl [1, 2, 3, 4, 0] rfl)
        · skip
          refine lv_aload_n hx hb dX10_poolOf_55 rfl (lv_at hl 0 rfl) ?_
          refine r_get C w 0 (v := .ref (a 21)) rfl rfl 33 (by decide) inX10 kf_X10_72 rfl dX10_poolOf_56 ?_
          refine lv_iload hx hb dX10_poolOf_59 (lv_at hl 3 rfl) ?_
          refine r_iald C w 21 (f := (g 21)) rfl (by omega) (by omega) (by decide) dX10_poolOf_61 ?_
          have qg2 := mB21 hg i
          refine lv_iload_n hx hb dX10_poolOf_62 rfl (lv_at hl 1 rfl) ?_
          refine r_icmp_gt (tgt := 94) hx hb dX10_poolOf_63 (by decide) (by omega) (by omega) (fun c63 => ?_) (fun c63 => ?_)
          · skip
            refine r_iconst hx hb dX10_poolOf_94 ?_
            refine lv_istore (lv' := [(5, vI 0), (0, .ref (a 0)), (1, vI p0), (2, vL t2), (4, vI i)]) hx hb dX10_poolOf_95 hl (by decide) rfl (fun ls hl => ?_)
            exact J97 t2 0 (by omega) (by exact ht2) (by first | (refine Or.inl ⟨rfl, by omega, by omega, ?_, ?_⟩ <;> rw [← hp_3] <;> omega) | (refine Or.inr ⟨rfl, ?_⟩; intro q; first | omega | (rw [← hp_2] at q; omega) | (rw [← hp_3] at q; omega))) _ _ _ w (lv_sub hl [1, 2, 3, 4, 0] rfl)
          · skip
            refine lv_aload_n hx hb dX10_poolOf_66 rfl (lv_at hl 0 rfl) ?_
            refine lv_iload hx hb dX10_poolOf_67 (lv_at hl 3 rfl) ?_
            refine cVI C w hA (ct_X10_nextOf l D cy a z g i hz hg (by show 0 ≤ i ∧ i < 400; omega)) ok_X10_nextOf km_X10_211 ⟨rfl, rfl⟩ ⟨by decide, by decide⟩ ⟨by decide, by decide⟩ rfl 0 rfl rfl hl.1 rfl (Nat.le_of_ble_eq_true rfl) dX10_poolOf_69 (fun rv_2 uv_2 H locs w hp_2 => ?_)
            replace w : wd D A s.heap (mw cy a z g) H locs := w
            replace hp_2 : rv_2 = nx (g 16) (z 13) i := hp_2
            have bnx_2 := nx_b (g 16) (n := (z 13)) (k := i) (by omega)
            rw [← hp_2] at bnx_2
            refine r_if_lt (tgt := 94) hx hb dX10_poolOf_72 (by decide) (by omega) (fun c72 => ?_) (fun c72 => ?_)
            · skip
              refine r_iconst hx hb dX10_poolOf_94 ?_
              refine lv_istore (lv' := [(5, vI 0), (0, .ref (a 0)), (1, vI p0), (2, vL t2), (4, vI i)]) hx hb dX10_poolOf_95 hl (by decide) rfl (fun ls hl => ?_)
              exact J97 t2 0 (by omega) (by exact ht2) (by first | (refine Or.inl ⟨rfl, by omega, by omega, ?_, ?_⟩ <;> rw [← hp_3] <;> omega) | (refine Or.inr ⟨rfl, ?_⟩; intro q; first | omega | (rw [← hp_2] at q; omega) | (rw [← hp_3] at q; omega))) _ _ _ w (lv_sub hl [1, 2, 3, 4, 0] rfl)
            · skip
              refine lv_aload_n hx hb dX10_poolOf_75 rfl (lv_at hl 0 rfl) ?_
              refine r_get C w 0 (v := .ref (a 18)) rfl rfl 30 (by decide) inX10 kf_X10_63 rfl dX10_poolOf_76 ?_
              refine lv_aload_n hx hb dX10_poolOf_79 rfl (lv_at hl 0 rfl) ?_
              refine lv_iload hx hb dX10_poolOf_80 (lv_at hl 3 rfl) ?_
              refine cVI C w hA (ct_X10_nextOf l D cy a z g i hz hg (by show 0 ≤ i ∧ i < 400; omega)) ok_X10_nextOf km_X10_211 ⟨rfl, rfl⟩ ⟨by decide, by decide⟩ ⟨by decide, by decide⟩ rfl 0 rfl rfl hl.1 rfl (Nat.le_of_ble_eq_true rfl) dX10_poolOf_82 (fun rv_3 uv_3 H locs w hp_3 => ?_)
              replace w : wd D A s.heap (mw cy a z g) H locs := w
              replace hp_3 : rv_3 = nx (g 16) (z 13) i := hp_3
              have bnx_3 := nx_b (g 16) (n := (z 13)) (k := i) (by omega)
              rw [← hp_3] at bnx_3
              refine r_iald C w 18 (f := (g 18)) rfl (by omega) (by omega) (by decide) dX10_poolOf_85 ?_
              have qg3 := mB18 hg rv_3
              refine lv_iload_n hx hb dX10_poolOf_86 rfl (lv_at hl 1 rfl) ?_
              refine r_icmp_gt (tgt := 94) hx hb dX10_poolOf_87 (by decide) (by omega) (by omega) (fun c87 => ?_) (fun c87 => ?_)
              · skip
                refine r_iconst hx hb dX10_poolOf_94 ?_
                refine lv_istore (lv' := [(5, vI 0), (0, .ref (a 0)), (1, vI p0), (2, vL t2), (4, vI i)]) hx hb dX10_poolOf_95 hl (by decide) rfl (fun ls hl => ?_)
                exact J97 t2 0 (by omega) (by exact ht2) (by first | (refine Or.inl ⟨rfl, by omega, by omega, ?_, ?_⟩ <;> rw [← hp_3] <;> omega) | (refine Or.inr ⟨rfl, ?_⟩; intro q; first | omega | (rw [← hp_2] at q; omega) | (rw [← hp_3] at q; omega))) _ _ _ w (lv_sub hl [1, 2, 3, 4, 0] rfl)
              · skip
                refine r_iconst hx hb dX10_poolOf_90 ?_
                refine lv_goto (tgt := 95) hx hb dX10_poolOf_91 (by decide) ?_
                refine lv_istore (lv' := [(5, vI 1), (0, .ref (a 0)), (1, vI p0), (2, vL t2), (4, vI i)]) hx hb dX10_poolOf_95 hl (by decide) rfl (fun ls hl => ?_)
                exact J97 t2 1 (by omega) (by exact ht2) (by first | (refine Or.inl ⟨rfl, by omega, by omega, ?_, ?_⟩ <;> rw [← hp_3] <;> omega) | (refine Or.inr ⟨rfl, ?_⟩; intro q; first | omega | (rw [← hp_2] at q; omega) | (rw [← hp_3] at q; omega))) _ _ _ w (lv_sub hl [1, 2, 3, 4, 0] rfl)
      refine lv_iload hx hb dX10_poolOf_5 (lv_at hl 3 rfl) ?_
      refine lv_aload_n hx hb dX10_poolOf_7 rfl (lv_at hl 0 rfl) ?_
      refine r_get C w 0 (v := vI (z 13)) rfl rfl 34 (by decide) inX10 kf_X10_198 rfl dX10_poolOf_8 ?_
      have qz4 := mZ13 hz
      refine r_icmp_ge (tgt := 122) hx hb dX10_poolOf_11 (by decide) (by omega) (by omega) (fun c11 => ?_) (fun c11 => ?_)
      · skip
        refine lv_lload_n hx hb dX10_poolOf_122 rfl (lv_at hl 2 rfl) ?_
        exact hend t () _ _ _ _ dX10_poolOf_123 w (by rw [ht, show i = z 13 by omega]; rfl)
      · skip
        replace c11 : i < z 13 := c11
        refine lv_aload_n hx hb dX10_poolOf_14 rfl (lv_at hl 0 rfl) ?_
        refine lv_iload hx hb dX10_poolOf_15 (lv_at hl 3 rfl) ?_
        refine lv_iload_n hx hb dX10_poolOf_17 rfl (lv_at hl 1 rfl) ?_
        refine cVI C w hA (ct_X10_counts l D cy a z g i p0 hz hg (by show 0 ≤ i ∧ i < 400; omega) (by show iR p0; omega)) ok_X10_counts km_X10_218 ⟨rfl, rfl⟩ ⟨by decide, by decide⟩ ⟨by decide, by decide⟩ rfl 0 rfl rfl hl.1 rfl (Nat.le_of_ble_eq_true rfl) dX10_poolOf_18 (fun rv_4 uv_4 H locs w hp_4 => ?_)
        replace hp_4 : (rv_4 = 1 ∧ (g 18) i ≤ p0 ∧ ((g 21) i = -1 ∨ p0 < (g 21) i)) ∨ (rv_4 = 0 ∧ ¬ ((g 18) i ≤ p0 ∧ ((g 21) i = -1 ∨ p0 < (g 21) i))) := hp_4
        replace w : wd D A s.heap (mw cy a z g) H locs := w
        refine r_if_eq (tgt := 44) hx hb dX10_poolOf_21 (by decide) (by omega) (fun c21 => ?_) (fun c21 => ?_)
        · skip
          exact J44 t (by omega) (by rw [if_neg (by omega)]; omega) _ _ _ w (lv_sub hl [0, 1, 2, 3] rfl)
        · skip
          refine lv_lload_n hx hb dX10_poolOf_24 rfl (lv_at hl 2 rfl) ?_
          refine lv_aload_n hx hb dX10_poolOf_25 rfl (lv_at hl 0 rfl) ?_
          refine r_get C w 0 (v := .ref (a 19)) rfl rfl 31 (by decide) inX10 kf_X10_66 rfl dX10_poolOf_26 ?_
          refine lv_iload hx hb dX10_poolOf_29 (lv_at hl 3 rfl) ?_
          refine r_iald C w 19 (f := (g 19)) rfl (by omega) (by omega) (by decide) dX10_poolOf_31 ?_
          have qg5 := mB19 hg i
          refine r_i2l hx hb dX10_poolOf_32 (by omega) ?_
          refine lv_aload_n hx hb dX10_poolOf_33 rfl (lv_at hl 0 rfl) ?_
          refine r_get C w 0 (v := .ref (a 20)) rfl rfl 32 (by decide) inX10 kf_X10_69 rfl dX10_poolOf_34 ?_
          refine lv_iload hx hb dX10_poolOf_37 (lv_at hl 3 rfl) ?_
          refine r_iald C w 20 (f := (g 20)) rfl (by omega) (by omega) (by decide) dX10_poolOf_39 ?_
          have qg6 := mB20 hg i
          refine r_i2l hx hb dX10_poolOf_40 (by omega) ?_
          refine r_lmul hx hb dX10_poolOf_41 ?_
          refine r_ladd hx hb dX10_poolOf_42 ?_
          refine lv_lstore_n (lv' := [(2, vL (t + (((g 19) i) * ((g 20) i)))), (0, .ref (a 0)), (1, vI p0), (4, vI i)]) hx hb dX10_poolOf_43 rfl hl (by decide) rfl (fun ls hl => ?_)
          exact J44 (t + (((g 19) i) * ((g 20) i))) (by omega) (by rw [if_pos (by omega), ht]) _ _ _ w (lv_sub hl [1, 2, 0, 3] rfl)
  replace hl : lv_has ls 6 [(0, .ref (a 0)), (1, vI p0)] := hl
  refine r_lconst (z := 0) hx hb dX10_poolOf_0 (by decide) ?_
  refine lv_lstore_n (lv' := [(2, vL 0), (0, .ref (a 0)), (1, vI p0)]) hx hb dX10_poolOf_1 rfl hl (by decide) rfl (fun ls hl => ?_)
  refine r_iconst hx hb dX10_poolOf_2 ?_
  refine lv_istore (lv' := [(4, vI 0), (2, vL 0), (0, .ref (a 0)), (1, vI p0)]) hx hb dX10_poolOf_3 hl (by decide) rfl (fun ls hl => ?_)
  exact J5 _ 0 0 (by omega) (by rfl) (Nat.lt_succ_self _) _ _ _ w (lv_sub hl [2, 3, 1, 0] rfl)

abbrev rm_X10_pool : Room := { frames := 3, cells := 0, slots := 0, locals := 69 }
set_option maxHeartbeats 4000000 in
set_option maxRecDepth 100000 in
theorem ct_X10_pool (l : Launch) (D : va_G) (cy : Nat → ClassId) (a : Nat → Nat) (z : Nat → Int) (g : Nat → Int → Int) (p0 : Int) (hz : mBz z) (hg : mBg g) (h0 : iR p0) : MI l yX10_pool cX10_pool 2 .int (rm_X10_pool) D cy (mw cy a z g) [.ref (a 0), vI p0] (fun (v : Int) (u : sX) => (v = poolM (uZ z 0 0) g p0 ∧ u = (uZ z 0 0, g)) ∧ mBz u.1 ∧ mBg u.2) (fun u => mw cy a u.1 u.2) 0 0 := by
  refine go_i (by decide +kernel) (Nat.le_of_ble_eq_true rfl) (Or.inl rfl) ?_
  intro p e s m args below meth c Q A ls C hnm hA w hl hend
  have hx := C.1
  have hb := C.2.1
  replace hl : lv_has ls 2 [(0, .ref (a 0)), (1, vI p0)] := hl
  refine lv_aload_n hx hb dX10_pool_0 rfl (lv_at hl 0 rfl) ?_
  refine r_iconst hx hb dX10_pool_1 ?_
  refine r_put C w 0 tyX10 tyX10_ok nmX10 rfl rfl 0 (by decide) inX10 kf_X10_97 rfl rfl rfl (Nat.le_of_ble_eq_true rfl) (ws' := mw cy a (uZ z 0 0) g) (mw_z0 cy a z g 0) dX10_pool_2 (fun H locs w => ?_)
  have bz1 : (0 : Int) ≤ 0 ∧ (0 : Int) ≤ 1 := (by omega)
  refine lv_aload_n hx hb dX10_pool_5 rfl (lv_at hl 0 rfl) ?_
  refine lv_iload_n hx hb dX10_pool_6 rfl (lv_at hl 1 rfl) ?_
  refine cVL C w hA (ct_X10_poolOf l D cy a (uZ z 0 0) g p0 (mBz_u hz 0 bz1) hg (by show iR p0; omega)) ok_X10_poolOf km_X10_221 ⟨rfl, rfl⟩ ⟨by decide, by decide⟩ ⟨by decide, by decide⟩ rfl 0 rfl rfl hl.1 rfl (Nat.le_of_ble_eq_true rfl) dX10_pool_7 (fun rv_1 uv_1 H locs w hp_1 => ?_)
  replace w : wd D A s.heap (mw cy a (uZ z 0 0) g) H locs := w
  refine r_l2i hx hb dX10_pool_10 ?_
  exact hend rv_1 ((uZ z 0 0), g) _ _ _ _ dX10_pool_11 w ⟨(by exact ⟨hp_1, rfl⟩), (mBz_u hz 0 bz1), hg⟩
