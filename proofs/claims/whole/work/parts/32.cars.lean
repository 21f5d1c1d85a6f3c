/-! cars: each next one where it is worth most -/
def wv (p f k : Int) : Int := mx (p - k * f) 0
theorem wv_s {p f k : Int} (hf : 0 ≤ f) (hk : 0 ≤ k) : mx (wv p f k - f) 0 = wv p f (k + 1) := by
  have e : (k + 1) * f = k * f + f := by rw [Int.add_mul, Int.one_mul]
  unfold wv mx
  rw [e]
  split <;> split <;> split <;> omega
theorem wv_0 {p f : Int} (hp : 0 ≤ p) : wv p f 0 = p := by
  unfold wv mx
  rw [Int.zero_mul]
  split <;> omega
theorem wv_le {p f k : Int} (hf : 0 ≤ f) : wv p f (k + 1) ≤ wv p f k := by
  have e : (k + 1) * f = k * f + f := by rw [Int.add_mul, Int.one_mul]
  unfold wv mx
  rw [e]
  split <;> split <;> omega
theorem wv_nn (p f k : Int) : 0 ≤ wv p f k := by
  unfold wv mx
  split <;> omega
def S4 (p f x : Int → Int) : Int := sumI (wv (p 0) (f 0)) (x 0) + sumI (wv (p 1) (f 1)) (x 1) + sumI (wv (p 2) (f 2)) (x 2) + sumI (wv (p 3) (f 3)) (x 3)
def Gy (p f x : Int → Int) : Prop := ∀ h k, 0 ≤ h → h < 4 → 0 ≤ k → k < 4 → h ≠ k → 0 < x h → wv (p k) (f k) (x k) ≤ wv (p h) (f h) (x h - 1) ∧ (k < h → wv (p k) (f k) (x k) < wv (p h) (f h) (x h - 1))
def isBh (w : Int → Int) (b : Int) : Prop := 0 ≤ b ∧ b < 4 ∧ ∀ j, 0 ≤ j → j < 4 → w j ≤ w b ∧ (j < b → w j < w b)
theorem c4 {b : Int} (h : 0 ≤ b ∧ b < 4) : b = 0 ∨ b = 1 ∨ b = 2 ∨ b = 3 := by omega
theorem S4_s {p f x : Int → Int} {b : Int} (hb : 0 ≤ b ∧ b < 4) (hx : 0 ≤ x b) : S4 p f (uI x b (x b + 1)) = S4 p f x + wv (p b) (f b) (x b) := by
  unfold S4
  rcases c4 hb with rfl | rfl | rfl | rfl
  · rw [uI_s, uI_n _ _ (by decide : (1 : Int) ≠ 0), uI_n _ _ (by decide : (2 : Int) ≠ 0), uI_n _ _ (by decide : (3 : Int) ≠ 0), sumI_s _ hx]
    omega
  · rw [uI_s, uI_n _ _ (by decide : (0 : Int) ≠ 1), uI_n _ _ (by decide : (2 : Int) ≠ 1), uI_n _ _ (by decide : (3 : Int) ≠ 1), sumI_s _ hx]
    omega
  · rw [uI_s, uI_n _ _ (by decide : (0 : Int) ≠ 2), uI_n _ _ (by decide : (1 : Int) ≠ 2), uI_n _ _ (by decide : (3 : Int) ≠ 2), sumI_s _ hx]
    omega
  · rw [uI_s, uI_n _ _ (by decide : (0 : Int) ≠ 3), uI_n _ _ (by decide : (1 : Int) ≠ 3), uI_n _ _ (by decide : (2 : Int) ≠ 3), sumI_s _ hx]
    omega
theorem N4_s {x : Int → Int} {b v : Int} (hb : 0 ≤ b ∧ b < 4) : uI x b (x b + v) 0 + uI x b (x b + v) 1 + uI x b (x b + v) 2 + uI x b (x b + v) 3 = x 0 + x 1 + x 2 + x 3 + v := by
  rcases c4 hb with rfl | rfl | rfl | rfl
  · rw [uI_s, uI_n _ _ (by decide : (1 : Int) ≠ 0), uI_n _ _ (by decide : (2 : Int) ≠ 0), uI_n _ _ (by decide : (3 : Int) ≠ 0)]
    omega
  · rw [uI_s, uI_n _ _ (by decide : (0 : Int) ≠ 1), uI_n _ _ (by decide : (2 : Int) ≠ 1), uI_n _ _ (by decide : (3 : Int) ≠ 1)]
    omega
  · rw [uI_s, uI_n _ _ (by decide : (0 : Int) ≠ 2), uI_n _ _ (by decide : (1 : Int) ≠ 2), uI_n _ _ (by decide : (3 : Int) ≠ 2)]
    omega
  · rw [uI_s, uI_n _ _ (by decide : (0 : Int) ≠ 3), uI_n _ _ (by decide : (1 : Int) ≠ 3), uI_n _ _ (by decide : (2 : Int) ≠ 3)]
    omega
theorem N4_le {x : Int → Int} {b : Int} (hb : 0 ≤ b ∧ b < 4) (hx : ∀ h, 0 ≤ h → h < 4 → 0 ≤ x h) : x b ≤ x 0 + x 1 + x 2 + x 3 := by
  have h0 := hx 0 (by omega) (by omega)
  have h1 := hx 1 (by omega) (by omega)
  have h2 := hx 2 (by omega) (by omega)
  have h3 := hx 3 (by omega) (by omega)
  rcases c4 hb with rfl | rfl | rfl | rfl <;> omega
theorem Gy_s {p f x w : Int → Int} {b : Int} (hf : ∀ h, 0 ≤ h → h < 4 → 0 ≤ f h) (hx : ∀ h, 0 ≤ h → h < 4 → 0 ≤ x h) (hw : ∀ h, 0 ≤ h → h < 4 → w h = wv (p h) (f h) (x h)) (hB : isBh w b) (hG : Gy p f x) : Gy p f (uI x b (x b + 1)) := by
  obtain ⟨b0, b1, b2⟩ := hB
  intro h k h0 h1 k0 k1 hk hp
  by_cases e1 : h = b
  · subst e1
    rw [uI_s, uI_n _ _ (Ne.symm hk), show x h + 1 - 1 = x h by omega, ← hw h h0 h1, ← hw k k0 k1]
    exact b2 k k0 k1
  · rw [uI_n _ _ e1] at hp ⊢
    by_cases e2 : k = b
    · subst e2
      rw [uI_s]
      have g1 := hG h k h0 h1 k0 k1 hk hp
      have g2 := wv_le (p := p k) (f := f k) (k := x k) (hf k k0 k1)
      exact ⟨by omega, fun q => by have := g1.2 q; omega⟩
    · rw [uI_n _ _ e2]
      exact hG h k h0 h1 k0 k1 hk hp
/-- the outcome of the cars' going, one by one -/
def Gr (p f : Int → Int) (n v : Int) (x : Int → Int) : Prop := (∀ h, 0 ≤ h → h < 4 → 0 ≤ x h) ∧ x 0 + x 1 + x 2 + x 3 = n ∧ v = S4 p f x ∧ Gy p f x
theorem Gr_0 (p f : Int → Int) {x : Int → Int} (hx : ∀ h, 0 ≤ h → h < 4 → x h = 0) : Gr p f 0 0 x := by
  have h0 := hx 0 (by omega) (by omega)
  have h1 := hx 1 (by omega) (by omega)
  have h2 := hx 2 (by omega) (by omega)
  have h3 := hx 3 (by omega) (by omega)
  refine ⟨fun h a1 a2 => by rw [hx h a1 a2]; exact Int.le_refl 0, by omega, ?_, fun h k a1 a2 _ _ _ a3 => ?_⟩
  · unfold S4
    rw [h0, h1, h2, h3]
    rfl
  · rw [hx h a1 a2] at a3
    omega
theorem Gr_s {p f x w : Int → Int} {b n v : Int} (hf : ∀ h, 0 ≤ h → h < 4 → 0 ≤ f h) (hw : ∀ h, 0 ≤ h → h < 4 → w h = wv (p h) (f h) (x h)) (hB : isBh w b) (hG : Gr p f n v x) : Gr p f (n + 1) (v + w b) (uI x b (x b + 1)) := by
  obtain ⟨g1, g2, g3, g4⟩ := hG
  refine ⟨fun h a1 a2 => ?_, by rw [N4_s ⟨hB.1, hB.2.1⟩, g2], ?_, Gy_s hf g1 hw hB g4⟩
  · by_cases e : h = b
    · rw [e, uI_s]
      have := g1 b hB.1 hB.2.1
      omega
    · rw [uI_n _ _ e]
      exact g1 h a1 a2
  · rw [S4_s ⟨hB.1, hB.2.1⟩ (g1 b hB.1 hB.2.1), ← g3, hw b hB.1 hB.2.1]
abbrev pHX (g : Nat → Int → Int) : Int → Int := fun h => g 2 (4 * h) * 256 + g 2 (4 * h + 1)
abbrev fHX (g : Nat → Int → Int) : Int → Int := fun h => g 2 (4 * h + 2) * 256 + g 2 (4 * h + 2 + 1)
theorem bh_st {w : Int → Int} {b i b2 : Int} (h : 0 ≤ b ∧ b < i) (hB : ∀ j, 0 ≤ j → j < i → w j ≤ w b ∧ (j < b → w j < w b)) (h2 : (w b < w i ∧ b2 = i) ∨ (w i ≤ w b ∧ b2 = b)) : ∀ j, 0 ≤ j → j < i + 1 → w j ≤ w b2 ∧ (j < b2 → w j < w b2) := by
  intro j h3 h4
  rcases h2 with ⟨q1, q2⟩ | ⟨q1, q2⟩
  · subst q2
    by_cases e : j = b2
    · subst e
      exact ⟨Int.le_refl _, fun q => by omega⟩
    · have := (hB j h3 (by omega)).1
      exact ⟨by omega, fun _ => by omega⟩
  · subst q2
    by_cases e : j = i
    · subst e
      exact ⟨q1, fun q => by omega⟩
    · exact hB j h3 (by omega)
theorem bh_in (w : Int → Int) : ∀ j : Int, 0 ≤ j → j < 1 → w j ≤ w 0 ∧ (j < 0 → w j < w 0) := by
  intro j h1 h2
  rw [show j = 0 by omega]
  exact ⟨Int.le_refl _, fun q => by omega⟩
theorem ini3 {f : Int → Int} {k : Int → Int} {i : Int} (hf : ∀ h, 0 ≤ h → h < i → f h = k h) : ∀ h, 0 ≤ h → h < i + 1 → uI f i (k i) h = k h := by
  intro h h1 h2
  by_cases e : h = i
  · rw [e, uI_s]
  · rw [uI_n _ _ e]
    exact hf h h1 (by omega)
theorem wup {w p f x : Int → Int} {b v : Int} (hw : ∀ h, 0 ≤ h → h < 4 → w h = wv (p h) (f h) (x h)) (hv : v = wv (p b) (f b) (x b + 1)) : ∀ h, 0 ≤ h → h < 4 → uI w b v h = wv (p h) (f h) (uI x b (x b + 1) h) := by
  intro h h1 h2
  by_cases e : h = b
  · subst e
    rw [uI_s, uI_s, hv]
  · rw [uI_n _ _ e, uI_n _ _ e]
    exact hw h h1 h2

abbrev rm_X1_bestHall : Room := { frames := 0, cells := 0, slots := 0, locals := 0 }
set_option maxHeartbeats 4000000 in
set_option maxRecDepth 100000 in
theorem ct_X1_bestHall (l : Launch) (D : va_G) (cy : Nat → ClassId) (a : Nat → Nat) (z : Nat → Int) (g : Nat → Int → Int)  (hz : xBz z) (hg : xBg g) : MI l yX1_bestHall cX1_bestHall 3 .int (rm_X1_bestHall) D cy (xw cy a z g) [.ref (a 40)] (fun (v : Int) (u : Unit) => isBh (g 41) v) (fun _ => xw cy a z g) 0 0 := by
  refine go_i (by decide +kernel) (Nat.le_of_ble_eq_true rfl) (Or.inl rfl) ?_
  intro p e s m args below meth c Q A ls C hnm hA w hl hend
  have hx := C.1
  have hb := C.2.1
  have J4 : ∀ N : Nat, ∀ (b1 : Int) (i2 : Int), (0 ≤ b1 ∧ b1 < i2) → (1 ≤ i2 ∧ i2 ≤ 4) → (∀ j, 0 ≤ j → j < i2 → g 41 j ≤ g 41 b1 ∧ (j < b1 → g 41 j < g 41 b1)) → ((4 - i2).toNat) < N → ∀ (H : Heap) (locs : List Loc) (ls : Array Slot), wd D A s.heap (xw cy a z g) H locs → lv_has ls 3 [(0, .ref (a 40)), (1, vI b1), (2, vI i2)] → W p l e (rm_X1_bestHall) s m args below meth c H locs 0 0 Q (F0 m 4 ls []) := by
    intro N
    induction N with
    | zero => intro b1 i2 hb0 hi hB hN9; exact absurd hN9 (Nat.not_lt_zero _)
    | succ N ih4 =>
      intro b1 i2 hb0 hi hB hN4 H locs ls w hl
      refine lv_iload_n hx hb dX1_bestHall_4 rfl (lv_at hl 2 rfl) ?_
      refine r_iconst hx hb dX1_bestHall_5 ?_
      refine r_icmp_ge (tgt := 32) hx hb dX1_bestHall_6 (by decide) (by omega) (by omega) (fun c6 => ?_) (fun c6 => ?_)
      · skip
        refine lv_iload_n hx hb dX1_bestHall_32 rfl (lv_at hl 1 rfl) ?_
        exact hend b1 () _ _ _ _ dX1_bestHall_33 w (by exact ⟨hb0.1, by omega, fun j h1 h2 => hB j h1 (by omega)⟩)
      · skip
        refine lv_aload_n hx hb dX1_bestHall_9 rfl (lv_at hl 0 rfl) ?_
        refine r_get C w 40 (v := .ref (a 41)) rfl rfl 0 (by decide) inX1 kf_X1_9 rfl dX1_bestHall_10 ?_
        refine lv_iload_n hx hb dX1_bestHall_13 rfl (lv_at hl 2 rfl) ?_
        refine r_iald C w 41 (f := (g 41)) rfl (by omega) (by omega) (by decide) dX1_bestHall_14 ?_
        have qg1 := xB41 hg i2
        refine lv_aload_n hx hb dX1_bestHall_15 rfl (lv_at hl 0 rfl) ?_
        refine r_get C w 40 (v := .ref (a 41)) rfl rfl 0 (by decide) inX1 kf_X1_9 rfl dX1_bestHall_16 ?_
        refine lv_iload_n hx hb dX1_bestHall_19 rfl (lv_at hl 1 rfl) ?_
        refine r_iald C w 41 (f := (g 41)) rfl (by omega) (by omega) (by decide) dX1_bestHall_20 ?_
        have qg2 := xB41 hg b1
        refine r_icmp_le (tgt := 26) hx hb dX1_bestHall_21 (by decide) (by omega) (by omega) (fun c21 => ?_) (fun c21 => ?_)
        · skip
          refine r_iinc (lv' := [(2, vI (i2 + 1)), (0, .ref (a 40)), (1, vI b1)]) hx hb dX1_bestHall_26 hl (k := 2) rfl (by decide) rfl (fun ls hl => ?_)
          refine lv_goto (tgt := 4) hx hb dX1_bestHall_29 (by decide) ?_
          exact ih4 b1 (i2 + 1) (by omega) (by omega) (by first | exact bh_st hb0 hB (Or.inl ⟨c21, rfl⟩) | exact bh_st hb0 hB (Or.inr ⟨c21, rfl⟩)) (by omega) _ _ _ w (lv_sub hl [1, 2, 0] rfl)
        · skip
          refine lv_iload_n hx hb dX1_bestHall_24 rfl (lv_at hl 2 rfl) ?_
          refine lv_istore_n (lv' := [(1, vI i2), (0, .ref (a 40)), (2, vI i2)]) hx hb dX1_bestHall_25 rfl hl (by decide) rfl (fun ls hl => ?_)
          refine r_iinc (lv' := [(2, vI (i2 + 1)), (1, vI i2), (0, .ref (a 40))]) hx hb dX1_bestHall_26 hl (k := 2) rfl (by decide) rfl (fun ls hl => ?_)
          refine lv_goto (tgt := 4) hx hb dX1_bestHall_29 (by decide) ?_
          exact ih4 i2 (i2 + 1) (by omega) (by omega) (by first | exact bh_st hb0 hB (Or.inl ⟨c21, rfl⟩) | exact bh_st hb0 hB (Or.inr ⟨c21, rfl⟩)) (by omega) _ _ _ w (lv_sub hl [2, 1, 0] rfl)
  replace hl : lv_has ls 3 [(0, .ref (a 40))] := hl
  refine r_iconst hx hb dX1_bestHall_0 ?_
  refine lv_istore_n (lv' := [(1, vI 0), (0, .ref (a 40))]) hx hb dX1_bestHall_1 rfl hl (by decide) rfl (fun ls hl => ?_)
  refine r_iconst hx hb dX1_bestHall_2 ?_
  refine lv_istore_n (lv' := [(2, vI 1), (1, vI 0), (0, .ref (a 40))]) hx hb dX1_bestHall_3 rfl hl (by decide) rfl (fun ls hl => ?_)
  exact J4 _ 0 1 (by omega) (by omega) (by exact bh_in _) (Nat.lt_succ_self _) _ _ _ w (lv_sub hl [2, 1, 0] rfl)

abbrev rm_X1_dispatch : Room := { frames := 2, cells := 0, slots := 0, locals := 42 }
set_option maxHeartbeats 4000000 in
set_option maxRecDepth 100000 in
theorem ct_X1_dispatch (l : Launch) (D : va_G) (cy : Nat → ClassId) (a : Nat → Nat) (z : Nat → Int) (g : Nat → Int → Int) (p0 : Int) (hz : xBz z) (hg : xBg g) (h0 : 1 ≤ p0 ∧ p0 ≤ 40) (h1 : z 2 = 16) : MI l yX1_dispatch cX1_dispatch 6 .int (rm_X1_dispatch) D cy (xw cy a z g) [.ref (a 40), .ref (a 1), vI p0] (fun (v : Int) (u : sX) => (u.1 = uZ z 20 1 ∧ ∃ f1 f2 f3 : Int → Int, u.2 = uZ (uZ (uZ g 41 f1) 42 f2) 43 f3 ∧ Gr (pHX g) (fHX g) p0 v f3) ∧ xBz u.1 ∧ xBg u.2) (fun u => xw cy a u.1 u.2) 0 0 := by
  refine go_i (by decide +kernel) (Nat.le_of_ble_eq_true rfl) (Or.inl rfl) ?_
  intro p e s m args below meth c Q A ls C hnm hA w hl hend
  have hx := C.1
  have hb := C.2.1
  have hfH : ∀ h, 0 ≤ h → h < 4 → 0 ≤ fHX g h := fun h _ _ => by have q1_ := xB2 hg (4 * h + 2); have q2_ := xB2 hg (4 * h + 2 + 1); show 0 ≤ g 2 (4 * h + 2) * 256 + g 2 (4 * h + 2 + 1); omega
  have hpH : ∀ h, 0 ≤ pHX g h := fun h => by have q1_ := xB2 hg (4 * h); have q2_ := xB2 hg (4 * h + 1); show 0 ≤ g 2 (4 * h) * 256 + g 2 (4 * h + 1); omega
  have J53 : ∀ N : Nat, ∀ (t3 : Int) (c4_ : Int) (fw : Int → Int) (ff : Int → Int) (fc : Int → Int), (∀ j : Int, (0 : Int) ≤ fw j ∧ fw j ≤ 65535) → (∀ j : Int, (0 : Int) ≤ ff j ∧ ff j ≤ 65535) → (∀ j : Int, (0 : Int) ≤ fc j ∧ fc j ≤ 40) → (0 ≤ c4_ ∧ c4_ ≤ p0) → (∀ h, 0 ≤ h → h < 4 → ff h = fHX g h) → (∀ h, 0 ≤ h → h < 4 → fw h = wv (pHX g h) (fHX g h) (fc h)) → (Gr (pHX g) (fHX g) c4_ t3 fc) → ((p0 - c4_).toNat) < N → ∀ (H : Heap) (locs : List Loc) (ls : Array Slot), wd D A s.heap (xw cy a z (uZ (uZ (uZ g 41 fw) 42 ff) 43 fc)) H locs → lv_has ls 6 [(0, .ref (a 40)), (2, vI p0), (3, vI t3), (4, vI c4_)] → W p l e (rm_X1_dispatch) s m args below meth c H locs 0 0 Q (F0 m 53 ls []) := by
    intro N
    induction N with
    | zero => intro t3 c4_ fw ff fc bfw bff bfc hc4 hff hfw hGr hN9; exact absurd hN9 (Nat.not_lt_zero _)
    | succ N ih53 =>
      intro t3 c4_ fw ff fc bfw bff bfc hc4 hff hfw hGr hN53 H locs ls w hl
      refine lv_iload hx hb dX1_dispatch_53 (lv_at hl 3 rfl) ?_
      refine lv_iload_n hx hb dX1_dispatch_55 rfl (lv_at hl 1 rfl) ?_
      refine r_icmp_ge (tgt := 118) hx hb dX1_dispatch_56 (by decide) (by omega) (by omega) (fun c56 => ?_) (fun c56 => ?_)
      · skip
        refine lv_aload_n hx hb dX1_dispatch_118 rfl (lv_at hl 0 rfl) ?_
        refine r_iconst hx hb dX1_dispatch_119 ?_
        refine r_put C w 40 tyX1 tyX1_ok nmX1 rfl rfl 3 (by decide) inX1 kf_X1_21 rfl (nb01 (by omega)) (fb01 (by omega)) (Nat.le_of_ble_eq_true rfl) (ws' := xw cy a (uZ z 20 1) (uZ (uZ (uZ g 41 fw) 42 ff) 43 fc)) (xw_z20 cy a z (uZ (uZ (uZ g 41 fw) 42 ff) 43 fc) 1) dX1_dispatch_120 (fun H locs w => ?_)
        have bz1 : (0 : Int) ≤ 1 ∧ (1 : Int) ≤ 1 := (by omega)
        refine lv_iload_n hx hb dX1_dispatch_123 rfl (lv_at hl 2 rfl) ?_
        exact hend t3 ((uZ z 20 1), (uZ (uZ (uZ g 41 fw) 42 ff) 43 fc)) _ _ _ _ dX1_dispatch_124 w ⟨(by refine ⟨rfl, fw, ff, fc, rfl, ?_⟩; rw [← show c4_ = p0 by omega]; exact hGr), (xBz_u hz 20 bz1), (xBg_u (xBg_u (xBg_u hg 41 bfw) 42 bff) 43 bfc)⟩
      · skip
        refine lv_aload_n hx hb dX1_dispatch_59 rfl (lv_at hl 0 rfl) ?_
        refine cVI C w hA (ct_X1_bestHall l D cy a z (uZ (uZ (uZ g 41 fw) 42 ff) 43 fc)  hz (xBg_u (xBg_u (xBg_u hg 41 bfw) 42 bff) 43 bfc)) ok_X1_bestHall km_X1_31 ⟨rfl, rfl⟩ ⟨by decide, by decide⟩ ⟨by decide, by decide⟩ rfl 40 rfl rfl hl.1 rfl (Nat.le_of_ble_eq_true rfl) dX1_dispatch_60 (fun rv_1 uv_1 H locs w hp_1 => ?_)
        replace w : wd D A s.heap (xw cy a z (uZ (uZ (uZ g 41 fw) 42 ff) 43 fc)) H locs := w
        replace hp_1 : isBh fw rv_1 := hp_1
        have hbh := hp_1
        have hbh1 := hbh.1
        have hbh2 := hbh.2.1
        have hnn := hGr.1 rv_1 hbh.1 hbh.2.1
        have hle4 := N4_le ⟨hbh.1, hbh.2.1⟩ hGr.1
        have hsm := hGr.2.1
        have eff := hff rv_1 hbh.1 hbh.2.1
        have efw := hfw rv_1 hbh.1 hbh.2.1
        refine lv_istore (lv' := [(5, vI rv_1), (0, .ref (a 40)), (2, vI p0), (3, vI t3), (4, vI c4_)]) hx hb dX1_dispatch_63 hl (by decide) rfl (fun ls hl => ?_)
        refine lv_iload_n hx hb dX1_dispatch_65 rfl (lv_at hl 3 rfl) ?_
        refine lv_aload_n hx hb dX1_dispatch_66 rfl (lv_at hl 1 rfl) ?_
        refine r_get C w 40 (v := .ref (a 41)) rfl rfl 0 (by decide) inX1 kf_X1_9 rfl dX1_dispatch_67 ?_
        refine lv_iload hx hb dX1_dispatch_70 (lv_at hl 0 rfl) ?_
        refine r_iald C w 41 (f := fw) rfl (by omega) (by omega) (by decide) dX1_dispatch_72 ?_
        have qg2 := bfw rv_1
        refine r_iadd hx hb dX1_dispatch_73 ?_
        refine lv_istore_n (lv' := [(3, vI (t3 + (fw rv_1))), (5, vI rv_1), (0, .ref (a 40)), (2, vI p0), (4, vI c4_)]) hx hb dX1_dispatch_74 rfl hl (by decide) rfl (fun ls hl => ?_)
        refine lv_aload_n hx hb dX1_dispatch_75 rfl (lv_at hl 2 rfl) ?_
        refine r_get C w 40 (v := .ref (a 41)) rfl rfl 0 (by decide) inX1 kf_X1_9 rfl dX1_dispatch_76 ?_
        refine lv_iload hx hb dX1_dispatch_79 (lv_at hl 1 rfl) ?_
        refine lv_aload_n hx hb dX1_dispatch_81 rfl (lv_at hl 2 rfl) ?_
        refine r_get C w 40 (v := .ref (a 41)) rfl rfl 0 (by decide) inX1 kf_X1_9 rfl dX1_dispatch_82 ?_
        refine lv_iload hx hb dX1_dispatch_85 (lv_at hl 1 rfl) ?_
        refine r_iald C w 41 (f := fw) rfl (by omega) (by omega) (by decide) dX1_dispatch_87 ?_
        have qg3 := bfw rv_1
        refine lv_aload_n hx hb dX1_dispatch_88 rfl (lv_at hl 2 rfl) ?_
        refine r_get C w 40 (v := .ref (a 42)) rfl rfl 1 (by decide) inX1 kf_X1_15 rfl dX1_dispatch_89 ?_
        refine lv_iload hx hb dX1_dispatch_92 (lv_at hl 1 rfl) ?_
        refine r_iald C w 42 (f := ff) rfl (by omega) (by omega) (by decide) dX1_dispatch_94 ?_
        have qg4 := bff rv_1
        refine r_isub hx hb dX1_dispatch_95 ?_
        refine r_iconst hx hb dX1_dispatch_96 ?_
        refine r_mmax C km_X1_35 hl.1 (by decide) (Nat.le_of_ble_eq_true rfl) ⟨by decide, by decide⟩ (by omega) (by omega) dX1_dispatch_97 (fun rv_2 hp_2 => ?_)
        have hmx := mx_of hp_2
        refine r_iast C w 41 (f := fw) rfl (by omega) (by omega) (by decide) (ws' := xw cy a z (uZ (uZ (uZ g 41 (uI fw rv_1 rv_2)) 42 ff) 43 fc)) rfl dX1_dispatch_100 (fun H locs w => ?_)
        have bg5 : ∀ j : Int, (0 : Int) ≤ (uI fw rv_1 rv_2) j ∧ (uI fw rv_1 rv_2) j ≤ 65535 := uI_b bfw (by omega)
        refine lv_aload_n hx hb dX1_dispatch_101 rfl (lv_at hl 2 rfl) ?_
        refine r_get C w 40 (v := .ref (a 43)) rfl rfl 2 (by decide) inX1 kf_X1_18 rfl dX1_dispatch_102 ?_
        refine lv_iload hx hb dX1_dispatch_105 (lv_at hl 1 rfl) ?_
        refine lv_dup2_11 hx hb dX1_dispatch_107 rfl rfl ?_
        refine r_iald C w 43 (f := fc) rfl (by omega) (by omega) (by decide) dX1_dispatch_108 ?_
        have qg6 := bfc rv_1
        refine r_iconst hx hb dX1_dispatch_109 ?_
        refine r_iadd hx hb dX1_dispatch_110 ?_
        refine r_iast C w 43 (f := fc) rfl (by omega) (by omega) (by decide) (ws' := xw cy a z (uZ (uZ (uZ g 41 (uI fw rv_1 rv_2)) 42 ff) 43 (uI fc rv_1 ((fc rv_1) + 1)))) rfl dX1_dispatch_111 (fun H locs w => ?_)
        have bg7 : ∀ j : Int, (0 : Int) ≤ (uI fc rv_1 ((fc rv_1) + 1)) j ∧ (uI fc rv_1 ((fc rv_1) + 1)) j ≤ 40 := uI_b bfc (by omega)
        refine r_iinc (lv' := [(4, vI (c4_ + 1)), (3, vI (t3 + (fw rv_1))), (5, vI rv_1), (0, .ref (a 40)), (2, vI p0)]) hx hb dX1_dispatch_112 hl (k := 4) rfl (by decide) rfl (fun ls hl => ?_)
        refine lv_goto (tgt := 53) hx hb dX1_dispatch_115 (by decide) ?_
        exact ih53 (t3 + (fw rv_1)) (c4_ + 1) (uI fw rv_1 rv_2) ff (uI fc rv_1 ((fc rv_1) + 1)) bg5 bff bg7 (by omega) (by exact hff) (by exact wup hfw (by rw [hmx, efw, eff]; exact wv_s (hfH _ hbh.1 hbh.2.1) hnn)) (by exact Gr_s hfH hfw hbh hGr) (by omega) _ _ _ w (lv_sub hl [3, 4, 1, 0] rfl)
  have J2 : ∀ N : Nat, ∀ (i3 : Int) (fw : Int → Int) (ff : Int → Int) (fc : Int → Int), (∀ j : Int, (0 : Int) ≤ fw j ∧ fw j ≤ 65535) → (∀ j : Int, (0 : Int) ≤ ff j ∧ ff j ≤ 65535) → (∀ j : Int, (0 : Int) ≤ fc j ∧ fc j ≤ 40) → (0 ≤ i3 ∧ i3 ≤ 4) → (∀ h, 0 ≤ h → h < i3 → ff h = fHX g h) → (∀ h, 0 ≤ h → h < i3 → fw h = pHX g h) → (∀ h, 0 ≤ h → h < i3 → fc h = 0) → ((4 - i3).toNat) < N → ∀ (H : Heap) (locs : List Loc) (ls : Array Slot), wd D A s.heap (xw cy a z (uZ (uZ (uZ g 41 fw) 42 ff) 43 fc)) H locs → lv_has ls 6 [(0, .ref (a 40)), (1, .ref (a 1)), (2, vI p0), (3, vI i3)] → W p l e (rm_X1_dispatch) s m args below meth c H locs 0 0 Q (F0 m 2 ls []) := by
    intro N
    induction N with
    | zero => intro i3 fw ff fc bfw bff bfc hi3 hff hfw hfc hN9; exact absurd hN9 (Nat.not_lt_zero _)
    | succ N ih2 =>
      intro i3 fw ff fc bfw bff bfc hi3 hff hfw hfc hN2 H locs ls w hl
      refine lv_iload_n hx hb dX1_dispatch_2 rfl (lv_at hl 3 rfl) ?_
      refine r_iconst hx hb dX1_dispatch_3 ?_
      refine r_icmp_ge (tgt := 48) hx hb dX1_dispatch_4 (by decide) (by omega) (by omega) (fun c4 => ?_) (fun c4 => ?_)
      · skip
        refine r_iconst hx hb dX1_dispatch_48 ?_
        refine lv_istore_n (lv' := [(3, vI 0), (0, .ref (a 40)), (1, .ref (a 1)), (2, vI p0)]) hx hb dX1_dispatch_49 rfl hl (by decide) rfl (fun ls hl => ?_)
        refine r_iconst hx hb dX1_dispatch_50 ?_
        refine lv_istore (lv' := [(4, vI 0), (3, vI 0), (0, .ref (a 40)), (1, .ref (a 1)), (2, vI p0)]) hx hb dX1_dispatch_51 hl (by decide) rfl (fun ls hl => ?_)
        exact J53 _ 0 0 fw ff fc bfw bff bfc (by omega) (by intro h h1 h2; exact hff h h1 (by omega)) (by intro h h1 h2; rw [hfc h h1 (by omega), wv_0 (hpH h)]; exact hfw h h1 (by omega)) (by exact Gr_0 _ _ (fun h h1 h2 => hfc h h1 (by omega))) (Nat.lt_succ_self _) _ _ _ w (lv_sub hl [2, 4, 1, 0] rfl)
      · skip
        refine lv_aload_n hx hb dX1_dispatch_7 rfl (lv_at hl 0 rfl) ?_
        refine r_get C w 40 (v := .ref (a 41)) rfl rfl 0 (by decide) inX1 kf_X1_9 rfl dX1_dispatch_8 ?_
        refine lv_iload_n hx hb dX1_dispatch_11 rfl (lv_at hl 3 rfl) ?_
        refine lv_aload_n hx hb dX1_dispatch_12 rfl (lv_at hl 1 rfl) ?_
        refine r_iconst hx hb dX1_dispatch_13 ?_
        refine lv_iload_n hx hb dX1_dispatch_14 rfl (lv_at hl 3 rfl) ?_
        refine r_imul hx hb dX1_dispatch_15 ?_
        refine cVI C w hA (ct_X8_pairAt l D cy a z (uZ (uZ (uZ g 41 fw) 42 ff) 43 fc) (4 * i3) hz (xBg_u (xBg_u (xBg_u hg 41 bfw) 42 bff) 43 bfc) (by show 0 ≤ (4 * i3) ∧ (4 * i3) + 1 < (z 2); omega)) ok_X8_pairAt km_X1_25 ⟨rfl, rfl⟩ ⟨by decide, by decide⟩ ⟨by decide, by decide⟩ rfl 1 rfl rfl hl.1 rfl (Nat.le_of_ble_eq_true rfl) dX1_dispatch_16 (fun rv_3 uv_3 H locs w hp_3 => ?_)
        replace hp_3 : rv_3 = (g 2) (4 * i3) * 256 + (g 2) ((4 * i3) + 1) := hp_3
        replace w : wd D A s.heap (xw cy a z (uZ (uZ (uZ g 41 fw) 42 ff) 43 fc)) H locs := w
        have hq1 : rv_3 = pHX g i3 := hp_3
        have qb1 := xB2 hg (4 * i3)
        have qb2 := xB2 hg (4 * i3 + 1)
        refine r_iast C w 41 (f := fw) rfl (by omega) (by omega) (by decide) (ws' := xw cy a z (uZ (uZ (uZ g 41 (uI fw i3 rv_3)) 42 ff) 43 fc)) rfl dX1_dispatch_19 (fun H locs w => ?_)
        have bg8 : ∀ j : Int, (0 : Int) ≤ (uI fw i3 rv_3) j ∧ (uI fw i3 rv_3) j ≤ 65535 := uI_b bfw (by omega)
        refine lv_aload_n hx hb dX1_dispatch_20 rfl (lv_at hl 0 rfl) ?_
        refine r_get C w 40 (v := .ref (a 42)) rfl rfl 1 (by decide) inX1 kf_X1_15 rfl dX1_dispatch_21 ?_
        refine lv_iload_n hx hb dX1_dispatch_24 rfl (lv_at hl 3 rfl) ?_
        refine lv_aload_n hx hb dX1_dispatch_25 rfl (lv_at hl 1 rfl) ?_
        refine r_iconst hx hb dX1_dispatch_26 ?_
        refine lv_iload_n hx hb dX1_dispatch_27 rfl (lv_at hl 3 rfl) ?_
        refine r_imul hx hb dX1_dispatch_28 ?_
        refine r_iconst hx hb dX1_dispatch_29 ?_
        refine r_iadd hx hb dX1_dispatch_30 ?_
        refine cVI C w hA (ct_X8_pairAt l D cy a z (uZ (uZ (uZ g 41 (uI fw i3 rv_3)) 42 ff) 43 fc) ((4 * i3) + 2) hz (xBg_u (xBg_u (xBg_u hg 41 bg8) 42 bff) 43 bfc) (by show 0 ≤ ((4 * i3) + 2) ∧ ((4 * i3) + 2) + 1 < (z 2); omega)) ok_X8_pairAt km_X1_25 ⟨rfl, rfl⟩ ⟨by decide, by decide⟩ ⟨by decide, by decide⟩ rfl 1 rfl rfl hl.1 rfl (Nat.le_of_ble_eq_true rfl) dX1_dispatch_31 (fun rv_4 uv_4 H locs w hp_4 => ?_)
        replace hp_4 : rv_4 = (g 2) ((4 * i3) + 2) * 256 + (g 2) (((4 * i3) + 2) + 1) := hp_4
        replace w : wd D A s.heap (xw cy a z (uZ (uZ (uZ g 41 (uI fw i3 rv_3)) 42 ff) 43 fc)) H locs := w
        have hq2 : rv_4 = fHX g i3 := hp_4
        have qb3 := xB2 hg (4 * i3 + 2)
        have qb4 := xB2 hg (4 * i3 + 2 + 1)
        refine r_iast C w 42 (f := ff) rfl (by omega) (by omega) (by decide) (ws' := xw cy a z (uZ (uZ (uZ g 41 (uI fw i3 rv_3)) 42 (uI ff i3 rv_4)) 43 fc)) rfl dX1_dispatch_34 (fun H locs w => ?_)
        have bg9 : ∀ j : Int, (0 : Int) ≤ (uI ff i3 rv_4) j ∧ (uI ff i3 rv_4) j ≤ 65535 := uI_b bff (by omega)
        refine lv_aload_n hx hb dX1_dispatch_35 rfl (lv_at hl 0 rfl) ?_
        refine r_get C w 40 (v := .ref (a 43)) rfl rfl 2 (by decide) inX1 kf_X1_18 rfl dX1_dispatch_36 ?_
        refine lv_iload_n hx hb dX1_dispatch_39 rfl (lv_at hl 3 rfl) ?_
        refine r_iconst hx hb dX1_dispatch_40 ?_
        refine r_iast C w 43 (f := fc) rfl (by omega) (by omega) (by decide) (ws' := xw cy a z (uZ (uZ (uZ g 41 (uI fw i3 rv_3)) 42 (uI ff i3 rv_4)) 43 (uI fc i3 0))) rfl dX1_dispatch_41 (fun H locs w => ?_)
        have bg10 : ∀ j : Int, (0 : Int) ≤ (uI fc i3 0) j ∧ (uI fc i3 0) j ≤ 40 := uI_b bfc (by omega)
        refine r_iinc (lv' := [(3, vI (i3 + 1)), (0, .ref (a 40)), (1, .ref (a 1)), (2, vI p0)]) hx hb dX1_dispatch_42 hl (k := 3) rfl (by decide) rfl (fun ls hl => ?_)
        refine lv_goto (tgt := 2) hx hb dX1_dispatch_45 (by decide) ?_
        exact ih2 (i3 + 1) (uI fw i3 rv_3) (uI ff i3 rv_4) (uI fc i3 0) bg8 bg9 bg10 (by omega) (by rw [hq2]; exact ini3 hff) (by rw [hq1]; exact ini3 hfw) (by exact ini3 (k := fun _ => 0) hfc) (by omega) _ _ _ w (lv_sub hl [1, 2, 3, 0] rfl)
  replace hl : lv_has ls 6 [(0, .ref (a 40)), (1, .ref (a 1)), (2, vI p0)] := hl
  refine r_iconst hx hb dX1_dispatch_0 ?_
  refine lv_istore_n (lv' := [(3, vI 0), (0, .ref (a 40)), (1, .ref (a 1)), (2, vI p0)]) hx hb dX1_dispatch_1 rfl hl (by decide) rfl (fun ls hl => ?_)
  exact J2 _ 0 (g 41) (g 42) (g 43) (xB41 hg) (xB42 hg) (xB43 hg) (by omega) (by intro h h1 h2; omega) (by intro h h1 h2; omega) (by intro h h1 h2; omega) (Nat.lt_succ_self _) _ _ _ w (lv_sub hl [1, 2, 3, 0] rfl)

abbrev rm_X9_cars : Room := { frames := 3, cells := 0, slots := 0, locals := 67 }
set_option maxHeartbeats 4000000 in
set_option maxRecDepth 100000 in
theorem ct_X9_cars (l : Launch) (D : va_G) (cy : Nat → ClassId) (a : Nat → Nat) (z : Nat → Int) (g : Nat → Int → Int) (p0 : Int) (hz : xBz z) (hg : xBg g) (h0 : iR p0) : MI l yX9_cars cX9_cars 4 .int (rm_X9_cars) D cy (xw cy a z g) [.ref (a 0), vI p0] (fun (v : Int) (u : sX) => ((¬ (z 2 = 16 ∧ 1 ≤ p0 ∧ p0 ≤ 40) ∧ v = -1 ∧ u = (uZ z 2 0, g)) ∨ ((z 2 = 16 ∧ 1 ≤ p0 ∧ p0 ≤ 40) ∧ u.1 = uZ (uZ z 20 1) 2 0 ∧ ∃ f1 f2 f3 : Int → Int, u.2 = uZ (uZ (uZ g 41 f1) 42 f2) 43 f3 ∧ Gr (pHX g) (fHX g) p0 v f3)) ∧ xBz u.1 ∧ xBg u.2) (fun u => xw cy a u.1 u.2) 0 0 := by
  refine go_i (by decide +kernel) (Nat.le_of_ble_eq_true rfl) (Or.inl rfl) ?_
  intro p e s m args below meth c Q A ls C hnm hA w hl hend
  have hx := C.1
  have hb := C.2.1
  have J28 : ∀ (b : Int), ((b = 1 ∧ z 2 = 16 ∧ 1 ≤ p0 ∧ p0 ≤ 40) ∨ (b = 0 ∧ ¬ (z 2 = 16 ∧ 1 ≤ p0 ∧ p0 ≤ 40))) → ∀ (H : Heap) (locs : List Loc) (ls : Array Slot), wd D A s.heap (xw cy a z g) H locs → lv_has ls 4 [(0, .ref (a 0)), (1, vI p0)] → W p l e (rm_X9_cars) s m args below meth c H locs 0 0 Q (F0 m 28 ls [vI b]) := by
    intro b hb1 H locs ls w hl
    refine lv_istore_n (lv' := [(2, vI b), (0, .ref (a 0)), (1, vI p0)]) hx hb dX9_cars_28 rfl hl (by decide) rfl (fun ls hl => ?_)
    refine lv_iload_n hx hb dX9_cars_29 rfl (lv_at hl 0 rfl) ?_
    refine r_if_eq (tgt := 48) hx hb dX9_cars_30 (by decide) (by omega) (fun c30 => ?_) (fun c30 => ?_)
    · skip
      refine r_iconst hx hb dX9_cars_48 ?_
      refine lv_istore_n (lv' := [(3, vI (-1)), (2, vI b), (0, .ref (a 0)), (1, vI p0)]) hx hb dX9_cars_49 rfl hl (by decide) rfl (fun ls hl => ?_)
      refine lv_aload_n hx hb dX9_cars_50 rfl (lv_at hl 2 rfl) ?_
      refine r_get C w 0 (v := .ref (a 1)) rfl rfl 0 (by decide) inX9 kf_X9_10 rfl dX9_cars_51 ?_
      refine r_iconst hx hb dX9_cars_54 ?_
      refine r_putN C w 1 tyX8 tyX8_ok nmX8 rfl rfl 1 (by decide) inX8 kt_X9_89 rfl rfl rfl (Nat.le_of_ble_eq_true rfl) (ws' := xw cy a (uZ z 2 0) g) (xw_z2 cy a z g 0) dX9_cars_55 (fun H locs w => ?_)
      have bz1 : (0 : Int) ≤ 0 ∧ (0 : Int) ≤ 200 := (by omega)
      refine lv_iload_n hx hb dX9_cars_58 rfl (lv_at hl 0 rfl) ?_
      exact hend (-1) ((uZ z 2 0), g) _ _ _ _ dX9_cars_59 w ⟨(by first | (refine Or.inr ⟨by omega, ?_⟩; obtain ⟨e1_, f1, f2, f3, e2_, e3_⟩ := hp_1; exact ⟨by rw [e1_], f1, f2, f3, e2_, e3_⟩) | exact Or.inl ⟨by omega, rfl, rfl⟩), (xBz_u hz 2 bz1), hg⟩
    · skip
      refine lv_aload_n hx hb dX9_cars_33 rfl (lv_at hl 1 rfl) ?_
      refine r_get C w 0 (v := .ref (a 40)) rfl rfl 8 (by decide) inX9 kf_X9_74 rfl dX9_cars_34 ?_
      refine lv_aload_n hx hb dX9_cars_37 rfl (lv_at hl 1 rfl) ?_
      refine r_get C w 0 (v := .ref (a 1)) rfl rfl 0 (by decide) inX9 kf_X9_10 rfl dX9_cars_38 ?_
      refine lv_iload_n hx hb dX9_cars_41 rfl (lv_at hl 2 rfl) ?_
      refine cVI C w hA (ct_X1_dispatch l D cy a z g p0 hz hg (by show 1 ≤ p0 ∧ p0 ≤ 40; omega) (by show (z 2) = 16; omega)) ok_X1_dispatch km_X9_251 ⟨rfl, rfl⟩ ⟨by decide, by decide⟩ ⟨by decide, by decide⟩ rfl 40 rfl rfl hl.1 rfl (Nat.le_of_ble_eq_true rfl) dX9_cars_42 (fun rv_1 uv_1 H locs w hp_1 => ?_)
      obtain ⟨zc_1, gc_1⟩ := uv_1
      obtain ⟨hp_1, hzc_1, hgc_1⟩ := hp_1
      replace w : wd D A s.heap (xw cy a zc_1 gc_1) H locs := w
      replace hzc_1 : xBz zc_1 := hzc_1
      replace hgc_1 : xBg gc_1 := hgc_1
      try dsimp only at hp_1
      refine lv_goto (tgt := 49) hx hb dX9_cars_45 (by decide) ?_
      refine lv_istore_n (lv' := [(3, vI rv_1), (2, vI b), (0, .ref (a 0)), (1, vI p0)]) hx hb dX9_cars_49 rfl hl (by decide) rfl (fun ls hl => ?_)
      refine lv_aload_n hx hb dX9_cars_50 rfl (lv_at hl 2 rfl) ?_
      refine r_get C w 0 (v := .ref (a 1)) rfl rfl 0 (by decide) inX9 kf_X9_10 rfl dX9_cars_51 ?_
      refine r_iconst hx hb dX9_cars_54 ?_
      refine r_putN C w 1 tyX8 tyX8_ok nmX8 rfl rfl 1 (by decide) inX8 kt_X9_89 rfl rfl rfl (Nat.le_of_ble_eq_true rfl) (ws' := xw cy a (uZ zc_1 2 0) gc_1) (xw_z2 cy a zc_1 gc_1 0) dX9_cars_55 (fun H locs w => ?_)
      have bz2 : (0 : Int) ≤ 0 ∧ (0 : Int) ≤ 200 := (by omega)
      refine lv_iload_n hx hb dX9_cars_58 rfl (lv_at hl 0 rfl) ?_
      exact hend rv_1 ((uZ zc_1 2 0), gc_1) _ _ _ _ dX9_cars_59 w ⟨(by first | (refine Or.inr ⟨by omega, ?_⟩; obtain ⟨e1_, f1, f2, f3, e2_, e3_⟩ := hp_1; exact ⟨by rw [e1_], f1, f2, f3, e2_, e3_⟩) | exact Or.inl ⟨by omega, rfl, rfl⟩), (xBz_u hzc_1 2 bz2), hgc_1⟩
  replace hl : lv_has ls 4 [(0, .ref (a 0)), (1, vI p0)] := hl
  refine lv_aload_n hx hb dX9_cars_0 rfl (lv_at hl 0 rfl) ?_
  refine r_get C w 0 (v := .ref (a 1)) rfl rfl 0 (by decide) inX9 kf_X9_10 rfl dX9_cars_1 ?_
  refine r_getN C w 1 (v := vI (z 2)) rfl rfl 1 (by decide) inX8 kt_X9_89 rfl dX9_cars_4 ?_
  have qz3 := xZ2 hz
  refine r_bipush hx hb dX9_cars_7 (by decide) ?_
  refine r_icmp_ne (tgt := 27) hx hb dX9_cars_9 (by decide) (by omega) (by omega) (fun c9 => ?_) (fun c9 => ?_)
  · skip
    refine r_iconst hx hb dX9_cars_27 ?_
    exact J28 0 (by omega) _ _ _ w (lv_sub hl [0, 1] rfl)
  · skip
    refine lv_iload_n hx hb dX9_cars_12 rfl (lv_at hl 1 rfl) ?_
    refine r_iconst hx hb dX9_cars_13 ?_
    refine r_icmp_lt (tgt := 27) hx hb dX9_cars_14 (by decide) (by omega) (by omega) (fun c14 => ?_) (fun c14 => ?_)
    · skip
      refine r_iconst hx hb dX9_cars_27 ?_
      exact J28 0 (by omega) _ _ _ w (lv_sub hl [0, 1] rfl)
    · skip
      refine lv_iload_n hx hb dX9_cars_17 rfl (lv_at hl 1 rfl) ?_
      refine r_bipush hx hb dX9_cars_18 (by decide) ?_
      refine r_icmp_gt (tgt := 27) hx hb dX9_cars_20 (by decide) (by omega) (by omega) (fun c20 => ?_) (fun c20 => ?_)
      · skip
        refine r_iconst hx hb dX9_cars_27 ?_
        exact J28 0 (by omega) _ _ _ w (lv_sub hl [0, 1] rfl)
      · skip
        refine r_iconst hx hb dX9_cars_23 ?_
        refine lv_goto (tgt := 28) hx hb dX9_cars_24 (by decide) ?_
        exact J28 1 (by omega) _ _ _ w (lv_sub hl [0, 1] rfl)
