theorem bm_b (x : Int) : -128 ≤ Int.bmod x 256 ∧ Int.bmod x 256 ≤ 127 := by
  have h1 := Int.le_bmod (x := x) (m := 256) (by decide)
  have h2 := Int.bmod_lt (x := x) (m := 256) (by decide)
  constructor <;> omega
def rotG (s b : Int → Int) (n p : Int) : Int → Int := fun j => if 0 ≤ j ∧ j < n ∧ s j = 0 then b j - b j * p / 100 else b j
theorem rotG_st {s b f : Int → Int} {p i : Int} (hf : ∀ j, f j = rotG s b i p j) (h0 : 0 ≤ i) (hs : s i = 0) : ∀ j, uI f i (f i - f i * p / 100) j = rotG s b (i + 1) p j := by
  intro j
  by_cases e : j = i
  · subst e
    rw [uI_s, hf]
    unfold rotG
    rw [if_neg (by omega), if_pos (by omega)]
  · rw [uI_n _ _ e, hf]
    unfold rotG
    by_cases q : 0 ≤ j ∧ j < i ∧ s j = 0
    · rw [if_pos q, if_pos (by omega)]
    · rw [if_neg q, if_neg (by omega)]
theorem rotG_kp {s b f : Int → Int} {p i : Int} (hf : ∀ j, f j = rotG s b i p j) (hs : s i ≠ 0) : ∀ j, f j = rotG s b (i + 1) p j := by
  intro j
  rw [hf]
  unfold rotG
  by_cases q : 0 ≤ j ∧ j < i ∧ s j = 0
  · rw [if_pos q, if_pos (by omega)]
  · rw [if_neg q, if_neg]
    intro q2
    rcases (show j = i ∨ j < i by omega) with e | e
    · subst e
      exact hs q2.2.2
    · exact q ⟨q2.1, e, q2.2.2⟩
def tq4 (f : Int → Int) (n p : Int) : Int → Int := uI (uI (uI (uI f n (Int.bmod (p / 2 ^ 24) 256)) (n + 1) (Int.bmod (p / 2 ^ 16) 256)) (n + 1 + 1) (Int.bmod (p / 2 ^ 8) 256)) (n + 1 + 1 + 1) (Int.bmod (p / 2 ^ 0) 256)
abbrev rm_X10_isIn : Room := { frames := 0, cells := 0, slots := 0, locals := 0 }
set_option maxHeartbeats 4000000 in
set_option maxRecDepth 100000 in
theorem ct_X10_isIn (l : Launch) (D : va_G) (cy : Nat → ClassId) (a : Nat → Nat) (z : Nat → Int) (g : Nat → Int → Int) (p0 p1 p2 : Int) (h0 : iR p0) (h1 : iR p1) (h2 : iR p2) : MI l yX10_isIn cX10_isIn 3 .boolean (rm_X10_isIn) D cy (mw cy a z g) [vI p0, vI p1, vI p2] (fun (v : Int) (u : Unit) => (v = 1 ∧ p1 ≤ p0 ∧ p0 ≤ p2) ∨ (v = 0 ∧ ¬ (p1 ≤ p0 ∧ p0 ≤ p2))) (fun _ => mw cy a z g) 0 0 := by
  refine go_i (by decide +kernel) (Nat.le_of_ble_eq_true rfl) (Or.inr (fun v u h => nb01 (by omega))) ?_
  intro p e s m args below meth c Q A ls C hnm hA w hl hend
  have hx := C.1
  have hb := C.2.1
  replace hl : lv_has ls 3 [(0, vI p0), (1, vI p1), (2, vI p2)] := hl
  refine lv_iload_n hx hb dX10_isIn_0 rfl (lv_at hl 0 rfl) ?_
  refine lv_iload_n hx hb dX10_isIn_1 rfl (lv_at hl 1 rfl) ?_
  refine r_icmp_lt (tgt := 14) hx hb dX10_isIn_2 (by decide) (by omega) (by omega) (fun c2 => ?_) (fun c2 => ?_)
  · skip
    refine r_iconst hx hb dX10_isIn_14 ?_
    exact hend 0 () _ _ _ _ dX10_isIn_15 w (by omega)
  · skip
    refine lv_iload_n hx hb dX10_isIn_5 rfl (lv_at hl 0 rfl) ?_
    refine lv_iload_n hx hb dX10_isIn_6 rfl (lv_at hl 2 rfl) ?_
    refine r_icmp_gt (tgt := 14) hx hb dX10_isIn_7 (by decide) (by omega) (by omega) (fun c7 => ?_) (fun c7 => ?_)
    · skip
      refine r_iconst hx hb dX10_isIn_14 ?_
      exact hend 0 () _ _ _ _ dX10_isIn_15 w (by omega)
    · skip
      refine r_iconst hx hb dX10_isIn_10 ?_
      refine lv_goto (tgt := 15) hx hb dX10_isIn_11 (by decide) ?_
      exact hend 1 () _ _ _ _ dX10_isIn_15 w (by omega)

abbrev rm_X10_place : Room := { frames := 0, cells := 0, slots := 0, locals := 0 }
set_option maxHeartbeats 4000000 in
set_option maxRecDepth 100000 in
theorem ct_X10_place (l : Launch) (D : va_G) (cy : Nat → ClassId) (a : Nat → Nat) (z : Nat → Int) (g : Nat → Int → Int) (p0 p1 p2 : Int)  : MI l yX10_place cX10_place 3 .int (rm_X10_place) D cy (mw cy a z g) [vI p0, vI p1, vI p2] (fun (v : Int) (u : Unit) => v = 16 * p0 + 4 * p1 + p2) (fun _ => mw cy a z g) 0 0 := by
  refine go_i (by decide +kernel) (Nat.le_of_ble_eq_true rfl) (Or.inl rfl) ?_
  intro p e s m args below meth c Q A ls C hnm hA w hl hend
  have hx := C.1
  have hb := C.2.1
  replace hl : lv_has ls 3 [(0, vI p0), (1, vI p1), (2, vI p2)] := hl
  refine r_bipush hx hb dX10_place_0 (by decide) ?_
  refine lv_iload_n hx hb dX10_place_2 rfl (lv_at hl 0 rfl) ?_
  refine r_imul hx hb dX10_place_3 ?_
  refine r_iconst hx hb dX10_place_4 ?_
  refine lv_iload_n hx hb dX10_place_5 rfl (lv_at hl 1 rfl) ?_
  refine r_imul hx hb dX10_place_6 ?_
  refine r_iadd hx hb dX10_place_7 ?_
  refine lv_iload_n hx hb dX10_place_8 rfl (lv_at hl 2 rfl) ?_
  refine r_iadd hx hb dX10_place_9 ?_
  exact hend (((16 * p0) + (4 * p1)) + p2) () _ _ _ _ dX10_place_10 w (by rfl)

abbrev rm_X10_isSale : Room := { frames := 0, cells := 0, slots := 0, locals := 0 }
set_option maxHeartbeats 4000000 in
set_option maxRecDepth 100000 in
theorem ct_X10_isSale (l : Launch) (D : va_G) (cy : Nat → ClassId) (a : Nat → Nat) (z : Nat → Int) (g : Nat → Int → Int) (p0 : Int) (hz : mBz z) (hg : mBg g) (h0 : iR p0) : MI l yX10_isSale cX10_isSale 2 .boolean (rm_X10_isSale) D cy (mw cy a z g) [.ref (a 0), vI p0] (fun (v : Int) (u : Unit) => (v = 1 ∧ 0 ≤ p0 ∧ p0 < z 13) ∨ (v = 0 ∧ ¬ (0 ≤ p0 ∧ p0 < z 13))) (fun _ => mw cy a z g) 0 0 := by
  refine go_i (by decide +kernel) (Nat.le_of_ble_eq_true rfl) (Or.inr (fun v u h => nb01 (by omega))) ?_
  intro p e s m args below meth c Q A ls C hnm hA w hl hend
  have hx := C.1
  have hb := C.2.1
  replace hl : lv_has ls 2 [(0, .ref (a 0)), (1, vI p0)] := hl
  refine lv_iload_n hx hb dX10_isSale_0 rfl (lv_at hl 1 rfl) ?_
  refine r_if_lt (tgt := 16) hx hb dX10_isSale_1 (by decide) (by omega) (fun c1 => ?_) (fun c1 => ?_)
  · skip
    refine r_iconst hx hb dX10_isSale_16 ?_
    exact hend 0 () _ _ _ _ dX10_isSale_17 w (by omega)
  · skip
    refine lv_iload_n hx hb dX10_isSale_4 rfl (lv_at hl 1 rfl) ?_
    refine lv_aload_n hx hb dX10_isSale_5 rfl (lv_at hl 0 rfl) ?_
    refine r_get C w 0 (v := vI (z 13)) rfl rfl 34 (by decide) inX10 kf_X10_198 rfl dX10_isSale_6 ?_
    have qz1 := mZ13 hz
    refine r_icmp_ge (tgt := 16) hx hb dX10_isSale_9 (by decide) (by omega) (by omega) (fun c9 => ?_) (fun c9 => ?_)
    · skip
      refine r_iconst hx hb dX10_isSale_16 ?_
      exact hend 0 () _ _ _ _ dX10_isSale_17 w (by omega)
    · skip
      refine r_iconst hx hb dX10_isSale_12 ?_
      refine lv_goto (tgt := 17) hx hb dX10_isSale_13 (by decide) ?_
      exact hend 1 () _ _ _ _ dX10_isSale_17 w (by omega)

abbrev rm_X10_throwsIf : Room := { frames := 0, cells := 0, slots := 0, locals := 0 }
set_option maxHeartbeats 4000000 in
set_option maxRecDepth 100000 in
theorem ct_X10_throwsIf (l : Launch) (D : va_G) (cy : Nat → ClassId) (a : Nat → Nat) (z : Nat → Int) (g : Nat → Int → Int) (p0 : Int) (hz : mBz z) (hg : mBg g) (h0 : p0 = 0 ∨ p0 = 1) : MI l yX10_throwsIf cX10_throwsIf 2 .boolean (rm_X10_throwsIf) D cy (mw cy a z g) [.ref (a 0), vI p0] (fun (v : Int) (u : sX) => (v = p0 ∧ u = (uZ z 0 p0, g)) ∧ mBz u.1 ∧ mBg u.2) (fun u => mw cy a u.1 u.2) 0 0 := by
  refine go_i (by decide +kernel) (Nat.le_of_ble_eq_true rfl) (Or.inr (fun v u h => nb01 (by rw [h.1.1]; exact h0))) ?_
  intro p e s m args below meth c Q A ls C hnm hA w hl hend
  have hx := C.1
  have hb := C.2.1
  replace hl : lv_has ls 2 [(0, .ref (a 0)), (1, vI p0)] := hl
  refine lv_aload_n hx hb dX10_throwsIf_0 rfl (lv_at hl 0 rfl) ?_
  refine lv_iload_n hx hb dX10_throwsIf_1 rfl (lv_at hl 1 rfl) ?_
  refine r_if_eq (tgt := 9) hx hb dX10_throwsIf_2 (by decide) (by omega) (fun c2 => ?_) (fun c2 => ?_)
  · skip
    refine r_iconst hx hb dX10_throwsIf_9 ?_
    refine r_put C w 0 tyX10 tyX10_ok nmX10 rfl rfl 0 (by decide) inX10 kf_X10_97 rfl rfl rfl (Nat.le_of_ble_eq_true rfl) (ws' := mw cy a (uZ z 0 0) g) (mw_z0 cy a z g 0) dX10_throwsIf_10 (fun H locs w => ?_)
    have bz1 : (0 : Int) ≤ 0 ∧ (0 : Int) ≤ 1 := (by omega)
    refine lv_iload_n hx hb dX10_throwsIf_13 rfl (lv_at hl 1 rfl) ?_
    exact hend p0 ((uZ z 0 0), g) _ _ _ _ dX10_throwsIf_14 w ⟨(by refine ⟨rfl, ?_⟩; first | rfl | (rw [show p0 = 1 by omega]) | (rw [show p0 = 0 by omega])), (mBz_u hz 0 bz1), hg⟩
  · skip
    refine r_iconst hx hb dX10_throwsIf_5 ?_
    refine lv_goto (tgt := 10) hx hb dX10_throwsIf_6 (by decide) ?_
    refine r_put C w 0 tyX10 tyX10_ok nmX10 rfl rfl 0 (by decide) inX10 kf_X10_97 rfl rfl rfl (Nat.le_of_ble_eq_true rfl) (ws' := mw cy a (uZ z 0 1) g) (mw_z0 cy a z g 1) dX10_throwsIf_10 (fun H locs w => ?_)
    have bz2 : (0 : Int) ≤ 1 ∧ (1 : Int) ≤ 1 := (by omega)
    refine lv_iload_n hx hb dX10_throwsIf_13 rfl (lv_at hl 1 rfl) ?_
    exact hend p0 ((uZ z 0 1), g) _ _ _ _ dX10_throwsIf_14 w ⟨(by refine ⟨rfl, ?_⟩; first | rfl | (rw [show p0 = 1 by omega]) | (rw [show p0 = 0 by omega])), (mBz_u hz 0 bz2), hg⟩

abbrev rm_X10_four : Room := { frames := 0, cells := 0, slots := 0, locals := 0 }
set_option maxHeartbeats 4000000 in
set_option maxRecDepth 100000 in
theorem ct_X10_four (l : Launch) (D : va_G) (cy : Nat → ClassId) (a : Nat → Nat) (z : Nat → Int) (g : Nat → Int → Int) (p0 : Int) (hz : mBz z) (hg : mBg g) (h0 : iR p0) (h1 : z 1 + 4 ≤ 200) : MV l yX10_four cX10_four 3 (rm_X10_four) D cy (mw cy a z g) [.ref (a 0), vI p0] (fun (u : sX) => (u.1 = uZ z 1 (z 1 + 1 + 1 + 1 + 1) ∧ u.2 = uZ g 1 (tq4 (g 1) (z 1) p0)) ∧ mBz u.1 ∧ mBg u.2) (fun u => mw cy a u.1 u.2) 0 0 := by
  refine go_v (by decide +kernel) (Nat.le_of_ble_eq_true rfl) ?_
  intro p e s m args below meth c Q A ls C hnm hA w hl hend
  have hx := C.1
  have hb := C.2.1
  replace hl : lv_has ls 3 [(0, .ref (a 0)), (1, vI p0)] := hl
  refine r_bipush hx hb dX10_four_0 (by decide) ?_
  refine lv_istore_n (lv' := [(2, vI 24), (0, .ref (a 0)), (1, vI p0)]) hx hb dX10_four_2 rfl hl (by decide) rfl (fun ls hl => ?_)
  refine lv_iload_n hx hb dX10_four_3 rfl (lv_at hl 0 rfl) ?_
  refine r_if_lt (tgt := 36) hx hb dX10_four_4 (by decide) (by omega) (fun c4 => ?_) (fun c4 => ?_)
  · skip
    exact absurd c4 (by omega)
  · skip
    refine lv_aload_n hx hb dX10_four_7 rfl (lv_at hl 1 rfl) ?_
    refine r_get C w 0 (v := .ref (a 1)) rfl rfl 1 (by decide) inX10 kf_X10_7 rfl dX10_four_8 ?_
    refine lv_aload_n hx hb dX10_four_11 rfl (lv_at hl 1 rfl) ?_
    refine r_get C w 0 (v := vI (z 1)) rfl rfl 2 (by decide) inX10 kf_X10_101 rfl dX10_four_12 ?_
    have qz1 := mZ1 hz
    refine lv_iload_n hx hb dX10_four_15 rfl (lv_at hl 2 rfl) ?_
    refine lv_iload_n hx hb dX10_four_16 rfl (lv_at hl 0 rfl) ?_
    refine r_ishr hx hb 24 dX10_four_17 (by omega) (by decide) ?_
    refine r_i2b hx hb dX10_four_18 ?_
    refine r_bast C w 1 (f := (g 1)) rfl (by omega) (by omega) (by decide) (by exact iI_nb8 (bm_b _)) (ws' := mw cy a z (uZ g 1 (uI (g 1) (z 1) (Int.bmod (p0 / 2 ^ 24) 256)))) (mw_g1 cy a z g (uI (g 1) (z 1) (Int.bmod (p0 / 2 ^ 24) 256))) dX10_four_19 (fun H locs w => ?_)
    have bg2 : ∀ j : Int, (-128 : Int) ≤ (uI (g 1) (z 1) (Int.bmod (p0 / 2 ^ 24) 256)) j ∧ (uI (g 1) (z 1) (Int.bmod (p0 / 2 ^ 24) 256)) j ≤ 127 := uI_b (mB1 hg) (by exact bm_b _)
    refine lv_aload_n hx hb dX10_four_20 rfl (lv_at hl 1 rfl) ?_
    refine lv_dup hx hb dX10_four_21 rfl ?_
    refine r_get C w 0 (v := vI (z 1)) rfl rfl 2 (by decide) inX10 kf_X10_101 rfl dX10_four_22 ?_
    have qz3 := mZ1 hz
    refine r_iconst hx hb dX10_four_25 ?_
    refine r_iadd hx hb dX10_four_26 ?_
    refine r_put C w 0 tyX10 tyX10_ok nmX10 rfl rfl 2 (by decide) inX10 kf_X10_101 rfl rfl rfl (Nat.le_of_ble_eq_true rfl) (ws' := mw cy a (uZ z 1 ((z 1) + 1)) (uZ g 1 (uI (g 1) (z 1) (Int.bmod (p0 / 2 ^ 24) 256)))) (mw_z1 cy a z (uZ g 1 (uI (g 1) (z 1) (Int.bmod (p0 / 2 ^ 24) 256))) ((z 1) + 1)) dX10_four_27 (fun H locs w => ?_)
    have bz4 : (0 : Int) ≤ ((z 1) + 1) ∧ (((z 1) + 1) : Int) ≤ 200 := (by omega)
    refine r_iinc (lv' := [(2, vI (24 + (-8))), (0, .ref (a 0)), (1, vI p0)]) hx hb dX10_four_30 hl (k := 0) rfl (by decide) rfl (fun ls hl => ?_)
    refine lv_goto (tgt := 3) hx hb dX10_four_33 (by decide) ?_
    refine lv_iload_n hx hb dX10_four_3 rfl (lv_at hl 0 rfl) ?_
    refine r_if_lt (tgt := 36) hx hb dX10_four_4 (by decide) (by omega) (fun c4 => ?_) (fun c4 => ?_)
    · skip
      exact absurd c4 (by omega)
    · skip
      refine lv_aload_n hx hb dX10_four_7 rfl (lv_at hl 1 rfl) ?_
      refine r_get C w 0 (v := .ref (a 1)) rfl rfl 1 (by decide) inX10 kf_X10_7 rfl dX10_four_8 ?_
      refine lv_aload_n hx hb dX10_four_11 rfl (lv_at hl 1 rfl) ?_
      refine r_get C w 0 (v := vI ((z 1) + 1)) rfl rfl 2 (by decide) inX10 kf_X10_101 rfl dX10_four_12 ?_
      refine lv_iload_n hx hb dX10_four_15 rfl (lv_at hl 2 rfl) ?_
      refine lv_iload_n hx hb dX10_four_16 rfl (lv_at hl 0 rfl) ?_
      refine r_ishr hx hb 16 dX10_four_17 (by omega) (by decide) ?_
      refine r_i2b hx hb dX10_four_18 ?_
      refine r_bast C w 1 (f := (uI (g 1) (z 1) (Int.bmod (p0 / 2 ^ 24) 256))) rfl (by omega) (by omega) (by decide) (by exact iI_nb8 (bm_b _)) (ws' := mw cy a (uZ z 1 ((z 1) + 1)) (uZ g 1 (uI (uI (g 1) (z 1) (Int.bmod (p0 / 2 ^ 24) 256)) ((z 1) + 1) (Int.bmod (p0 / 2 ^ 16) 256)))) rfl dX10_four_19 (fun H locs w => ?_)
      have bg5 : ∀ j : Int, (-128 : Int) ≤ (uI (uI (g 1) (z 1) (Int.bmod (p0 / 2 ^ 24) 256)) ((z 1) + 1) (Int.bmod (p0 / 2 ^ 16) 256)) j ∧ (uI (uI (g 1) (z 1) (Int.bmod (p0 / 2 ^ 24) 256)) ((z 1) + 1) (Int.bmod (p0 / 2 ^ 16) 256)) j ≤ 127 := uI_b bg2 (by exact bm_b _)
      refine lv_aload_n hx hb dX10_four_20 rfl (lv_at hl 1 rfl) ?_
      refine lv_dup hx hb dX10_four_21 rfl ?_
      refine r_get C w 0 (v := vI ((z 1) + 1)) rfl rfl 2 (by decide) inX10 kf_X10_101 rfl dX10_four_22 ?_
      refine r_iconst hx hb dX10_four_25 ?_
      refine r_iadd hx hb dX10_four_26 ?_
      refine r_put C w 0 tyX10 tyX10_ok nmX10 rfl rfl 2 (by decide) inX10 kf_X10_101 rfl rfl rfl (Nat.le_of_ble_eq_true rfl) (ws' := mw cy a (uZ z 1 (((z 1) + 1) + 1)) (uZ g 1 (uI (uI (g 1) (z 1) (Int.bmod (p0 / 2 ^ 24) 256)) ((z 1) + 1) (Int.bmod (p0 / 2 ^ 16) 256)))) rfl dX10_four_27 (fun H locs w => ?_)
      have bz6 : (0 : Int) ≤ (((z 1) + 1) + 1) ∧ ((((z 1) + 1) + 1) : Int) ≤ 200 := (by omega)
      refine r_iinc (lv' := [(2, vI ((24 + (-8)) + (-8))), (0, .ref (a 0)), (1, vI p0)]) hx hb dX10_four_30 hl (k := 0) rfl (by decide) rfl (fun ls hl => ?_)
      refine lv_goto (tgt := 3) hx hb dX10_four_33 (by decide) ?_
      refine lv_iload_n hx hb dX10_four_3 rfl (lv_at hl 0 rfl) ?_
      refine r_if_lt (tgt := 36) hx hb dX10_four_4 (by decide) (by omega) (fun c4 => ?_) (fun c4 => ?_)
      · skip
        exact absurd c4 (by omega)
      · skip
        refine lv_aload_n hx hb dX10_four_7 rfl (lv_at hl 1 rfl) ?_
        refine r_get C w 0 (v := .ref (a 1)) rfl rfl 1 (by decide) inX10 kf_X10_7 rfl dX10_four_8 ?_
        refine lv_aload_n hx hb dX10_four_11 rfl (lv_at hl 1 rfl) ?_
        refine r_get C w 0 (v := vI (((z 1) + 1) + 1)) rfl rfl 2 (by decide) inX10 kf_X10_101 rfl dX10_four_12 ?_
        refine lv_iload_n hx hb dX10_four_15 rfl (lv_at hl 2 rfl) ?_
        refine lv_iload_n hx hb dX10_four_16 rfl (lv_at hl 0 rfl) ?_
        refine r_ishr hx hb 8 dX10_four_17 (by omega) (by decide) ?_
        refine r_i2b hx hb dX10_four_18 ?_
        refine r_bast C w 1 (f := (uI (uI (g 1) (z 1) (Int.bmod (p0 / 2 ^ 24) 256)) ((z 1) + 1) (Int.bmod (p0 / 2 ^ 16) 256))) rfl (by omega) (by omega) (by decide) (by exact iI_nb8 (bm_b _)) (ws' := mw cy a (uZ z 1 (((z 1) + 1) + 1)) (uZ g 1 (uI (uI (uI (g 1) (z 1) (Int.bmod (p0 / 2 ^ 24) 256)) ((z 1) + 1) (Int.bmod (p0 / 2 ^ 16) 256)) (((z 1) + 1) + 1) (Int.bmod (p0 / 2 ^ 8) 256)))) rfl dX10_four_19 (fun H locs w => ?_)
        have bg7 : ∀ j : Int, (-128 : Int) ≤ (uI (uI (uI (g 1) (z 1) (Int.bmod (p0 / 2 ^ 24) 256)) ((z 1) + 1) (Int.bmod (p0 / 2 ^ 16) 256)) (((z 1) + 1) + 1) (Int.bmod (p0 / 2 ^ 8) 256)) j ∧ (uI (uI (uI (g 1) (z 1) (Int.bmod (p0 / 2 ^ 24) 256)) ((z 1) + 1) (Int.bmod (p0 / 2 ^ 16) 256)) (((z 1) + 1) + 1) (Int.bmod (p0 / 2 ^ 8) 256)) j ≤ 127 := uI_b bg5 (by exact bm_b _)
        refine lv_aload_n hx hb dX10_four_20 rfl (lv_at hl 1 rfl) ?_
        refine lv_dup hx hb dX10_four_21 rfl ?_
        refine r_get C w 0 (v := vI (((z 1) + 1) + 1)) rfl rfl 2 (by decide) inX10 kf_X10_101 rfl dX10_four_22 ?_
        refine r_iconst hx hb dX10_four_25 ?_
        refine r_iadd hx hb dX10_four_26 ?_
        refine r_put C w 0 tyX10 tyX10_ok nmX10 rfl rfl 2 (by decide) inX10 kf_X10_101 rfl rfl rfl (Nat.le_of_ble_eq_true rfl) (ws' := mw cy a (uZ z 1 ((((z 1) + 1) + 1) + 1)) (uZ g 1 (uI (uI (uI (g 1) (z 1) (Int.bmod (p0 / 2 ^ 24) 256)) ((z 1) + 1) (Int.bmod (p0 / 2 ^ 16) 256)) (((z 1) + 1) + 1) (Int.bmod (p0 / 2 ^ 8) 256)))) rfl dX10_four_27 (fun H locs w => ?_)
        have bz8 : (0 : Int) ≤ ((((z 1) + 1) + 1) + 1) ∧ (((((z 1) + 1) + 1) + 1) : Int) ≤ 200 := (by omega)
        refine r_iinc (lv' := [(2, vI (((24 + (-8)) + (-8)) + (-8))), (0, .ref (a 0)), (1, vI p0)]) hx hb dX10_four_30 hl (k := 0) rfl (by decide) rfl (fun ls hl => ?_)
        refine lv_goto (tgt := 3) hx hb dX10_four_33 (by decide) ?_
        refine lv_iload_n hx hb dX10_four_3 rfl (lv_at hl 0 rfl) ?_
        refine r_if_lt (tgt := 36) hx hb dX10_four_4 (by decide) (by omega) (fun c4 => ?_) (fun c4 => ?_)
        · skip
          exact absurd c4 (by omega)
        · skip
          refine lv_aload_n hx hb dX10_four_7 rfl (lv_at hl 1 rfl) ?_
          refine r_get C w 0 (v := .ref (a 1)) rfl rfl 1 (by decide) inX10 kf_X10_7 rfl dX10_four_8 ?_
          refine lv_aload_n hx hb dX10_four_11 rfl (lv_at hl 1 rfl) ?_
          refine r_get C w 0 (v := vI ((((z 1) + 1) + 1) + 1)) rfl rfl 2 (by decide) inX10 kf_X10_101 rfl dX10_four_12 ?_
          refine lv_iload_n hx hb dX10_four_15 rfl (lv_at hl 2 rfl) ?_
          refine lv_iload_n hx hb dX10_four_16 rfl (lv_at hl 0 rfl) ?_
          refine r_ishr hx hb 0 dX10_four_17 (by omega) (by decide) ?_
          refine r_i2b hx hb dX10_four_18 ?_
          refine r_bast C w 1 (f := (uI (uI (uI (g 1) (z 1) (Int.bmod (p0 / 2 ^ 24) 256)) ((z 1) + 1) (Int.bmod (p0 / 2 ^ 16) 256)) (((z 1) + 1) + 1) (Int.bmod (p0 / 2 ^ 8) 256))) rfl (by omega) (by omega) (by decide) (by exact iI_nb8 (bm_b _)) (ws' := mw cy a (uZ z 1 ((((z 1) + 1) + 1) + 1)) (uZ g 1 (uI (uI (uI (uI (g 1) (z 1) (Int.bmod (p0 / 2 ^ 24) 256)) ((z 1) + 1) (Int.bmod (p0 / 2 ^ 16) 256)) (((z 1) + 1) + 1) (Int.bmod (p0 / 2 ^ 8) 256)) ((((z 1) + 1) + 1) + 1) (Int.bmod (p0 / 2 ^ 0) 256)))) rfl dX10_four_19 (fun H locs w => ?_)
          have bg9 : ∀ j : Int, (-128 : Int) ≤ (uI (uI (uI (uI (g 1) (z 1) (Int.bmod (p0 / 2 ^ 24) 256)) ((z 1) + 1) (Int.bmod (p0 / 2 ^ 16) 256)) (((z 1) + 1) + 1) (Int.bmod (p0 / 2 ^ 8) 256)) ((((z 1) + 1) + 1) + 1) (Int.bmod (p0 / 2 ^ 0) 256)) j ∧ (uI (uI (uI (uI (g 1) (z 1) (Int.bmod (p0 / 2 ^ 24) 256)) ((z 1) + 1) (Int.bmod (p0 / 2 ^ 16) 256)) (((z 1) + 1) + 1) (Int.bmod (p0 / 2 ^ 8) 256)) ((((z 1) + 1) + 1) + 1) (Int.bmod (p0 / 2 ^ 0) 256)) j ≤ 127 := uI_b bg7 (by exact bm_b _)
          refine lv_aload_n hx hb dX10_four_20 rfl (lv_at hl 1 rfl) ?_
          refine lv_dup hx hb dX10_four_21 rfl ?_
          refine r_get C w 0 (v := vI ((((z 1) + 1) + 1) + 1)) rfl rfl 2 (by decide) inX10 kf_X10_101 rfl dX10_four_22 ?_
          refine r_iconst hx hb dX10_four_25 ?_
          refine r_iadd hx hb dX10_four_26 ?_
          refine r_put C w 0 tyX10 tyX10_ok nmX10 rfl rfl 2 (by decide) inX10 kf_X10_101 rfl rfl rfl (Nat.le_of_ble_eq_true rfl) (ws' := mw cy a (uZ z 1 (((((z 1) + 1) + 1) + 1) + 1)) (uZ g 1 (uI (uI (uI (uI (g 1) (z 1) (Int.bmod (p0 / 2 ^ 24) 256)) ((z 1) + 1) (Int.bmod (p0 / 2 ^ 16) 256)) (((z 1) + 1) + 1) (Int.bmod (p0 / 2 ^ 8) 256)) ((((z 1) + 1) + 1) + 1) (Int.bmod (p0 / 2 ^ 0) 256)))) rfl dX10_four_27 (fun H locs w => ?_)
          have bz10 : (0 : Int) ≤ (((((z 1) + 1) + 1) + 1) + 1) ∧ ((((((z 1) + 1) + 1) + 1) + 1) : Int) ≤ 200 := (by omega)
          refine r_iinc (lv' := [(2, vI ((((24 + (-8)) + (-8)) + (-8)) + (-8))), (0, .ref (a 0)), (1, vI p0)]) hx hb dX10_four_30 hl (k := 0) rfl (by decide) rfl (fun ls hl => ?_)
          refine lv_goto (tgt := 3) hx hb dX10_four_33 (by decide) ?_
          refine lv_iload_n hx hb dX10_four_3 rfl (lv_at hl 0 rfl) ?_
          refine r_if_lt (tgt := 36) hx hb dX10_four_4 (by decide) (by omega) (fun c4 => ?_) (fun c4 => ?_)
          · skip
            exact hend ((uZ z 1 (((((z 1) + 1) + 1) + 1) + 1)), (uZ g 1 (uI (uI (uI (uI (g 1) (z 1) (Int.bmod (p0 / 2 ^ 24) 256)) ((z 1) + 1) (Int.bmod (p0 / 2 ^ 16) 256)) (((z 1) + 1) + 1) (Int.bmod (p0 / 2 ^ 8) 256)) ((((z 1) + 1) + 1) + 1) (Int.bmod (p0 / 2 ^ 0) 256)))) _ _ _ _ dX10_four_36 w ⟨(by exact ⟨rfl, rfl⟩), (mBz_u hz 1 bz10), (mBg_u hg 1 bg9)⟩
          · skip
            exact absurd c4 (by omega)

abbrev rm_X10_feed : Room := { frames := 1, cells := 0, slots := 0, locals := 22 }
set_option maxHeartbeats 4000000 in
set_option maxRecDepth 100000 in
theorem ct_X10_feed (l : Launch) (D : va_G) (cy : Nat → ClassId) (a : Nat → Nat) (z : Nat → Int) (g : Nat → Int → Int) (p0 p1 p2 p3 p4 : Int) (hz : mBz z) (hg : mBg g) (h0 : iR p0) (h1 : iR p1) (h2 : iR p2) (h3 : iR p3) (h4 : iR p4) : MI l yX10_feed cX10_feed 6 .int (rm_X10_feed) D cy (mw cy a z g) [.ref (a 0), vI p0, vI p1, vI p2, vI p3, vI p4] (fun (v : Int) (u : sX) => ((200 < z 1 + 20 ∧ v = -1 ∧ u = (uZ z 0 0, g)) ∨ (z 1 + 20 ≤ 200 ∧ v = z 1 + 20 ∧ u.1 = uZ (uZ z 0 0) 1 (z 1 + 20) ∧ u.2 = uZ g 1 (tq4 (tq4 (tq4 (tq4 (tq4 (g 1) (z 1) p0) (z 1 + 4) p1) (z 1 + 8) p2) (z 1 + 12) p3) (z 1 + 16) p4))) ∧ mBz u.1 ∧ mBg u.2) (fun u => mw cy a u.1 u.2) 0 0 := by
  refine go_i (by decide +kernel) (Nat.le_of_ble_eq_true rfl) (Or.inl rfl) ?_
  intro p e s m args below meth c Q A ls C hnm hA w hl hend
  have hx := C.1
  have hb := C.2.1
  replace hl : lv_has ls 6 [(0, .ref (a 0)), (1, vI p0), (2, vI p1), (3, vI p2), (4, vI p3), (5, vI p4)] := hl
  refine lv_aload_n hx hb dX10_feed_0 rfl (lv_at hl 0 rfl) ?_
  refine r_iconst hx hb dX10_feed_1 ?_
  refine r_put C w 0 tyX10 tyX10_ok nmX10 rfl rfl 0 (by decide) inX10 kf_X10_97 rfl rfl rfl (Nat.le_of_ble_eq_true rfl) (ws' := mw cy a (uZ z 0 0) g) (mw_z0 cy a z g 0) dX10_feed_2 (fun H locs w => ?_)
  have bz1 : (0 : Int) ≤ 0 ∧ (0 : Int) ≤ 1 := (by omega)
  refine lv_aload_n hx hb dX10_feed_5 rfl (lv_at hl 0 rfl) ?_
  refine r_get C w 0 (v := vI (z 1)) rfl rfl 2 (by decide) inX10 kf_X10_101 rfl dX10_feed_6 ?_
  have qz2 := mZ1 hz
  refine r_bipush hx hb dX10_feed_9 (by decide) ?_
  refine r_iadd hx hb dX10_feed_11 ?_
  refine r_sipush hx hb dX10_feed_12 (by decide) ?_
  refine r_icmp_le (tgt := 20) hx hb dX10_feed_15 (by decide) (by omega) (by omega) (fun c15 => ?_) (fun c15 => ?_)
  · skip
    refine lv_aload_n hx hb dX10_feed_20 rfl (lv_at hl 0 rfl) ?_
    refine lv_iload_n hx hb dX10_feed_21 rfl (lv_at hl 1 rfl) ?_
    refine cVV C w hA (ct_X10_four l D cy a (uZ z 0 0) g p0 (mBz_u hz 0 bz1) hg (by show iR p0; omega) (by show (z 1) + 4 ≤ 200; omega)) ok_X10_four km_X10_104 ⟨rfl, rfl⟩ ⟨by decide, by decide⟩ ⟨by decide, by decide⟩ rfl 0 rfl rfl hl.1 rfl (Nat.le_of_ble_eq_true rfl) dX10_feed_22 (fun uv_1 H locs w hp_1 => ?_)
    obtain ⟨zc_1, gc_1⟩ := uv_1
    obtain ⟨hp_1, hzc_1, hgc_1⟩ := hp_1
    replace w : wd D A s.heap (mw cy a zc_1 gc_1) H locs := w
    replace hzc_1 : mBz zc_1 := hzc_1
    replace hgc_1 : mBg gc_1 := hgc_1
    try dsimp only at hp_1
    have e_1 : zc_1 1 = (z 1) + 4 := by rw [hp_1.1, uZ_s]; show (z 1) + 1 + 1 + 1 + 1 = _; omega
    refine lv_aload_n hx hb dX10_feed_25 rfl (lv_at hl 0 rfl) ?_
    refine lv_iload_n hx hb dX10_feed_26 rfl (lv_at hl 2 rfl) ?_
    refine cVV C w hA (ct_X10_four l D cy a zc_1 gc_1 p1 hzc_1 hgc_1 (by show iR p1; omega) (by show (zc_1 1) + 4 ≤ 200; omega)) ok_X10_four km_X10_104 ⟨rfl, rfl⟩ ⟨by decide, by decide⟩ ⟨by decide, by decide⟩ rfl 0 rfl rfl hl.1 rfl (Nat.le_of_ble_eq_true rfl) dX10_feed_27 (fun uv_2 H locs w hp_2 => ?_)
    obtain ⟨zc_2, gc_2⟩ := uv_2
    obtain ⟨hp_2, hzc_2, hgc_2⟩ := hp_2
    replace w : wd D A s.heap (mw cy a zc_2 gc_2) H locs := w
    replace hzc_2 : mBz zc_2 := hzc_2
    replace hgc_2 : mBg gc_2 := hgc_2
    try dsimp only at hp_2
    have e_2 : zc_2 1 = (zc_1 1) + 4 := by rw [hp_2.1, uZ_s]; show (zc_1 1) + 1 + 1 + 1 + 1 = _; omega
    refine lv_aload_n hx hb dX10_feed_30 rfl (lv_at hl 0 rfl) ?_
    refine lv_iload_n hx hb dX10_feed_31 rfl (lv_at hl 3 rfl) ?_
    refine cVV C w hA (ct_X10_four l D cy a zc_2 gc_2 p2 hzc_2 hgc_2 (by show iR p2; omega) (by show (zc_2 1) + 4 ≤ 200; omega)) ok_X10_four km_X10_104 ⟨rfl, rfl⟩ ⟨by decide, by decide⟩ ⟨by decide, by decide⟩ rfl 0 rfl rfl hl.1 rfl (Nat.le_of_ble_eq_true rfl) dX10_feed_32 (fun uv_3 H locs w hp_3 => ?_)
    obtain ⟨zc_3, gc_3⟩ := uv_3
    obtain ⟨hp_3, hzc_3, hgc_3⟩ := hp_3
    replace w : wd D A s.heap (mw cy a zc_3 gc_3) H locs := w
    replace hzc_3 : mBz zc_3 := hzc_3
    replace hgc_3 : mBg gc_3 := hgc_3
    try dsimp only at hp_3
    have e_3 : zc_3 1 = (zc_2 1) + 4 := by rw [hp_3.1, uZ_s]; show (zc_2 1) + 1 + 1 + 1 + 1 = _; omega
    refine lv_aload_n hx hb dX10_feed_35 rfl (lv_at hl 0 rfl) ?_
    refine lv_iload hx hb dX10_feed_36 (lv_at hl 4 rfl) ?_
    refine cVV C w hA (ct_X10_four l D cy a zc_3 gc_3 p3 hzc_3 hgc_3 (by show iR p3; omega) (by show (zc_3 1) + 4 ≤ 200; omega)) ok_X10_four km_X10_104 ⟨rfl, rfl⟩ ⟨by decide, by decide⟩ ⟨by decide, by decide⟩ rfl 0 rfl rfl hl.1 rfl (Nat.le_of_ble_eq_true rfl) dX10_feed_38 (fun uv_4 H locs w hp_4 => ?_)
    obtain ⟨zc_4, gc_4⟩ := uv_4
    obtain ⟨hp_4, hzc_4, hgc_4⟩ := hp_4
    replace w : wd D A s.heap (mw cy a zc_4 gc_4) H locs := w
    replace hzc_4 : mBz zc_4 := hzc_4
    replace hgc_4 : mBg gc_4 := hgc_4
    try dsimp only at hp_4
    have e_4 : zc_4 1 = (zc_3 1) + 4 := by rw [hp_4.1, uZ_s]; show (zc_3 1) + 1 + 1 + 1 + 1 = _; omega
    refine lv_aload_n hx hb dX10_feed_41 rfl (lv_at hl 0 rfl) ?_
    refine lv_iload hx hb dX10_feed_42 (lv_at hl 5 rfl) ?_
    refine cVV C w hA (ct_X10_four l D cy a zc_4 gc_4 p4 hzc_4 hgc_4 (by show iR p4; omega) (by show (zc_4 1) + 4 ≤ 200; omega)) ok_X10_four km_X10_104 ⟨rfl, rfl⟩ ⟨by decide, by decide⟩ ⟨by decide, by decide⟩ rfl 0 rfl rfl hl.1 rfl (Nat.le_of_ble_eq_true rfl) dX10_feed_44 (fun uv_5 H locs w hp_5 => ?_)
    obtain ⟨zc_5, gc_5⟩ := uv_5
    obtain ⟨hp_5, hzc_5, hgc_5⟩ := hp_5
    replace w : wd D A s.heap (mw cy a zc_5 gc_5) H locs := w
    replace hzc_5 : mBz zc_5 := hzc_5
    replace hgc_5 : mBg gc_5 := hgc_5
    try dsimp only at hp_5
    have e_5 : zc_5 1 = (zc_4 1) + 4 := by rw [hp_5.1, uZ_s]; show (zc_4 1) + 1 + 1 + 1 + 1 = _; omega
    refine lv_aload_n hx hb dX10_feed_47 rfl (lv_at hl 0 rfl) ?_
    refine r_get C w 0 (v := vI (zc_5 1)) rfl rfl 2 (by decide) inX10 kf_X10_101 rfl dX10_feed_48 ?_
    have qz3 := mZ1 hzc_5
    exact hend (zc_5 1) (zc_5, gc_5) _ _ _ _ dX10_feed_51 w ⟨(by refine Or.inr ⟨by omega, by omega, ?_, ?_⟩ <;> simp only [hp_1, hp_2, hp_3, hp_4, hp_5, uZ_uZ, uZ_s, uZ_n _ _ (show (1 : Nat) ≠ 0 by decide), Int.add_assoc, Int.reduceAdd]), hzc_5, hgc_5⟩
  · skip
    refine r_iconst hx hb dX10_feed_18 ?_
    exact hend (-1) ((uZ z 0 0), g) _ _ _ _ dX10_feed_19 w ⟨(by exact Or.inl ⟨by omega, rfl, rfl⟩), (mBz_u hz 0 bz1), hg⟩

abbrev rm_X10_end : Room := { frames := 0, cells := 0, slots := 0, locals := 0 }
set_option maxHeartbeats 4000000 in
set_option maxRecDepth 100000 in
theorem ct_X10_end (l : Launch) (D : va_G) (cy : Nat → ClassId) (a : Nat → Nat) (z : Nat → Int) (g : Nat → Int → Int) (p0 : Int) (hz : mBz z) (hg : mBg g) (h0 : iR p0) : MI l yX10_end cX10_end 2 .boolean (rm_X10_end) D cy (mw cy a z g) [.ref (a 0), vI p0] (fun (v : Int) (u : sX) => ((¬ (0 ≤ p0 ∧ p0 ≤ z 1) ∧ v = 0 ∧ u = (uZ z 0 0, g)) ∨ ((0 ≤ p0 ∧ p0 ≤ z 1) ∧ v = 1 ∧ u = (uZ (uZ z 0 0) 1 p0, g))) ∧ mBz u.1 ∧ mBg u.2) (fun u => mw cy a u.1 u.2) 0 0 := by
  refine go_i (by decide +kernel) (Nat.le_of_ble_eq_true rfl) (Or.inr (fun v u h => nb01 (by omega))) ?_
  intro p e s m args below meth c Q A ls C hnm hA w hl hend
  have hx := C.1
  have hb := C.2.1
  replace hl : lv_has ls 2 [(0, .ref (a 0)), (1, vI p0)] := hl
  refine lv_aload_n hx hb dX10_end_0 rfl (lv_at hl 0 rfl) ?_
  refine r_iconst hx hb dX10_end_1 ?_
  refine r_put C w 0 tyX10 tyX10_ok nmX10 rfl rfl 0 (by decide) inX10 kf_X10_97 rfl rfl rfl (Nat.le_of_ble_eq_true rfl) (ws' := mw cy a (uZ z 0 0) g) (mw_z0 cy a z g 0) dX10_end_2 (fun H locs w => ?_)
  have bz1 : (0 : Int) ≤ 0 ∧ (0 : Int) ≤ 1 := (by omega)
  refine lv_iload_n hx hb dX10_end_5 rfl (lv_at hl 1 rfl) ?_
  refine r_if_lt (tgt := 17) hx hb dX10_end_6 (by decide) (by omega) (fun c6 => ?_) (fun c6 => ?_)
  · skip
    refine r_iconst hx hb dX10_end_17 ?_
    exact hend 0 ((uZ z 0 0), g) _ _ _ _ dX10_end_18 w ⟨(by first | exact Or.inl ⟨by omega, rfl, rfl⟩ | exact Or.inr ⟨by omega, rfl, rfl⟩), (mBz_u hz 0 bz1), hg⟩
  · skip
    refine lv_iload_n hx hb dX10_end_9 rfl (lv_at hl 1 rfl) ?_
    refine lv_aload_n hx hb dX10_end_10 rfl (lv_at hl 0 rfl) ?_
    refine r_get C w 0 (v := vI (z 1)) rfl rfl 2 (by decide) inX10 kf_X10_101 rfl dX10_end_11 ?_
    have qz2 := mZ1 hz
    refine r_icmp_le (tgt := 19) hx hb dX10_end_14 (by decide) (by omega) (by omega) (fun c14 => ?_) (fun c14 => ?_)
    · skip
      refine lv_aload_n hx hb dX10_end_19 rfl (lv_at hl 0 rfl) ?_
      refine lv_iload_n hx hb dX10_end_20 rfl (lv_at hl 1 rfl) ?_
      refine r_put C w 0 tyX10 tyX10_ok nmX10 rfl rfl 2 (by decide) inX10 kf_X10_101 rfl rfl rfl (Nat.le_of_ble_eq_true rfl) (ws' := mw cy a (uZ (uZ z 0 0) 1 p0) g) (mw_z1 cy a (uZ z 0 0) g p0) dX10_end_21 (fun H locs w => ?_)
      have bz3 : (0 : Int) ≤ p0 ∧ (p0 : Int) ≤ 200 := (by omega)
      refine r_iconst hx hb dX10_end_24 ?_
      exact hend 1 ((uZ (uZ z 0 0) 1 p0), g) _ _ _ _ dX10_end_25 w ⟨(by first | exact Or.inl ⟨by omega, rfl, rfl⟩ | exact Or.inr ⟨by omega, rfl, rfl⟩), (mBz_u (mBz_u hz 0 bz1) 1 bz3), hg⟩
    · skip
      refine r_iconst hx hb dX10_end_17 ?_
      exact hend 0 ((uZ z 0 0), g) _ _ _ _ dX10_end_18 w ⟨(by first | exact Or.inl ⟨by omega, rfl, rfl⟩ | exact Or.inr ⟨by omega, rfl, rfl⟩), (mBz_u hz 0 bz1), hg⟩

abbrev rm_X10_fault : Room := { frames := 0, cells := 0, slots := 0, locals := 0 }
set_option maxHeartbeats 4000000 in
set_option maxRecDepth 100000 in
theorem ct_X10_fault (l : Launch) (D : va_G) (cy : Nat → ClassId) (a : Nat → Nat) (z : Nat → Int) (g : Nat → Int → Int)  (hz : mBz z) (hg : mBg g) : MI l yX10_fault cX10_fault 1 .int (rm_X10_fault) D cy (mw cy a z g) [.ref (a 0)] (fun (v : Int) (u : sX) => (v = z 7 ∧ u = (uZ z 0 0, g)) ∧ mBz u.1 ∧ mBg u.2) (fun u => mw cy a u.1 u.2) 0 0 := by
  refine go_i (by decide +kernel) (Nat.le_of_ble_eq_true rfl) (Or.inl rfl) ?_
  intro p e s m args below meth c Q A ls C hnm hA w hl hend
  have hx := C.1
  have hb := C.2.1
  replace hl : lv_has ls 1 [(0, .ref (a 0))] := hl
  refine lv_aload_n hx hb dX10_fault_0 rfl (lv_at hl 0 rfl) ?_
  refine r_iconst hx hb dX10_fault_1 ?_
  refine r_put C w 0 tyX10 tyX10_ok nmX10 rfl rfl 0 (by decide) inX10 kf_X10_97 rfl rfl rfl (Nat.le_of_ble_eq_true rfl) (ws' := mw cy a (uZ z 0 0) g) (mw_z0 cy a z g 0) dX10_fault_2 (fun H locs w => ?_)
  have bz1 : (0 : Int) ≤ 0 ∧ (0 : Int) ≤ 1 := (by omega)
  refine lv_aload_n hx hb dX10_fault_5 rfl (lv_at hl 0 rfl) ?_
  refine r_get C w 0 (v := vI (z 7)) rfl rfl 11 (by decide) inX10 kf_X10_138 rfl dX10_fault_6 ?_
  have qz2 := mZ7 hz
  exact hend (z 7) ((uZ z 0 0), g) _ _ _ _ dX10_fault_9 w ⟨(by exact ⟨rfl, rfl⟩), (mBz_u hz 0 bz1), hg⟩

abbrev rm_X10_lot : Room := { frames := 1, cells := 0, slots := 0, locals := 22 }
set_option maxHeartbeats 4000000 in
set_option maxRecDepth 100000 in
theorem ct_X10_lot (l : Launch) (D : va_G) (cy : Nat → ClassId) (a : Nat → Nat) (z : Nat → Int) (g : Nat → Int → Int) (p0 p1 p2 p3 p4 : Int) (hz : mBz z) (hg : mBg g) (h0 : iR p0) (h1 : iR p1) (h2 : iR p2) (h3 : iR p3) (h4 : iR p4) : MI l yX10_lot cX10_lot 6 .int (rm_X10_lot) D cy (mw cy a z g) [.ref (a 0), vI p0, vI p1, vI p2, vI p3, vI p4] (fun (v : Int) (u : sX) => ((¬ (okLot p0 p1 p2 p3 p4 ∧ z 11 < 100) ∧ v = -1 ∧ u = (uZ z 0 0, g)) ∨ ((okLot p0 p1 p2 p3 p4 ∧ z 11 < 100) ∧ v = z 11 ∧ u = (uZ (uZ z 0 0) 11 (z 11 + 1), uZ (uZ (uZ (uZ (uZ (uZ g 5 (uI (g 5) (z 11) p0)) 6 (uI (g 6) (z 11) p1)) 7 (uI (g 7) (z 11) p2)) 8 (uI (g 8) (z 11) p3)) 9 (uI (g 9) (z 11) p4)) 10 (uI (g 10) (z 11) (-1))))) ∧ mBz u.1 ∧ mBg u.2) (fun u => mw cy a u.1 u.2) 0 0 := by
  refine go_i (by decide +kernel) (Nat.le_of_ble_eq_true rfl) (Or.inl rfl) ?_
  intro p e s m args below meth c Q A ls C hnm hA w hl hend
  have hx := C.1
  have hb := C.2.1
  replace hl : lv_has ls 6 [(0, .ref (a 0)), (1, vI p0), (2, vI p1), (3, vI p2), (4, vI p3), (5, vI p4)] := hl
  refine lv_aload_n hx hb dX10_lot_0 rfl (lv_at hl 0 rfl) ?_
  refine r_iconst hx hb dX10_lot_1 ?_
  refine r_put C w 0 tyX10 tyX10_ok nmX10 rfl rfl 0 (by decide) inX10 kf_X10_97 rfl rfl rfl (Nat.le_of_ble_eq_true rfl) (ws' := mw cy a (uZ z 0 0) g) (mw_z0 cy a z g 0) dX10_lot_2 (fun H locs w => ?_)
  have bz1 : (0 : Int) ≤ 0 ∧ (0 : Int) ≤ 1 := (by omega)
  refine lv_aload_n hx hb dX10_lot_5 rfl (lv_at hl 0 rfl) ?_
  refine r_get C w 0 (v := vI (z 11)) rfl rfl 22 (by decide) inX10 kf_X10_180 rfl dX10_lot_6 ?_
  have qz2 := mZ11 hz
  refine r_bipush hx hb dX10_lot_9 (by decide) ?_
  refine r_icmp_eq (tgt := 64) hx hb dX10_lot_11 (by decide) (by omega) (by omega) (fun c11 => ?_) (fun c11 => ?_)
  · skip
    refine r_iconst hx hb dX10_lot_64 ?_
    exact hend (-1) ((uZ z 0 0), g) _ _ _ _ dX10_lot_65 w ⟨(by exact Or.inl ⟨by unfold okLot; omega, rfl, rfl⟩), (mBz_u hz 0 bz1), hg⟩
  · skip
    refine lv_iload_n hx hb dX10_lot_14 rfl (lv_at hl 1 rfl) ?_
    refine r_iconst hx hb dX10_lot_15 ?_
    refine r_bipush hx hb dX10_lot_16 (by decide) ?_
    refine cSI C w hA (ct_X10_isIn l D cy a (uZ z 0 0) g p0 0 7 (by show iR p0; omega) (by show iR 0; omega) (by show iR 7; omega)) ok_X10_isIn km_X10_183 ⟨rfl, rfl⟩ ⟨by decide, by decide⟩ ⟨by decide, by decide⟩ rfl hl.1 rfl (Nat.le_of_ble_eq_true rfl) dX10_lot_18 (fun rv_1 uv_1 H locs w hp_1 => ?_)
    replace hp_1 : (rv_1 = 1 ∧ 0 ≤ p0 ∧ p0 ≤ 7) ∨ (rv_1 = 0 ∧ ¬ (0 ≤ p0 ∧ p0 ≤ 7)) := hp_1
    replace w : wd D A s.heap (mw cy a (uZ z 0 0) g) H locs := w
    refine r_if_eq (tgt := 64) hx hb dX10_lot_21 (by decide) (by omega) (fun c21 => ?_) (fun c21 => ?_)
    · skip
      refine r_iconst hx hb dX10_lot_64 ?_
      exact hend (-1) ((uZ z 0 0), g) _ _ _ _ dX10_lot_65 w ⟨(by exact Or.inl ⟨by unfold okLot; omega, rfl, rfl⟩), (mBz_u hz 0 bz1), hg⟩
    · skip
      refine lv_iload_n hx hb dX10_lot_24 rfl (lv_at hl 2 rfl) ?_
      refine r_iconst hx hb dX10_lot_25 ?_
      refine r_iconst hx hb dX10_lot_26 ?_
      refine cSI C w hA (ct_X10_isIn l D cy a (uZ z 0 0) g p1 0 5 (by show iR p1; omega) (by show iR 0; omega) (by show iR 5; omega)) ok_X10_isIn km_X10_183 ⟨rfl, rfl⟩ ⟨by decide, by decide⟩ ⟨by decide, by decide⟩ rfl hl.1 rfl (Nat.le_of_ble_eq_true rfl) dX10_lot_27 (fun rv_2 uv_2 H locs w hp_2 => ?_)
      replace hp_2 : (rv_2 = 1 ∧ 0 ≤ p1 ∧ p1 ≤ 5) ∨ (rv_2 = 0 ∧ ¬ (0 ≤ p1 ∧ p1 ≤ 5)) := hp_2
      replace w : wd D A s.heap (mw cy a (uZ z 0 0) g) H locs := w
      refine r_if_eq (tgt := 64) hx hb dX10_lot_30 (by decide) (by omega) (fun c30 => ?_) (fun c30 => ?_)
      · skip
        refine r_iconst hx hb dX10_lot_64 ?_
        exact hend (-1) ((uZ z 0 0), g) _ _ _ _ dX10_lot_65 w ⟨(by exact Or.inl ⟨by unfold okLot; omega, rfl, rfl⟩), (mBz_u hz 0 bz1), hg⟩
      · skip
        refine lv_iload_n hx hb dX10_lot_33 rfl (lv_at hl 3 rfl) ?_
        refine r_iconst hx hb dX10_lot_34 ?_
        refine r_iconst hx hb dX10_lot_35 ?_
        refine cSI C w hA (ct_X10_isIn l D cy a (uZ z 0 0) g p2 0 3 (by show iR p2; omega) (by show iR 0; omega) (by show iR 3; omega)) ok_X10_isIn km_X10_183 ⟨rfl, rfl⟩ ⟨by decide, by decide⟩ ⟨by decide, by decide⟩ rfl hl.1 rfl (Nat.le_of_ble_eq_true rfl) dX10_lot_36 (fun rv_3 uv_3 H locs w hp_3 => ?_)
        replace hp_3 : (rv_3 = 1 ∧ 0 ≤ p2 ∧ p2 ≤ 3) ∨ (rv_3 = 0 ∧ ¬ (0 ≤ p2 ∧ p2 ≤ 3)) := hp_3
        replace w : wd D A s.heap (mw cy a (uZ z 0 0) g) H locs := w
        refine r_if_eq (tgt := 64) hx hb dX10_lot_39 (by decide) (by omega) (fun c39 => ?_) (fun c39 => ?_)
        · skip
          refine r_iconst hx hb dX10_lot_64 ?_
          exact hend (-1) ((uZ z 0 0), g) _ _ _ _ dX10_lot_65 w ⟨(by exact Or.inl ⟨by unfold okLot; omega, rfl, rfl⟩), (mBz_u hz 0 bz1), hg⟩
        · skip
          refine lv_iload hx hb dX10_lot_42 (lv_at hl 4 rfl) ?_
          refine r_iconst hx hb dX10_lot_44 ?_
          refine r_sipush hx hb dX10_lot_45 (by decide) ?_
          refine cSI C w hA (ct_X10_isIn l D cy a (uZ z 0 0) g p3 1 500 (by show iR p3; omega) (by show iR 1; omega) (by show iR 500; omega)) ok_X10_isIn km_X10_183 ⟨rfl, rfl⟩ ⟨by decide, by decide⟩ ⟨by decide, by decide⟩ rfl hl.1 rfl (Nat.le_of_ble_eq_true rfl) dX10_lot_48 (fun rv_4 uv_4 H locs w hp_4 => ?_)
          replace hp_4 : (rv_4 = 1 ∧ 1 ≤ p3 ∧ p3 ≤ 500) ∨ (rv_4 = 0 ∧ ¬ (1 ≤ p3 ∧ p3 ≤ 500)) := hp_4
          replace w : wd D A s.heap (mw cy a (uZ z 0 0) g) H locs := w
          refine r_if_eq (tgt := 64) hx hb dX10_lot_51 (by decide) (by omega) (fun c51 => ?_) (fun c51 => ?_)
          · skip
            refine r_iconst hx hb dX10_lot_64 ?_
            exact hend (-1) ((uZ z 0 0), g) _ _ _ _ dX10_lot_65 w ⟨(by exact Or.inl ⟨by unfold okLot; omega, rfl, rfl⟩), (mBz_u hz 0 bz1), hg⟩
          · skip
            refine lv_iload hx hb dX10_lot_54 (lv_at hl 5 rfl) ?_
            refine r_iconst hx hb dX10_lot_56 ?_
            refine r_iconst hx hb dX10_lot_57 ?_
            refine cSI C w hA (ct_X10_isIn l D cy a (uZ z 0 0) g p4 0 3 (by show iR p4; omega) (by show iR 0; omega) (by show iR 3; omega)) ok_X10_isIn km_X10_183 ⟨rfl, rfl⟩ ⟨by decide, by decide⟩ ⟨by decide, by decide⟩ rfl hl.1 rfl (Nat.le_of_ble_eq_true rfl) dX10_lot_58 (fun rv_5 uv_5 H locs w hp_5 => ?_)
            replace hp_5 : (rv_5 = 1 ∧ 0 ≤ p4 ∧ p4 ≤ 3) ∨ (rv_5 = 0 ∧ ¬ (0 ≤ p4 ∧ p4 ≤ 3)) := hp_5
            replace w : wd D A s.heap (mw cy a (uZ z 0 0) g) H locs := w
            refine r_if_ne (tgt := 66) hx hb dX10_lot_61 (by decide) (by omega) (fun c61 => ?_) (fun c61 => ?_)
            · skip
              refine lv_aload_n hx hb dX10_lot_66 rfl (lv_at hl 0 rfl) ?_
              refine r_get C w 0 (v := .ref (a 5)) rfl rfl 15 (by decide) inX10 kf_X10_24 rfl dX10_lot_67 ?_
              refine lv_aload_n hx hb dX10_lot_70 rfl (lv_at hl 0 rfl) ?_
              refine r_get C w 0 (v := vI (z 11)) rfl rfl 22 (by decide) inX10 kf_X10_180 rfl dX10_lot_71 ?_
              have qz3 := mZ11 hz
              refine lv_iload_n hx hb dX10_lot_74 rfl (lv_at hl 1 rfl) ?_
              refine r_iast C w 5 (f := (g 5)) rfl (by omega) (by omega) (by decide) (ws' := mw cy a (uZ z 0 0) (uZ g 5 (uI (g 5) (z 11) p0))) (mw_g5 cy a (uZ z 0 0) g (uI (g 5) (z 11) p0)) dX10_lot_75 (fun H locs w => ?_)
              have bg4 : ∀ j : Int, (0 : Int) ≤ (uI (g 5) (z 11) p0) j ∧ (uI (g 5) (z 11) p0) j ≤ 7 := uI_b (mB5 hg) (by omega)
              refine lv_aload_n hx hb dX10_lot_76 rfl (lv_at hl 0 rfl) ?_
              refine r_get C w 0 (v := .ref (a 6)) rfl rfl 16 (by decide) inX10 kf_X10_27 rfl dX10_lot_77 ?_
              refine lv_aload_n hx hb dX10_lot_80 rfl (lv_at hl 0 rfl) ?_
              refine r_get C w 0 (v := vI (z 11)) rfl rfl 22 (by decide) inX10 kf_X10_180 rfl dX10_lot_81 ?_
              have qz5 := mZ11 hz
              refine lv_iload_n hx hb dX10_lot_84 rfl (lv_at hl 2 rfl) ?_
              refine r_iast C w 6 (f := (g 6)) rfl (by omega) (by omega) (by decide) (ws' := mw cy a (uZ z 0 0) (uZ (uZ g 5 (uI (g 5) (z 11) p0)) 6 (uI (g 6) (z 11) p1))) (mw_g6 cy a (uZ z 0 0) (uZ g 5 (uI (g 5) (z 11) p0)) (uI (g 6) (z 11) p1)) dX10_lot_85 (fun H locs w => ?_)
              have bg6 : ∀ j : Int, (0 : Int) ≤ (uI (g 6) (z 11) p1) j ∧ (uI (g 6) (z 11) p1) j ≤ 5 := uI_b (mB6 hg) (by omega)
              refine lv_aload_n hx hb dX10_lot_86 rfl (lv_at hl 0 rfl) ?_
              refine r_get C w 0 (v := .ref (a 7)) rfl rfl 17 (by decide) inX10 kf_X10_30 rfl dX10_lot_87 ?_
              refine lv_aload_n hx hb dX10_lot_90 rfl (lv_at hl 0 rfl) ?_
              refine r_get C w 0 (v := vI (z 11)) rfl rfl 22 (by decide) inX10 kf_X10_180 rfl dX10_lot_91 ?_
              have qz7 := mZ11 hz
              refine lv_iload_n hx hb dX10_lot_94 rfl (lv_at hl 3 rfl) ?_
              refine r_iast C w 7 (f := (g 7)) rfl (by omega) (by omega) (by decide) (ws' := mw cy a (uZ z 0 0) (uZ (uZ (uZ g 5 (uI (g 5) (z 11) p0)) 6 (uI (g 6) (z 11) p1)) 7 (uI (g 7) (z 11) p2))) (mw_g7 cy a (uZ z 0 0) (uZ (uZ g 5 (uI (g 5) (z 11) p0)) 6 (uI (g 6) (z 11) p1)) (uI (g 7) (z 11) p2)) dX10_lot_95 (fun H locs w => ?_)
              have bg8 : ∀ j : Int, (0 : Int) ≤ (uI (g 7) (z 11) p2) j ∧ (uI (g 7) (z 11) p2) j ≤ 3 := uI_b (mB7 hg) (by omega)
              refine lv_aload_n hx hb dX10_lot_96 rfl (lv_at hl 0 rfl) ?_
              refine r_get C w 0 (v := .ref (a 8)) rfl rfl 18 (by decide) inX10 kf_X10_33 rfl dX10_lot_97 ?_
              refine lv_aload_n hx hb dX10_lot_100 rfl (lv_at hl 0 rfl) ?_
              refine r_get C w 0 (v := vI (z 11)) rfl rfl 22 (by decide) inX10 kf_X10_180 rfl dX10_lot_101 ?_
              have qz9 := mZ11 hz
              refine lv_iload hx hb dX10_lot_104 (lv_at hl 4 rfl) ?_
              refine r_iast C w 8 (f := (g 8)) rfl (by omega) (by omega) (by decide) (ws' := mw cy a (uZ z 0 0) (uZ (uZ (uZ (uZ g 5 (uI (g 5) (z 11) p0)) 6 (uI (g 6) (z 11) p1)) 7 (uI (g 7) (z 11) p2)) 8 (uI (g 8) (z 11) p3))) (mw_g8 cy a (uZ z 0 0) (uZ (uZ (uZ g 5 (uI (g 5) (z 11) p0)) 6 (uI (g 6) (z 11) p1)) 7 (uI (g 7) (z 11) p2)) (uI (g 8) (z 11) p3)) dX10_lot_106 (fun H locs w => ?_)
              have bg10 : ∀ j : Int, (0 : Int) ≤ (uI (g 8) (z 11) p3) j ∧ (uI (g 8) (z 11) p3) j ≤ 500 := uI_b (mB8 hg) (by omega)
              refine lv_aload_n hx hb dX10_lot_107 rfl (lv_at hl 0 rfl) ?_
              refine r_get C w 0 (v := .ref (a 9)) rfl rfl 19 (by decide) inX10 kf_X10_36 rfl dX10_lot_108 ?_
              refine lv_aload_n hx hb dX10_lot_111 rfl (lv_at hl 0 rfl) ?_
              refine r_get C w 0 (v := vI (z 11)) rfl rfl 22 (by decide) inX10 kf_X10_180 rfl dX10_lot_112 ?_
              have qz11 := mZ11 hz
              refine lv_iload hx hb dX10_lot_115 (lv_at hl 5 rfl) ?_
              refine r_iast C w 9 (f := (g 9)) rfl (by omega) (by omega) (by decide) (ws' := mw cy a (uZ z 0 0) (uZ (uZ (uZ (uZ (uZ g 5 (uI (g 5) (z 11) p0)) 6 (uI (g 6) (z 11) p1)) 7 (uI (g 7) (z 11) p2)) 8 (uI (g 8) (z 11) p3)) 9 (uI (g 9) (z 11) p4))) (mw_g9 cy a (uZ z 0 0) (uZ (uZ (uZ (uZ g 5 (uI (g 5) (z 11) p0)) 6 (uI (g 6) (z 11) p1)) 7 (uI (g 7) (z 11) p2)) 8 (uI (g 8) (z 11) p3)) (uI (g 9) (z 11) p4)) dX10_lot_117 (fun H locs w => ?_)
              have bg12 : ∀ j : Int, (0 : Int) ≤ (uI (g 9) (z 11) p4) j ∧ (uI (g 9) (z 11) p4) j ≤ 3 := uI_b (mB9 hg) (by omega)
              refine lv_aload_n hx hb dX10_lot_118 rfl (lv_at hl 0 rfl) ?_
              refine r_get C w 0 (v := .ref (a 10)) rfl rfl 20 (by decide) inX10 kf_X10_39 rfl dX10_lot_119 ?_
              refine lv_aload_n hx hb dX10_lot_122 rfl (lv_at hl 0 rfl) ?_
              refine r_get C w 0 (v := vI (z 11)) rfl rfl 22 (by decide) inX10 kf_X10_180 rfl dX10_lot_123 ?_
              have qz13 := mZ11 hz
              refine r_iconst hx hb dX10_lot_126 ?_
              refine r_iast C w 10 (f := (g 10)) rfl (by omega) (by omega) (by decide) (ws' := mw cy a (uZ z 0 0) (uZ (uZ (uZ (uZ (uZ (uZ g 5 (uI (g 5) (z 11) p0)) 6 (uI (g 6) (z 11) p1)) 7 (uI (g 7) (z 11) p2)) 8 (uI (g 8) (z 11) p3)) 9 (uI (g 9) (z 11) p4)) 10 (uI (g 10) (z 11) (-1)))) (mw_g10 cy a (uZ z 0 0) (uZ (uZ (uZ (uZ (uZ g 5 (uI (g 5) (z 11) p0)) 6 (uI (g 6) (z 11) p1)) 7 (uI (g 7) (z 11) p2)) 8 (uI (g 8) (z 11) p3)) 9 (uI (g 9) (z 11) p4)) (uI (g 10) (z 11) (-1))) dX10_lot_127 (fun H locs w => ?_)
              have bg14 : ∀ j : Int, (-1 : Int) ≤ (uI (g 10) (z 11) (-1)) j ∧ (uI (g 10) (z 11) (-1)) j ≤ 399 := uI_b (mB10 hg) (by omega)
              refine lv_aload_n hx hb dX10_lot_128 rfl (lv_at hl 0 rfl) ?_
              refine lv_dup hx hb dX10_lot_129 rfl ?_
              refine r_get C w 0 (v := vI (z 11)) rfl rfl 22 (by decide) inX10 kf_X10_180 rfl dX10_lot_130 ?_
              have qz15 := mZ11 hz
              refine r_iconst hx hb dX10_lot_133 ?_
              refine r_iadd hx hb dX10_lot_134 ?_
              refine r_put C w 0 tyX10 tyX10_ok nmX10 rfl rfl 22 (by decide) inX10 kf_X10_180 rfl rfl rfl (Nat.le_of_ble_eq_true rfl) (ws' := mw cy a (uZ (uZ z 0 0) 11 ((z 11) + 1)) (uZ (uZ (uZ (uZ (uZ (uZ g 5 (uI (g 5) (z 11) p0)) 6 (uI (g 6) (z 11) p1)) 7 (uI (g 7) (z 11) p2)) 8 (uI (g 8) (z 11) p3)) 9 (uI (g 9) (z 11) p4)) 10 (uI (g 10) (z 11) (-1)))) (mw_z11 cy a (uZ z 0 0) (uZ (uZ (uZ (uZ (uZ (uZ g 5 (uI (g 5) (z 11) p0)) 6 (uI (g 6) (z 11) p1)) 7 (uI (g 7) (z 11) p2)) 8 (uI (g 8) (z 11) p3)) 9 (uI (g 9) (z 11) p4)) 10 (uI (g 10) (z 11) (-1))) ((z 11) + 1)) dX10_lot_135 (fun H locs w => ?_)
              have bz16 : (0 : Int) ≤ ((z 11) + 1) ∧ (((z 11) + 1) : Int) ≤ 100 := (by omega)
              refine lv_aload_n hx hb dX10_lot_138 rfl (lv_at hl 0 rfl) ?_
              refine r_get C w 0 (v := vI ((z 11) + 1)) rfl rfl 22 (by decide) inX10 kf_X10_180 rfl dX10_lot_139 ?_
              refine r_iconst hx hb dX10_lot_142 ?_
              refine r_isub hx hb dX10_lot_143 ?_
              exact hend (((z 11) + 1) - 1) ((uZ (uZ z 0 0) 11 ((z 11) + 1)), (uZ (uZ (uZ (uZ (uZ (uZ g 5 (uI (g 5) (z 11) p0)) 6 (uI (g 6) (z 11) p1)) 7 (uI (g 7) (z 11) p2)) 8 (uI (g 8) (z 11) p3)) 9 (uI (g 9) (z 11) p4)) 10 (uI (g 10) (z 11) (-1)))) _ _ _ _ dX10_lot_144 w ⟨(by exact Or.inr ⟨by unfold okLot; omega, by omega, rfl⟩), (mBz_u (mBz_u hz 0 bz1) 11 bz16), (mBg_u (mBg_u (mBg_u (mBg_u (mBg_u (mBg_u hg 5 bg4) 6 bg6) 7 bg8) 8 bg10) 9 bg12) 10 bg14)⟩
            · skip
              refine r_iconst hx hb dX10_lot_64 ?_
              exact hend (-1) ((uZ z 0 0), g) _ _ _ _ dX10_lot_65 w ⟨(by exact Or.inl ⟨by unfold okLot; omega, rfl, rfl⟩), (mBz_u hz 0 bz1), hg⟩

abbrev rm_X10_money : Room := { frames := 1, cells := 0, slots := 0, locals := 22 }
set_option maxHeartbeats 4000000 in
set_option maxRecDepth 100000 in
theorem ct_X10_money (l : Launch) (D : va_G) (cy : Nat → ClassId) (a : Nat → Nat) (z : Nat → Int) (g : Nat → Int → Int) (p0 p1 : Int) (hz : mBz z) (hg : mBg g) (h0 : iR p0) (h1 : iR p1) : MI l yX10_money cX10_money 3 .boolean (rm_X10_money) D cy (mw cy a z g) [.ref (a 0), vI p0, vI p1] (fun (v : Int) (u : sX) => ((¬ ((0 ≤ p0 ∧ p0 < 10) ∧ 0 ≤ p1 ∧ p1 ≤ 1000000) ∧ v = 0 ∧ u = (uZ z 0 0, g)) ∨ (((0 ≤ p0 ∧ p0 < 10) ∧ 0 ≤ p1 ∧ p1 ≤ 1000000) ∧ v = 1 ∧ u = (uZ z 0 0, uZ (uZ g 12 (uI (g 12) p0 p1)) 13 (uI (g 13) p0 p1)))) ∧ mBz u.1 ∧ mBg u.2) (fun u => mw cy a u.1 u.2) 0 0 := by
  refine go_i (by decide +kernel) (Nat.le_of_ble_eq_true rfl) (Or.inr (fun v u h => nb01 (by omega))) ?_
  intro p e s m args below meth c Q A ls C hnm hA w hl hend
  have hx := C.1
  have hb := C.2.1
  replace hl : lv_has ls 3 [(0, .ref (a 0)), (1, vI p0), (2, vI p1)] := hl
  refine lv_aload_n hx hb dX10_money_0 rfl (lv_at hl 0 rfl) ?_
  refine r_iconst hx hb dX10_money_1 ?_
  refine r_put C w 0 tyX10 tyX10_ok nmX10 rfl rfl 0 (by decide) inX10 kf_X10_97 rfl rfl rfl (Nat.le_of_ble_eq_true rfl) (ws' := mw cy a (uZ z 0 0) g) (mw_z0 cy a z g 0) dX10_money_2 (fun H locs w => ?_)
  have bz1 : (0 : Int) ≤ 0 ∧ (0 : Int) ≤ 1 := (by omega)
  refine lv_iload_n hx hb dX10_money_5 rfl (lv_at hl 1 rfl) ?_
  refine r_iconst hx hb dX10_money_6 ?_
  refine r_bipush hx hb dX10_money_7 (by decide) ?_
  refine cSI C w hA (ct_X10_isIn l D cy a (uZ z 0 0) g p0 0 9 (by show iR p0; omega) (by show iR 0; omega) (by show iR 9; omega)) ok_X10_isIn km_X10_183 ⟨rfl, rfl⟩ ⟨by decide, by decide⟩ ⟨by decide, by decide⟩ rfl hl.1 rfl (Nat.le_of_ble_eq_true rfl) dX10_money_9 (fun rv_1 uv_1 H locs w hp_1 => ?_)
  replace hp_1 : (rv_1 = 1 ∧ 0 ≤ p0 ∧ p0 ≤ 9) ∨ (rv_1 = 0 ∧ ¬ (0 ≤ p0 ∧ p0 ≤ 9)) := hp_1
  replace w : wd D A s.heap (mw cy a (uZ z 0 0) g) H locs := w
  refine r_if_eq (tgt := 25) hx hb dX10_money_12 (by decide) (by omega) (fun c12 => ?_) (fun c12 => ?_)
  · skip
    refine r_iconst hx hb dX10_money_25 ?_
    exact hend 0 ((uZ z 0 0), g) _ _ _ _ dX10_money_26 w ⟨(by first | exact Or.inl ⟨by omega, rfl, rfl⟩ | exact Or.inr ⟨by omega, rfl, rfl⟩), (mBz_u hz 0 bz1), hg⟩
  · skip
    refine lv_iload_n hx hb dX10_money_15 rfl (lv_at hl 2 rfl) ?_
    refine r_iconst hx hb dX10_money_16 ?_
    refine lv_ldc (v := iI (1000000)) hx hb C.2.2.2.1 (C.2.2.2.2.1 _ kk_X10_187) dX10_money_17 ?_
    refine cSI C w hA (ct_X10_isIn l D cy a (uZ z 0 0) g p1 0 1000000 (by show iR p1; omega) (by show iR 0; omega) (by show iR 1000000; omega)) ok_X10_isIn km_X10_183 ⟨rfl, rfl⟩ ⟨by decide, by decide⟩ ⟨by decide, by decide⟩ rfl hl.1 rfl (Nat.le_of_ble_eq_true rfl) dX10_money_19 (fun rv_2 uv_2 H locs w hp_2 => ?_)
    replace hp_2 : (rv_2 = 1 ∧ 0 ≤ p1 ∧ p1 ≤ 1000000) ∨ (rv_2 = 0 ∧ ¬ (0 ≤ p1 ∧ p1 ≤ 1000000)) := hp_2
    replace w : wd D A s.heap (mw cy a (uZ z 0 0) g) H locs := w
    refine r_if_ne (tgt := 27) hx hb dX10_money_22 (by decide) (by omega) (fun c22 => ?_) (fun c22 => ?_)
    · skip
      refine lv_aload_n hx hb dX10_money_27 rfl (lv_at hl 0 rfl) ?_
      refine r_get C w 0 (v := .ref (a 12)) rfl rfl 24 (by decide) inX10 kf_X10_45 rfl dX10_money_28 ?_
      refine lv_iload_n hx hb dX10_money_31 rfl (lv_at hl 1 rfl) ?_
      refine lv_iload_n hx hb dX10_money_32 rfl (lv_at hl 2 rfl) ?_
      refine r_iast C w 12 (f := (g 12)) rfl (by omega) (by omega) (by decide) (ws' := mw cy a (uZ z 0 0) (uZ g 12 (uI (g 12) p0 p1))) (mw_g12 cy a (uZ z 0 0) g (uI (g 12) p0 p1)) dX10_money_33 (fun H locs w => ?_)
      have bg2 : ∀ j : Int, (0 : Int) ≤ (uI (g 12) p0 p1) j ∧ (uI (g 12) p0 p1) j ≤ 1000000 := uI_b (mB12 hg) (by omega)
      refine lv_aload_n hx hb dX10_money_34 rfl (lv_at hl 0 rfl) ?_
      refine r_get C w 0 (v := .ref (a 13)) rfl rfl 25 (by decide) inX10 kf_X10_48 rfl dX10_money_35 ?_
      refine lv_iload_n hx hb dX10_money_38 rfl (lv_at hl 1 rfl) ?_
      refine lv_iload_n hx hb dX10_money_39 rfl (lv_at hl 2 rfl) ?_
      refine r_iast C w 13 (f := (g 13)) rfl (by omega) (by omega) (by decide) (ws' := mw cy a (uZ z 0 0) (uZ (uZ g 12 (uI (g 12) p0 p1)) 13 (uI (g 13) p0 p1))) (mw_g13 cy a (uZ z 0 0) (uZ g 12 (uI (g 12) p0 p1)) (uI (g 13) p0 p1)) dX10_money_40 (fun H locs w => ?_)
      have bg3 : ∀ j : Int, (0 : Int) ≤ (uI (g 13) p0 p1) j ∧ (uI (g 13) p0 p1) j ≤ 1000000 := uI_b (mB13 hg) (by omega)
      refine r_iconst hx hb dX10_money_41 ?_
      exact hend 1 ((uZ z 0 0), (uZ (uZ g 12 (uI (g 12) p0 p1)) 13 (uI (g 13) p0 p1))) _ _ _ _ dX10_money_42 w ⟨(by first | exact Or.inl ⟨by omega, rfl, rfl⟩ | exact Or.inr ⟨by omega, rfl, rfl⟩), (mBz_u hz 0 bz1), (mBg_u (mBg_u hg 12 bg2) 13 bg3)⟩
    · skip
      refine r_iconst hx hb dX10_money_25 ?_
      exact hend 0 ((uZ z 0 0), g) _ _ _ _ dX10_money_26 w ⟨(by first | exact Or.inl ⟨by omega, rfl, rfl⟩ | exact Or.inr ⟨by omega, rfl, rfl⟩), (mBz_u hz 0 bz1), hg⟩

abbrev rm_X10_want : Room := { frames := 1, cells := 0, slots := 0, locals := 22 }
set_option maxHeartbeats 4000000 in
set_option maxRecDepth 100000 in
theorem ct_X10_want (l : Launch) (D : va_G) (cy : Nat → ClassId) (a : Nat → Nat) (z : Nat → Int) (g : Nat → Int → Int) (p0 p1 p2 p3 p4 : Int) (hz : mBz z) (hg : mBg g) (h0 : iR p0) (h1 : iR p1) (h2 : iR p2) (h3 : iR p3) (h4 : iR p4) : MI l yX10_want cX10_want 6 .boolean (rm_X10_want) D cy (mw cy a z g) [.ref (a 0), vI p0, vI p1, vI p2, vI p3, vI p4] (fun (v : Int) (u : sX) => ((¬ ((0 ≤ p0 ∧ p0 < 10) ∧ (0 ≤ p1 ∧ p1 < 4) ∧ (0 ≤ p2 ∧ p2 < 4) ∧ (0 ≤ p3 ∧ p3 ≤ 5000) ∧ (0 ≤ p4 ∧ p4 ≤ 9999)) ∧ v = 0 ∧ u = (uZ z 0 0, g)) ∨ (((0 ≤ p0 ∧ p0 < 10) ∧ (0 ≤ p1 ∧ p1 < 4) ∧ (0 ≤ p2 ∧ p2 < 4) ∧ (0 ≤ p3 ∧ p3 ≤ 5000) ∧ (0 ≤ p4 ∧ p4 ≤ 9999)) ∧ v = 1 ∧ u = (uZ z 0 0, uZ (uZ g 14 (uI (g 14) (16 * p0 + 4 * p1 + p2) p3)) 15 (uI (g 15) (16 * p0 + 4 * p1 + p2) p4)))) ∧ mBz u.1 ∧ mBg u.2) (fun u => mw cy a u.1 u.2) 0 0 := by
  refine go_i (by decide +kernel) (Nat.le_of_ble_eq_true rfl) (Or.inr (fun v u h => nb01 (by omega))) ?_
  intro p e s m args below meth c Q A ls C hnm hA w hl hend
  have hx := C.1
  have hb := C.2.1
  replace hl : lv_has ls 6 [(0, .ref (a 0)), (1, vI p0), (2, vI p1), (3, vI p2), (4, vI p3), (5, vI p4)] := hl
  refine lv_aload_n hx hb dX10_want_0 rfl (lv_at hl 0 rfl) ?_
  refine r_iconst hx hb dX10_want_1 ?_
  refine r_put C w 0 tyX10 tyX10_ok nmX10 rfl rfl 0 (by decide) inX10 kf_X10_97 rfl rfl rfl (Nat.le_of_ble_eq_true rfl) (ws' := mw cy a (uZ z 0 0) g) (mw_z0 cy a z g 0) dX10_want_2 (fun H locs w => ?_)
  have bz1 : (0 : Int) ≤ 0 ∧ (0 : Int) ≤ 1 := (by omega)
  refine lv_iload_n hx hb dX10_want_5 rfl (lv_at hl 1 rfl) ?_
  refine r_iconst hx hb dX10_want_6 ?_
  refine r_bipush hx hb dX10_want_7 (by decide) ?_
  refine cSI C w hA (ct_X10_isIn l D cy a (uZ z 0 0) g p0 0 9 (by show iR p0; omega) (by show iR 0; omega) (by show iR 9; omega)) ok_X10_isIn km_X10_183 ⟨rfl, rfl⟩ ⟨by decide, by decide⟩ ⟨by decide, by decide⟩ rfl hl.1 rfl (Nat.le_of_ble_eq_true rfl) dX10_want_9 (fun rv_1 uv_1 H locs w hp_1 => ?_)
  replace hp_1 : (rv_1 = 1 ∧ 0 ≤ p0 ∧ p0 ≤ 9) ∨ (rv_1 = 0 ∧ ¬ (0 ≤ p0 ∧ p0 ≤ 9)) := hp_1
  replace w : wd D A s.heap (mw cy a (uZ z 0 0) g) H locs := w
  refine r_if_eq (tgt := 57) hx hb dX10_want_12 (by decide) (by omega) (fun c12 => ?_) (fun c12 => ?_)
  · skip
    refine r_iconst hx hb dX10_want_57 ?_
    exact hend 0 ((uZ z 0 0), g) _ _ _ _ dX10_want_58 w ⟨(by first | exact Or.inl ⟨by omega, rfl, rfl⟩ | exact Or.inr ⟨by omega, rfl, rfl⟩), (mBz_u hz 0 bz1), hg⟩
  · skip
    refine lv_iload_n hx hb dX10_want_15 rfl (lv_at hl 2 rfl) ?_
    refine r_iconst hx hb dX10_want_16 ?_
    refine r_iconst hx hb dX10_want_17 ?_
    refine cSI C w hA (ct_X10_isIn l D cy a (uZ z 0 0) g p1 0 3 (by show iR p1; omega) (by show iR 0; omega) (by show iR 3; omega)) ok_X10_isIn km_X10_183 ⟨rfl, rfl⟩ ⟨by decide, by decide⟩ ⟨by decide, by decide⟩ rfl hl.1 rfl (Nat.le_of_ble_eq_true rfl) dX10_want_18 (fun rv_2 uv_2 H locs w hp_2 => ?_)
    replace hp_2 : (rv_2 = 1 ∧ 0 ≤ p1 ∧ p1 ≤ 3) ∨ (rv_2 = 0 ∧ ¬ (0 ≤ p1 ∧ p1 ≤ 3)) := hp_2
    replace w : wd D A s.heap (mw cy a (uZ z 0 0) g) H locs := w
    refine r_if_eq (tgt := 57) hx hb dX10_want_21 (by decide) (by omega) (fun c21 => ?_) (fun c21 => ?_)
    · skip
      refine r_iconst hx hb dX10_want_57 ?_
      exact hend 0 ((uZ z 0 0), g) _ _ _ _ dX10_want_58 w ⟨(by first | exact Or.inl ⟨by omega, rfl, rfl⟩ | exact Or.inr ⟨by omega, rfl, rfl⟩), (mBz_u hz 0 bz1), hg⟩
    · skip
      refine lv_iload_n hx hb dX10_want_24 rfl (lv_at hl 3 rfl) ?_
      refine r_iconst hx hb dX10_want_25 ?_
      refine r_iconst hx hb dX10_want_26 ?_
      refine cSI C w hA (ct_X10_isIn l D cy a (uZ z 0 0) g p2 0 3 (by show iR p2; omega) (by show iR 0; omega) (by show iR 3; omega)) ok_X10_isIn km_X10_183 ⟨rfl, rfl⟩ ⟨by decide, by decide⟩ ⟨by decide, by decide⟩ rfl hl.1 rfl (Nat.le_of_ble_eq_true rfl) dX10_want_27 (fun rv_3 uv_3 H locs w hp_3 => ?_)
      replace hp_3 : (rv_3 = 1 ∧ 0 ≤ p2 ∧ p2 ≤ 3) ∨ (rv_3 = 0 ∧ ¬ (0 ≤ p2 ∧ p2 ≤ 3)) := hp_3
      replace w : wd D A s.heap (mw cy a (uZ z 0 0) g) H locs := w
      refine r_if_eq (tgt := 57) hx hb dX10_want_30 (by decide) (by omega) (fun c30 => ?_) (fun c30 => ?_)
      · skip
        refine r_iconst hx hb dX10_want_57 ?_
        exact hend 0 ((uZ z 0 0), g) _ _ _ _ dX10_want_58 w ⟨(by first | exact Or.inl ⟨by omega, rfl, rfl⟩ | exact Or.inr ⟨by omega, rfl, rfl⟩), (mBz_u hz 0 bz1), hg⟩
      · skip
        refine lv_iload hx hb dX10_want_33 (lv_at hl 4 rfl) ?_
        refine r_iconst hx hb dX10_want_35 ?_
        refine r_sipush hx hb dX10_want_36 (by decide) ?_
        refine cSI C w hA (ct_X10_isIn l D cy a (uZ z 0 0) g p3 0 5000 (by show iR p3; omega) (by show iR 0; omega) (by show iR 5000; omega)) ok_X10_isIn km_X10_183 ⟨rfl, rfl⟩ ⟨by decide, by decide⟩ ⟨by decide, by decide⟩ rfl hl.1 rfl (Nat.le_of_ble_eq_true rfl) dX10_want_39 (fun rv_4 uv_4 H locs w hp_4 => ?_)
        replace hp_4 : (rv_4 = 1 ∧ 0 ≤ p3 ∧ p3 ≤ 5000) ∨ (rv_4 = 0 ∧ ¬ (0 ≤ p3 ∧ p3 ≤ 5000)) := hp_4
        replace w : wd D A s.heap (mw cy a (uZ z 0 0) g) H locs := w
        refine r_if_eq (tgt := 57) hx hb dX10_want_42 (by decide) (by omega) (fun c42 => ?_) (fun c42 => ?_)
        · skip
          refine r_iconst hx hb dX10_want_57 ?_
          exact hend 0 ((uZ z 0 0), g) _ _ _ _ dX10_want_58 w ⟨(by first | exact Or.inl ⟨by omega, rfl, rfl⟩ | exact Or.inr ⟨by omega, rfl, rfl⟩), (mBz_u hz 0 bz1), hg⟩
        · skip
          refine lv_iload hx hb dX10_want_45 (lv_at hl 5 rfl) ?_
          refine r_iconst hx hb dX10_want_47 ?_
          refine r_sipush hx hb dX10_want_48 (by decide) ?_
          refine cSI C w hA (ct_X10_isIn l D cy a (uZ z 0 0) g p4 0 9999 (by show iR p4; omega) (by show iR 0; omega) (by show iR 9999; omega)) ok_X10_isIn km_X10_183 ⟨rfl, rfl⟩ ⟨by decide, by decide⟩ ⟨by decide, by decide⟩ rfl hl.1 rfl (Nat.le_of_ble_eq_true rfl) dX10_want_51 (fun rv_5 uv_5 H locs w hp_5 => ?_)
          replace hp_5 : (rv_5 = 1 ∧ 0 ≤ p4 ∧ p4 ≤ 9999) ∨ (rv_5 = 0 ∧ ¬ (0 ≤ p4 ∧ p4 ≤ 9999)) := hp_5
          replace w : wd D A s.heap (mw cy a (uZ z 0 0) g) H locs := w
          refine r_if_ne (tgt := 59) hx hb dX10_want_54 (by decide) (by omega) (fun c54 => ?_) (fun c54 => ?_)
          · skip
            refine lv_aload_n hx hb dX10_want_59 rfl (lv_at hl 0 rfl) ?_
            refine r_get C w 0 (v := .ref (a 14)) rfl rfl 26 (by decide) inX10 kf_X10_51 rfl dX10_want_60 ?_
            refine lv_iload_n hx hb dX10_want_63 rfl (lv_at hl 1 rfl) ?_
            refine lv_iload_n hx hb dX10_want_64 rfl (lv_at hl 2 rfl) ?_
            refine lv_iload_n hx hb dX10_want_65 rfl (lv_at hl 3 rfl) ?_
            refine cSI C w hA (ct_X10_place l D cy a (uZ z 0 0) g p0 p1 p2 ) ok_X10_place km_X10_188 ⟨rfl, rfl⟩ ⟨by decide, by decide⟩ ⟨by decide, by decide⟩ rfl hl.1 rfl (Nat.le_of_ble_eq_true rfl) dX10_want_66 (fun rv_6 uv_6 H locs w hp_6 => ?_)
            replace hp_6 : rv_6 = 16 * p0 + 4 * p1 + p2 := hp_6
            replace w : wd D A s.heap (mw cy a (uZ z 0 0) g) H locs := w
            subst hp_6
            refine lv_iload hx hb dX10_want_69 (lv_at hl 4 rfl) ?_
            refine r_iast C w 14 (f := (g 14)) rfl (by omega) (by omega) (by decide) (ws' := mw cy a (uZ z 0 0) (uZ g 14 (uI (g 14) (16 * p0 + 4 * p1 + p2) p3))) (mw_g14 cy a (uZ z 0 0) g (uI (g 14) (16 * p0 + 4 * p1 + p2) p3)) dX10_want_71 (fun H locs w => ?_)
            have bg2 : ∀ j : Int, (0 : Int) ≤ (uI (g 14) (16 * p0 + 4 * p1 + p2) p3) j ∧ (uI (g 14) (16 * p0 + 4 * p1 + p2) p3) j ≤ 5000 := uI_b (mB14 hg) (by omega)
            refine lv_aload_n hx hb dX10_want_72 rfl (lv_at hl 0 rfl) ?_
            refine r_get C w 0 (v := .ref (a 15)) rfl rfl 27 (by decide) inX10 kf_X10_54 rfl dX10_want_73 ?_
            refine lv_iload_n hx hb dX10_want_76 rfl (lv_at hl 1 rfl) ?_
            refine lv_iload_n hx hb dX10_want_77 rfl (lv_at hl 2 rfl) ?_
            refine lv_iload_n hx hb dX10_want_78 rfl (lv_at hl 3 rfl) ?_
            refine cSI C w hA (ct_X10_place l D cy a (uZ z 0 0) (uZ g 14 (uI (g 14) (16 * p0 + 4 * p1 + p2) p3)) p0 p1 p2 ) ok_X10_place km_X10_188 ⟨rfl, rfl⟩ ⟨by decide, by decide⟩ ⟨by decide, by decide⟩ rfl hl.1 rfl (Nat.le_of_ble_eq_true rfl) dX10_want_79 (fun rv_7 uv_7 H locs w hp_7 => ?_)
            replace hp_7 : rv_7 = 16 * p0 + 4 * p1 + p2 := hp_7
            replace w : wd D A s.heap (mw cy a (uZ z 0 0) (uZ g 14 (uI (g 14) (16 * p0 + 4 * p1 + p2) p3))) H locs := w
            subst hp_7
            refine lv_iload hx hb dX10_want_82 (lv_at hl 5 rfl) ?_
            refine r_iast C w 15 (f := (g 15)) rfl (by omega) (by omega) (by decide) (ws' := mw cy a (uZ z 0 0) (uZ (uZ g 14 (uI (g 14) (16 * p0 + 4 * p1 + p2) p3)) 15 (uI (g 15) (16 * p0 + 4 * p1 + p2) p4))) (mw_g15 cy a (uZ z 0 0) (uZ g 14 (uI (g 14) (16 * p0 + 4 * p1 + p2) p3)) (uI (g 15) (16 * p0 + 4 * p1 + p2) p4)) dX10_want_84 (fun H locs w => ?_)
            have bg3 : ∀ j : Int, (0 : Int) ≤ (uI (g 15) (16 * p0 + 4 * p1 + p2) p4) j ∧ (uI (g 15) (16 * p0 + 4 * p1 + p2) p4) j ≤ 9999 := uI_b (mB15 hg) (by omega)
            refine r_iconst hx hb dX10_want_85 ?_
            exact hend 1 ((uZ z 0 0), (uZ (uZ g 14 (uI (g 14) (16 * p0 + 4 * p1 + p2) p3)) 15 (uI (g 15) (16 * p0 + 4 * p1 + p2) p4))) _ _ _ _ dX10_want_86 w ⟨(by first | exact Or.inl ⟨by omega, rfl, rfl⟩ | exact Or.inr ⟨by omega, rfl, rfl⟩), (mBz_u hz 0 bz1), (mBg_u (mBg_u hg 14 bg2) 15 bg3)⟩
          · skip
            refine r_iconst hx hb dX10_want_57 ?_
            exact hend 0 ((uZ z 0 0), g) _ _ _ _ dX10_want_58 w ⟨(by first | exact Or.inl ⟨by omega, rfl, rfl⟩ | exact Or.inr ⟨by omega, rfl, rfl⟩), (mBz_u hz 0 bz1), hg⟩

abbrev rm_X10_left : Room := { frames := 1, cells := 0, slots := 0, locals := 22 }
set_option maxHeartbeats 4000000 in
set_option maxRecDepth 100000 in
theorem ct_X10_left (l : Launch) (D : va_G) (cy : Nat → ClassId) (a : Nat → Nat) (z : Nat → Int) (g : Nat → Int → Int) (p0 : Int) (hz : mBz z) (hg : mBg g) (h0 : iR p0) : MI l yX10_left cX10_left 2 .int (rm_X10_left) D cy (mw cy a z g) [.ref (a 0), vI p0] (fun (v : Int) (u : sX) => ((((0 ≤ p0 ∧ p0 < 10) ∧ v = g 13 p0) ∨ (¬ (0 ≤ p0 ∧ p0 < 10) ∧ v = -1)) ∧ u = (uZ z 0 0, g)) ∧ mBz u.1 ∧ mBg u.2) (fun u => mw cy a u.1 u.2) 0 0 := by
  refine go_i (by decide +kernel) (Nat.le_of_ble_eq_true rfl) (Or.inl rfl) ?_
  intro p e s m args below meth c Q A ls C hnm hA w hl hend
  have hx := C.1
  have hb := C.2.1
  replace hl : lv_has ls 2 [(0, .ref (a 0)), (1, vI p0)] := hl
  refine lv_aload_n hx hb dX10_left_0 rfl (lv_at hl 0 rfl) ?_
  refine r_iconst hx hb dX10_left_1 ?_
  refine r_put C w 0 tyX10 tyX10_ok nmX10 rfl rfl 0 (by decide) inX10 kf_X10_97 rfl rfl rfl (Nat.le_of_ble_eq_true rfl) (ws' := mw cy a (uZ z 0 0) g) (mw_z0 cy a z g 0) dX10_left_2 (fun H locs w => ?_)
  have bz1 : (0 : Int) ≤ 0 ∧ (0 : Int) ≤ 1 := (by omega)
  refine lv_iload_n hx hb dX10_left_5 rfl (lv_at hl 1 rfl) ?_
  refine r_iconst hx hb dX10_left_6 ?_
  refine r_bipush hx hb dX10_left_7 (by decide) ?_
  refine cSI C w hA (ct_X10_isIn l D cy a (uZ z 0 0) g p0 0 9 (by show iR p0; omega) (by show iR 0; omega) (by show iR 9; omega)) ok_X10_isIn km_X10_183 ⟨rfl, rfl⟩ ⟨by decide, by decide⟩ ⟨by decide, by decide⟩ rfl hl.1 rfl (Nat.le_of_ble_eq_true rfl) dX10_left_9 (fun rv_1 uv_1 H locs w hp_1 => ?_)
  replace hp_1 : (rv_1 = 1 ∧ 0 ≤ p0 ∧ p0 ≤ 9) ∨ (rv_1 = 0 ∧ ¬ (0 ≤ p0 ∧ p0 ≤ 9)) := hp_1
  replace w : wd D A s.heap (mw cy a (uZ z 0 0) g) H locs := w
  refine r_if_eq (tgt := 24) hx hb dX10_left_12 (by decide) (by omega) (fun c12 => ?_) (fun c12 => ?_)
  · skip
    refine r_iconst hx hb dX10_left_24 ?_
    exact hend (-1) ((uZ z 0 0), g) _ _ _ _ dX10_left_25 w ⟨(by exact ⟨by omega, rfl⟩), (mBz_u hz 0 bz1), hg⟩
  · skip
    refine lv_aload_n hx hb dX10_left_15 rfl (lv_at hl 0 rfl) ?_
    refine r_get C w 0 (v := .ref (a 13)) rfl rfl 25 (by decide) inX10 kf_X10_48 rfl dX10_left_16 ?_
    refine lv_iload_n hx hb dX10_left_19 rfl (lv_at hl 1 rfl) ?_
    refine r_iald C w 13 (f := (g 13)) rfl (by omega) (by omega) (by decide) dX10_left_20 ?_
    have qg2 := mB13 hg p0
    refine lv_goto (tgt := 25) hx hb dX10_left_21 (by decide) ?_
    exact hend ((g 13) p0) ((uZ z 0 0), g) _ _ _ _ dX10_left_25 w ⟨(by exact ⟨by omega, rfl⟩), (mBz_u hz 0 bz1), hg⟩

abbrev rm_X10_wanted : Room := { frames := 1, cells := 0, slots := 0, locals := 22 }
set_option maxHeartbeats 4000000 in
set_option maxRecDepth 100000 in
theorem ct_X10_wanted (l : Launch) (D : va_G) (cy : Nat → ClassId) (a : Nat → Nat) (z : Nat → Int) (g : Nat → Int → Int) (p0 p1 p2 : Int) (hz : mBz z) (hg : mBg g) (h0 : iR p0) (h1 : iR p1) (h2 : iR p2) : MI l yX10_wanted cX10_wanted 4 .int (rm_X10_wanted) D cy (mw cy a z g) [.ref (a 0), vI p0, vI p1, vI p2] (fun (v : Int) (u : sX) => (((((0 ≤ p0 ∧ p0 < 10) ∧ (0 ≤ p1 ∧ p1 < 4) ∧ (0 ≤ p2 ∧ p2 < 4)) ∧ v = g 14 (16 * p0 + 4 * p1 + p2)) ∨ (¬ ((0 ≤ p0 ∧ p0 < 10) ∧ (0 ≤ p1 ∧ p1 < 4) ∧ (0 ≤ p2 ∧ p2 < 4)) ∧ v = -1)) ∧ u = (uZ z 0 0, g)) ∧ mBz u.1 ∧ mBg u.2) (fun u => mw cy a u.1 u.2) 0 0 := by
  refine go_i (by decide +kernel) (Nat.le_of_ble_eq_true rfl) (Or.inl rfl) ?_
  intro p e s m args below meth c Q A ls C hnm hA w hl hend
  have hx := C.1
  have hb := C.2.1
  replace hl : lv_has ls 4 [(0, .ref (a 0)), (1, vI p0), (2, vI p1), (3, vI p2)] := hl
  refine lv_aload_n hx hb dX10_wanted_0 rfl (lv_at hl 0 rfl) ?_
  refine r_iconst hx hb dX10_wanted_1 ?_
  refine r_put C w 0 tyX10 tyX10_ok nmX10 rfl rfl 0 (by decide) inX10 kf_X10_97 rfl rfl rfl (Nat.le_of_ble_eq_true rfl) (ws' := mw cy a (uZ z 0 0) g) (mw_z0 cy a z g 0) dX10_wanted_2 (fun H locs w => ?_)
  have bz1 : (0 : Int) ≤ 0 ∧ (0 : Int) ≤ 1 := (by omega)
  refine lv_iload_n hx hb dX10_wanted_5 rfl (lv_at hl 1 rfl) ?_
  refine r_iconst hx hb dX10_wanted_6 ?_
  refine r_bipush hx hb dX10_wanted_7 (by decide) ?_
  refine cSI C w hA (ct_X10_isIn l D cy a (uZ z 0 0) g p0 0 9 (by show iR p0; omega) (by show iR 0; omega) (by show iR 9; omega)) ok_X10_isIn km_X10_183 ⟨rfl, rfl⟩ ⟨by decide, by decide⟩ ⟨by decide, by decide⟩ rfl hl.1 rfl (Nat.le_of_ble_eq_true rfl) dX10_wanted_9 (fun rv_1 uv_1 H locs w hp_1 => ?_)
  replace hp_1 : (rv_1 = 1 ∧ 0 ≤ p0 ∧ p0 ≤ 9) ∨ (rv_1 = 0 ∧ ¬ (0 ≤ p0 ∧ p0 ≤ 9)) := hp_1
  replace w : wd D A s.heap (mw cy a (uZ z 0 0) g) H locs := w
  refine r_if_eq (tgt := 47) hx hb dX10_wanted_12 (by decide) (by omega) (fun c12 => ?_) (fun c12 => ?_)
  · skip
    refine r_iconst hx hb dX10_wanted_47 ?_
    exact hend (-1) ((uZ z 0 0), g) _ _ _ _ dX10_wanted_48 w ⟨(by exact ⟨by omega, rfl⟩), (mBz_u hz 0 bz1), hg⟩
  · skip
    refine lv_iload_n hx hb dX10_wanted_15 rfl (lv_at hl 2 rfl) ?_
    refine r_iconst hx hb dX10_wanted_16 ?_
    refine r_iconst hx hb dX10_wanted_17 ?_
    refine cSI C w hA (ct_X10_isIn l D cy a (uZ z 0 0) g p1 0 3 (by show iR p1; omega) (by show iR 0; omega) (by show iR 3; omega)) ok_X10_isIn km_X10_183 ⟨rfl, rfl⟩ ⟨by decide, by decide⟩ ⟨by decide, by decide⟩ rfl hl.1 rfl (Nat.le_of_ble_eq_true rfl) dX10_wanted_18 (fun rv_2 uv_2 H locs w hp_2 => ?_)
    replace hp_2 : (rv_2 = 1 ∧ 0 ≤ p1 ∧ p1 ≤ 3) ∨ (rv_2 = 0 ∧ ¬ (0 ≤ p1 ∧ p1 ≤ 3)) := hp_2
    replace w : wd D A s.heap (mw cy a (uZ z 0 0) g) H locs := w
    refine r_if_eq (tgt := 47) hx hb dX10_wanted_21 (by decide) (by omega) (fun c21 => ?_) (fun c21 => ?_)
    · skip
      refine r_iconst hx hb dX10_wanted_47 ?_
      exact hend (-1) ((uZ z 0 0), g) _ _ _ _ dX10_wanted_48 w ⟨(by exact ⟨by omega, rfl⟩), (mBz_u hz 0 bz1), hg⟩
    · skip
      refine lv_iload_n hx hb dX10_wanted_24 rfl (lv_at hl 3 rfl) ?_
      refine r_iconst hx hb dX10_wanted_25 ?_
      refine r_iconst hx hb dX10_wanted_26 ?_
      refine cSI C w hA (ct_X10_isIn l D cy a (uZ z 0 0) g p2 0 3 (by show iR p2; omega) (by show iR 0; omega) (by show iR 3; omega)) ok_X10_isIn km_X10_183 ⟨rfl, rfl⟩ ⟨by decide, by decide⟩ ⟨by decide, by decide⟩ rfl hl.1 rfl (Nat.le_of_ble_eq_true rfl) dX10_wanted_27 (fun rv_3 uv_3 H locs w hp_3 => ?_)
      replace hp_3 : (rv_3 = 1 ∧ 0 ≤ p2 ∧ p2 ≤ 3) ∨ (rv_3 = 0 ∧ ¬ (0 ≤ p2 ∧ p2 ≤ 3)) := hp_3
      replace w : wd D A s.heap (mw cy a (uZ z 0 0) g) H locs := w
      refine r_if_eq (tgt := 47) hx hb dX10_wanted_30 (by decide) (by omega) (fun c30 => ?_) (fun c30 => ?_)
      · skip
        refine r_iconst hx hb dX10_wanted_47 ?_
        exact hend (-1) ((uZ z 0 0), g) _ _ _ _ dX10_wanted_48 w ⟨(by exact ⟨by omega, rfl⟩), (mBz_u hz 0 bz1), hg⟩
      · skip
        refine lv_aload_n hx hb dX10_wanted_33 rfl (lv_at hl 0 rfl) ?_
        refine r_get C w 0 (v := .ref (a 14)) rfl rfl 26 (by decide) inX10 kf_X10_51 rfl dX10_wanted_34 ?_
        refine lv_iload_n hx hb dX10_wanted_37 rfl (lv_at hl 1 rfl) ?_
        refine lv_iload_n hx hb dX10_wanted_38 rfl (lv_at hl 2 rfl) ?_
        refine lv_iload_n hx hb dX10_wanted_39 rfl (lv_at hl 3 rfl) ?_
        refine cSI C w hA (ct_X10_place l D cy a (uZ z 0 0) g p0 p1 p2 ) ok_X10_place km_X10_188 ⟨rfl, rfl⟩ ⟨by decide, by decide⟩ ⟨by decide, by decide⟩ rfl hl.1 rfl (Nat.le_of_ble_eq_true rfl) dX10_wanted_40 (fun rv_4 uv_4 H locs w hp_4 => ?_)
        replace hp_4 : rv_4 = 16 * p0 + 4 * p1 + p2 := hp_4
        replace w : wd D A s.heap (mw cy a (uZ z 0 0) g) H locs := w
        subst hp_4
        refine r_iald C w 14 (f := (g 14)) rfl (by omega) (by omega) (by decide) dX10_wanted_43 ?_
        have qg2 := mB14 hg (16 * p0 + 4 * p1 + p2)
        refine lv_goto (tgt := 48) hx hb dX10_wanted_44 (by decide) ?_
        exact hend ((g 14) (16 * p0 + 4 * p1 + p2)) ((uZ z 0 0), g) _ _ _ _ dX10_wanted_48 w ⟨(by exact ⟨by omega, rfl⟩), (mBz_u hz 0 bz1), hg⟩

abbrev rm_X10_reject : Room := { frames := 1, cells := 0, slots := 0, locals := 21 }
set_option maxHeartbeats 4000000 in
set_option maxRecDepth 100000 in
theorem ct_X10_reject (l : Launch) (D : va_G) (cy : Nat → ClassId) (a : Nat → Nat) (z : Nat → Int) (g : Nat → Int → Int) (p0 : Int) (hz : mBz z) (hg : mBg g) (h0 : iR p0) : MI l yX10_reject cX10_reject 2 .boolean (rm_X10_reject) D cy (mw cy a z g) [.ref (a 0), vI p0] (fun (v : Int) (u : sX) => ((¬ (0 ≤ p0 ∧ p0 < z 13 ∧ g 21 p0 = -1 ∧ g 10 (g 16 p0) = p0) ∧ v = 0 ∧ u = (uZ z 0 0, g)) ∨ ((0 ≤ p0 ∧ p0 < z 13 ∧ g 21 p0 = -1 ∧ g 10 (g 16 p0) = p0) ∧ v = 1 ∧ u = (uZ z 0 0, uZ (uZ g 21 (uI (g 21) p0 (z 12))) 11 (uI (g 11) (g 16 p0) 0)))) ∧ mBz u.1 ∧ mBg u.2) (fun u => mw cy a u.1 u.2) 0 0 := by
  refine go_i (by decide +kernel) (Nat.le_of_ble_eq_true rfl) (Or.inr (fun v u h => nb01 (by omega))) ?_
  intro p e s m args below meth c Q A ls C hnm hA w hl hend
  have hx := C.1
  have hb := C.2.1
  have b13 := mZ13 hz
  replace hl : lv_has ls 2 [(0, .ref (a 0)), (1, vI p0)] := hl
  refine lv_aload_n hx hb dX10_reject_0 rfl (lv_at hl 0 rfl) ?_
  refine r_iconst hx hb dX10_reject_1 ?_
  refine r_put C w 0 tyX10 tyX10_ok nmX10 rfl rfl 0 (by decide) inX10 kf_X10_97 rfl rfl rfl (Nat.le_of_ble_eq_true rfl) (ws' := mw cy a (uZ z 0 0) g) (mw_z0 cy a z g 0) dX10_reject_2 (fun H locs w => ?_)
  have bz1 : (0 : Int) ≤ 0 ∧ (0 : Int) ≤ 1 := (by omega)
  refine lv_aload_n hx hb dX10_reject_5 rfl (lv_at hl 0 rfl) ?_
  refine lv_iload_n hx hb dX10_reject_6 rfl (lv_at hl 1 rfl) ?_
  refine cVI C w hA (ct_X10_isSale l D cy a (uZ z 0 0) g p0 (mBz_u hz 0 bz1) hg (by show iR p0; omega)) ok_X10_isSale km_X10_204 ⟨rfl, rfl⟩ ⟨by decide, by decide⟩ ⟨by decide, by decide⟩ rfl 0 rfl rfl hl.1 rfl (Nat.le_of_ble_eq_true rfl) dX10_reject_7 (fun rv_1 uv_1 H locs w hp_1 => ?_)
  replace hp_1 : (rv_1 = 1 ∧ 0 ≤ p0 ∧ p0 < (z 13)) ∨ (rv_1 = 0 ∧ ¬ (0 ≤ p0 ∧ p0 < (z 13))) := hp_1
  replace w : wd D A s.heap (mw cy a (uZ z 0 0) g) H locs := w
  refine r_if_eq (tgt := 38) hx hb dX10_reject_10 (by decide) (by omega) (fun c10 => ?_) (fun c10 => ?_)
  · skip
    refine r_iconst hx hb dX10_reject_38 ?_
    exact hend 0 ((uZ z 0 0), g) _ _ _ _ dX10_reject_39 w ⟨(by first | exact Or.inl ⟨by omega, rfl, rfl⟩ | exact Or.inr ⟨by omega, rfl, rfl⟩), (mBz_u hz 0 bz1), hg⟩
  · skip
    refine lv_aload_n hx hb dX10_reject_13 rfl (lv_at hl 0 rfl) ?_
    refine r_get C w 0 (v := .ref (a 21)) rfl rfl 33 (by decide) inX10 kf_X10_72 rfl dX10_reject_14 ?_
    refine lv_iload_n hx hb dX10_reject_17 rfl (lv_at hl 1 rfl) ?_
    refine r_iald C w 21 (f := (g 21)) rfl (by omega) (by omega) (by decide) dX10_reject_18 ?_
    have qg2 := mB21 hg p0
    refine r_iconst hx hb dX10_reject_19 ?_
    refine r_icmp_ne (tgt := 38) hx hb dX10_reject_20 (by decide) (by omega) (by omega) (fun c20 => ?_) (fun c20 => ?_)
    · skip
      refine r_iconst hx hb dX10_reject_38 ?_
      exact hend 0 ((uZ z 0 0), g) _ _ _ _ dX10_reject_39 w ⟨(by first | exact Or.inl ⟨by omega, rfl, rfl⟩ | exact Or.inr ⟨by omega, rfl, rfl⟩), (mBz_u hz 0 bz1), hg⟩
    · skip
      refine lv_aload_n hx hb dX10_reject_23 rfl (lv_at hl 0 rfl) ?_
      refine r_get C w 0 (v := .ref (a 10)) rfl rfl 20 (by decide) inX10 kf_X10_39 rfl dX10_reject_24 ?_
      refine lv_aload_n hx hb dX10_reject_27 rfl (lv_at hl 0 rfl) ?_
      refine r_get C w 0 (v := .ref (a 16)) rfl rfl 28 (by decide) inX10 kf_X10_57 rfl dX10_reject_28 ?_
      refine lv_iload_n hx hb dX10_reject_31 rfl (lv_at hl 1 rfl) ?_
      refine r_iald C w 16 (f := (g 16)) rfl (by omega) (by omega) (by decide) dX10_reject_32 ?_
      have qg3 := mB16 hg p0
      refine r_iald C w 10 (f := (g 10)) rfl (by omega) (by omega) (by decide) dX10_reject_33 ?_
      have qg4 := mB10 hg ((g 16) p0)
      refine lv_iload_n hx hb dX10_reject_34 rfl (lv_at hl 1 rfl) ?_
      refine r_icmp_eq (tgt := 40) hx hb dX10_reject_35 (by decide) (by omega) (by omega) (fun c35 => ?_) (fun c35 => ?_)
      · skip
        refine lv_aload_n hx hb dX10_reject_40 rfl (lv_at hl 0 rfl) ?_
        refine r_get C w 0 (v := .ref (a 21)) rfl rfl 33 (by decide) inX10 kf_X10_72 rfl dX10_reject_41 ?_
        refine lv_iload_n hx hb dX10_reject_44 rfl (lv_at hl 1 rfl) ?_
        refine lv_aload_n hx hb dX10_reject_45 rfl (lv_at hl 0 rfl) ?_
        refine r_get C w 0 (v := vI (z 12)) rfl rfl 23 (by decide) inX10 kf_X10_192 rfl dX10_reject_46 ?_
        have qz5 := mZ12 hz
        refine r_iast C w 21 (f := (g 21)) rfl (by omega) (by omega) (by decide) (ws' := mw cy a (uZ z 0 0) (uZ g 21 (uI (g 21) p0 (z 12)))) (mw_g21 cy a (uZ z 0 0) g (uI (g 21) p0 (z 12))) dX10_reject_49 (fun H locs w => ?_)
        have bg6 : ∀ j : Int, (-1 : Int) ≤ (uI (g 21) p0 (z 12)) j ∧ (uI (g 21) p0 (z 12)) j ≤ 999 := uI_b (mB21 hg) (by omega)
        refine lv_aload_n hx hb dX10_reject_50 rfl (lv_at hl 0 rfl) ?_
        refine r_get C w 0 (v := .ref (a 11)) rfl rfl 21 (by decide) inX10 kf_X10_42 rfl dX10_reject_51 ?_
        refine lv_aload_n hx hb dX10_reject_54 rfl (lv_at hl 0 rfl) ?_
        refine r_get C w 0 (v := .ref (a 16)) rfl rfl 28 (by decide) inX10 kf_X10_57 rfl dX10_reject_55 ?_
        refine lv_iload_n hx hb dX10_reject_58 rfl (lv_at hl 1 rfl) ?_
        refine r_iald C w 16 (f := (g 16)) rfl (by omega) (by omega) (by decide) dX10_reject_59 ?_
        have qg7 := mB16 hg p0
        refine r_iconst hx hb dX10_reject_60 ?_
        refine r_zast C w 11 (f := (g 11)) rfl (by omega) (by omega) (by decide) (vz01 (by omega)) (ws' := mw cy a (uZ z 0 0) (uZ (uZ g 21 (uI (g 21) p0 (z 12))) 11 (uI (g 11) ((g 16) p0) 0))) (mw_g11 cy a (uZ z 0 0) (uZ g 21 (uI (g 21) p0 (z 12))) (uI (g 11) ((g 16) p0) 0)) dX10_reject_61 (fun H locs w => ?_)
        have bg8 : ∀ j : Int, (0 : Int) ≤ (uI (g 11) ((g 16) p0) 0) j ∧ (uI (g 11) ((g 16) p0) 0) j ≤ 1 := uI_b (mB11 hg) (by omega)
        refine r_iconst hx hb dX10_reject_62 ?_
        exact hend 1 ((uZ z 0 0), (uZ (uZ g 21 (uI (g 21) p0 (z 12))) 11 (uI (g 11) ((g 16) p0) 0))) _ _ _ _ dX10_reject_63 w ⟨(by first | exact Or.inl ⟨by omega, rfl, rfl⟩ | exact Or.inr ⟨by omega, rfl, rfl⟩), (mBz_u hz 0 bz1), (mBg_u (mBg_u hg 21 bg6) 11 bg8)⟩
      · skip
        refine r_iconst hx hb dX10_reject_38 ?_
        exact hend 0 ((uZ z 0 0), g) _ _ _ _ dX10_reject_39 w ⟨(by first | exact Or.inl ⟨by omega, rfl, rfl⟩ | exact Or.inr ⟨by omega, rfl, rfl⟩), (mBz_u hz 0 bz1), hg⟩

abbrev rm_X10_counts : Room := { frames := 0, cells := 0, slots := 0, locals := 0 }
set_option maxHeartbeats 4000000 in
set_option maxRecDepth 100000 in
theorem ct_X10_counts (l : Launch) (D : va_G) (cy : Nat → ClassId) (a : Nat → Nat) (z : Nat → Int) (g : Nat → Int → Int) (p0 p1 : Int) (hz : mBz z) (hg : mBg g) (h0 : 0 ≤ p0 ∧ p0 < 400) (h1 : iR p1) : MI l yX10_counts cX10_counts 3 .boolean (rm_X10_counts) D cy (mw cy a z g) [.ref (a 0), vI p0, vI p1] (fun (v : Int) (u : Unit) => (v = 1 ∧ g 18 p0 ≤ p1 ∧ (g 21 p0 = -1 ∨ p1 < g 21 p0)) ∨ (v = 0 ∧ ¬ (g 18 p0 ≤ p1 ∧ (g 21 p0 = -1 ∨ p1 < g 21 p0)))) (fun _ => mw cy a z g) 0 0 := by
  refine go_i (by decide +kernel) (Nat.le_of_ble_eq_true rfl) (Or.inr (fun v u h => nb01 (by omega))) ?_
  intro p e s m args below meth c Q A ls C hnm hA w hl hend
  have hx := C.1
  have hb := C.2.1
  replace hl : lv_has ls 3 [(0, .ref (a 0)), (1, vI p0), (2, vI p1)] := hl
  refine lv_aload_n hx hb dX10_counts_0 rfl (lv_at hl 0 rfl) ?_
  refine r_get C w 0 (v := .ref (a 18)) rfl rfl 30 (by decide) inX10 kf_X10_63 rfl dX10_counts_1 ?_
  refine lv_iload_n hx hb dX10_counts_4 rfl (lv_at hl 1 rfl) ?_
  refine r_iald C w 18 (f := (g 18)) rfl (by omega) (by omega) (by decide) dX10_counts_5 ?_
  have qg1 := mB18 hg p0
  refine lv_iload_n hx hb dX10_counts_6 rfl (lv_at hl 2 rfl) ?_
  refine r_icmp_gt (tgt := 34) hx hb dX10_counts_7 (by decide) (by omega) (by omega) (fun c7 => ?_) (fun c7 => ?_)
  · skip
    refine r_iconst hx hb dX10_counts_34 ?_
    exact hend 0 () _ _ _ _ dX10_counts_35 w (by omega)
  · skip
    refine lv_aload_n hx hb dX10_counts_10 rfl (lv_at hl 0 rfl) ?_
    refine r_get C w 0 (v := .ref (a 21)) rfl rfl 33 (by decide) inX10 kf_X10_72 rfl dX10_counts_11 ?_
    refine lv_iload_n hx hb dX10_counts_14 rfl (lv_at hl 1 rfl) ?_
    refine r_iald C w 21 (f := (g 21)) rfl (by omega) (by omega) (by decide) dX10_counts_15 ?_
    have qg2 := mB21 hg p0
    refine r_iconst hx hb dX10_counts_16 ?_
    refine r_icmp_eq (tgt := 30) hx hb dX10_counts_17 (by decide) (by omega) (by omega) (fun c17 => ?_) (fun c17 => ?_)
    · skip
      refine r_iconst hx hb dX10_counts_30 ?_
      refine lv_goto (tgt := 35) hx hb dX10_counts_31 (by decide) ?_
      exact hend 1 () _ _ _ _ dX10_counts_35 w (by omega)
    · skip
      refine lv_aload_n hx hb dX10_counts_20 rfl (lv_at hl 0 rfl) ?_
      refine r_get C w 0 (v := .ref (a 21)) rfl rfl 33 (by decide) inX10 kf_X10_72 rfl dX10_counts_21 ?_
      refine lv_iload_n hx hb dX10_counts_24 rfl (lv_at hl 1 rfl) ?_
      refine r_iald C w 21 (f := (g 21)) rfl (by omega) (by omega) (by decide) dX10_counts_25 ?_
      have qg3 := mB21 hg p0
      refine lv_iload_n hx hb dX10_counts_26 rfl (lv_at hl 2 rfl) ?_
      refine r_icmp_le (tgt := 34) hx hb dX10_counts_27 (by decide) (by omega) (by omega) (fun c27 => ?_) (fun c27 => ?_)
      · skip
        refine r_iconst hx hb dX10_counts_34 ?_
        exact hend 0 () _ _ _ _ dX10_counts_35 w (by omega)
      · skip
        refine r_iconst hx hb dX10_counts_30 ?_
        refine lv_goto (tgt := 35) hx hb dX10_counts_31 (by decide) ?_
        exact hend 1 () _ _ _ _ dX10_counts_35 w (by omega)

abbrev rm_X10_count : Room := { frames := 0, cells := 0, slots := 0, locals := 0 }
set_option maxHeartbeats 4000000 in
set_option maxRecDepth 100000 in
theorem ct_X10_count (l : Launch) (D : va_G) (cy : Nat → ClassId) (a : Nat → Nat) (z : Nat → Int) (g : Nat → Int → Int) (p0 : Int) (hz : mBz z) (hg : mBg g) (h0 : iR p0) : MI l yX10_count cX10_count 2 .int (rm_X10_count) D cy (mw cy a z g) [.ref (a 0), vI p0] (fun (v : Int) (u : sX) => (((p0 = 0 ∧ v = z 12) ∨ (p0 = 1 ∧ v = z 11) ∨ (p0 = 2 ∧ v = z 13) ∨ (p0 = 3 ∧ v = z 9) ∨ (p0 = 4 ∧ v = z 1) ∨ (¬ (0 ≤ p0 ∧ p0 ≤ 4) ∧ v = -1)) ∧ u = (uZ z 0 0, g)) ∧ mBz u.1 ∧ mBg u.2) (fun u => mw cy a u.1 u.2) 0 0 := by
  refine go_i (by decide +kernel) (Nat.le_of_ble_eq_true rfl) (Or.inl rfl) ?_
  intro p e s m args below meth c Q A ls C hnm hA w hl hend
  have hx := C.1
  have hb := C.2.1
  replace hl : lv_has ls 2 [(0, .ref (a 0)), (1, vI p0)] := hl
  refine lv_aload_n hx hb dX10_count_0 rfl (lv_at hl 0 rfl) ?_
  refine r_iconst hx hb dX10_count_1 ?_
  refine r_put C w 0 tyX10 tyX10_ok nmX10 rfl rfl 0 (by decide) inX10 kf_X10_97 rfl rfl rfl (Nat.le_of_ble_eq_true rfl) (ws' := mw cy a (uZ z 0 0) g) (mw_z0 cy a z g 0) dX10_count_2 (fun H locs w => ?_)
  have bz1 : (0 : Int) ≤ 0 ∧ (0 : Int) ≤ 1 := (by omega)
  refine lv_iload_n hx hb dX10_count_5 rfl (lv_at hl 1 rfl) ?_
  by_cases c6_0 : p0 = 0
  · refine r_tsI (k := 0) (tgt := 40) hx hb dX10_count_6 (by omega) c6_0 (by decide) rfl (by decide) ?_
    refine lv_aload_n hx hb dX10_count_40 rfl (lv_at hl 0 rfl) ?_
    refine r_get C w 0 (v := vI (z 12)) rfl rfl 23 (by decide) inX10 kf_X10_192 rfl dX10_count_41 ?_
    have qz2 := mZ12 hz
    exact hend (z 12) ((uZ z 0 0), g) _ _ _ _ dX10_count_44 w ⟨(by exact ⟨by omega, rfl⟩), (mBz_u hz 0 bz1), hg⟩
  by_cases c6_1 : p0 = 1
  · refine r_tsI (k := 1) (tgt := 45) hx hb dX10_count_6 (by omega) c6_1 (by decide) rfl (by decide) ?_
    refine lv_aload_n hx hb dX10_count_45 rfl (lv_at hl 0 rfl) ?_
    refine r_get C w 0 (v := vI (z 11)) rfl rfl 22 (by decide) inX10 kf_X10_180 rfl dX10_count_46 ?_
    have qz3 := mZ11 hz
    exact hend (z 11) ((uZ z 0 0), g) _ _ _ _ dX10_count_49 w ⟨(by exact ⟨by omega, rfl⟩), (mBz_u hz 0 bz1), hg⟩
  by_cases c6_2 : p0 = 2
  · refine r_tsI (k := 2) (tgt := 50) hx hb dX10_count_6 (by omega) c6_2 (by decide) rfl (by decide) ?_
    refine lv_aload_n hx hb dX10_count_50 rfl (lv_at hl 0 rfl) ?_
    refine r_get C w 0 (v := vI (z 13)) rfl rfl 34 (by decide) inX10 kf_X10_198 rfl dX10_count_51 ?_
    have qz4 := mZ13 hz
    exact hend (z 13) ((uZ z 0 0), g) _ _ _ _ dX10_count_54 w ⟨(by exact ⟨by omega, rfl⟩), (mBz_u hz 0 bz1), hg⟩
  by_cases c6_3 : p0 = 3
  · refine r_tsI (k := 3) (tgt := 55) hx hb dX10_count_6 (by omega) c6_3 (by decide) rfl (by decide) ?_
    refine lv_aload_n hx hb dX10_count_55 rfl (lv_at hl 0 rfl) ?_
    refine r_get C w 0 (v := vI (z 9)) rfl rfl 13 (by decide) inX10 kf_X10_158 rfl dX10_count_56 ?_
    have qz5 := mZ9 hz
    exact hend (z 9) ((uZ z 0 0), g) _ _ _ _ dX10_count_59 w ⟨(by exact ⟨by omega, rfl⟩), (mBz_u hz 0 bz1), hg⟩
  by_cases c6_4 : p0 = 4
  · refine r_tsI (k := 4) (tgt := 60) hx hb dX10_count_6 (by omega) c6_4 (by decide) rfl (by decide) ?_
    refine lv_aload_n hx hb dX10_count_60 rfl (lv_at hl 0 rfl) ?_
    refine r_get C w 0 (v := vI (z 1)) rfl rfl 2 (by decide) inX10 kf_X10_101 rfl dX10_count_61 ?_
    have qz6 := mZ1 hz
    exact hend (z 1) ((uZ z 0 0), g) _ _ _ _ dX10_count_64 w ⟨(by exact ⟨by omega, rfl⟩), (mBz_u hz 0 bz1), hg⟩
  refine r_tsO (tgt := 65) hx hb dX10_count_6 (by omega) (by omega) (by decide) ?_
  refine r_iconst hx hb dX10_count_65 ?_
  exact hend (-1) ((uZ z 0 0), g) _ _ _ _ dX10_count_66 w ⟨(by exact ⟨by omega, rfl⟩), (mBz_u hz 0 bz1), hg⟩

abbrev rm_X10_sent : Room := { frames := 1, cells := 0, slots := 0, locals := 22 }
set_option maxHeartbeats 4000000 in
set_option maxRecDepth 100000 in
theorem ct_X10_sent (l : Launch) (D : va_G) (cy : Nat → ClassId) (a : Nat → Nat) (z : Nat → Int) (g : Nat → Int → Int) (p0 : Int) (hz : mBz z) (hg : mBg g) (h0 : iR p0) : MI l yX10_sent cX10_sent 2 .int (rm_X10_sent) D cy (mw cy a z g) [.ref (a 0), vI p0] (fun (v : Int) (u : sX) => ((((z 14 ≠ 0 ∧ 0 ≤ p0 ∧ p0 < 4) ∧ v = g 28 p0) ∨ (¬ (z 14 ≠ 0 ∧ 0 ≤ p0 ∧ p0 < 4) ∧ v = -1)) ∧ u = (uZ z 0 0, g)) ∧ mBz u.1 ∧ mBg u.2) (fun u => mw cy a u.1 u.2) 0 0 := by
  refine go_i (by decide +kernel) (Nat.le_of_ble_eq_true rfl) (Or.inl rfl) ?_
  intro p e s m args below meth c Q A ls C hnm hA w hl hend
  have hx := C.1
  have hb := C.2.1
  replace hl : lv_has ls 2 [(0, .ref (a 0)), (1, vI p0)] := hl
  refine lv_aload_n hx hb dX10_sent_0 rfl (lv_at hl 0 rfl) ?_
  refine r_iconst hx hb dX10_sent_1 ?_
  refine r_put C w 0 tyX10 tyX10_ok nmX10 rfl rfl 0 (by decide) inX10 kf_X10_97 rfl rfl rfl (Nat.le_of_ble_eq_true rfl) (ws' := mw cy a (uZ z 0 0) g) (mw_z0 cy a z g 0) dX10_sent_2 (fun H locs w => ?_)
  have bz1 : (0 : Int) ≤ 0 ∧ (0 : Int) ≤ 1 := (by omega)
  refine lv_aload_n hx hb dX10_sent_5 rfl (lv_at hl 0 rfl) ?_
  refine r_get C w 0 (v := vI (z 14)) rfl rfl 42 (by decide) inX10 kf_X10_231 rfl dX10_sent_6 ?_
  have qz2 := mZ14 hz
  refine r_if_eq (tgt := 30) hx hb dX10_sent_9 (by decide) (by omega) (fun c9 => ?_) (fun c9 => ?_)
  · skip
    refine r_iconst hx hb dX10_sent_30 ?_
    exact hend (-1) ((uZ z 0 0), g) _ _ _ _ dX10_sent_31 w ⟨(by exact ⟨by omega, rfl⟩), (mBz_u hz 0 bz1), hg⟩
  · skip
    refine lv_iload_n hx hb dX10_sent_12 rfl (lv_at hl 1 rfl) ?_
    refine r_iconst hx hb dX10_sent_13 ?_
    refine r_iconst hx hb dX10_sent_14 ?_
    refine cSI C w hA (ct_X10_isIn l D cy a (uZ z 0 0) g p0 0 3 (by show iR p0; omega) (by show iR 0; omega) (by show iR 3; omega)) ok_X10_isIn km_X10_183 ⟨rfl, rfl⟩ ⟨by decide, by decide⟩ ⟨by decide, by decide⟩ rfl hl.1 rfl (Nat.le_of_ble_eq_true rfl) dX10_sent_15 (fun rv_1 uv_1 H locs w hp_1 => ?_)
    replace hp_1 : (rv_1 = 1 ∧ 0 ≤ p0 ∧ p0 ≤ 3) ∨ (rv_1 = 0 ∧ ¬ (0 ≤ p0 ∧ p0 ≤ 3)) := hp_1
    replace w : wd D A s.heap (mw cy a (uZ z 0 0) g) H locs := w
    refine r_if_eq (tgt := 30) hx hb dX10_sent_18 (by decide) (by omega) (fun c18 => ?_) (fun c18 => ?_)
    · skip
      refine r_iconst hx hb dX10_sent_30 ?_
      exact hend (-1) ((uZ z 0 0), g) _ _ _ _ dX10_sent_31 w ⟨(by exact ⟨by omega, rfl⟩), (mBz_u hz 0 bz1), hg⟩
    · skip
      refine lv_aload_n hx hb dX10_sent_21 rfl (lv_at hl 0 rfl) ?_
      refine r_get C w 0 (v := .ref (a 28)) rfl rfl 41 (by decide) inX10 kf_X10_94 rfl dX10_sent_22 ?_
      refine lv_iload_n hx hb dX10_sent_25 rfl (lv_at hl 1 rfl) ?_
      refine r_iald C w 28 (f := (g 28)) rfl (by omega) (by omega) (by decide) dX10_sent_26 ?_
      have qg3 := mB28 hg p0
      refine lv_goto (tgt := 31) hx hb dX10_sent_27 (by decide) ?_
      exact hend ((g 28) p0) ((uZ z 0 0), g) _ _ _ _ dX10_sent_31 w ⟨(by exact ⟨by omega, rfl⟩), (mBz_u hz 0 bz1), hg⟩

abbrev rm_X10_thrown : Room := { frames := 0, cells := 0, slots := 0, locals := 0 }
set_option maxHeartbeats 4000000 in
set_option maxRecDepth 100000 in
theorem ct_X10_thrown (l : Launch) (D : va_G) (cy : Nat → ClassId) (a : Nat → Nat) (z : Nat → Int) (g : Nat → Int → Int)  (hz : mBz z) (hg : mBg g) : MI l yX10_thrown cX10_thrown 1 .int (rm_X10_thrown) D cy (mw cy a z g) [.ref (a 0)] (fun (v : Int) (u : Unit) => v = z 0) (fun _ => mw cy a z g) 0 0 := by
  refine go_i (by decide +kernel) (Nat.le_of_ble_eq_true rfl) (Or.inl rfl) ?_
  intro p e s m args below meth c Q A ls C hnm hA w hl hend
  have hx := C.1
  have hb := C.2.1
  replace hl : lv_has ls 1 [(0, .ref (a 0))] := hl
  refine lv_aload_n hx hb dX10_thrown_0 rfl (lv_at hl 0 rfl) ?_
  refine r_get C w 0 (v := vI (z 0)) rfl rfl 0 (by decide) inX10 kf_X10_97 rfl dX10_thrown_1 ?_
  have qz1 := mZ0 hz
  exact hend (z 0) () _ _ _ _ dX10_thrown_4 w (by rfl)

abbrev rm_X10_next : Room := { frames := 0, cells := 0, slots := 0, locals := 0 }
set_option maxHeartbeats 4000000 in
set_option maxRecDepth 100000 in
theorem ct_X10_next (l : Launch) (D : va_G) (cy : Nat → ClassId) (a : Nat → Nat) (z : Nat → Int) (g : Nat → Int → Int)  (hz : mBz z) (hg : mBg g) (h8 : 0 ≤ g 2 8 ∧ g 2 8 ≤ 50) : MI l yX10_next cX10_next 2 .int (rm_X10_next) D cy (mw cy a z g) [.ref (a 0)] (fun (v : Int) (u : sX) => ((¬ z 12 < 999 ∧ v = -1 ∧ u = (uZ z 0 0, g)) ∨ (z 12 < 999 ∧ v = z 12 + 1 ∧ u = (uZ (uZ z 0 0) 12 (z 12 + 1), uZ (uZ g 8 (rotG (g 11) (g 8) (z 11) (g 2 8))) 13 (fun j => if 0 ≤ j ∧ j < 10 then g 12 j else g 13 j)))) ∧ mBz u.1 ∧ mBg u.2) (fun u => mw cy a u.1 u.2) 0 0 := by
  refine go_i (by decide +kernel) (Nat.le_of_ble_eq_true rfl) (Or.inl rfl) ?_
  intro p e s m args below meth c Q A ls C hnm hA w hl hend
  have hx := C.1
  have hb := C.2.1
  have bz0 : (0 : Int) ≤ 0 ∧ (0 : Int) ≤ 1 := by omega
  have b11 := mZ11 hz
  have b12 := mZ12 hz
  have J70 : ∀ N : Nat, ∀ (i : Int) (f : Int → Int) (f2 : Int → Int), (∀ j : Int, (0 : Int) ≤ f j ∧ f j ≤ 500) → (∀ j : Int, (0 : Int) ≤ f2 j ∧ f2 j ≤ 1000000) → (0 ≤ i ∧ i ≤ 10) → (z 12 < 999) → (∀ j, f j = rotG (g 11) (g 8) (z 11) (g 2 8) j) → (∀ j, f2 j = if 0 ≤ j ∧ j < i then g 12 j else g 13 j) → ((10 - i).toNat) < N → ∀ (H : Heap) (locs : List Loc) (ls : Array Slot), wd D A s.heap (mw cy a (uZ z 0 0) (uZ (uZ g 8 f) 13 f2)) H locs → lv_has ls 2 [(0, .ref (a 0)), (1, vI i)] → W p l e (rm_X10_next) s m args below meth c H locs 0 0 Q (F0 m 70 ls []) := by
    intro N
    induction N with
    | zero => intro i f f2 bf bf2 hi hday hf hf2 hN9; exact absurd hN9 (Nat.not_lt_zero _)
    | succ N ih70 =>
      intro i f f2 bf bf2 hi hday hf hf2 hN70 H locs ls w hl
      refine lv_iload_n hx hb dX10_next_70 rfl (lv_at hl 1 rfl) ?_
      refine r_bipush hx hb dX10_next_71 (by decide) ?_
      refine r_icmp_ge (tgt := 94) hx hb dX10_next_73 (by decide) (by omega) (by omega) (fun c73 => ?_) (fun c73 => ?_)
      · skip
        refine lv_aload_n hx hb dX10_next_94 rfl (lv_at hl 0 rfl) ?_
        refine lv_dup hx hb dX10_next_95 rfl ?_
        refine r_get C w 0 (v := vI (z 12)) rfl rfl 23 (by decide) inX10 kf_X10_192 rfl dX10_next_96 ?_
        have qz1 := mZ12 hz
        refine r_iconst hx hb dX10_next_99 ?_
        refine r_iadd hx hb dX10_next_100 ?_
        refine r_put C w 0 tyX10 tyX10_ok nmX10 rfl rfl 23 (by decide) inX10 kf_X10_192 rfl rfl rfl (Nat.le_of_ble_eq_true rfl) (ws' := mw cy a (uZ (uZ z 0 0) 12 ((z 12) + 1)) (uZ (uZ g 8 f) 13 f2)) (mw_z12 cy a (uZ z 0 0) (uZ (uZ g 8 f) 13 f2) ((z 12) + 1)) dX10_next_101 (fun H locs w => ?_)
        have bz2 : (0 : Int) ≤ ((z 12) + 1) ∧ (((z 12) + 1) : Int) ≤ 999 := (by omega)
        refine lv_aload_n hx hb dX10_next_104 rfl (lv_at hl 0 rfl) ?_
        refine r_get C w 0 (v := vI ((z 12) + 1)) rfl rfl 23 (by decide) inX10 kf_X10_192 rfl dX10_next_105 ?_
        exact hend ((z 12) + 1) ((uZ (uZ z 0 0) 12 ((z 12) + 1)), (uZ (uZ g 8 f) 13 f2)) _ _ _ _ dX10_next_108 w ⟨(by refine Or.inr ⟨by omega, rfl, ?_⟩; rw [show f = rotG (g 11) (g 8) (z 11) (g 2 8) from funext hf, show f2 = (fun j => if 0 ≤ j ∧ j < 10 then g 12 j else g 13 j) from funext (fun j => by rw [hf2, show i = 10 by omega])]), (mBz_u (mBz_u hz 0 bz0) 12 bz2), (mBg_u (mBg_u hg 8 bf) 13 bf2)⟩
      · skip
        refine lv_aload_n hx hb dX10_next_76 rfl (lv_at hl 0 rfl) ?_
        refine r_get C w 0 (v := .ref (a 13)) rfl rfl 25 (by decide) inX10 kf_X10_48 rfl dX10_next_77 ?_
        refine lv_iload_n hx hb dX10_next_80 rfl (lv_at hl 1 rfl) ?_
        refine lv_aload_n hx hb dX10_next_81 rfl (lv_at hl 0 rfl) ?_
        refine r_get C w 0 (v := .ref (a 12)) rfl rfl 24 (by decide) inX10 kf_X10_45 rfl dX10_next_82 ?_
        refine lv_iload_n hx hb dX10_next_85 rfl (lv_at hl 1 rfl) ?_
        refine r_iald C w 12 (f := (g 12)) rfl (by omega) (by omega) (by decide) dX10_next_86 ?_
        have qg3 := mB12 hg i
        refine r_iast C w 13 (f := f2) rfl (by omega) (by omega) (by decide) (ws' := mw cy a (uZ z 0 0) (uZ (uZ g 8 f) 13 (uI f2 i ((g 12) i)))) rfl dX10_next_87 (fun H locs w => ?_)
        have bg4 : ∀ j : Int, (0 : Int) ≤ (uI f2 i ((g 12) i)) j ∧ (uI f2 i ((g 12) i)) j ≤ 1000000 := uI_b bf2 (by omega)
        refine r_iinc (lv' := [(1, vI (i + 1)), (0, .ref (a 0))]) hx hb dX10_next_88 hl (k := 1) rfl (by decide) rfl (fun ls hl => ?_)
        refine lv_goto (tgt := 70) hx hb dX10_next_91 (by decide) ?_
        exact ih70 (i + 1) f (uI f2 i ((g 12) i)) bf bg4 (by omega) (by omega) (by exact hf) (by exact cpF_st hi.1 hf2) (by omega) _ _ _ w (lv_sub hl [1, 0] rfl)
  have J19 : ∀ N : Nat, ∀ (i : Int) (f : Int → Int), (∀ j : Int, (0 : Int) ≤ f j ∧ f j ≤ 500) → (0 ≤ i ∧ i ≤ z 11) → (z 12 < 999) → (∀ j, f j = rotG (g 11) (g 8) i (g 2 8) j) → ((z 11 - i).toNat) < N → ∀ (H : Heap) (locs : List Loc) (ls : Array Slot), wd D A s.heap (mw cy a (uZ z 0 0) (uZ g 8 f)) H locs → lv_has ls 2 [(0, .ref (a 0)), (1, vI i)] → W p l e (rm_X10_next) s m args below meth c H locs 0 0 Q (F0 m 19 ls []) := by
    intro N
    induction N with
    | zero => intro i f bf hi hday hf hN9; exact absurd hN9 (Nat.not_lt_zero _)
    | succ N ih19 =>
      intro i f bf hi hday hf hN19 H locs ls w hl
      refine lv_iload_n hx hb dX10_next_19 rfl (lv_at hl 1 rfl) ?_
      refine lv_aload_n hx hb dX10_next_20 rfl (lv_at hl 0 rfl) ?_
      refine r_get C w 0 (v := vI (z 11)) rfl rfl 22 (by decide) inX10 kf_X10_180 rfl dX10_next_21 ?_
      have qz5 := mZ11 hz
      refine r_icmp_ge (tgt := 68) hx hb dX10_next_24 (by decide) (by omega) (by omega) (fun c24 => ?_) (fun c24 => ?_)
      · skip
        refine r_iconst hx hb dX10_next_68 ?_
        refine lv_istore_n (lv' := [(1, vI 0), (0, .ref (a 0))]) hx hb dX10_next_69 rfl hl (by decide) rfl (fun ls hl => ?_)
        exact J70 _ 0 f (g 13) bf (mB13 hg) (by omega) (by omega) (by intro j; rw [hf, show i = z 11 by omega]) (by intro j; rw [if_neg (by omega)]) (Nat.lt_succ_self _) _ _ _ w (lv_sub hl [1, 0] rfl)
      · skip
        refine lv_aload_n hx hb dX10_next_27 rfl (lv_at hl 0 rfl) ?_
        refine r_get C w 0 (v := .ref (a 11)) rfl rfl 21 (by decide) inX10 kf_X10_42 rfl dX10_next_28 ?_
        refine lv_iload_n hx hb dX10_next_31 rfl (lv_at hl 1 rfl) ?_
        refine r_zald C w 11 (f := (g 11)) rfl (by omega) (by omega) (by decide) dX10_next_32 ?_
        have qg6 := mB11 hg i
        refine r_if_ne (tgt := 62) hx hb dX10_next_33 (by decide) (by omega) (fun c33 => ?_) (fun c33 => ?_)
        · skip
          refine r_iinc (lv' := [(1, vI (i + 1)), (0, .ref (a 0))]) hx hb dX10_next_62 hl (k := 1) rfl (by decide) rfl (fun ls hl => ?_)
          refine lv_goto (tgt := 19) hx hb dX10_next_65 (by decide) ?_
          exact ih19 (i + 1) f bf (by omega) (by omega) (by first | exact rotG_st hf hi.1 (by omega) | exact rotG_kp hf (by omega)) (by omega) _ _ _ w (lv_sub hl [1, 0] rfl)
        · skip
          refine lv_aload_n hx hb dX10_next_36 rfl (lv_at hl 0 rfl) ?_
          refine r_get C w 0 (v := .ref (a 8)) rfl rfl 18 (by decide) inX10 kf_X10_33 rfl dX10_next_37 ?_
          refine lv_iload_n hx hb dX10_next_40 rfl (lv_at hl 1 rfl) ?_
          refine lv_dup2_11 hx hb dX10_next_41 rfl rfl ?_
          refine r_iald C w 8 (f := f) rfl (by omega) (by omega) (by decide) dX10_next_42 ?_
          have qg7 := bf i
          refine lv_aload_n hx hb dX10_next_43 rfl (lv_at hl 0 rfl) ?_
          refine r_get C w 0 (v := .ref (a 8)) rfl rfl 18 (by decide) inX10 kf_X10_33 rfl dX10_next_44 ?_
          refine lv_iload_n hx hb dX10_next_47 rfl (lv_at hl 1 rfl) ?_
          refine r_iald C w 8 (f := f) rfl (by omega) (by omega) (by decide) dX10_next_48 ?_
          have qg8 := bf i
          have e1_ := rotF_b (bf i) h8
          refine lv_aload_n hx hb dX10_next_49 rfl (lv_at hl 0 rfl) ?_
          refine r_get C w 0 (v := .ref (a 2)) rfl rfl 5 (by decide) inX10 kf_X10_13 rfl dX10_next_50 ?_
          refine r_bipush hx hb dX10_next_53 (by decide) ?_
          refine r_iald C w 2 (f := (g 2)) rfl (by omega) (by omega) (by decide) dX10_next_55 ?_
          have qg9 := mB2 hg 8
          refine r_imul hx hb dX10_next_56 ?_
          refine r_bipush hx hb dX10_next_57 (by decide) ?_
          refine r_idiv hx hb dX10_next_59 (by omega) (by omega) ?_
          refine r_isub hx hb dX10_next_60 ?_
          refine r_iast C w 8 (f := f) rfl (by omega) (by omega) (by decide) (ws' := mw cy a (uZ z 0 0) (uZ g 8 (uI f i ((f i) - (((f i) * ((g 2) 8)) / 100))))) rfl dX10_next_61 (fun H locs w => ?_)
          have bg10 : ∀ j : Int, (0 : Int) ≤ (uI f i ((f i) - (((f i) * ((g 2) 8)) / 100))) j ∧ (uI f i ((f i) - (((f i) * ((g 2) 8)) / 100))) j ≤ 500 := uI_b bf (by omega)
          refine r_iinc (lv' := [(1, vI (i + 1)), (0, .ref (a 0))]) hx hb dX10_next_62 hl (k := 1) rfl (by decide) rfl (fun ls hl => ?_)
          refine lv_goto (tgt := 19) hx hb dX10_next_65 (by decide) ?_
          exact ih19 (i + 1) (uI f i ((f i) - (((f i) * ((g 2) 8)) / 100))) bg10 (by omega) (by omega) (by first | exact rotG_st hf hi.1 (by omega) | exact rotG_kp hf (by omega)) (by omega) _ _ _ w (lv_sub hl [1, 0] rfl)
  replace hl : lv_has ls 2 [(0, .ref (a 0))] := hl
  refine lv_aload_n hx hb dX10_next_0 rfl (lv_at hl 0 rfl) ?_
  refine r_iconst hx hb dX10_next_1 ?_
  refine r_put C w 0 tyX10 tyX10_ok nmX10 rfl rfl 0 (by decide) inX10 kf_X10_97 rfl rfl rfl (Nat.le_of_ble_eq_true rfl) (ws' := mw cy a (uZ z 0 0) g) (mw_z0 cy a z g 0) dX10_next_2 (fun H locs w => ?_)
  have bz11 : (0 : Int) ≤ 0 ∧ (0 : Int) ≤ 1 := (by omega)
  refine lv_aload_n hx hb dX10_next_5 rfl (lv_at hl 0 rfl) ?_
  refine r_get C w 0 (v := vI (z 12)) rfl rfl 23 (by decide) inX10 kf_X10_192 rfl dX10_next_6 ?_
  have qz12 := mZ12 hz
  refine r_sipush hx hb dX10_next_9 (by decide) ?_
  refine r_icmp_ne (tgt := 17) hx hb dX10_next_12 (by decide) (by omega) (by omega) (fun c12 => ?_) (fun c12 => ?_)
  · skip
    refine r_iconst hx hb dX10_next_17 ?_
    refine lv_istore_n (lv' := [(1, vI 0), (0, .ref (a 0))]) hx hb dX10_next_18 rfl hl (by decide) rfl (fun ls hl => ?_)
    exact J19 _ 0 (g 8) (mB8 hg) (by omega) (by omega) (by intro j; unfold rotG; rw [if_neg (by omega)]) (Nat.lt_succ_self _) _ _ _ w (lv_sub hl [1, 0] rfl)
  · skip
    refine r_iconst hx hb dX10_next_15 ?_
    exact hend (-1) ((uZ z 0 0), g) _ _ _ _ dX10_next_16 w ⟨(by exact Or.inl ⟨by omega, rfl, rfl⟩), (mBz_u hz 0 bz11), hg⟩
