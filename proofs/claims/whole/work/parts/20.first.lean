abbrev rm_X9_isBelow : Room := { frames := 0, cells := 0, slots := 0, locals := 0 }
set_option maxHeartbeats 4000000 in
set_option maxRecDepth 100000 in
theorem ct_X9_isBelow (l : Launch) (D : va_G) (cy : Nat → ClassId) (a : Nat → Nat) (z : Nat → Int) (g : Nat → Int → Int) (p0 p1 : Int) (h0 : iR p0) (h1 : iR p1) : MI l yX9_isBelow cX9_isBelow 2 .boolean (rm_X9_isBelow) D cy (xw cy a z g) [vI p0, vI p1] (fun (v : Int) (u : Unit) => (v = 1 ∧ 0 ≤ p0 ∧ p0 < p1) ∨ (v = 0 ∧ ¬ (0 ≤ p0 ∧ p0 < p1))) (fun _ => xw cy a z g) 0 0 := by
  refine go_i (by decide +kernel) (Nat.le_of_ble_eq_true rfl) (Or.inr (fun v u h => nb01 (by omega))) ?_
  intro p e s m args below meth c Q A ls C hnm hA w hl hend
  have hx := C.1
  have hb := C.2.1
  replace hl : lv_has ls 2 [(0, vI p0), (1, vI p1)] := hl
  refine lv_iload_n hx hb dX9_isBelow_0 rfl (lv_at hl 0 rfl) ?_
  refine r_if_lt (tgt := 13) hx hb dX9_isBelow_1 (by decide) (by omega) (fun c1 => ?_) (fun c1 => ?_)
  · skip
    refine r_iconst hx hb dX9_isBelow_13 ?_
    exact hend 0 () _ _ _ _ dX9_isBelow_14 w (by omega)
  · skip
    refine lv_iload_n hx hb dX9_isBelow_4 rfl (lv_at hl 0 rfl) ?_
    refine lv_iload_n hx hb dX9_isBelow_5 rfl (lv_at hl 1 rfl) ?_
    refine r_icmp_ge (tgt := 13) hx hb dX9_isBelow_6 (by decide) (by omega) (by omega) (fun c6 => ?_) (fun c6 => ?_)
    · skip
      refine r_iconst hx hb dX9_isBelow_13 ?_
      exact hend 0 () _ _ _ _ dX9_isBelow_14 w (by omega)
    · skip
      refine r_iconst hx hb dX9_isBelow_9 ?_
      refine lv_goto (tgt := 14) hx hb dX9_isBelow_10 (by decide) ?_
      exact hend 1 () _ _ _ _ dX9_isBelow_14 w (by omega)

abbrev rm_X0_wantPlace : Room := { frames := 0, cells := 0, slots := 0, locals := 0 }
set_option maxHeartbeats 4000000 in
set_option maxRecDepth 100000 in
theorem ct_X0_wantPlace (l : Launch) (D : va_G) (cy : Nat → ClassId) (a : Nat → Nat) (z : Nat → Int) (g : Nat → Int → Int) (p0 p1 p2 : Int)  : MI l yX0_wantPlace cX0_wantPlace 3 .int (rm_X0_wantPlace) D cy (xw cy a z g) [vI p0, vI p1, vI p2] (fun (v : Int) (u : Unit) => v = (p0 * 4 + p1) * 4 + p2) (fun _ => xw cy a z g) 0 0 := by
  refine go_i (by decide +kernel) (Nat.le_of_ble_eq_true rfl) (Or.inl rfl) ?_
  intro p e s m args below meth c Q A ls C hnm hA w hl hend
  have hx := C.1
  have hb := C.2.1
  replace hl : lv_has ls 3 [(0, vI p0), (1, vI p1), (2, vI p2)] := hl
  refine lv_iload_n hx hb dX0_wantPlace_0 rfl (lv_at hl 0 rfl) ?_
  refine r_iconst hx hb dX0_wantPlace_1 ?_
  refine r_imul hx hb dX0_wantPlace_2 ?_
  refine lv_iload_n hx hb dX0_wantPlace_3 rfl (lv_at hl 1 rfl) ?_
  refine r_iadd hx hb dX0_wantPlace_4 ?_
  refine r_iconst hx hb dX0_wantPlace_5 ?_
  refine r_imul hx hb dX0_wantPlace_6 ?_
  refine lv_iload_n hx hb dX0_wantPlace_7 rfl (lv_at hl 2 rfl) ?_
  refine r_iadd hx hb dX0_wantPlace_8 ?_
  exact hend ((((p0 * 4) + p1) * 4) + p2) () _ _ _ _ dX0_wantPlace_9 w (by rfl)

abbrev rm_X7_countsAsOf : Room := { frames := 0, cells := 0, slots := 0, locals := 0 }
set_option maxHeartbeats 4000000 in
set_option maxRecDepth 100000 in
theorem ct_X7_countsAsOf (l : Launch) (D : va_G) (cy : Nat → ClassId) (a : Nat → Nat) (z : Nat → Int) (g : Nat → Int → Int) (p0 p1 : Int) (hz : xBz z) (hg : xBg g) (h0 : 0 ≤ p0 ∧ p0 < 400) (h1 : iR p1) : MI l yX7_countsAsOf cX7_countsAsOf 3 .boolean (rm_X7_countsAsOf) D cy (xw cy a z g) [.ref (a 20), vI p0, vI p1] (fun (v : Int) (u : Unit) => (v = 1 ∧ g 23 p0 ≤ p1 ∧ (g 26 p0 = -1 ∨ p1 < g 26 p0)) ∨ (v = 0 ∧ ¬ (g 23 p0 ≤ p1 ∧ (g 26 p0 = -1 ∨ p1 < g 26 p0)))) (fun _ => xw cy a z g) 0 0 := by
  refine go_i (by decide +kernel) (Nat.le_of_ble_eq_true rfl) (Or.inr (fun v u h => nb01 (by omega))) ?_
  intro p e s m args below meth c Q A ls C hnm hA w hl hend
  have hx := C.1
  have hb := C.2.1
  replace hl : lv_has ls 3 [(0, .ref (a 20)), (1, vI p0), (2, vI p1)] := hl
  refine lv_aload_n hx hb dX7_countsAsOf_0 rfl (lv_at hl 0 rfl) ?_
  refine r_get C w 20 (v := .ref (a 23)) rfl rfl 2 (by decide) inX7 kf_X7_18 rfl dX7_countsAsOf_1 ?_
  refine lv_iload_n hx hb dX7_countsAsOf_4 rfl (lv_at hl 1 rfl) ?_
  refine r_iald C w 23 (f := (g 23)) rfl (by omega) (by omega) (by decide) dX7_countsAsOf_5 ?_
  have qg1 := xB23 hg p0
  refine lv_iload_n hx hb dX7_countsAsOf_6 rfl (lv_at hl 2 rfl) ?_
  refine r_icmp_gt (tgt := 34) hx hb dX7_countsAsOf_7 (by decide) (by omega) (by omega) (fun c7 => ?_) (fun c7 => ?_)
  · skip
    refine r_iconst hx hb dX7_countsAsOf_34 ?_
    exact hend 0 () _ _ _ _ dX7_countsAsOf_35 w (by omega)
  · skip
    refine lv_aload_n hx hb dX7_countsAsOf_10 rfl (lv_at hl 0 rfl) ?_
    refine r_get C w 20 (v := .ref (a 26)) rfl rfl 5 (by decide) inX7 kf_X7_27 rfl dX7_countsAsOf_11 ?_
    refine lv_iload_n hx hb dX7_countsAsOf_14 rfl (lv_at hl 1 rfl) ?_
    refine r_iald C w 26 (f := (g 26)) rfl (by omega) (by omega) (by decide) dX7_countsAsOf_15 ?_
    have qg2 := xB26 hg p0
    refine r_iconst hx hb dX7_countsAsOf_16 ?_
    refine r_icmp_eq (tgt := 30) hx hb dX7_countsAsOf_17 (by decide) (by omega) (by omega) (fun c17 => ?_) (fun c17 => ?_)
    · skip
      refine r_iconst hx hb dX7_countsAsOf_30 ?_
      refine lv_goto (tgt := 35) hx hb dX7_countsAsOf_31 (by decide) ?_
      exact hend 1 () _ _ _ _ dX7_countsAsOf_35 w (by omega)
    · skip
      refine lv_aload_n hx hb dX7_countsAsOf_20 rfl (lv_at hl 0 rfl) ?_
      refine r_get C w 20 (v := .ref (a 26)) rfl rfl 5 (by decide) inX7 kf_X7_27 rfl dX7_countsAsOf_21 ?_
      refine lv_iload_n hx hb dX7_countsAsOf_24 rfl (lv_at hl 1 rfl) ?_
      refine r_iald C w 26 (f := (g 26)) rfl (by omega) (by omega) (by decide) dX7_countsAsOf_25 ?_
      have qg3 := xB26 hg p0
      refine lv_iload_n hx hb dX7_countsAsOf_26 rfl (lv_at hl 2 rfl) ?_
      refine r_icmp_le (tgt := 34) hx hb dX7_countsAsOf_27 (by decide) (by omega) (by omega) (fun c27 => ?_) (fun c27 => ?_)
      · skip
        refine r_iconst hx hb dX7_countsAsOf_34 ?_
        exact hend 0 () _ _ _ _ dX7_countsAsOf_35 w (by omega)
      · skip
        refine r_iconst hx hb dX7_countsAsOf_30 ?_
        refine lv_goto (tgt := 35) hx hb dX7_countsAsOf_31 (by decide) ?_
        exact hend 1 () _ _ _ _ dX7_countsAsOf_35 w (by omega)

abbrev rm_X8_byteAt : Room := { frames := 0, cells := 0, slots := 0, locals := 0 }
set_option maxHeartbeats 4000000 in
set_option maxRecDepth 100000 in
theorem ct_X8_byteAt (l : Launch) (D : va_G) (cy : Nat → ClassId) (a : Nat → Nat) (z : Nat → Int) (g : Nat → Int → Int) (p0 : Int) (hz : xBz z) (hg : xBg g) (h0 : iR p0) : MI l yX8_byteAt cX8_byteAt 2 .int (rm_X8_byteAt) D cy (xw cy a z g) [.ref (a 1), vI p0] (fun (v : Int) (u : Unit) => (0 ≤ p0 ∧ p0 < z 2 ∧ v = g 2 p0) ∨ (¬ (0 ≤ p0 ∧ p0 < z 2) ∧ v = 0)) (fun _ => xw cy a z g) 0 0 := by
  refine go_i (by decide +kernel) (Nat.le_of_ble_eq_true rfl) (Or.inl rfl) ?_
  intro p e s m args below meth c Q A ls C hnm hA w hl hend
  have hx := C.1
  have hb := C.2.1
  replace hl : lv_has ls 2 [(0, .ref (a 1)), (1, vI p0)] := hl
  refine lv_iload_n hx hb dX8_byteAt_0 rfl (lv_at hl 1 rfl) ?_
  refine r_if_lt (tgt := 21) hx hb dX8_byteAt_1 (by decide) (by omega) (fun c1 => ?_) (fun c1 => ?_)
  · skip
    refine r_iconst hx hb dX8_byteAt_21 ?_
    exact hend 0 () _ _ _ _ dX8_byteAt_22 w (by omega)
  · skip
    refine lv_iload_n hx hb dX8_byteAt_4 rfl (lv_at hl 1 rfl) ?_
    refine lv_aload_n hx hb dX8_byteAt_5 rfl (lv_at hl 0 rfl) ?_
    refine r_get C w 1 (v := vI (z 2)) rfl rfl 1 (by decide) inX8 kf_X8_15 rfl dX8_byteAt_6 ?_
    have qz1 := xZ2 hz
    refine r_icmp_ge (tgt := 21) hx hb dX8_byteAt_9 (by decide) (by omega) (by omega) (fun c9 => ?_) (fun c9 => ?_)
    · skip
      refine r_iconst hx hb dX8_byteAt_21 ?_
      exact hend 0 () _ _ _ _ dX8_byteAt_22 w (by omega)
    · skip
      refine lv_aload_n hx hb dX8_byteAt_12 rfl (lv_at hl 0 rfl) ?_
      refine r_get C w 1 (v := .ref (a 2)) rfl rfl 0 (by decide) inX8 kf_X8_9 rfl dX8_byteAt_13 ?_
      refine lv_iload_n hx hb dX8_byteAt_16 rfl (lv_at hl 1 rfl) ?_
      refine r_iald C w 2 (f := (g 2)) rfl (by omega) (by omega) (by decide) dX8_byteAt_17 ?_
      have qg2 := xB2 hg p0
      refine lv_goto (tgt := 22) hx hb dX8_byteAt_18 (by decide) ?_
      exact hend ((g 2) p0) () _ _ _ _ dX8_byteAt_22 w (by omega)

abbrev rm_X8_pairAt : Room := { frames := 1, cells := 0, slots := 0, locals := 21 }
set_option maxHeartbeats 4000000 in
set_option maxRecDepth 100000 in
theorem ct_X8_pairAt (l : Launch) (D : va_G) (cy : Nat → ClassId) (a : Nat → Nat) (z : Nat → Int) (g : Nat → Int → Int) (p0 : Int) (hz : xBz z) (hg : xBg g) (h0 : 0 ≤ p0 ∧ p0 + 1 < z 2) : MI l yX8_pairAt cX8_pairAt 2 .int (rm_X8_pairAt) D cy (xw cy a z g) [.ref (a 1), vI p0] (fun (v : Int) (u : Unit) => v = g 2 p0 * 256 + g 2 (p0 + 1)) (fun _ => xw cy a z g) 0 0 := by
  refine go_i (by decide +kernel) (Nat.le_of_ble_eq_true rfl) (Or.inl rfl) ?_
  intro p e s m args below meth c Q A ls C hnm hA w hl hend
  have hx := C.1
  have hb := C.2.1
  have b2 := xZ2 hz
  replace hl : lv_has ls 2 [(0, .ref (a 1)), (1, vI p0)] := hl
  refine lv_aload_n hx hb dX8_pairAt_0 rfl (lv_at hl 0 rfl) ?_
  refine lv_iload_n hx hb dX8_pairAt_1 rfl (lv_at hl 1 rfl) ?_
  refine cVI C w hA (ct_X8_byteAt l D cy a z g p0 hz hg (by show iR p0; omega)) ok_X8_byteAt km_X8_19 ⟨rfl, rfl⟩ ⟨by decide, by decide⟩ ⟨by decide, by decide⟩ rfl 1 rfl rfl hl.1 rfl (Nat.le_of_ble_eq_true rfl) dX8_pairAt_2 (fun rv_1 uv_1 H locs w hp_1 => ?_)
  replace hp_1 : (0 ≤ p0 ∧ p0 < (z 2) ∧ rv_1 = (g 2) p0) ∨ (¬ (0 ≤ p0 ∧ p0 < (z 2)) ∧ rv_1 = 0) := hp_1
  replace w : wd D A s.heap (xw cy a z g) H locs := w
  refine r_sipush hx hb dX8_pairAt_5 (by decide) ?_
  refine r_imul hx hb dX8_pairAt_8 ?_
  refine lv_aload_n hx hb dX8_pairAt_9 rfl (lv_at hl 0 rfl) ?_
  refine lv_iload_n hx hb dX8_pairAt_10 rfl (lv_at hl 1 rfl) ?_
  refine r_iconst hx hb dX8_pairAt_11 ?_
  refine r_iadd hx hb dX8_pairAt_12 ?_
  refine cVI C w hA (ct_X8_byteAt l D cy a z g (p0 + 1) hz hg (by show iR (p0 + 1); omega)) ok_X8_byteAt km_X8_19 ⟨rfl, rfl⟩ ⟨by decide, by decide⟩ ⟨by decide, by decide⟩ rfl 1 rfl rfl hl.1 rfl (Nat.le_of_ble_eq_true rfl) dX8_pairAt_13 (fun rv_2 uv_2 H locs w hp_2 => ?_)
  replace hp_2 : (0 ≤ (p0 + 1) ∧ (p0 + 1) < (z 2) ∧ rv_2 = (g 2) (p0 + 1)) ∨ (¬ (0 ≤ (p0 + 1) ∧ (p0 + 1) < (z 2)) ∧ rv_2 = 0) := hp_2
  replace w : wd D A s.heap (xw cy a z g) H locs := w
  refine r_iadd hx hb dX8_pairAt_16 ?_
  exact hend ((rv_1 * 256) + rv_2) () _ _ _ _ dX8_pairAt_17 w (by rw [show rv_1 = g 2 p0 by omega, show rv_2 = g 2 (p0 + 1) by omega])

def tp4 (f : Int → Int) (n p : Int) : Int → Int := uI (uI (uI (uI f n (p % 4294967296 / 2 ^ 24)) (n + 1) (p % 4294967296 / 2 ^ 16 % 2 ^ 8)) (n + 2) (p % 4294967296 / 2 ^ 8 % 2 ^ 8)) (n + 3) (p % 2 ^ 8)
abbrev rm_X8_append : Room := { frames := 0, cells := 0, slots := 0, locals := 0 }
set_option maxHeartbeats 4000000 in
set_option maxRecDepth 100000 in
theorem ct_X8_append (l : Launch) (D : va_G) (cy : Nat → ClassId) (a : Nat → Nat) (z : Nat → Int) (g : Nat → Int → Int) (p0 : Int) (hz : xBz z) (hg : xBg g) (h0 : iR p0) (h1 : z 2 + 4 ≤ 200) : MV l yX8_append cX8_append 2 (rm_X8_append) D cy (xw cy a z g) [.ref (a 1), vI p0] (fun (u : sX) => (u.1 = uZ z 2 (z 2 + 4) ∧ u.2 = uZ g 2 (tp4 (g 2) (z 2) p0)) ∧ xBz u.1 ∧ xBg u.2) (fun u => xw cy a u.1 u.2) 0 0 := by
  refine go_v (by decide +kernel) (Nat.le_of_ble_eq_true rfl) ?_
  intro p e s m args below meth c Q A ls C hnm hA w hl hend
  have hx := C.1
  have hb := C.2.1
  replace hl : lv_has ls 2 [(0, .ref (a 1)), (1, vI p0)] := hl
  refine lv_aload_n hx hb dX8_append_0 rfl (lv_at hl 0 rfl) ?_
  refine r_get C w 1 (v := vI (z 2)) rfl rfl 1 (by decide) inX8 kf_X8_15 rfl dX8_append_1 ?_
  have qz1 := xZ2 hz
  refine r_iconst hx hb dX8_append_4 ?_
  refine r_iadd hx hb dX8_append_5 ?_
  refine r_sipush hx hb dX8_append_6 (by decide) ?_
  refine r_icmp_le (tgt := 13) hx hb dX8_append_9 (by decide) (by omega) (by omega) (fun c9 => ?_) (fun c9 => ?_)
  · skip
    refine lv_aload_n hx hb dX8_append_13 rfl (lv_at hl 0 rfl) ?_
    refine r_get C w 1 (v := .ref (a 2)) rfl rfl 0 (by decide) inX8 kf_X8_9 rfl dX8_append_14 ?_
    refine lv_aload_n hx hb dX8_append_17 rfl (lv_at hl 0 rfl) ?_
    refine r_get C w 1 (v := vI (z 2)) rfl rfl 1 (by decide) inX8 kf_X8_15 rfl dX8_append_18 ?_
    have qz2 := xZ2 hz
    refine lv_iload_n hx hb dX8_append_21 rfl (lv_at hl 1 rfl) ?_
    refine r_bipush hx hb dX8_append_22 (by decide) ?_
    refine r_iushr hx hb 24 dX8_append_24 (by decide) ?_
    refine r_iast C w 2 (f := (g 2)) rfl (by omega) (by omega) (by decide) (ws' := xw cy a z (uZ g 2 (uI (g 2) (z 2) (p0 % 4294967296 / 2 ^ 24)))) (xw_g2 cy a z g (uI (g 2) (z 2) (p0 % 4294967296 / 2 ^ 24))) dX8_append_25 (fun H locs w => ?_)
    have bg3 : ∀ j : Int, (0 : Int) ≤ (uI (g 2) (z 2) (p0 % 4294967296 / 2 ^ 24)) j ∧ (uI (g 2) (z 2) (p0 % 4294967296 / 2 ^ 24)) j ≤ 255 := uI_b (xB2 hg) (by omega)
    refine lv_aload_n hx hb dX8_append_26 rfl (lv_at hl 0 rfl) ?_
    refine r_get C w 1 (v := .ref (a 2)) rfl rfl 0 (by decide) inX8 kf_X8_9 rfl dX8_append_27 ?_
    refine lv_aload_n hx hb dX8_append_30 rfl (lv_at hl 0 rfl) ?_
    refine r_get C w 1 (v := vI (z 2)) rfl rfl 1 (by decide) inX8 kf_X8_15 rfl dX8_append_31 ?_
    have qz4 := xZ2 hz
    refine r_iconst hx hb dX8_append_34 ?_
    refine r_iadd hx hb dX8_append_35 ?_
    refine lv_iload_n hx hb dX8_append_36 rfl (lv_at hl 1 rfl) ?_
    refine r_bipush hx hb dX8_append_37 (by decide) ?_
    refine r_iushr hx hb 16 dX8_append_39 (by decide) ?_
    refine r_sipush hx hb dX8_append_40 (by decide) ?_
    refine r_iand hx hb 8 dX8_append_43 rfl (by decide) ?_
    refine r_iast C w 2 (f := (uI (g 2) (z 2) (p0 % 4294967296 / 2 ^ 24))) rfl (by omega) (by omega) (by decide) (ws' := xw cy a z (uZ g 2 (uI (uI (g 2) (z 2) (p0 % 4294967296 / 2 ^ 24)) ((z 2) + 1) ((p0 % 4294967296 / 2 ^ 16) % 2 ^ 8)))) rfl dX8_append_44 (fun H locs w => ?_)
    have bg5 : ∀ j : Int, (0 : Int) ≤ (uI (uI (g 2) (z 2) (p0 % 4294967296 / 2 ^ 24)) ((z 2) + 1) ((p0 % 4294967296 / 2 ^ 16) % 2 ^ 8)) j ∧ (uI (uI (g 2) (z 2) (p0 % 4294967296 / 2 ^ 24)) ((z 2) + 1) ((p0 % 4294967296 / 2 ^ 16) % 2 ^ 8)) j ≤ 255 := uI_b bg3 (by omega)
    refine lv_aload_n hx hb dX8_append_45 rfl (lv_at hl 0 rfl) ?_
    refine r_get C w 1 (v := .ref (a 2)) rfl rfl 0 (by decide) inX8 kf_X8_9 rfl dX8_append_46 ?_
    refine lv_aload_n hx hb dX8_append_49 rfl (lv_at hl 0 rfl) ?_
    refine r_get C w 1 (v := vI (z 2)) rfl rfl 1 (by decide) inX8 kf_X8_15 rfl dX8_append_50 ?_
    have qz6 := xZ2 hz
    refine r_iconst hx hb dX8_append_53 ?_
    refine r_iadd hx hb dX8_append_54 ?_
    refine lv_iload_n hx hb dX8_append_55 rfl (lv_at hl 1 rfl) ?_
    refine r_bipush hx hb dX8_append_56 (by decide) ?_
    refine r_iushr hx hb 8 dX8_append_58 (by decide) ?_
    refine r_sipush hx hb dX8_append_59 (by decide) ?_
    refine r_iand hx hb 8 dX8_append_62 rfl (by decide) ?_
    refine r_iast C w 2 (f := (uI (uI (g 2) (z 2) (p0 % 4294967296 / 2 ^ 24)) ((z 2) + 1) ((p0 % 4294967296 / 2 ^ 16) % 2 ^ 8))) rfl (by omega) (by omega) (by decide) (ws' := xw cy a z (uZ g 2 (uI (uI (uI (g 2) (z 2) (p0 % 4294967296 / 2 ^ 24)) ((z 2) + 1) ((p0 % 4294967296 / 2 ^ 16) % 2 ^ 8)) ((z 2) + 2) ((p0 % 4294967296 / 2 ^ 8) % 2 ^ 8)))) rfl dX8_append_63 (fun H locs w => ?_)
    have bg7 : ∀ j : Int, (0 : Int) ≤ (uI (uI (uI (g 2) (z 2) (p0 % 4294967296 / 2 ^ 24)) ((z 2) + 1) ((p0 % 4294967296 / 2 ^ 16) % 2 ^ 8)) ((z 2) + 2) ((p0 % 4294967296 / 2 ^ 8) % 2 ^ 8)) j ∧ (uI (uI (uI (g 2) (z 2) (p0 % 4294967296 / 2 ^ 24)) ((z 2) + 1) ((p0 % 4294967296 / 2 ^ 16) % 2 ^ 8)) ((z 2) + 2) ((p0 % 4294967296 / 2 ^ 8) % 2 ^ 8)) j ≤ 255 := uI_b bg5 (by omega)
    refine lv_aload_n hx hb dX8_append_64 rfl (lv_at hl 0 rfl) ?_
    refine r_get C w 1 (v := .ref (a 2)) rfl rfl 0 (by decide) inX8 kf_X8_9 rfl dX8_append_65 ?_
    refine lv_aload_n hx hb dX8_append_68 rfl (lv_at hl 0 rfl) ?_
    refine r_get C w 1 (v := vI (z 2)) rfl rfl 1 (by decide) inX8 kf_X8_15 rfl dX8_append_69 ?_
    have qz8 := xZ2 hz
    refine r_iconst hx hb dX8_append_72 ?_
    refine r_iadd hx hb dX8_append_73 ?_
    refine lv_iload_n hx hb dX8_append_74 rfl (lv_at hl 1 rfl) ?_
    refine r_sipush hx hb dX8_append_75 (by decide) ?_
    refine r_iand hx hb 8 dX8_append_78 rfl (by decide) ?_
    refine r_iast C w 2 (f := (uI (uI (uI (g 2) (z 2) (p0 % 4294967296 / 2 ^ 24)) ((z 2) + 1) ((p0 % 4294967296 / 2 ^ 16) % 2 ^ 8)) ((z 2) + 2) ((p0 % 4294967296 / 2 ^ 8) % 2 ^ 8))) rfl (by omega) (by omega) (by decide) (ws' := xw cy a z (uZ g 2 (uI (uI (uI (uI (g 2) (z 2) (p0 % 4294967296 / 2 ^ 24)) ((z 2) + 1) ((p0 % 4294967296 / 2 ^ 16) % 2 ^ 8)) ((z 2) + 2) ((p0 % 4294967296 / 2 ^ 8) % 2 ^ 8)) ((z 2) + 3) (p0 % 2 ^ 8)))) rfl dX8_append_79 (fun H locs w => ?_)
    have bg9 : ∀ j : Int, (0 : Int) ≤ (uI (uI (uI (uI (g 2) (z 2) (p0 % 4294967296 / 2 ^ 24)) ((z 2) + 1) ((p0 % 4294967296 / 2 ^ 16) % 2 ^ 8)) ((z 2) + 2) ((p0 % 4294967296 / 2 ^ 8) % 2 ^ 8)) ((z 2) + 3) (p0 % 2 ^ 8)) j ∧ (uI (uI (uI (uI (g 2) (z 2) (p0 % 4294967296 / 2 ^ 24)) ((z 2) + 1) ((p0 % 4294967296 / 2 ^ 16) % 2 ^ 8)) ((z 2) + 2) ((p0 % 4294967296 / 2 ^ 8) % 2 ^ 8)) ((z 2) + 3) (p0 % 2 ^ 8)) j ≤ 255 := uI_b bg7 (by omega)
    refine lv_aload_n hx hb dX8_append_80 rfl (lv_at hl 0 rfl) ?_
    refine lv_dup hx hb dX8_append_81 rfl ?_
    refine r_get C w 1 (v := vI (z 2)) rfl rfl 1 (by decide) inX8 kf_X8_15 rfl dX8_append_82 ?_
    have qz10 := xZ2 hz
    refine r_iconst hx hb dX8_append_85 ?_
    refine r_iadd hx hb dX8_append_86 ?_
    refine r_put C w 1 tyX8 tyX8_ok nmX8 rfl rfl 1 (by decide) inX8 kf_X8_15 rfl rfl rfl (Nat.le_of_ble_eq_true rfl) (ws' := xw cy a (uZ z 2 ((z 2) + 4)) (uZ g 2 (uI (uI (uI (uI (g 2) (z 2) (p0 % 4294967296 / 2 ^ 24)) ((z 2) + 1) ((p0 % 4294967296 / 2 ^ 16) % 2 ^ 8)) ((z 2) + 2) ((p0 % 4294967296 / 2 ^ 8) % 2 ^ 8)) ((z 2) + 3) (p0 % 2 ^ 8)))) (xw_z2 cy a z (uZ g 2 (uI (uI (uI (uI (g 2) (z 2) (p0 % 4294967296 / 2 ^ 24)) ((z 2) + 1) ((p0 % 4294967296 / 2 ^ 16) % 2 ^ 8)) ((z 2) + 2) ((p0 % 4294967296 / 2 ^ 8) % 2 ^ 8)) ((z 2) + 3) (p0 % 2 ^ 8))) ((z 2) + 4)) dX8_append_87 (fun H locs w => ?_)
    have bz11 : (0 : Int) ≤ ((z 2) + 4) ∧ (((z 2) + 4) : Int) ≤ 200 := (by omega)
    exact hend ((uZ z 2 ((z 2) + 4)), (uZ g 2 (uI (uI (uI (uI (g 2) (z 2) (p0 % 4294967296 / 2 ^ 24)) ((z 2) + 1) ((p0 % 4294967296 / 2 ^ 16) % 2 ^ 8)) ((z 2) + 2) ((p0 % 4294967296 / 2 ^ 8) % 2 ^ 8)) ((z 2) + 3) (p0 % 2 ^ 8)))) _ _ _ _ dX8_append_90 w ⟨(by exact ⟨rfl, rfl⟩), (xBz_u hz 2 bz11), (xBg_u hg 2 bg9)⟩
  · skip
    exact absurd c9 (by omega)

abbrev rm_X9_feed : Room := { frames := 1, cells := 0, slots := 0, locals := 21 }
set_option maxHeartbeats 4000000 in
set_option maxRecDepth 100000 in
theorem ct_X9_feed (l : Launch) (D : va_G) (cy : Nat → ClassId) (a : Nat → Nat) (z : Nat → Int) (g : Nat → Int → Int) (p0 p1 p2 p3 p4 : Int) (hz : xBz z) (hg : xBg g) (h0 : iR p0) (h1 : iR p1) (h2 : iR p2) (h3 : iR p3) (h4 : iR p4) : MI l yX9_feed cX9_feed 6 .int (rm_X9_feed) D cy (xw cy a z g) [.ref (a 0), vI p0, vI p1, vI p2, vI p3, vI p4] (fun (v : Int) (u : sX) => ((200 < z 2 + 20 ∧ v = -1 ∧ u = (z, g)) ∨ (z 2 + 20 ≤ 200 ∧ v = z 2 + 20 ∧ u.1 = uZ z 2 (z 2 + 20) ∧ u.2 = uZ g 2 (tp4 (tp4 (tp4 (tp4 (tp4 (g 2) (z 2) p0) (z 2 + 4) p1) (z 2 + 8) p2) (z 2 + 12) p3) (z 2 + 16) p4))) ∧ xBz u.1 ∧ xBg u.2) (fun u => xw cy a u.1 u.2) 0 0 := by
  refine go_i (by decide +kernel) (Nat.le_of_ble_eq_true rfl) (Or.inl rfl) ?_
  intro p e s m args below meth c Q A ls C hnm hA w hl hend
  have hx := C.1
  have hb := C.2.1
  replace hl : lv_has ls 6 [(0, .ref (a 0)), (1, vI p0), (2, vI p1), (3, vI p2), (4, vI p3), (5, vI p4)] := hl
  refine lv_aload_n hx hb dX9_feed_0 rfl (lv_at hl 0 rfl) ?_
  refine r_get C w 0 (v := .ref (a 1)) rfl rfl 0 (by decide) inX9 kf_X9_10 rfl dX9_feed_1 ?_
  refine r_getN C w 1 (v := vI (z 2)) rfl rfl 1 (by decide) inX8 kt_X9_89 rfl dX9_feed_4 ?_
  have qz1 := xZ2 hz
  refine r_bipush hx hb dX9_feed_7 (by decide) ?_
  refine r_iadd hx hb dX9_feed_9 ?_
  refine r_sipush hx hb dX9_feed_10 (by decide) ?_
  refine r_icmp_le (tgt := 18) hx hb dX9_feed_13 (by decide) (by omega) (by omega) (fun c13 => ?_) (fun c13 => ?_)
  · skip
    refine lv_aload_n hx hb dX9_feed_18 rfl (lv_at hl 0 rfl) ?_
    refine r_get C w 0 (v := .ref (a 1)) rfl rfl 0 (by decide) inX9 kf_X9_10 rfl dX9_feed_19 ?_
    refine lv_iload_n hx hb dX9_feed_22 rfl (lv_at hl 1 rfl) ?_
    refine cVV C w hA (ct_X8_append l D cy a z g p0 hz hg (by show iR p0; omega) (by show (z 2) + 4 ≤ 200; omega)) ok_X8_append km_X9_92 ⟨rfl, rfl⟩ ⟨by decide, by decide⟩ ⟨by decide, by decide⟩ rfl 1 rfl rfl hl.1 rfl (Nat.le_of_ble_eq_true rfl) dX9_feed_23 (fun uv_1 H locs w hp_1 => ?_)
    obtain ⟨zc_1, gc_1⟩ := uv_1
    obtain ⟨hp_1, hzc_1, hgc_1⟩ := hp_1
    replace w : wd D A s.heap (xw cy a zc_1 gc_1) H locs := w
    replace hzc_1 : xBz zc_1 := hzc_1
    replace hgc_1 : xBg gc_1 := hgc_1
    try dsimp only at hp_1
    have e_1 : zc_1 2 = (z 2) + 4 := by rw [hp_1.1]; rfl
    refine lv_aload_n hx hb dX9_feed_26 rfl (lv_at hl 0 rfl) ?_
    refine r_get C w 0 (v := .ref (a 1)) rfl rfl 0 (by decide) inX9 kf_X9_10 rfl dX9_feed_27 ?_
    refine lv_iload_n hx hb dX9_feed_30 rfl (lv_at hl 2 rfl) ?_
    refine cVV C w hA (ct_X8_append l D cy a zc_1 gc_1 p1 hzc_1 hgc_1 (by show iR p1; omega) (by show (zc_1 2) + 4 ≤ 200; omega)) ok_X8_append km_X9_92 ⟨rfl, rfl⟩ ⟨by decide, by decide⟩ ⟨by decide, by decide⟩ rfl 1 rfl rfl hl.1 rfl (Nat.le_of_ble_eq_true rfl) dX9_feed_31 (fun uv_2 H locs w hp_2 => ?_)
    obtain ⟨zc_2, gc_2⟩ := uv_2
    obtain ⟨hp_2, hzc_2, hgc_2⟩ := hp_2
    replace w : wd D A s.heap (xw cy a zc_2 gc_2) H locs := w
    replace hzc_2 : xBz zc_2 := hzc_2
    replace hgc_2 : xBg gc_2 := hgc_2
    try dsimp only at hp_2
    have e_2 : zc_2 2 = (zc_1 2) + 4 := by rw [hp_2.1]; rfl
    refine lv_aload_n hx hb dX9_feed_34 rfl (lv_at hl 0 rfl) ?_
    refine r_get C w 0 (v := .ref (a 1)) rfl rfl 0 (by decide) inX9 kf_X9_10 rfl dX9_feed_35 ?_
    refine lv_iload_n hx hb dX9_feed_38 rfl (lv_at hl 3 rfl) ?_
    refine cVV C w hA (ct_X8_append l D cy a zc_2 gc_2 p2 hzc_2 hgc_2 (by show iR p2; omega) (by show (zc_2 2) + 4 ≤ 200; omega)) ok_X8_append km_X9_92 ⟨rfl, rfl⟩ ⟨by decide, by decide⟩ ⟨by decide, by decide⟩ rfl 1 rfl rfl hl.1 rfl (Nat.le_of_ble_eq_true rfl) dX9_feed_39 (fun uv_3 H locs w hp_3 => ?_)
    obtain ⟨zc_3, gc_3⟩ := uv_3
    obtain ⟨hp_3, hzc_3, hgc_3⟩ := hp_3
    replace w : wd D A s.heap (xw cy a zc_3 gc_3) H locs := w
    replace hzc_3 : xBz zc_3 := hzc_3
    replace hgc_3 : xBg gc_3 := hgc_3
    try dsimp only at hp_3
    have e_3 : zc_3 2 = (zc_2 2) + 4 := by rw [hp_3.1]; rfl
    refine lv_aload_n hx hb dX9_feed_42 rfl (lv_at hl 0 rfl) ?_
    refine r_get C w 0 (v := .ref (a 1)) rfl rfl 0 (by decide) inX9 kf_X9_10 rfl dX9_feed_43 ?_
    refine lv_iload hx hb dX9_feed_46 (lv_at hl 4 rfl) ?_
    refine cVV C w hA (ct_X8_append l D cy a zc_3 gc_3 p3 hzc_3 hgc_3 (by show iR p3; omega) (by show (zc_3 2) + 4 ≤ 200; omega)) ok_X8_append km_X9_92 ⟨rfl, rfl⟩ ⟨by decide, by decide⟩ ⟨by decide, by decide⟩ rfl 1 rfl rfl hl.1 rfl (Nat.le_of_ble_eq_true rfl) dX9_feed_48 (fun uv_4 H locs w hp_4 => ?_)
    obtain ⟨zc_4, gc_4⟩ := uv_4
    obtain ⟨hp_4, hzc_4, hgc_4⟩ := hp_4
    replace w : wd D A s.heap (xw cy a zc_4 gc_4) H locs := w
    replace hzc_4 : xBz zc_4 := hzc_4
    replace hgc_4 : xBg gc_4 := hgc_4
    try dsimp only at hp_4
    have e_4 : zc_4 2 = (zc_3 2) + 4 := by rw [hp_4.1]; rfl
    refine lv_aload_n hx hb dX9_feed_51 rfl (lv_at hl 0 rfl) ?_
    refine r_get C w 0 (v := .ref (a 1)) rfl rfl 0 (by decide) inX9 kf_X9_10 rfl dX9_feed_52 ?_
    refine lv_iload hx hb dX9_feed_55 (lv_at hl 5 rfl) ?_
    refine cVV C w hA (ct_X8_append l D cy a zc_4 gc_4 p4 hzc_4 hgc_4 (by show iR p4; omega) (by show (zc_4 2) + 4 ≤ 200; omega)) ok_X8_append km_X9_92 ⟨rfl, rfl⟩ ⟨by decide, by decide⟩ ⟨by decide, by decide⟩ rfl 1 rfl rfl hl.1 rfl (Nat.le_of_ble_eq_true rfl) dX9_feed_57 (fun uv_5 H locs w hp_5 => ?_)
    obtain ⟨zc_5, gc_5⟩ := uv_5
    obtain ⟨hp_5, hzc_5, hgc_5⟩ := hp_5
    replace w : wd D A s.heap (xw cy a zc_5 gc_5) H locs := w
    replace hzc_5 : xBz zc_5 := hzc_5
    replace hgc_5 : xBg gc_5 := hgc_5
    try dsimp only at hp_5
    have e_5 : zc_5 2 = (zc_4 2) + 4 := by rw [hp_5.1]; rfl
    refine lv_aload_n hx hb dX9_feed_60 rfl (lv_at hl 0 rfl) ?_
    refine r_get C w 0 (v := .ref (a 1)) rfl rfl 0 (by decide) inX9 kf_X9_10 rfl dX9_feed_61 ?_
    refine r_getN C w 1 (v := vI (zc_5 2)) rfl rfl 1 (by decide) inX8 kt_X9_89 rfl dX9_feed_64 ?_
    have qz2 := xZ2 hzc_5
    exact hend (zc_5 2) (zc_5, gc_5) _ _ _ _ dX9_feed_67 w ⟨(by refine Or.inr ⟨by omega, by omega, ?_, ?_⟩ <;> simp only [hp_1, hp_2, hp_3, hp_4, hp_5, uZ_uZ, uZ_s, Int.add_assoc, Int.reduceAdd]), hzc_5, hgc_5⟩
  · skip
    refine r_iconst hx hb dX9_feed_16 ?_
    exact hend (-1) (z, g) _ _ _ _ dX9_feed_17 w ⟨(by exact Or.inl ⟨by omega, rfl, rfl⟩), hz, hg⟩
