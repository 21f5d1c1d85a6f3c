abbrev rm_X9_isBelow : Room := { frames := 0, cells := 0, slots := 0, locals := 0 }
set_option maxHeartbeats 4000000 in
set_option maxRecDepth 100000 in
theorem ct_X9_isBelow (l : Launch) (D : va_G) (cy : Nat → ClassId) (a : Nat → Nat) (z : Nat → Int) (g : Nat → Int → Int) (p0 p1 : Int) (h0 : iR p0) (h1 : iR p1) : MI l yX9_isBelow cX9_isBelow 2 .boolean (rm_X9_isBelow) D cy (xw cy a z g) [vI p0, vI p1] (fun (v : Int) (u : Unit) => (v = 1 ∧ 0 ≤ p0 ∧ p0 < p1) ∨ (v = 0 ∧ ¬ (0 ≤ p0 ∧ p0 < p1))) (fun _ => xw cy a z g) 0 0 := by
  refine go_i rfl (Nat.le_of_ble_eq_true rfl) (Or.inr (fun v u h => nb01 (by omega))) ?_
  intro p e s m args below meth c Q A ls C hnm hA w hl hend
  have hx := C.1
  have hb := C.2.1
  replace hl : lv_has ls 2 [(0, vI p0), (1, vI p1)] := hl
  refine lv_iload_n hx hb dX9_isBelow_0 rfl (lv_at hl 0 rfl) ?_
  refine r_if_lt (tgt := 13) hx hb dX9_isBelow_1 (by decide) (by omega) (fun c1 => ?_) (fun c1 => ?_)
  · skip
    refine r_iconst hx hb dX9_isBelow_13 ?_
    exact hend 0 () _ _ _ _ dX9_isBelow_14 w (by omega)
  · skip
    refine lv_iload_n hx hb dX9_isBelow_4 rfl (lv_at hl 0 rfl) ?_
    refine lv_iload_n hx hb dX9_isBelow_5 rfl (lv_at hl 1 rfl) ?_
    refine r_icmp_ge (tgt := 13) hx hb dX9_isBelow_6 (by decide) (by omega) (by omega) (fun c6 => ?_) (fun c6 => ?_)
    · skip
      refine r_iconst hx hb dX9_isBelow_13 ?_
      exact hend 0 () _ _ _ _ dX9_isBelow_14 w (by omega)
    · skip
      refine r_iconst hx hb dX9_isBelow_9 ?_
      refine lv_goto (tgt := 14) hx hb dX9_isBelow_10 (by decide) ?_
      exact hend 1 () _ _ _ _ dX9_isBelow_14 w (by omega)

abbrev rm_X0_wantPlace : Room := { frames := 0, cells := 0, slots := 0, locals := 0 }
set_option maxHeartbeats 4000000 in
set_option maxRecDepth 100000 in
theorem ct_X0_wantPlace (l : Launch) (D : va_G) (cy : Nat → ClassId) (a : Nat → Nat) (z : Nat → Int) (g : Nat → Int → Int) (p0 p1 p2 : Int)  : MI l yX0_wantPlace cX0_wantPlace 3 .int (rm_X0_wantPlace) D cy (xw cy a z g) [vI p0, vI p1, vI p2] (fun (v : Int) (u : Unit) => v = (p0 * 4 + p1) * 4 + p2) (fun _ => xw cy a z g) 0 0 := by
  refine go_i rfl (Nat.le_of_ble_eq_true rfl) (Or.inl rfl) ?_
  intro p e s m args below meth c Q A ls C hnm hA w hl hend
  have hx := C.1
  have hb := C.2.1
  replace hl : lv_has ls 3 [(0, vI p0), (1, vI p1), (2, vI p2)] := hl
  refine lv_iload_n hx hb dX0_wantPlace_0 rfl (lv_at hl 0 rfl) ?_
  refine r_iconst hx hb dX0_wantPlace_1 ?_
  refine r_imul hx hb dX0_wantPlace_2 ?_
  refine lv_iload_n hx hb dX0_wantPlace_3 rfl (lv_at hl 1 rfl) ?_
  refine r_iadd hx hb dX0_wantPlace_4 ?_
  refine r_iconst hx hb dX0_wantPlace_5 ?_
  refine r_imul hx hb dX0_wantPlace_6 ?_
  refine lv_iload_n hx hb dX0_wantPlace_7 rfl (lv_at hl 2 rfl) ?_
  refine r_iadd hx hb dX0_wantPlace_8 ?_
  exact hend ((((p0 * 4) + p1) * 4) + p2) () _ _ _ _ dX0_wantPlace_9 w (by rfl)

abbrev rm_X7_countsAsOf : Room := { frames := 0, cells := 0, slots := 0, locals := 0 }
set_option maxHeartbeats 4000000 in
set_option maxRecDepth 100000 in
theorem ct_X7_countsAsOf (l : Launch) (D : va_G) (cy : Nat → ClassId) (a : Nat → Nat) (z : Nat → Int) (g : Nat → Int → Int) (p0 p1 : Int) (hz : xBz z) (hg : xBg g) (h0 : 0 ≤ p0 ∧ p0 < 400) (h1 : iR p1) : MI l yX7_countsAsOf cX7_countsAsOf 3 .boolean (rm_X7_countsAsOf) D cy (xw cy a z g) [.ref (a 20), vI p0, vI p1] (fun (v : Int) (u : Unit) => (v = 1 ∧ g 23 p0 ≤ p1 ∧ (g 26 p0 = -1 ∨ p1 < g 26 p0)) ∨ (v = 0 ∧ ¬ (g 23 p0 ≤ p1 ∧ (g 26 p0 = -1 ∨ p1 < g 26 p0)))) (fun _ => xw cy a z g) 0 0 := by
  refine go_i rfl (Nat.le_of_ble_eq_true rfl) (Or.inr (fun v u h => nb01 (by omega))) ?_
  intro p e s m args below meth c Q A ls C hnm hA w hl hend
  have hx := C.1
  have hb := C.2.1
  have b1 := xB23 hg p0
  have b2 := xB26 hg p0
  replace hl : lv_has ls 3 [(0, .ref (a 20)), (1, vI p0), (2, vI p1)] := hl
  refine lv_aload_n hx hb dX7_countsAsOf_0 rfl (lv_at hl 0 rfl) ?_
  refine r_get C w 20 (v := .ref (a 23)) rfl rfl 2 (by decide) inX7 kf_X7_18 rfl dX7_countsAsOf_1 ?_
  refine lv_iload_n hx hb dX7_countsAsOf_4 rfl (lv_at hl 1 rfl) ?_
  refine r_iald C w 23 (f := (g 23)) rfl (by omega) (by omega) (by decide) dX7_countsAsOf_5 ?_
  refine lv_iload_n hx hb dX7_countsAsOf_6 rfl (lv_at hl 2 rfl) ?_
  refine r_icmp_gt (tgt := 34) hx hb dX7_countsAsOf_7 (by decide) (by omega) (by omega) (fun c7 => ?_) (fun c7 => ?_)
  · skip
    refine r_iconst hx hb dX7_countsAsOf_34 ?_
    exact hend 0 () _ _ _ _ dX7_countsAsOf_35 w (by omega)
  · skip
    refine lv_aload_n hx hb dX7_countsAsOf_10 rfl (lv_at hl 0 rfl) ?_
    refine r_get C w 20 (v := .ref (a 26)) rfl rfl 5 (by decide) inX7 kf_X7_27 rfl dX7_countsAsOf_11 ?_
    refine lv_iload_n hx hb dX7_countsAsOf_14 rfl (lv_at hl 1 rfl) ?_
    refine r_iald C w 26 (f := (g 26)) rfl (by omega) (by omega) (by decide) dX7_countsAsOf_15 ?_
    refine r_iconst hx hb dX7_countsAsOf_16 ?_
    refine r_icmp_eq (tgt := 30) hx hb dX7_countsAsOf_17 (by decide) (by omega) (by omega) (fun c17 => ?_) (fun c17 => ?_)
    · skip
      refine r_iconst hx hb dX7_countsAsOf_30 ?_
      refine lv_goto (tgt := 35) hx hb dX7_countsAsOf_31 (by decide) ?_
      exact hend 1 () _ _ _ _ dX7_countsAsOf_35 w (by omega)
    · skip
      refine lv_aload_n hx hb dX7_countsAsOf_20 rfl (lv_at hl 0 rfl) ?_
      refine r_get C w 20 (v := .ref (a 26)) rfl rfl 5 (by decide) inX7 kf_X7_27 rfl dX7_countsAsOf_21 ?_
      refine lv_iload_n hx hb dX7_countsAsOf_24 rfl (lv_at hl 1 rfl) ?_
      refine r_iald C w 26 (f := (g 26)) rfl (by omega) (by omega) (by decide) dX7_countsAsOf_25 ?_
      refine lv_iload_n hx hb dX7_countsAsOf_26 rfl (lv_at hl 2 rfl) ?_
      refine r_icmp_le (tgt := 34) hx hb dX7_countsAsOf_27 (by decide) (by omega) (by omega) (fun c27 => ?_) (fun c27 => ?_)
      · skip
        refine r_iconst hx hb dX7_countsAsOf_34 ?_
        exact hend 0 () _ _ _ _ dX7_countsAsOf_35 w (by omega)
      · skip
        refine r_iconst hx hb dX7_countsAsOf_30 ?_
        refine lv_goto (tgt := 35) hx hb dX7_countsAsOf_31 (by decide) ?_
        exact hend 1 () _ _ _ _ dX7_countsAsOf_35 w (by omega)

abbrev rm_X8_byteAt : Room := { frames := 1, cells := 0, slots := 0, locals := 21 }
set_option maxHeartbeats 4000000 in
set_option maxRecDepth 100000 in
theorem ct_X8_byteAt (l : Launch) (D : va_G) (cy : Nat → ClassId) (a : Nat → Nat) (z : Nat → Int) (g : Nat → Int → Int) (p0 : Int) (hz : xBz z) (hg : xBg g) (h0 : iR p0) : MI l yX8_byteAt cX8_byteAt 2 .int (rm_X8_byteAt) D cy (xw cy a z g) [.ref (a 1), vI p0] (fun (v : Int) (u : Unit) => (0 ≤ p0 ∧ p0 < z 2 ∧ v = g 2 p0) ∨ (¬ (0 ≤ p0 ∧ p0 < z 2) ∧ v = 0)) (fun _ => xw cy a z g) 0 0 := by
  refine go_i rfl (Nat.le_of_ble_eq_true rfl) (Or.inl rfl) ?_
  intro p e s m args below meth c Q A ls C hnm hA w hl hend
  have hx := C.1
  have hb := C.2.1
  have b1 := xB2 hg p0
  have b2 := xZ2 hz
  replace hl : lv_has ls 2 [(0, .ref (a 1)), (1, vI p0)] := hl
  refine lv_iload_n hx hb dX8_byteAt_0 rfl (lv_at hl 1 rfl) ?_
  refine lv_aload_n hx hb dX8_byteAt_1 rfl (lv_at hl 0 rfl) ?_
  refine r_get C w 1 (v := vI (z 2)) rfl rfl 1 (by decide) inX8 kf_X8_15 rfl dX8_byteAt_2 ?_
  refine cNSI C w hA (ct_X9_isBelow l D cy a z g p0 (z 2) (by omega) (by omega)) ok_X9_isBelow kt_X8_19 ⟨rfl, rfl⟩ ⟨by decide, by decide⟩ ⟨by decide, by decide⟩ rfl hl.1 rfl (Nat.le_of_ble_eq_true rfl) dX8_byteAt_5 (fun r1 u1 H locs w hp1 => ?_)
  replace w : wd D A s.heap (xw cy a z g) H locs := w
  refine r_if_eq (tgt := 20) hx hb dX8_byteAt_8 (by decide) (by omega) (fun c8 => ?_) (fun c8 => ?_)
  · skip
    refine r_iconst hx hb dX8_byteAt_20 ?_
    exact hend 0 () _ _ _ _ dX8_byteAt_21 w (by omega)
  · skip
    refine lv_aload_n hx hb dX8_byteAt_11 rfl (lv_at hl 0 rfl) ?_
    refine r_get C w 1 (v := .ref (a 2)) rfl rfl 0 (by decide) inX8 kf_X8_9 rfl dX8_byteAt_12 ?_
    refine lv_iload_n hx hb dX8_byteAt_15 rfl (lv_at hl 1 rfl) ?_
    refine r_iald C w 2 (f := (g 2)) rfl (by omega) (by omega) (by decide) dX8_byteAt_16 ?_
    refine lv_goto (tgt := 21) hx hb dX8_byteAt_17 (by decide) ?_
    exact hend ((g 2) p0) () _ _ _ _ dX8_byteAt_21 w (by omega)
