abbrev rm_X9_end : Room := { frames := 0, cells := 0, slots := 0, locals := 0 }
set_option maxHeartbeats 4000000 in
set_option maxRecDepth 100000 in
theorem ct_X9_end (l : Launch) (D : va_G) (cy : Nat → ClassId) (a : Nat → Nat) (z : Nat → Int) (g : Nat → Int → Int) (p0 : Int) (hz : xBz z) (hg : xBg g) (h0 : iR p0) : MI l yX9_end cX9_end 2 .boolean (rm_X9_end) D cy (xw cy a z g) [.ref (a 0), vI p0] (fun (v : Int) (u : sX) => ((¬ (0 ≤ p0 ∧ p0 ≤ z 2) ∧ v = 0 ∧ u = (z, g)) ∨ ((0 ≤ p0 ∧ p0 ≤ z 2) ∧ v = 1 ∧ u = (uZ z 2 p0, g))) ∧ xBz u.1 ∧ xBg u.2) (fun u => xw cy a u.1 u.2) 0 0 := by
  refine go_i (by decide +kernel) (Nat.le_of_ble_eq_true rfl) (Or.inr (fun v u h => nb01 (by omega))) ?_
  intro p e s m args below meth c Q A ls C hnm hA w hl hend
  have hx := C.1
  have hb := C.2.1
  replace hl : lv_has ls 2 [(0, .ref (a 0)), (1, vI p0)] := hl
  refine lv_iload_n hx hb dX9_end_0 rfl (lv_at hl 1 rfl) ?_
  refine r_if_lt (tgt := 15) hx hb dX9_end_1 (by decide) (by omega) (fun c1 => ?_) (fun c1 => ?_)
  · skip
    refine r_iconst hx hb dX9_end_15 ?_
    exact hend 0 (z, g) _ _ _ _ dX9_end_16 w ⟨(by first | exact Or.inl ⟨by omega, rfl, rfl⟩ | exact Or.inr ⟨by omega, rfl, rfl⟩), hz, hg⟩
  · skip
    refine lv_iload_n hx hb dX9_end_4 rfl (lv_at hl 1 rfl) ?_
    refine lv_aload_n hx hb dX9_end_5 rfl (lv_at hl 0 rfl) ?_
    refine r_get C w 0 (v := .ref (a 1)) rfl rfl 0 (by decide) inX9 kf_X9_10 rfl dX9_end_6 ?_
    refine r_getN C w 1 (v := vI (z 2)) rfl rfl 1 (by decide) inX8 kt_X9_89 rfl dX9_end_9 ?_
    have qz1 := xZ2 hz
    refine r_icmp_le (tgt := 17) hx hb dX9_end_12 (by decide) (by omega) (by omega) (fun c12 => ?_) (fun c12 => ?_)
    · skip
      refine lv_aload_n hx hb dX9_end_17 rfl (lv_at hl 0 rfl) ?_
      refine r_get C w 0 (v := .ref (a 1)) rfl rfl 0 (by decide) inX9 kf_X9_10 rfl dX9_end_18 ?_
      refine lv_iload_n hx hb dX9_end_21 rfl (lv_at hl 1 rfl) ?_
      refine r_putN C w 1 tyX8 tyX8_ok nmX8 rfl rfl 1 (by decide) inX8 kt_X9_89 rfl rfl rfl (Nat.le_of_ble_eq_true rfl) (ws' := xw cy a (uZ z 2 p0) g) (xw_z2 cy a z g p0) dX9_end_22 (fun H locs w => ?_)
      have bz2 : (0 : Int) ≤ p0 ∧ (p0 : Int) ≤ 200 := (by omega)
      refine r_iconst hx hb dX9_end_25 ?_
      exact hend 1 ((uZ z 2 p0), g) _ _ _ _ dX9_end_26 w ⟨(by first | exact Or.inl ⟨by omega, rfl, rfl⟩ | exact Or.inr ⟨by omega, rfl, rfl⟩), (xBz_u hz 2 bz2), hg⟩
    · skip
      refine r_iconst hx hb dX9_end_15 ?_
      exact hend 0 (z, g) _ _ _ _ dX9_end_16 w ⟨(by first | exact Or.inl ⟨by omega, rfl, rfl⟩ | exact Or.inr ⟨by omega, rfl, rfl⟩), hz, hg⟩

abbrev rm_X9_fault : Room := { frames := 0, cells := 0, slots := 0, locals := 0 }
set_option maxHeartbeats 4000000 in
set_option maxRecDepth 100000 in
theorem ct_X9_fault (l : Launch) (D : va_G) (cy : Nat → ClassId) (a : Nat → Nat) (z : Nat → Int) (g : Nat → Int → Int)  (hz : xBz z) (hg : xBg g) : MI l yX9_fault cX9_fault 1 .int (rm_X9_fault) D cy (xw cy a z g) [.ref (a 0)] (fun (v : Int) (u : Unit) => v = z 1) (fun _ => xw cy a z g) 0 0 := by
  refine go_i (by decide +kernel) (Nat.le_of_ble_eq_true rfl) (Or.inl rfl) ?_
  intro p e s m args below meth c Q A ls C hnm hA w hl hend
  have hx := C.1
  have hb := C.2.1
  replace hl : lv_has ls 1 [(0, .ref (a 0))] := hl
  refine lv_aload_n hx hb dX9_fault_0 rfl (lv_at hl 0 rfl) ?_
  refine r_get C w 0 (v := vI (z 1)) rfl rfl 11 (by decide) inX9 kf_X9_86 rfl dX9_fault_1 ?_
  have qz1 := xZ1 hz
  exact hend (z 1) () _ _ _ _ dX9_fault_4 w (by rfl)

abbrev rm_X2_add : Room := { frames := 0, cells := 0, slots := 0, locals := 0 }
set_option maxHeartbeats 4000000 in
set_option maxRecDepth 100000 in
theorem ct_X2_add (l : Launch) (D : va_G) (cy : Nat → ClassId) (a : Nat → Nat) (z : Nat → Int) (g : Nat → Int → Int) (p0 p1 p2 p3 p4 : Int) (hz : xBz z) (hg : xBg g) (h0 : 0 ≤ p0 ∧ p0 < 8) (h1 : 0 ≤ p1 ∧ p1 < 6) (h2 : 0 ≤ p2 ∧ p2 < 4) (h3 : 1 ≤ p3 ∧ p3 ≤ 500) (h4 : 0 ≤ p4 ∧ p4 < 4) (h5 : z 16 < 100) : MI l yX2_add cX2_add 6 .int (rm_X2_add) D cy (xw cy a z g) [.ref (a 12), vI p0, vI p1, vI p2, vI p3, vI p4] (fun (v : Int) (u : sX) => (v = z 16 ∧ u = (uZ z 16 (z 16 + 1), uZ (uZ (uZ (uZ (uZ (uZ (uZ g 13 (uI (g 13) (z 16) p0)) 14 (uI (g 14) (z 16) p1)) 15 (uI (g 15) (z 16) p2)) 16 (uI (g 16) (z 16) p3)) 17 (uI (g 17) (z 16) p4)) 18 (uI (g 18) (z 16) 0)) 19 (uI (g 19) (z 16) (-1)))) ∧ xBz u.1 ∧ xBg u.2) (fun u => xw cy a u.1 u.2) 0 0 := by
  refine go_i (by decide +kernel) (Nat.le_of_ble_eq_true rfl) (Or.inl rfl) ?_
  intro p e s m args below meth c Q A ls C hnm hA w hl hend
  have hx := C.1
  have hb := C.2.1
  replace hl : lv_has ls 6 [(0, .ref (a 12)), (1, vI p0), (2, vI p1), (3, vI p2), (4, vI p3), (5, vI p4)] := hl
  refine lv_aload_n hx hb dX2_add_0 rfl (lv_at hl 0 rfl) ?_
  refine r_get C w 12 (v := vI (z 16)) rfl rfl 7 (by decide) inX2 kf_X2_34 rfl dX2_add_1 ?_
  have qz1 := xZ16 hz
  refine r_bipush hx hb dX2_add_4 (by decide) ?_
  refine r_icmp_lt (tgt := 11) hx hb dX2_add_6 (by decide) (by omega) (by omega) (fun c6 => ?_) (fun c6 => ?_)
  · skip
    refine lv_aload_n hx hb dX2_add_11 rfl (lv_at hl 0 rfl) ?_
    refine r_get C w 12 (v := .ref (a 13)) rfl rfl 0 (by decide) inX2 kf_X2_9 rfl dX2_add_12 ?_
    refine lv_aload_n hx hb dX2_add_15 rfl (lv_at hl 0 rfl) ?_
    refine r_get C w 12 (v := vI (z 16)) rfl rfl 7 (by decide) inX2 kf_X2_34 rfl dX2_add_16 ?_
    have qz2 := xZ16 hz
    refine lv_iload_n hx hb dX2_add_19 rfl (lv_at hl 1 rfl) ?_
    refine r_iast C w 13 (f := (g 13)) rfl (by omega) (by omega) (by decide) (ws' := xw cy a z (uZ g 13 (uI (g 13) (z 16) p0))) (xw_g13 cy a z g (uI (g 13) (z 16) p0)) dX2_add_20 (fun H locs w => ?_)
    have bg3 : ∀ j : Int, (0 : Int) ≤ (uI (g 13) (z 16) p0) j ∧ (uI (g 13) (z 16) p0) j ≤ 7 := uI_b (xB13 hg) (by omega)
    refine lv_aload_n hx hb dX2_add_21 rfl (lv_at hl 0 rfl) ?_
    refine r_get C w 12 (v := .ref (a 14)) rfl rfl 1 (by decide) inX2 kf_X2_15 rfl dX2_add_22 ?_
    refine lv_aload_n hx hb dX2_add_25 rfl (lv_at hl 0 rfl) ?_
    refine r_get C w 12 (v := vI (z 16)) rfl rfl 7 (by decide) inX2 kf_X2_34 rfl dX2_add_26 ?_
    have qz4 := xZ16 hz
    refine lv_iload_n hx hb dX2_add_29 rfl (lv_at hl 2 rfl) ?_
    refine r_iast C w 14 (f := (g 14)) rfl (by omega) (by omega) (by decide) (ws' := xw cy a z (uZ (uZ g 13 (uI (g 13) (z 16) p0)) 14 (uI (g 14) (z 16) p1))) (xw_g14 cy a z (uZ g 13 (uI (g 13) (z 16) p0)) (uI (g 14) (z 16) p1)) dX2_add_30 (fun H locs w => ?_)
    have bg5 : ∀ j : Int, (0 : Int) ≤ (uI (g 14) (z 16) p1) j ∧ (uI (g 14) (z 16) p1) j ≤ 5 := uI_b (xB14 hg) (by omega)
    refine lv_aload_n hx hb dX2_add_31 rfl (lv_at hl 0 rfl) ?_
    refine r_get C w 12 (v := .ref (a 15)) rfl rfl 2 (by decide) inX2 kf_X2_18 rfl dX2_add_32 ?_
    refine lv_aload_n hx hb dX2_add_35 rfl (lv_at hl 0 rfl) ?_
    refine r_get C w 12 (v := vI (z 16)) rfl rfl 7 (by decide) inX2 kf_X2_34 rfl dX2_add_36 ?_
    have qz6 := xZ16 hz
    refine lv_iload_n hx hb dX2_add_39 rfl (lv_at hl 3 rfl) ?_
    refine r_iast C w 15 (f := (g 15)) rfl (by omega) (by omega) (by decide) (ws' := xw cy a z (uZ (uZ (uZ g 13 (uI (g 13) (z 16) p0)) 14 (uI (g 14) (z 16) p1)) 15 (uI (g 15) (z 16) p2))) (xw_g15 cy a z (uZ (uZ g 13 (uI (g 13) (z 16) p0)) 14 (uI (g 14) (z 16) p1)) (uI (g 15) (z 16) p2)) dX2_add_40 (fun H locs w => ?_)
    have bg7 : ∀ j : Int, (0 : Int) ≤ (uI (g 15) (z 16) p2) j ∧ (uI (g 15) (z 16) p2) j ≤ 3 := uI_b (xB15 hg) (by omega)
    refine lv_aload_n hx hb dX2_add_41 rfl (lv_at hl 0 rfl) ?_
    refine r_get C w 12 (v := .ref (a 16)) rfl rfl 3 (by decide) inX2 kf_X2_21 rfl dX2_add_42 ?_
    refine lv_aload_n hx hb dX2_add_45 rfl (lv_at hl 0 rfl) ?_
    refine r_get C w 12 (v := vI (z 16)) rfl rfl 7 (by decide) inX2 kf_X2_34 rfl dX2_add_46 ?_
    have qz8 := xZ16 hz
    refine lv_iload hx hb dX2_add_49 (lv_at hl 4 rfl) ?_
    refine r_iast C w 16 (f := (g 16)) rfl (by omega) (by omega) (by decide) (ws' := xw cy a z (uZ (uZ (uZ (uZ g 13 (uI (g 13) (z 16) p0)) 14 (uI (g 14) (z 16) p1)) 15 (uI (g 15) (z 16) p2)) 16 (uI (g 16) (z 16) p3))) (xw_g16 cy a z (uZ (uZ (uZ g 13 (uI (g 13) (z 16) p0)) 14 (uI (g 14) (z 16) p1)) 15 (uI (g 15) (z 16) p2)) (uI (g 16) (z 16) p3)) dX2_add_51 (fun H locs w => ?_)
    have bg9 : ∀ j : Int, (0 : Int) ≤ (uI (g 16) (z 16) p3) j ∧ (uI (g 16) (z 16) p3) j ≤ 500 := uI_b (xB16 hg) (by omega)
    refine lv_aload_n hx hb dX2_add_52 rfl (lv_at hl 0 rfl) ?_
    refine r_get C w 12 (v := .ref (a 17)) rfl rfl 4 (by decide) inX2 kf_X2_24 rfl dX2_add_53 ?_
    refine lv_aload_n hx hb dX2_add_56 rfl (lv_at hl 0 rfl) ?_
    refine r_get C w 12 (v := vI (z 16)) rfl rfl 7 (by decide) inX2 kf_X2_34 rfl dX2_add_57 ?_
    have qz10 := xZ16 hz
    refine lv_iload hx hb dX2_add_60 (lv_at hl 5 rfl) ?_
    refine r_iast C w 17 (f := (g 17)) rfl (by omega) (by omega) (by decide) (ws' := xw cy a z (uZ (uZ (uZ (uZ (uZ g 13 (uI (g 13) (z 16) p0)) 14 (uI (g 14) (z 16) p1)) 15 (uI (g 15) (z 16) p2)) 16 (uI (g 16) (z 16) p3)) 17 (uI (g 17) (z 16) p4))) (xw_g17 cy a z (uZ (uZ (uZ (uZ g 13 (uI (g 13) (z 16) p0)) 14 (uI (g 14) (z 16) p1)) 15 (uI (g 15) (z 16) p2)) 16 (uI (g 16) (z 16) p3)) (uI (g 17) (z 16) p4)) dX2_add_62 (fun H locs w => ?_)
    have bg11 : ∀ j : Int, (0 : Int) ≤ (uI (g 17) (z 16) p4) j ∧ (uI (g 17) (z 16) p4) j ≤ 3 := uI_b (xB17 hg) (by omega)
    refine lv_aload_n hx hb dX2_add_63 rfl (lv_at hl 0 rfl) ?_
    refine r_get C w 12 (v := .ref (a 18)) rfl rfl 5 (by decide) inX2 kf_X2_27 rfl dX2_add_64 ?_
    refine lv_aload_n hx hb dX2_add_67 rfl (lv_at hl 0 rfl) ?_
    refine r_get C w 12 (v := vI (z 16)) rfl rfl 7 (by decide) inX2 kf_X2_34 rfl dX2_add_68 ?_
    have qz12 := xZ16 hz
    refine r_iconst hx hb dX2_add_71 ?_
    refine r_zast C w 18 (f := (g 18)) rfl (by omega) (by omega) (by decide) (vz01 (by omega)) (ws' := xw cy a z (uZ (uZ (uZ (uZ (uZ (uZ g 13 (uI (g 13) (z 16) p0)) 14 (uI (g 14) (z 16) p1)) 15 (uI (g 15) (z 16) p2)) 16 (uI (g 16) (z 16) p3)) 17 (uI (g 17) (z 16) p4)) 18 (uI (g 18) (z 16) 0))) (xw_g18 cy a z (uZ (uZ (uZ (uZ (uZ g 13 (uI (g 13) (z 16) p0)) 14 (uI (g 14) (z 16) p1)) 15 (uI (g 15) (z 16) p2)) 16 (uI (g 16) (z 16) p3)) 17 (uI (g 17) (z 16) p4)) (uI (g 18) (z 16) 0)) dX2_add_72 (fun H locs w => ?_)
    have bg13 : ∀ j : Int, (0 : Int) ≤ (uI (g 18) (z 16) 0) j ∧ (uI (g 18) (z 16) 0) j ≤ 1 := uI_b (xB18 hg) (by omega)
    refine lv_aload_n hx hb dX2_add_73 rfl (lv_at hl 0 rfl) ?_
    refine r_get C w 12 (v := .ref (a 19)) rfl rfl 6 (by decide) inX2 kf_X2_31 rfl dX2_add_74 ?_
    refine lv_aload_n hx hb dX2_add_77 rfl (lv_at hl 0 rfl) ?_
    refine r_get C w 12 (v := vI (z 16)) rfl rfl 7 (by decide) inX2 kf_X2_34 rfl dX2_add_78 ?_
    have qz14 := xZ16 hz
    refine r_iconst hx hb dX2_add_81 ?_
    refine r_iast C w 19 (f := (g 19)) rfl (by omega) (by omega) (by decide) (ws' := xw cy a z (uZ (uZ (uZ (uZ (uZ (uZ (uZ g 13 (uI (g 13) (z 16) p0)) 14 (uI (g 14) (z 16) p1)) 15 (uI (g 15) (z 16) p2)) 16 (uI (g 16) (z 16) p3)) 17 (uI (g 17) (z 16) p4)) 18 (uI (g 18) (z 16) 0)) 19 (uI (g 19) (z 16) (-1)))) (xw_g19 cy a z (uZ (uZ (uZ (uZ (uZ (uZ g 13 (uI (g 13) (z 16) p0)) 14 (uI (g 14) (z 16) p1)) 15 (uI (g 15) (z 16) p2)) 16 (uI (g 16) (z 16) p3)) 17 (uI (g 17) (z 16) p4)) 18 (uI (g 18) (z 16) 0)) (uI (g 19) (z 16) (-1))) dX2_add_82 (fun H locs w => ?_)
    have bg15 : ∀ j : Int, (-1 : Int) ≤ (uI (g 19) (z 16) (-1)) j ∧ (uI (g 19) (z 16) (-1)) j ≤ 399 := uI_b (xB19 hg) (by omega)
    refine lv_aload_n hx hb dX2_add_83 rfl (lv_at hl 0 rfl) ?_
    refine lv_dup hx hb dX2_add_84 rfl ?_
    refine r_get C w 12 (v := vI (z 16)) rfl rfl 7 (by decide) inX2 kf_X2_34 rfl dX2_add_85 ?_
    have qz16 := xZ16 hz
    refine r_iconst hx hb dX2_add_88 ?_
    refine r_iadd hx hb dX2_add_89 ?_
    refine r_put C w 12 tyX2 tyX2_ok nmX2 rfl rfl 7 (by decide) inX2 kf_X2_34 rfl rfl rfl (Nat.le_of_ble_eq_true rfl) (ws' := xw cy a (uZ z 16 ((z 16) + 1)) (uZ (uZ (uZ (uZ (uZ (uZ (uZ g 13 (uI (g 13) (z 16) p0)) 14 (uI (g 14) (z 16) p1)) 15 (uI (g 15) (z 16) p2)) 16 (uI (g 16) (z 16) p3)) 17 (uI (g 17) (z 16) p4)) 18 (uI (g 18) (z 16) 0)) 19 (uI (g 19) (z 16) (-1)))) (xw_z16 cy a z (uZ (uZ (uZ (uZ (uZ (uZ (uZ g 13 (uI (g 13) (z 16) p0)) 14 (uI (g 14) (z 16) p1)) 15 (uI (g 15) (z 16) p2)) 16 (uI (g 16) (z 16) p3)) 17 (uI (g 17) (z 16) p4)) 18 (uI (g 18) (z 16) 0)) 19 (uI (g 19) (z 16) (-1))) ((z 16) + 1)) dX2_add_90 (fun H locs w => ?_)
    have bz17 : (0 : Int) ≤ ((z 16) + 1) ∧ (((z 16) + 1) : Int) ≤ 100 := (by omega)
    refine lv_aload_n hx hb dX2_add_93 rfl (lv_at hl 0 rfl) ?_
    refine r_get C w 12 (v := vI ((z 16) + 1)) rfl rfl 7 (by decide) inX2 kf_X2_34 rfl dX2_add_94 ?_
    refine r_iconst hx hb dX2_add_97 ?_
    refine r_isub hx hb dX2_add_98 ?_
    exact hend (((z 16) + 1) - 1) ((uZ z 16 ((z 16) + 1)), (uZ (uZ (uZ (uZ (uZ (uZ (uZ g 13 (uI (g 13) (z 16) p0)) 14 (uI (g 14) (z 16) p1)) 15 (uI (g 15) (z 16) p2)) 16 (uI (g 16) (z 16) p3)) 17 (uI (g 17) (z 16) p4)) 18 (uI (g 18) (z 16) 0)) 19 (uI (g 19) (z 16) (-1)))) _ _ _ _ dX2_add_99 w ⟨(by exact ⟨by omega, rfl⟩), (xBz_u hz 16 bz17), (xBg_u (xBg_u (xBg_u (xBg_u (xBg_u (xBg_u (xBg_u hg 13 bg3) 14 bg5) 15 bg7) 16 bg9) 17 bg11) 18 bg13) 19 bg15)⟩
  · skip
    exact absurd c6 (by omega)

def okLot (p0 p1 p2 p3 p4 : Int) : Prop := (0 ≤ p0 ∧ p0 < 8) ∧ (0 ≤ p1 ∧ p1 < 6) ∧ (0 ≤ p2 ∧ p2 < 4) ∧ (1 ≤ p3 ∧ p3 ≤ 500) ∧ (0 ≤ p4 ∧ p4 < 4)
abbrev rm_X9_lot : Room := { frames := 1, cells := 0, slots := 0, locals := 25 }
set_option maxHeartbeats 4000000 in
set_option maxRecDepth 100000 in
theorem ct_X9_lot (l : Launch) (D : va_G) (cy : Nat → ClassId) (a : Nat → Nat) (z : Nat → Int) (g : Nat → Int → Int) (p0 p1 p2 p3 p4 : Int) (hz : xBz z) (hg : xBg g) (h0 : iR p0) (h1 : iR p1) (h2 : iR p2) (h3 : iR p3) (h4 : iR p4) : MI l yX9_lot cX9_lot 7 .int (rm_X9_lot) D cy (xw cy a z g) [.ref (a 0), vI p0, vI p1, vI p2, vI p3, vI p4] (fun (v : Int) (u : sX) => ((¬ (okLot p0 p1 p2 p3 p4 ∧ z 16 < 100) ∧ v = -1 ∧ u = (z, g)) ∨ ((okLot p0 p1 p2 p3 p4 ∧ z 16 < 100) ∧ v = z 16 ∧ u = (uZ z 16 (z 16 + 1), uZ (uZ (uZ (uZ (uZ (uZ (uZ g 13 (uI (g 13) (z 16) p0)) 14 (uI (g 14) (z 16) p1)) 15 (uI (g 15) (z 16) p2)) 16 (uI (g 16) (z 16) p3)) 17 (uI (g 17) (z 16) p4)) 18 (uI (g 18) (z 16) 0)) 19 (uI (g 19) (z 16) (-1))))) ∧ xBz u.1 ∧ xBg u.2) (fun u => xw cy a u.1 u.2) 0 0 := by
  refine go_i (by decide +kernel) (Nat.le_of_ble_eq_true rfl) (Or.inl rfl) ?_
  intro p e s m args below meth c Q A ls C hnm hA w hl hend
  have hx := C.1
  have hb := C.2.1
  have J54 : ∀ (b : Int), ((b = 1 ∧ okLot p0 p1 p2 p3 p4) ∨ (b = 0 ∧ ¬ okLot p0 p1 p2 p3 p4)) → ∀ (H : Heap) (locs : List Loc) (ls : Array Slot), wd D A s.heap (xw cy a z g) H locs → lv_has ls 7 [(0, .ref (a 0)), (1, vI p0), (2, vI p1), (3, vI p2), (4, vI p3), (5, vI p4)] → W p l e (rm_X9_lot) s m args below meth c H locs 0 0 Q (F0 m 54 ls [vI b]) := by
    intro b hb1 H locs ls w hl
    unfold okLot at hb1
    refine lv_istore (lv' := [(6, vI b), (0, .ref (a 0)), (1, vI p0), (2, vI p1), (3, vI p2), (4, vI p3), (5, vI p4)]) hx hb dX9_lot_54 hl (by decide) rfl (fun ls hl => ?_)
    refine lv_iload hx hb dX9_lot_56 (lv_at hl 0 rfl) ?_
    refine r_if_eq (tgt := 73) hx hb dX9_lot_58 (by decide) (by omega) (fun c58 => ?_) (fun c58 => ?_)
    · skip
      refine r_iconst hx hb dX9_lot_73 ?_
      exact hend (-1) (z, g) _ _ _ _ dX9_lot_74 w ⟨(by exact Or.inl ⟨by unfold okLot; omega, rfl, rfl⟩), hz, hg⟩
    · skip
      refine lv_aload_n hx hb dX9_lot_61 rfl (lv_at hl 1 rfl) ?_
      refine r_get C w 0 (v := .ref (a 12)) rfl rfl 3 (by decide) inX9 kf_X9_35 rfl dX9_lot_62 ?_
      refine r_getN C w 12 (v := vI (z 16)) rfl rfl 7 (by decide) inX2 kt_X9_119 rfl dX9_lot_65 ?_
      have qz1 := xZ16 hz
      refine r_bipush hx hb dX9_lot_68 (by decide) ?_
      refine r_icmp_lt (tgt := 75) hx hb dX9_lot_70 (by decide) (by omega) (by omega) (fun c70 => ?_) (fun c70 => ?_)
      · skip
        refine lv_aload_n hx hb dX9_lot_75 rfl (lv_at hl 1 rfl) ?_
        refine r_get C w 0 (v := .ref (a 12)) rfl rfl 3 (by decide) inX9 kf_X9_35 rfl dX9_lot_76 ?_
        refine lv_iload_n hx hb dX9_lot_79 rfl (lv_at hl 2 rfl) ?_
        refine lv_iload_n hx hb dX9_lot_80 rfl (lv_at hl 3 rfl) ?_
        refine lv_iload_n hx hb dX9_lot_81 rfl (lv_at hl 4 rfl) ?_
        refine lv_iload hx hb dX9_lot_82 (lv_at hl 5 rfl) ?_
        refine lv_iload hx hb dX9_lot_84 (lv_at hl 6 rfl) ?_
        refine cVI C w hA (ct_X2_add l D cy a z g p0 p1 p2 p3 p4 hz hg (by show 0 ≤ p0 ∧ p0 < 8; omega) (by show 0 ≤ p1 ∧ p1 < 6; omega) (by show 0 ≤ p2 ∧ p2 < 4; omega) (by show 1 ≤ p3 ∧ p3 ≤ 500; omega) (by show 0 ≤ p4 ∧ p4 < 4; omega) (by show (z 16) < 100; omega)) ok_X2_add km_X9_120 ⟨rfl, rfl⟩ ⟨by decide, by decide⟩ ⟨by decide, by decide⟩ rfl 12 rfl rfl hl.1 rfl (Nat.le_of_ble_eq_true rfl) dX9_lot_86 (fun rv_1 uv_1 H locs w hp_1 => ?_)
        obtain ⟨zc_1, gc_1⟩ := uv_1
        obtain ⟨hp_1, hzc_1, hgc_1⟩ := hp_1
        replace w : wd D A s.heap (xw cy a zc_1 gc_1) H locs := w
        replace hzc_1 : xBz zc_1 := hzc_1
        replace hgc_1 : xBg gc_1 := hgc_1
        try dsimp only at hp_1
        exact hend rv_1 (zc_1, gc_1) _ _ _ _ dX9_lot_89 w ⟨(by exact Or.inr ⟨by unfold okLot; omega, hp_1.1, hp_1.2⟩), hzc_1, hgc_1⟩
      · skip
        refine r_iconst hx hb dX9_lot_73 ?_
        exact hend (-1) (z, g) _ _ _ _ dX9_lot_74 w ⟨(by exact Or.inl ⟨by unfold okLot; omega, rfl, rfl⟩), hz, hg⟩
  replace hl : lv_has ls 7 [(0, .ref (a 0)), (1, vI p0), (2, vI p1), (3, vI p2), (4, vI p3), (5, vI p4)] := hl
  refine lv_iload_n hx hb dX9_lot_0 rfl (lv_at hl 1 rfl) ?_
  refine r_bipush hx hb dX9_lot_1 (by decide) ?_
  refine cSI C w hA (ct_X9_isBelow l D cy a z g p0 8 (by show iR p0; omega) (by show iR 8; omega)) ok_X9_isBelow km_X9_115 ⟨rfl, rfl⟩ ⟨by decide, by decide⟩ ⟨by decide, by decide⟩ rfl hl.1 rfl (Nat.le_of_ble_eq_true rfl) dX9_lot_3 (fun rv_2 uv_2 H locs w hp_2 => ?_)
  replace hp_2 : (rv_2 = 1 ∧ 0 ≤ p0 ∧ p0 < 8) ∨ (rv_2 = 0 ∧ ¬ (0 ≤ p0 ∧ p0 < 8)) := hp_2
  replace w : wd D A s.heap (xw cy a z g) H locs := w
  refine r_if_eq (tgt := 53) hx hb dX9_lot_6 (by decide) (by omega) (fun c6 => ?_) (fun c6 => ?_)
  · skip
    refine r_iconst hx hb dX9_lot_53 ?_
    exact J54 0 (by unfold okLot; omega) _ _ _ w (lv_sub hl [0, 1, 2, 3, 4, 5] rfl)
  · skip
    refine lv_iload_n hx hb dX9_lot_9 rfl (lv_at hl 2 rfl) ?_
    refine r_bipush hx hb dX9_lot_10 (by decide) ?_
    refine cSI C w hA (ct_X9_isBelow l D cy a z g p1 6 (by show iR p1; omega) (by show iR 6; omega)) ok_X9_isBelow km_X9_115 ⟨rfl, rfl⟩ ⟨by decide, by decide⟩ ⟨by decide, by decide⟩ rfl hl.1 rfl (Nat.le_of_ble_eq_true rfl) dX9_lot_12 (fun rv_3 uv_3 H locs w hp_3 => ?_)
    replace hp_3 : (rv_3 = 1 ∧ 0 ≤ p1 ∧ p1 < 6) ∨ (rv_3 = 0 ∧ ¬ (0 ≤ p1 ∧ p1 < 6)) := hp_3
    replace w : wd D A s.heap (xw cy a z g) H locs := w
    refine r_if_eq (tgt := 53) hx hb dX9_lot_15 (by decide) (by omega) (fun c15 => ?_) (fun c15 => ?_)
    · skip
      refine r_iconst hx hb dX9_lot_53 ?_
      exact J54 0 (by unfold okLot; omega) _ _ _ w (lv_sub hl [0, 1, 2, 3, 4, 5] rfl)
    · skip
      refine lv_iload_n hx hb dX9_lot_18 rfl (lv_at hl 3 rfl) ?_
      refine r_iconst hx hb dX9_lot_19 ?_
      refine cSI C w hA (ct_X9_isBelow l D cy a z g p2 4 (by show iR p2; omega) (by show iR 4; omega)) ok_X9_isBelow km_X9_115 ⟨rfl, rfl⟩ ⟨by decide, by decide⟩ ⟨by decide, by decide⟩ rfl hl.1 rfl (Nat.le_of_ble_eq_true rfl) dX9_lot_20 (fun rv_4 uv_4 H locs w hp_4 => ?_)
      replace hp_4 : (rv_4 = 1 ∧ 0 ≤ p2 ∧ p2 < 4) ∨ (rv_4 = 0 ∧ ¬ (0 ≤ p2 ∧ p2 < 4)) := hp_4
      replace w : wd D A s.heap (xw cy a z g) H locs := w
      refine r_if_eq (tgt := 53) hx hb dX9_lot_23 (by decide) (by omega) (fun c23 => ?_) (fun c23 => ?_)
      · skip
        refine r_iconst hx hb dX9_lot_53 ?_
        exact J54 0 (by unfold okLot; omega) _ _ _ w (lv_sub hl [0, 1, 2, 3, 4, 5] rfl)
      · skip
        refine lv_iload hx hb dX9_lot_26 (lv_at hl 4 rfl) ?_
        refine r_iconst hx hb dX9_lot_28 ?_
        refine r_icmp_lt (tgt := 53) hx hb dX9_lot_29 (by decide) (by omega) (by omega) (fun c29 => ?_) (fun c29 => ?_)
        · skip
          refine r_iconst hx hb dX9_lot_53 ?_
          exact J54 0 (by unfold okLot; omega) _ _ _ w (lv_sub hl [0, 1, 2, 3, 4, 5] rfl)
        · skip
          refine lv_iload hx hb dX9_lot_32 (lv_at hl 4 rfl) ?_
          refine r_sipush hx hb dX9_lot_34 (by decide) ?_
          refine r_icmp_gt (tgt := 53) hx hb dX9_lot_37 (by decide) (by omega) (by omega) (fun c37 => ?_) (fun c37 => ?_)
          · skip
            refine r_iconst hx hb dX9_lot_53 ?_
            exact J54 0 (by unfold okLot; omega) _ _ _ w (lv_sub hl [0, 1, 2, 3, 4, 5] rfl)
          · skip
            refine lv_iload hx hb dX9_lot_40 (lv_at hl 5 rfl) ?_
            refine r_iconst hx hb dX9_lot_42 ?_
            refine cSI C w hA (ct_X9_isBelow l D cy a z g p4 4 (by show iR p4; omega) (by show iR 4; omega)) ok_X9_isBelow km_X9_115 ⟨rfl, rfl⟩ ⟨by decide, by decide⟩ ⟨by decide, by decide⟩ rfl hl.1 rfl (Nat.le_of_ble_eq_true rfl) dX9_lot_43 (fun rv_5 uv_5 H locs w hp_5 => ?_)
            replace hp_5 : (rv_5 = 1 ∧ 0 ≤ p4 ∧ p4 < 4) ∨ (rv_5 = 0 ∧ ¬ (0 ≤ p4 ∧ p4 < 4)) := hp_5
            replace w : wd D A s.heap (xw cy a z g) H locs := w
            refine r_if_eq (tgt := 53) hx hb dX9_lot_46 (by decide) (by omega) (fun c46 => ?_) (fun c46 => ?_)
            · skip
              refine r_iconst hx hb dX9_lot_53 ?_
              exact J54 0 (by unfold okLot; omega) _ _ _ w (lv_sub hl [0, 1, 2, 3, 4, 5] rfl)
            · skip
              refine r_iconst hx hb dX9_lot_49 ?_
              refine lv_goto (tgt := 54) hx hb dX9_lot_50 (by decide) ?_
              exact J54 1 (by unfold okLot; omega) _ _ _ w (lv_sub hl [0, 1, 2, 3, 4, 5] rfl)

abbrev rm_X9_money : Room := { frames := 1, cells := 0, slots := 0, locals := 21 }
set_option maxHeartbeats 4000000 in
set_option maxRecDepth 100000 in
theorem ct_X9_money (l : Launch) (D : va_G) (cy : Nat → ClassId) (a : Nat → Nat) (z : Nat → Int) (g : Nat → Int → Int) (p0 p1 : Int) (hz : xBz z) (hg : xBg g) (h0 : iR p0) (h1 : iR p1) : MI l yX9_money cX9_money 3 .boolean (rm_X9_money) D cy (xw cy a z g) [.ref (a 0), vI p0, vI p1] (fun (v : Int) (u : sX) => ((¬ ((0 ≤ p0 ∧ p0 < 10) ∧ 0 ≤ p1 ∧ p1 ≤ 1000000) ∧ v = 0 ∧ u = (z, g)) ∨ (((0 ≤ p0 ∧ p0 < 10) ∧ 0 ≤ p1 ∧ p1 ≤ 1000000) ∧ v = 1 ∧ u = (z, uZ (uZ g 29 (uI (g 29) p0 p1)) 30 (uI (g 30) p0 p1)))) ∧ xBz u.1 ∧ xBg u.2) (fun u => xw cy a u.1 u.2) 0 0 := by
  refine go_i (by decide +kernel) (Nat.le_of_ble_eq_true rfl) (Or.inr (fun v u h => nb01 (by omega))) ?_
  intro p e s m args below meth c Q A ls C hnm hA w hl hend
  have hx := C.1
  have hb := C.2.1
  replace hl : lv_has ls 3 [(0, .ref (a 0)), (1, vI p0), (2, vI p1)] := hl
  refine lv_iload_n hx hb dX9_money_0 rfl (lv_at hl 1 rfl) ?_
  refine r_bipush hx hb dX9_money_1 (by decide) ?_
  refine cSI C w hA (ct_X9_isBelow l D cy a z g p0 10 (by show iR p0; omega) (by show iR 10; omega)) ok_X9_isBelow km_X9_115 ⟨rfl, rfl⟩ ⟨by decide, by decide⟩ ⟨by decide, by decide⟩ rfl hl.1 rfl (Nat.le_of_ble_eq_true rfl) dX9_money_3 (fun rv_1 uv_1 H locs w hp_1 => ?_)
  replace hp_1 : (rv_1 = 1 ∧ 0 ≤ p0 ∧ p0 < 10) ∨ (rv_1 = 0 ∧ ¬ (0 ≤ p0 ∧ p0 < 10)) := hp_1
  replace w : wd D A s.heap (xw cy a z g) H locs := w
  refine r_if_eq (tgt := 19) hx hb dX9_money_6 (by decide) (by omega) (fun c6 => ?_) (fun c6 => ?_)
  · skip
    refine r_iconst hx hb dX9_money_19 ?_
    exact hend 0 (z, g) _ _ _ _ dX9_money_20 w ⟨(by first | exact Or.inl ⟨by omega, rfl, rfl⟩ | exact Or.inr ⟨by omega, rfl, rfl⟩), hz, hg⟩
  · skip
    refine lv_iload_n hx hb dX9_money_9 rfl (lv_at hl 2 rfl) ?_
    refine r_if_lt (tgt := 19) hx hb dX9_money_10 (by decide) (by omega) (fun c10 => ?_) (fun c10 => ?_)
    · skip
      refine r_iconst hx hb dX9_money_19 ?_
      exact hend 0 (z, g) _ _ _ _ dX9_money_20 w ⟨(by first | exact Or.inl ⟨by omega, rfl, rfl⟩ | exact Or.inr ⟨by omega, rfl, rfl⟩), hz, hg⟩
    · skip
      refine lv_iload_n hx hb dX9_money_13 rfl (lv_at hl 2 rfl) ?_
      refine lv_ldc (v := iI (1000000)) hx hb C.2.2.2.1 (C.2.2.2.2.1 _ kk_X9_124) dX9_money_14 ?_
      refine r_icmp_le (tgt := 21) hx hb dX9_money_16 (by decide) (by omega) (by omega) (fun c16 => ?_) (fun c16 => ?_)
      · skip
        refine lv_aload_n hx hb dX9_money_21 rfl (lv_at hl 0 rfl) ?_
        refine r_get C w 0 (v := .ref (a 28)) rfl rfl 5 (by decide) inX9 kf_X9_49 rfl dX9_money_22 ?_
        refine r_getN C w 28 (v := .ref (a 29)) rfl rfl 0 (by decide) inX0 kt_X9_125 rfl dX9_money_25 ?_
        refine lv_iload_n hx hb dX9_money_28 rfl (lv_at hl 1 rfl) ?_
        refine lv_iload_n hx hb dX9_money_29 rfl (lv_at hl 2 rfl) ?_
        refine r_iast C w 29 (f := (g 29)) rfl (by omega) (by omega) (by decide) (ws' := xw cy a z (uZ g 29 (uI (g 29) p0 p1))) (xw_g29 cy a z g (uI (g 29) p0 p1)) dX9_money_30 (fun H locs w => ?_)
        have bg1 : ∀ j : Int, (0 : Int) ≤ (uI (g 29) p0 p1) j ∧ (uI (g 29) p0 p1) j ≤ 1000000 := uI_b (xB29 hg) (by omega)
        refine lv_aload_n hx hb dX9_money_31 rfl (lv_at hl 0 rfl) ?_
        refine r_get C w 0 (v := .ref (a 28)) rfl rfl 5 (by decide) inX9 kf_X9_49 rfl dX9_money_32 ?_
        refine r_getN C w 28 (v := .ref (a 30)) rfl rfl 1 (by decide) inX0 kt_X9_128 rfl dX9_money_35 ?_
        refine lv_iload_n hx hb dX9_money_38 rfl (lv_at hl 1 rfl) ?_
        refine lv_iload_n hx hb dX9_money_39 rfl (lv_at hl 2 rfl) ?_
        refine r_iast C w 30 (f := (g 30)) rfl (by omega) (by omega) (by decide) (ws' := xw cy a z (uZ (uZ g 29 (uI (g 29) p0 p1)) 30 (uI (g 30) p0 p1))) (xw_g30 cy a z (uZ g 29 (uI (g 29) p0 p1)) (uI (g 30) p0 p1)) dX9_money_40 (fun H locs w => ?_)
        have bg2 : ∀ j : Int, (0 : Int) ≤ (uI (g 30) p0 p1) j ∧ (uI (g 30) p0 p1) j ≤ 1000000 := uI_b (xB30 hg) (by omega)
        refine r_iconst hx hb dX9_money_41 ?_
        exact hend 1 (z, (uZ (uZ g 29 (uI (g 29) p0 p1)) 30 (uI (g 30) p0 p1))) _ _ _ _ dX9_money_42 w ⟨(by first | exact Or.inl ⟨by omega, rfl, rfl⟩ | exact Or.inr ⟨by omega, rfl, rfl⟩), hz, (xBg_u (xBg_u hg 29 bg1) 30 bg2)⟩
      · skip
        refine r_iconst hx hb dX9_money_19 ?_
        exact hend 0 (z, g) _ _ _ _ dX9_money_20 w ⟨(by first | exact Or.inl ⟨by omega, rfl, rfl⟩ | exact Or.inr ⟨by omega, rfl, rfl⟩), hz, hg⟩

abbrev rm_X9_isWantPlace : Room := { frames := 1, cells := 0, slots := 0, locals := 21 }
set_option maxHeartbeats 4000000 in
set_option maxRecDepth 100000 in
theorem ct_X9_isWantPlace (l : Launch) (D : va_G) (cy : Nat → ClassId) (a : Nat → Nat) (z : Nat → Int) (g : Nat → Int → Int) (p0 p1 p2 : Int) (h0 : iR p0) (h1 : iR p1) (h2 : iR p2) : MI l yX9_isWantPlace cX9_isWantPlace 3 .boolean (rm_X9_isWantPlace) D cy (xw cy a z g) [vI p0, vI p1, vI p2] (fun (v : Int) (u : Unit) => (v = 1 ∧ (0 ≤ p0 ∧ p0 < 10) ∧ (0 ≤ p1 ∧ p1 < 4) ∧ (0 ≤ p2 ∧ p2 < 4)) ∨ (v = 0 ∧ ¬ ((0 ≤ p0 ∧ p0 < 10) ∧ (0 ≤ p1 ∧ p1 < 4) ∧ (0 ≤ p2 ∧ p2 < 4)))) (fun _ => xw cy a z g) 0 0 := by
  refine go_i (by decide +kernel) (Nat.le_of_ble_eq_true rfl) (Or.inr (fun v u h => nb01 (by omega))) ?_
  intro p e s m args below meth c Q A ls C hnm hA w hl hend
  have hx := C.1
  have hb := C.2.1
  replace hl : lv_has ls 3 [(0, vI p0), (1, vI p1), (2, vI p2)] := hl
  refine lv_iload_n hx hb dX9_isWantPlace_0 rfl (lv_at hl 0 rfl) ?_
  refine r_bipush hx hb dX9_isWantPlace_1 (by decide) ?_
  refine cSI C w hA (ct_X9_isBelow l D cy a z g p0 10 (by show iR p0; omega) (by show iR 10; omega)) ok_X9_isBelow km_X9_115 ⟨rfl, rfl⟩ ⟨by decide, by decide⟩ ⟨by decide, by decide⟩ rfl hl.1 rfl (Nat.le_of_ble_eq_true rfl) dX9_isWantPlace_3 (fun rv_1 uv_1 H locs w hp_1 => ?_)
  replace hp_1 : (rv_1 = 1 ∧ 0 ≤ p0 ∧ p0 < 10) ∨ (rv_1 = 0 ∧ ¬ (0 ≤ p0 ∧ p0 < 10)) := hp_1
  replace w : wd D A s.heap (xw cy a z g) H locs := w
  refine r_if_eq (tgt := 29) hx hb dX9_isWantPlace_6 (by decide) (by omega) (fun c6 => ?_) (fun c6 => ?_)
  · skip
    refine r_iconst hx hb dX9_isWantPlace_29 ?_
    exact hend 0 () _ _ _ _ dX9_isWantPlace_30 w (by omega)
  · skip
    refine lv_iload_n hx hb dX9_isWantPlace_9 rfl (lv_at hl 1 rfl) ?_
    refine r_iconst hx hb dX9_isWantPlace_10 ?_
    refine cSI C w hA (ct_X9_isBelow l D cy a z g p1 4 (by show iR p1; omega) (by show iR 4; omega)) ok_X9_isBelow km_X9_115 ⟨rfl, rfl⟩ ⟨by decide, by decide⟩ ⟨by decide, by decide⟩ rfl hl.1 rfl (Nat.le_of_ble_eq_true rfl) dX9_isWantPlace_11 (fun rv_2 uv_2 H locs w hp_2 => ?_)
    replace hp_2 : (rv_2 = 1 ∧ 0 ≤ p1 ∧ p1 < 4) ∨ (rv_2 = 0 ∧ ¬ (0 ≤ p1 ∧ p1 < 4)) := hp_2
    replace w : wd D A s.heap (xw cy a z g) H locs := w
    refine r_if_eq (tgt := 29) hx hb dX9_isWantPlace_14 (by decide) (by omega) (fun c14 => ?_) (fun c14 => ?_)
    · skip
      refine r_iconst hx hb dX9_isWantPlace_29 ?_
      exact hend 0 () _ _ _ _ dX9_isWantPlace_30 w (by omega)
    · skip
      refine lv_iload_n hx hb dX9_isWantPlace_17 rfl (lv_at hl 2 rfl) ?_
      refine r_iconst hx hb dX9_isWantPlace_18 ?_
      refine cSI C w hA (ct_X9_isBelow l D cy a z g p2 4 (by show iR p2; omega) (by show iR 4; omega)) ok_X9_isBelow km_X9_115 ⟨rfl, rfl⟩ ⟨by decide, by decide⟩ ⟨by decide, by decide⟩ rfl hl.1 rfl (Nat.le_of_ble_eq_true rfl) dX9_isWantPlace_19 (fun rv_3 uv_3 H locs w hp_3 => ?_)
      replace hp_3 : (rv_3 = 1 ∧ 0 ≤ p2 ∧ p2 < 4) ∨ (rv_3 = 0 ∧ ¬ (0 ≤ p2 ∧ p2 < 4)) := hp_3
      replace w : wd D A s.heap (xw cy a z g) H locs := w
      refine r_if_eq (tgt := 29) hx hb dX9_isWantPlace_22 (by decide) (by omega) (fun c22 => ?_) (fun c22 => ?_)
      · skip
        refine r_iconst hx hb dX9_isWantPlace_29 ?_
        exact hend 0 () _ _ _ _ dX9_isWantPlace_30 w (by omega)
      · skip
        refine r_iconst hx hb dX9_isWantPlace_25 ?_
        refine lv_goto (tgt := 30) hx hb dX9_isWantPlace_26 (by decide) ?_
        exact hend 1 () _ _ _ _ dX9_isWantPlace_30 w (by omega)

abbrev rm_X9_want : Room := { frames := 2, cells := 0, slots := 0, locals := 43 }
set_option maxHeartbeats 4000000 in
set_option maxRecDepth 100000 in
theorem ct_X9_want (l : Launch) (D : va_G) (cy : Nat → ClassId) (a : Nat → Nat) (z : Nat → Int) (g : Nat → Int → Int) (p0 p1 p2 p3 p4 : Int) (hz : xBz z) (hg : xBg g) (h0 : iR p0) (h1 : iR p1) (h2 : iR p2) (h3 : iR p3) (h4 : iR p4) : MI l yX9_want cX9_want 8 .boolean (rm_X9_want) D cy (xw cy a z g) [.ref (a 0), vI p0, vI p1, vI p2, vI p3, vI p4] (fun (v : Int) (u : sX) => ((¬ ((0 ≤ p0 ∧ p0 < 10) ∧ (0 ≤ p1 ∧ p1 < 4) ∧ (0 ≤ p2 ∧ p2 < 4) ∧ (0 ≤ p3 ∧ p3 ≤ 5000) ∧ (0 ≤ p4 ∧ p4 ≤ 9999)) ∧ v = 0 ∧ u = (z, g)) ∨ (((0 ≤ p0 ∧ p0 < 10) ∧ (0 ≤ p1 ∧ p1 < 4) ∧ (0 ≤ p2 ∧ p2 < 4) ∧ (0 ≤ p3 ∧ p3 ≤ 5000) ∧ (0 ≤ p4 ∧ p4 ≤ 9999)) ∧ v = 1 ∧ u = (z, uZ (uZ g 31 (uI (g 31) ((p0 * 4 + p1) * 4 + p2) p3)) 32 (uI (g 32) ((p0 * 4 + p1) * 4 + p2) p4)))) ∧ xBz u.1 ∧ xBg u.2) (fun u => xw cy a u.1 u.2) 0 0 := by
  refine go_i (by decide +kernel) (Nat.le_of_ble_eq_true rfl) (Or.inr (fun v u h => nb01 (by omega))) ?_
  intro p e s m args below meth c Q A ls C hnm hA w hl hend
  have hx := C.1
  have hb := C.2.1
  have J40 : ∀ (b : Int), ((b = 1 ∧ (0 ≤ p0 ∧ p0 < 10) ∧ (0 ≤ p1 ∧ p1 < 4) ∧ (0 ≤ p2 ∧ p2 < 4) ∧ (0 ≤ p3 ∧ p3 ≤ 5000) ∧ (0 ≤ p4 ∧ p4 ≤ 9999)) ∨ (b = 0 ∧ ¬ ((0 ≤ p0 ∧ p0 < 10) ∧ (0 ≤ p1 ∧ p1 < 4) ∧ (0 ≤ p2 ∧ p2 < 4) ∧ (0 ≤ p3 ∧ p3 ≤ 5000) ∧ (0 ≤ p4 ∧ p4 ≤ 9999)))) → ∀ (H : Heap) (locs : List Loc) (ls : Array Slot), wd D A s.heap (xw cy a z g) H locs → lv_has ls 8 [(0, .ref (a 0)), (1, vI p0), (2, vI p1), (3, vI p2), (4, vI p3), (5, vI p4)] → W p l e (rm_X9_want) s m args below meth c H locs 0 0 Q (F0 m 40 ls [vI b]) := by
    intro b hb1 H locs ls w hl
    refine lv_istore (lv' := [(6, vI b), (0, .ref (a 0)), (1, vI p0), (2, vI p1), (3, vI p2), (4, vI p3), (5, vI p4)]) hx hb dX9_want_40 hl (by decide) rfl (fun ls hl => ?_)
    refine lv_iload hx hb dX9_want_42 (lv_at hl 0 rfl) ?_
    refine r_if_ne (tgt := 49) hx hb dX9_want_44 (by decide) (by omega) (fun c44 => ?_) (fun c44 => ?_)
    · skip
      refine lv_iload_n hx hb dX9_want_49 rfl (lv_at hl 2 rfl) ?_
      refine lv_iload_n hx hb dX9_want_50 rfl (lv_at hl 3 rfl) ?_
      refine lv_iload_n hx hb dX9_want_51 rfl (lv_at hl 4 rfl) ?_
      refine cSI C w hA (ct_X0_wantPlace l D cy a z g p0 p1 p2 ) ok_X0_wantPlace km_X9_135 ⟨rfl, rfl⟩ ⟨by decide, by decide⟩ ⟨by decide, by decide⟩ rfl hl.1 rfl (Nat.le_of_ble_eq_true rfl) dX9_want_52 (fun rv_1 uv_1 H locs w hp_1 => ?_)
      replace hp_1 : rv_1 = (p0 * 4 + p1) * 4 + p2 := hp_1
      replace w : wd D A s.heap (xw cy a z g) H locs := w
      subst hp_1
      refine lv_istore (lv' := [(7, vI ((p0 * 4 + p1) * 4 + p2)), (6, vI b), (0, .ref (a 0)), (1, vI p0), (2, vI p1), (3, vI p2), (4, vI p3), (5, vI p4)]) hx hb dX9_want_55 hl (by decide) rfl (fun ls hl => ?_)
      refine lv_aload_n hx hb dX9_want_57 rfl (lv_at hl 2 rfl) ?_
      refine r_get C w 0 (v := .ref (a 28)) rfl rfl 5 (by decide) inX9 kf_X9_49 rfl dX9_want_58 ?_
      refine r_getN C w 28 (v := .ref (a 31)) rfl rfl 2 (by decide) inX0 kt_X9_139 rfl dX9_want_61 ?_
      refine lv_iload hx hb dX9_want_64 (lv_at hl 0 rfl) ?_
      refine lv_iload hx hb dX9_want_66 (lv_at hl 6 rfl) ?_
      refine r_iast C w 31 (f := (g 31)) rfl (by omega) (by omega) (by decide) (ws' := xw cy a z (uZ g 31 (uI (g 31) ((p0 * 4 + p1) * 4 + p2) p3))) (xw_g31 cy a z g (uI (g 31) ((p0 * 4 + p1) * 4 + p2) p3)) dX9_want_68 (fun H locs w => ?_)
      have bg1 : ∀ j : Int, (0 : Int) ≤ (uI (g 31) ((p0 * 4 + p1) * 4 + p2) p3) j ∧ (uI (g 31) ((p0 * 4 + p1) * 4 + p2) p3) j ≤ 5000 := uI_b (xB31 hg) (by omega)
      refine lv_aload_n hx hb dX9_want_69 rfl (lv_at hl 2 rfl) ?_
      refine r_get C w 0 (v := .ref (a 28)) rfl rfl 5 (by decide) inX9 kf_X9_49 rfl dX9_want_70 ?_
      refine r_getN C w 28 (v := .ref (a 32)) rfl rfl 3 (by decide) inX0 kt_X9_142 rfl dX9_want_73 ?_
      refine lv_iload hx hb dX9_want_76 (lv_at hl 0 rfl) ?_
      refine lv_iload hx hb dX9_want_78 (lv_at hl 7 rfl) ?_
      refine r_iast C w 32 (f := (g 32)) rfl (by omega) (by omega) (by decide) (ws' := xw cy a z (uZ (uZ g 31 (uI (g 31) ((p0 * 4 + p1) * 4 + p2) p3)) 32 (uI (g 32) ((p0 * 4 + p1) * 4 + p2) p4))) (xw_g32 cy a z (uZ g 31 (uI (g 31) ((p0 * 4 + p1) * 4 + p2) p3)) (uI (g 32) ((p0 * 4 + p1) * 4 + p2) p4)) dX9_want_80 (fun H locs w => ?_)
      have bg2 : ∀ j : Int, (0 : Int) ≤ (uI (g 32) ((p0 * 4 + p1) * 4 + p2) p4) j ∧ (uI (g 32) ((p0 * 4 + p1) * 4 + p2) p4) j ≤ 9999 := uI_b (xB32 hg) (by omega)
      refine r_iconst hx hb dX9_want_81 ?_
      exact hend 1 (z, (uZ (uZ g 31 (uI (g 31) ((p0 * 4 + p1) * 4 + p2) p3)) 32 (uI (g 32) ((p0 * 4 + p1) * 4 + p2) p4))) _ _ _ _ dX9_want_82 w ⟨(by exact Or.inr ⟨by omega, rfl, rfl⟩), hz, (xBg_u (xBg_u hg 31 bg1) 32 bg2)⟩
    · skip
      refine r_iconst hx hb dX9_want_47 ?_
      exact hend 0 (z, g) _ _ _ _ dX9_want_48 w ⟨(by exact Or.inl ⟨by omega, rfl, rfl⟩), hz, hg⟩
  replace hl : lv_has ls 8 [(0, .ref (a 0)), (1, vI p0), (2, vI p1), (3, vI p2), (4, vI p3), (5, vI p4)] := hl
  refine lv_iload_n hx hb dX9_want_0 rfl (lv_at hl 1 rfl) ?_
  refine lv_iload_n hx hb dX9_want_1 rfl (lv_at hl 2 rfl) ?_
  refine lv_iload_n hx hb dX9_want_2 rfl (lv_at hl 3 rfl) ?_
  refine cSI C w hA (ct_X9_isWantPlace l D cy a z g p0 p1 p2 (by show iR p0; omega) (by show iR p1; omega) (by show iR p2; omega)) ok_X9_isWantPlace km_X9_131 ⟨rfl, rfl⟩ ⟨by decide, by decide⟩ ⟨by decide, by decide⟩ rfl hl.1 rfl (Nat.le_of_ble_eq_true rfl) dX9_want_3 (fun rv_2 uv_2 H locs w hp_2 => ?_)
  replace hp_2 : (rv_2 = 1 ∧ (0 ≤ p0 ∧ p0 < 10) ∧ (0 ≤ p1 ∧ p1 < 4) ∧ (0 ≤ p2 ∧ p2 < 4)) ∨ (rv_2 = 0 ∧ ¬ ((0 ≤ p0 ∧ p0 < 10) ∧ (0 ≤ p1 ∧ p1 < 4) ∧ (0 ≤ p2 ∧ p2 < 4))) := hp_2
  replace w : wd D A s.heap (xw cy a z g) H locs := w
  refine r_if_eq (tgt := 39) hx hb dX9_want_6 (by decide) (by omega) (fun c6 => ?_) (fun c6 => ?_)
  · skip
    refine r_iconst hx hb dX9_want_39 ?_
    exact J40 0 (by omega) _ _ _ w (lv_sub hl [0, 1, 2, 3, 4, 5] rfl)
  · skip
    refine lv_iload hx hb dX9_want_9 (lv_at hl 4 rfl) ?_
    refine r_if_lt (tgt := 39) hx hb dX9_want_11 (by decide) (by omega) (fun c11 => ?_) (fun c11 => ?_)
    · skip
      refine r_iconst hx hb dX9_want_39 ?_
      exact J40 0 (by omega) _ _ _ w (lv_sub hl [0, 1, 2, 3, 4, 5] rfl)
    · skip
      refine lv_iload hx hb dX9_want_14 (lv_at hl 4 rfl) ?_
      refine r_sipush hx hb dX9_want_16 (by decide) ?_
      refine r_icmp_gt (tgt := 39) hx hb dX9_want_19 (by decide) (by omega) (by omega) (fun c19 => ?_) (fun c19 => ?_)
      · skip
        refine r_iconst hx hb dX9_want_39 ?_
        exact J40 0 (by omega) _ _ _ w (lv_sub hl [0, 1, 2, 3, 4, 5] rfl)
      · skip
        refine lv_iload hx hb dX9_want_22 (lv_at hl 5 rfl) ?_
        refine r_if_lt (tgt := 39) hx hb dX9_want_24 (by decide) (by omega) (fun c24 => ?_) (fun c24 => ?_)
        · skip
          refine r_iconst hx hb dX9_want_39 ?_
          exact J40 0 (by omega) _ _ _ w (lv_sub hl [0, 1, 2, 3, 4, 5] rfl)
        · skip
          refine lv_iload hx hb dX9_want_27 (lv_at hl 5 rfl) ?_
          refine r_sipush hx hb dX9_want_29 (by decide) ?_
          refine r_icmp_gt (tgt := 39) hx hb dX9_want_32 (by decide) (by omega) (by omega) (fun c32 => ?_) (fun c32 => ?_)
          · skip
            refine r_iconst hx hb dX9_want_39 ?_
            exact J40 0 (by omega) _ _ _ w (lv_sub hl [0, 1, 2, 3, 4, 5] rfl)
          · skip
            refine r_iconst hx hb dX9_want_35 ?_
            refine lv_goto (tgt := 40) hx hb dX9_want_36 (by decide) ?_
            exact J40 1 (by omega) _ _ _ w (lv_sub hl [0, 1, 2, 3, 4, 5] rfl)

abbrev rm_X9_left : Room := { frames := 1, cells := 0, slots := 0, locals := 21 }
set_option maxHeartbeats 4000000 in
set_option maxRecDepth 100000 in
theorem ct_X9_left (l : Launch) (D : va_G) (cy : Nat → ClassId) (a : Nat → Nat) (z : Nat → Int) (g : Nat → Int → Int) (p0 : Int) (hz : xBz z) (hg : xBg g) (h0 : iR p0) : MI l yX9_left cX9_left 2 .int (rm_X9_left) D cy (xw cy a z g) [.ref (a 0), vI p0] (fun (v : Int) (u : Unit) => ((0 ≤ p0 ∧ p0 < 10) ∧ v = g 30 p0) ∨ (¬ (0 ≤ p0 ∧ p0 < 10) ∧ v = -1)) (fun _ => xw cy a z g) 0 0 := by
  refine go_i (by decide +kernel) (Nat.le_of_ble_eq_true rfl) (Or.inl rfl) ?_
  intro p e s m args below meth c Q A ls C hnm hA w hl hend
  have hx := C.1
  have hb := C.2.1
  replace hl : lv_has ls 2 [(0, .ref (a 0)), (1, vI p0)] := hl
  refine lv_iload_n hx hb dX9_left_0 rfl (lv_at hl 1 rfl) ?_
  refine r_bipush hx hb dX9_left_1 (by decide) ?_
  refine cSI C w hA (ct_X9_isBelow l D cy a z g p0 10 (by show iR p0; omega) (by show iR 10; omega)) ok_X9_isBelow km_X9_115 ⟨rfl, rfl⟩ ⟨by decide, by decide⟩ ⟨by decide, by decide⟩ rfl hl.1 rfl (Nat.le_of_ble_eq_true rfl) dX9_left_3 (fun rv_1 uv_1 H locs w hp_1 => ?_)
  replace hp_1 : (rv_1 = 1 ∧ 0 ≤ p0 ∧ p0 < 10) ∨ (rv_1 = 0 ∧ ¬ (0 ≤ p0 ∧ p0 < 10)) := hp_1
  replace w : wd D A s.heap (xw cy a z g) H locs := w
  refine r_if_eq (tgt := 21) hx hb dX9_left_6 (by decide) (by omega) (fun c6 => ?_) (fun c6 => ?_)
  · skip
    refine r_iconst hx hb dX9_left_21 ?_
    exact hend (-1) () _ _ _ _ dX9_left_22 w (by omega)
  · skip
    refine lv_aload_n hx hb dX9_left_9 rfl (lv_at hl 0 rfl) ?_
    refine r_get C w 0 (v := .ref (a 28)) rfl rfl 5 (by decide) inX9 kf_X9_49 rfl dX9_left_10 ?_
    refine r_getN C w 28 (v := .ref (a 30)) rfl rfl 1 (by decide) inX0 kt_X9_128 rfl dX9_left_13 ?_
    refine lv_iload_n hx hb dX9_left_16 rfl (lv_at hl 1 rfl) ?_
    refine r_iald C w 30 (f := (g 30)) rfl (by omega) (by omega) (by decide) dX9_left_17 ?_
    have qg1 := xB30 hg p0
    refine lv_goto (tgt := 22) hx hb dX9_left_18 (by decide) ?_
    exact hend ((g 30) p0) () _ _ _ _ dX9_left_22 w (by omega)

abbrev rm_X9_wanted : Room := { frames := 2, cells := 0, slots := 0, locals := 43 }
set_option maxHeartbeats 4000000 in
set_option maxRecDepth 100000 in
theorem ct_X9_wanted (l : Launch) (D : va_G) (cy : Nat → ClassId) (a : Nat → Nat) (z : Nat → Int) (g : Nat → Int → Int) (p0 p1 p2 : Int) (hz : xBz z) (hg : xBg g) (h0 : iR p0) (h1 : iR p1) (h2 : iR p2) : MI l yX9_wanted cX9_wanted 4 .int (rm_X9_wanted) D cy (xw cy a z g) [.ref (a 0), vI p0, vI p1, vI p2] (fun (v : Int) (u : Unit) => (((0 ≤ p0 ∧ p0 < 10) ∧ (0 ≤ p1 ∧ p1 < 4) ∧ (0 ≤ p2 ∧ p2 < 4)) ∧ v = g 31 ((p0 * 4 + p1) * 4 + p2)) ∨ (¬ ((0 ≤ p0 ∧ p0 < 10) ∧ (0 ≤ p1 ∧ p1 < 4) ∧ (0 ≤ p2 ∧ p2 < 4)) ∧ v = -1)) (fun _ => xw cy a z g) 0 0 := by
  refine go_i (by decide +kernel) (Nat.le_of_ble_eq_true rfl) (Or.inl rfl) ?_
  intro p e s m args below meth c Q A ls C hnm hA w hl hend
  have hx := C.1
  have hb := C.2.1
  replace hl : lv_has ls 4 [(0, .ref (a 0)), (1, vI p0), (2, vI p1), (3, vI p2)] := hl
  refine lv_iload_n hx hb dX9_wanted_0 rfl (lv_at hl 1 rfl) ?_
  refine lv_iload_n hx hb dX9_wanted_1 rfl (lv_at hl 2 rfl) ?_
  refine lv_iload_n hx hb dX9_wanted_2 rfl (lv_at hl 3 rfl) ?_
  refine cSI C w hA (ct_X9_isWantPlace l D cy a z g p0 p1 p2 (by show iR p0; omega) (by show iR p1; omega) (by show iR p2; omega)) ok_X9_isWantPlace km_X9_131 ⟨rfl, rfl⟩ ⟨by decide, by decide⟩ ⟨by decide, by decide⟩ rfl hl.1 rfl (Nat.le_of_ble_eq_true rfl) dX9_wanted_3 (fun rv_1 uv_1 H locs w hp_1 => ?_)
  replace hp_1 : (rv_1 = 1 ∧ (0 ≤ p0 ∧ p0 < 10) ∧ (0 ≤ p1 ∧ p1 < 4) ∧ (0 ≤ p2 ∧ p2 < 4)) ∨ (rv_1 = 0 ∧ ¬ ((0 ≤ p0 ∧ p0 < 10) ∧ (0 ≤ p1 ∧ p1 < 4) ∧ (0 ≤ p2 ∧ p2 < 4))) := hp_1
  replace w : wd D A s.heap (xw cy a z g) H locs := w
  refine r_if_ne (tgt := 11) hx hb dX9_wanted_6 (by decide) (by omega) (fun c6 => ?_) (fun c6 => ?_)
  · skip
    refine lv_aload_n hx hb dX9_wanted_11 rfl (lv_at hl 0 rfl) ?_
    refine r_get C w 0 (v := .ref (a 28)) rfl rfl 5 (by decide) inX9 kf_X9_49 rfl dX9_wanted_12 ?_
    refine r_getN C w 28 (v := .ref (a 31)) rfl rfl 2 (by decide) inX0 kt_X9_139 rfl dX9_wanted_15 ?_
    refine lv_iload_n hx hb dX9_wanted_18 rfl (lv_at hl 1 rfl) ?_
    refine lv_iload_n hx hb dX9_wanted_19 rfl (lv_at hl 2 rfl) ?_
    refine lv_iload_n hx hb dX9_wanted_20 rfl (lv_at hl 3 rfl) ?_
    refine cSI C w hA (ct_X0_wantPlace l D cy a z g p0 p1 p2 ) ok_X0_wantPlace km_X9_135 ⟨rfl, rfl⟩ ⟨by decide, by decide⟩ ⟨by decide, by decide⟩ rfl hl.1 rfl (Nat.le_of_ble_eq_true rfl) dX9_wanted_21 (fun rv_2 uv_2 H locs w hp_2 => ?_)
    replace hp_2 : rv_2 = (p0 * 4 + p1) * 4 + p2 := hp_2
    replace w : wd D A s.heap (xw cy a z g) H locs := w
    subst hp_2
    refine r_iald C w 31 (f := (g 31)) rfl (by omega) (by omega) (by decide) dX9_wanted_24 ?_
    have qg1 := xB31 hg ((p0 * 4 + p1) * 4 + p2)
    exact hend ((g 31) ((p0 * 4 + p1) * 4 + p2)) () _ _ _ _ dX9_wanted_25 w (by omega)
  · skip
    refine r_iconst hx hb dX9_wanted_9 ?_
    exact hend (-1) () _ _ _ _ dX9_wanted_10 w (by omega)

abbrev rm_X9_reject : Room := { frames := 1, cells := 0, slots := 0, locals := 21 }
set_option maxHeartbeats 4000000 in
set_option maxRecDepth 100000 in
theorem ct_X9_reject (l : Launch) (D : va_G) (cy : Nat → ClassId) (a : Nat → Nat) (z : Nat → Int) (g : Nat → Int → Int) (p0 : Int) (hz : xBz z) (hg : xBg g) (h0 : iR p0) : MI l yX9_reject cX9_reject 3 .boolean (rm_X9_reject) D cy (xw cy a z g) [.ref (a 0), vI p0] (fun (v : Int) (u : sX) => ((¬ (0 ≤ p0 ∧ p0 < z 17 ∧ g 26 p0 = -1 ∧ g 19 (g 21 p0) = p0) ∧ v = 0 ∧ u = (z, g)) ∨ ((0 ≤ p0 ∧ p0 < z 17 ∧ g 26 p0 = -1 ∧ g 19 (g 21 p0) = p0) ∧ v = 1 ∧ u = (z, uZ (uZ g 26 (uI (g 26) p0 (z 0))) 18 (uI (g 18) (g 21 p0) 0)))) ∧ xBz u.1 ∧ xBg u.2) (fun u => xw cy a u.1 u.2) 0 0 := by
  refine go_i (by decide +kernel) (Nat.le_of_ble_eq_true rfl) (Or.inr (fun v u h => nb01 (by omega))) ?_
  intro p e s m args below meth c Q A ls C hnm hA w hl hend
  have hx := C.1
  have hb := C.2.1
  replace hl : lv_has ls 3 [(0, .ref (a 0)), (1, vI p0)] := hl
  refine lv_iload_n hx hb dX9_reject_0 rfl (lv_at hl 1 rfl) ?_
  refine lv_aload_n hx hb dX9_reject_1 rfl (lv_at hl 0 rfl) ?_
  refine r_get C w 0 (v := .ref (a 20)) rfl rfl 4 (by decide) inX9 kf_X9_42 rfl dX9_reject_2 ?_
  refine r_getN C w 20 (v := vI (z 17)) rfl rfl 7 (by decide) inX7 kt_X9_145 rfl dX9_reject_5 ?_
  have qz1 := xZ17 hz
  refine cSI C w hA (ct_X9_isBelow l D cy a z g p0 (z 17) (by show iR p0; omega) (by show iR (z 17); omega)) ok_X9_isBelow km_X9_115 ⟨rfl, rfl⟩ ⟨by decide, by decide⟩ ⟨by decide, by decide⟩ rfl hl.1 rfl (Nat.le_of_ble_eq_true rfl) dX9_reject_8 (fun rv_1 uv_1 H locs w hp_1 => ?_)
  replace hp_1 : (rv_1 = 1 ∧ 0 ≤ p0 ∧ p0 < (z 17)) ∨ (rv_1 = 0 ∧ ¬ (0 ≤ p0 ∧ p0 < (z 17))) := hp_1
  replace w : wd D A s.heap (xw cy a z g) H locs := w
  refine r_if_eq (tgt := 27) hx hb dX9_reject_11 (by decide) (by omega) (fun c11 => ?_) (fun c11 => ?_)
  · skip
    refine r_iconst hx hb dX9_reject_27 ?_
    exact hend 0 (z, g) _ _ _ _ dX9_reject_28 w ⟨(by first | exact Or.inl ⟨by omega, rfl, rfl⟩ | exact Or.inr ⟨by omega, rfl, rfl⟩), hz, hg⟩
  · skip
    refine lv_aload_n hx hb dX9_reject_14 rfl (lv_at hl 0 rfl) ?_
    refine r_get C w 0 (v := .ref (a 20)) rfl rfl 4 (by decide) inX9 kf_X9_42 rfl dX9_reject_15 ?_
    refine r_getN C w 20 (v := .ref (a 26)) rfl rfl 5 (by decide) inX7 kt_X9_150 rfl dX9_reject_18 ?_
    refine lv_iload_n hx hb dX9_reject_21 rfl (lv_at hl 1 rfl) ?_
    refine r_iald C w 26 (f := (g 26)) rfl (by omega) (by omega) (by decide) dX9_reject_22 ?_
    have qg2 := xB26 hg p0
    refine r_iconst hx hb dX9_reject_23 ?_
    refine r_icmp_eq (tgt := 29) hx hb dX9_reject_24 (by decide) (by omega) (by omega) (fun c24 => ?_) (fun c24 => ?_)
    · skip
      refine lv_aload_n hx hb dX9_reject_29 rfl (lv_at hl 0 rfl) ?_
      refine r_get C w 0 (v := .ref (a 20)) rfl rfl 4 (by decide) inX9 kf_X9_42 rfl dX9_reject_30 ?_
      refine r_getN C w 20 (v := .ref (a 21)) rfl rfl 0 (by decide) inX7 kt_X9_153 rfl dX9_reject_33 ?_
      refine lv_iload_n hx hb dX9_reject_36 rfl (lv_at hl 1 rfl) ?_
      refine r_iald C w 21 (f := (g 21)) rfl (by omega) (by omega) (by decide) dX9_reject_37 ?_
      have qg3 := xB21 hg p0
      refine lv_istore_n (lv' := [(2, vI ((g 21) p0)), (0, .ref (a 0)), (1, vI p0)]) hx hb dX9_reject_38 rfl hl (by decide) rfl (fun ls hl => ?_)
      refine lv_aload_n hx hb dX9_reject_39 rfl (lv_at hl 1 rfl) ?_
      refine r_get C w 0 (v := .ref (a 12)) rfl rfl 3 (by decide) inX9 kf_X9_35 rfl dX9_reject_40 ?_
      refine r_getN C w 12 (v := .ref (a 19)) rfl rfl 6 (by decide) inX2 kt_X9_156 rfl dX9_reject_43 ?_
      refine lv_iload_n hx hb dX9_reject_46 rfl (lv_at hl 0 rfl) ?_
      refine r_iald C w 19 (f := (g 19)) rfl (by omega) (by omega) (by decide) dX9_reject_47 ?_
      have qg4 := xB19 hg ((g 21) p0)
      refine lv_iload_n hx hb dX9_reject_48 rfl (lv_at hl 2 rfl) ?_
      refine r_icmp_eq (tgt := 54) hx hb dX9_reject_49 (by decide) (by omega) (by omega) (fun c49 => ?_) (fun c49 => ?_)
      · skip
        refine lv_aload_n hx hb dX9_reject_54 rfl (lv_at hl 1 rfl) ?_
        refine r_get C w 0 (v := .ref (a 20)) rfl rfl 4 (by decide) inX9 kf_X9_42 rfl dX9_reject_55 ?_
        refine r_getN C w 20 (v := .ref (a 26)) rfl rfl 5 (by decide) inX7 kt_X9_150 rfl dX9_reject_58 ?_
        refine lv_iload_n hx hb dX9_reject_61 rfl (lv_at hl 2 rfl) ?_
        refine lv_aload_n hx hb dX9_reject_62 rfl (lv_at hl 1 rfl) ?_
        refine r_get C w 0 (v := vI (z 0)) rfl rfl 10 (by decide) inX9 kf_X9_82 rfl dX9_reject_63 ?_
        have qz5 := xZ0 hz
        refine r_iast C w 26 (f := (g 26)) rfl (by omega) (by omega) (by decide) (ws' := xw cy a z (uZ g 26 (uI (g 26) p0 (z 0)))) (xw_g26 cy a z g (uI (g 26) p0 (z 0))) dX9_reject_66 (fun H locs w => ?_)
        have bg6 : ∀ j : Int, (-1 : Int) ≤ (uI (g 26) p0 (z 0)) j ∧ (uI (g 26) p0 (z 0)) j ≤ 999 := uI_b (xB26 hg) (by omega)
        refine lv_aload_n hx hb dX9_reject_67 rfl (lv_at hl 1 rfl) ?_
        refine r_get C w 0 (v := .ref (a 12)) rfl rfl 3 (by decide) inX9 kf_X9_35 rfl dX9_reject_68 ?_
        refine r_getN C w 12 (v := .ref (a 18)) rfl rfl 5 (by decide) inX2 kt_X9_159 rfl dX9_reject_71 ?_
        refine lv_iload_n hx hb dX9_reject_74 rfl (lv_at hl 0 rfl) ?_
        refine r_iconst hx hb dX9_reject_75 ?_
        refine r_zast C w 18 (f := (g 18)) rfl (by omega) (by omega) (by decide) (vz01 (by omega)) (ws' := xw cy a z (uZ (uZ g 26 (uI (g 26) p0 (z 0))) 18 (uI (g 18) ((g 21) p0) 0))) (xw_g18 cy a z (uZ g 26 (uI (g 26) p0 (z 0))) (uI (g 18) ((g 21) p0) 0)) dX9_reject_76 (fun H locs w => ?_)
        have bg7 : ∀ j : Int, (0 : Int) ≤ (uI (g 18) ((g 21) p0) 0) j ∧ (uI (g 18) ((g 21) p0) 0) j ≤ 1 := uI_b (xB18 hg) (by omega)
        refine r_iconst hx hb dX9_reject_77 ?_
        exact hend 1 (z, (uZ (uZ g 26 (uI (g 26) p0 (z 0))) 18 (uI (g 18) ((g 21) p0) 0))) _ _ _ _ dX9_reject_78 w ⟨(by first | exact Or.inl ⟨by omega, rfl, rfl⟩ | exact Or.inr ⟨by omega, rfl, rfl⟩), hz, (xBg_u (xBg_u hg 26 bg6) 18 bg7)⟩
      · skip
        refine r_iconst hx hb dX9_reject_52 ?_
        exact hend 0 (z, g) _ _ _ _ dX9_reject_53 w ⟨(by first | exact Or.inl ⟨by omega, rfl, rfl⟩ | exact Or.inr ⟨by omega, rfl, rfl⟩), hz, hg⟩
    · skip
      refine r_iconst hx hb dX9_reject_27 ?_
      exact hend 0 (z, g) _ _ _ _ dX9_reject_28 w ⟨(by first | exact Or.inl ⟨by omega, rfl, rfl⟩ | exact Or.inr ⟨by omega, rfl, rfl⟩), hz, hg⟩

abbrev rm_X9_count : Room := { frames := 0, cells := 0, slots := 0, locals := 0 }
set_option maxHeartbeats 4000000 in
set_option maxRecDepth 100000 in
theorem ct_X9_count (l : Launch) (D : va_G) (cy : Nat → ClassId) (a : Nat → Nat) (z : Nat → Int) (g : Nat → Int → Int) (p0 : Int) (hz : xBz z) (hg : xBg g) (h0 : iR p0) : MI l yX9_count cX9_count 2 .int (rm_X9_count) D cy (xw cy a z g) [.ref (a 0), vI p0] (fun (v : Int) (u : Unit) => (p0 = 0 ∧ v = z 0) ∨ (p0 = 1 ∧ v = z 16) ∨ (p0 = 2 ∧ v = z 17) ∨ (p0 = 3 ∧ v = z 5) ∨ (p0 = 4 ∧ v = z 2) ∨ (¬ (0 ≤ p0 ∧ p0 ≤ 4) ∧ v = -1)) (fun _ => xw cy a z g) 0 0 := by
  refine go_i (by decide +kernel) (Nat.le_of_ble_eq_true rfl) (Or.inl rfl) ?_
  intro p e s m args below meth c Q A ls C hnm hA w hl hend
  have hx := C.1
  have hb := C.2.1
  replace hl : lv_has ls 2 [(0, .ref (a 0)), (1, vI p0)] := hl
  refine lv_iload_n hx hb dX9_count_0 rfl (lv_at hl 1 rfl) ?_
  by_cases c1_0 : p0 = 0
  · refine r_tsI (k := 0) (tgt := 36) hx hb dX9_count_1 (by omega) c1_0 (by decide) rfl (by decide) ?_
    refine lv_aload_n hx hb dX9_count_36 rfl (lv_at hl 0 rfl) ?_
    refine r_get C w 0 (v := vI (z 0)) rfl rfl 10 (by decide) inX9 kf_X9_82 rfl dX9_count_37 ?_
    have qz1 := xZ0 hz
    exact hend (z 0) () _ _ _ _ dX9_count_40 w (by omega)
  by_cases c1_1 : p0 = 1
  · refine r_tsI (k := 1) (tgt := 41) hx hb dX9_count_1 (by omega) c1_1 (by decide) rfl (by decide) ?_
    refine lv_aload_n hx hb dX9_count_41 rfl (lv_at hl 0 rfl) ?_
    refine r_get C w 0 (v := .ref (a 12)) rfl rfl 3 (by decide) inX9 kf_X9_35 rfl dX9_count_42 ?_
    refine r_getN C w 12 (v := vI (z 16)) rfl rfl 7 (by decide) inX2 kt_X9_119 rfl dX9_count_45 ?_
    have qz2 := xZ16 hz
    exact hend (z 16) () _ _ _ _ dX9_count_48 w (by omega)
  by_cases c1_2 : p0 = 2
  · refine r_tsI (k := 2) (tgt := 49) hx hb dX9_count_1 (by omega) c1_2 (by decide) rfl (by decide) ?_
    refine lv_aload_n hx hb dX9_count_49 rfl (lv_at hl 0 rfl) ?_
    refine r_get C w 0 (v := .ref (a 20)) rfl rfl 4 (by decide) inX9 kf_X9_42 rfl dX9_count_50 ?_
    refine r_getN C w 20 (v := vI (z 17)) rfl rfl 7 (by decide) inX7 kt_X9_145 rfl dX9_count_53 ?_
    have qz3 := xZ17 hz
    exact hend (z 17) () _ _ _ _ dX9_count_56 w (by omega)
  by_cases c1_3 : p0 = 3
  · refine r_tsI (k := 3) (tgt := 57) hx hb dX9_count_1 (by omega) c1_3 (by decide) rfl (by decide) ?_
    refine lv_aload_n hx hb dX9_count_57 rfl (lv_at hl 0 rfl) ?_
    refine r_get C w 0 (v := .ref (a 3)) rfl rfl 1 (by decide) inX9 kf_X9_19 rfl dX9_count_58 ?_
    refine r_getN C w 3 (v := vI (z 5)) rfl rfl 4 (by decide) inX6 kt_X9_112 rfl dX9_count_61 ?_
    have qz4 := xZ5 hz
    exact hend (z 5) () _ _ _ _ dX9_count_64 w (by omega)
  by_cases c1_4 : p0 = 4
  · refine r_tsI (k := 4) (tgt := 65) hx hb dX9_count_1 (by omega) c1_4 (by decide) rfl (by decide) ?_
    refine lv_aload_n hx hb dX9_count_65 rfl (lv_at hl 0 rfl) ?_
    refine r_get C w 0 (v := .ref (a 1)) rfl rfl 0 (by decide) inX9 kf_X9_10 rfl dX9_count_66 ?_
    refine r_getN C w 1 (v := vI (z 2)) rfl rfl 1 (by decide) inX8 kt_X9_89 rfl dX9_count_69 ?_
    have qz5 := xZ2 hz
    exact hend (z 2) () _ _ _ _ dX9_count_72 w (by omega)
  refine r_tsO (tgt := 73) hx hb dX9_count_1 (by omega) (by omega) (by decide) ?_
  refine r_iconst hx hb dX9_count_73 ?_
  exact hend (-1) () _ _ _ _ dX9_count_74 w (by omega)

abbrev rm_X9_sent : Room := { frames := 1, cells := 0, slots := 0, locals := 21 }
set_option maxHeartbeats 4000000 in
set_option maxRecDepth 100000 in
theorem ct_X9_sent (l : Launch) (D : va_G) (cy : Nat → ClassId) (a : Nat → Nat) (z : Nat → Int) (g : Nat → Int → Int) (p0 : Int) (hz : xBz z) (hg : xBg g) (h0 : iR p0) : MI l yX9_sent cX9_sent 2 .int (rm_X9_sent) D cy (xw cy a z g) [.ref (a 0), vI p0] (fun (v : Int) (u : Unit) => ((z 20 ≠ 0 ∧ 0 ≤ p0 ∧ p0 < 4) ∧ v = g 43 p0) ∨ (¬ (z 20 ≠ 0 ∧ 0 ≤ p0 ∧ p0 < 4) ∧ v = -1)) (fun _ => xw cy a z g) 0 0 := by
  refine go_i (by decide +kernel) (Nat.le_of_ble_eq_true rfl) (Or.inl rfl) ?_
  intro p e s m args below meth c Q A ls C hnm hA w hl hend
  have hx := C.1
  have hb := C.2.1
  replace hl : lv_has ls 2 [(0, .ref (a 0)), (1, vI p0)] := hl
  refine lv_aload_n hx hb dX9_sent_0 rfl (lv_at hl 0 rfl) ?_
  refine r_get C w 0 (v := .ref (a 40)) rfl rfl 8 (by decide) inX9 kf_X9_74 rfl dX9_sent_1 ?_
  refine r_getN C w 40 (v := vI (z 20)) rfl rfl 3 (by decide) inX1 kt_X9_255 rfl dX9_sent_4 ?_
  have qz1 := xZ20 hz
  refine r_if_eq (tgt := 30) hx hb dX9_sent_7 (by decide) (by omega) (fun c7 => ?_) (fun c7 => ?_)
  · skip
    refine r_iconst hx hb dX9_sent_30 ?_
    exact hend (-1) () _ _ _ _ dX9_sent_31 w (by omega)
  · skip
    refine lv_iload_n hx hb dX9_sent_10 rfl (lv_at hl 1 rfl) ?_
    refine r_iconst hx hb dX9_sent_11 ?_
    refine cSI C w hA (ct_X9_isBelow l D cy a z g p0 4 (by show iR p0; omega) (by show iR 4; omega)) ok_X9_isBelow km_X9_115 ⟨rfl, rfl⟩ ⟨by decide, by decide⟩ ⟨by decide, by decide⟩ rfl hl.1 rfl (Nat.le_of_ble_eq_true rfl) dX9_sent_12 (fun rv_1 uv_1 H locs w hp_1 => ?_)
    replace hp_1 : (rv_1 = 1 ∧ 0 ≤ p0 ∧ p0 < 4) ∨ (rv_1 = 0 ∧ ¬ (0 ≤ p0 ∧ p0 < 4)) := hp_1
    replace w : wd D A s.heap (xw cy a z g) H locs := w
    refine r_if_eq (tgt := 30) hx hb dX9_sent_15 (by decide) (by omega) (fun c15 => ?_) (fun c15 => ?_)
    · skip
      refine r_iconst hx hb dX9_sent_30 ?_
      exact hend (-1) () _ _ _ _ dX9_sent_31 w (by omega)
    · skip
      refine lv_aload_n hx hb dX9_sent_18 rfl (lv_at hl 0 rfl) ?_
      refine r_get C w 0 (v := .ref (a 40)) rfl rfl 8 (by decide) inX9 kf_X9_74 rfl dX9_sent_19 ?_
      refine r_getN C w 40 (v := .ref (a 43)) rfl rfl 2 (by decide) inX1 kt_X9_259 rfl dX9_sent_22 ?_
      refine lv_iload_n hx hb dX9_sent_25 rfl (lv_at hl 1 rfl) ?_
      refine r_iald C w 43 (f := (g 43)) rfl (by omega) (by omega) (by decide) dX9_sent_26 ?_
      have qg2 := xB43 hg p0
      refine lv_goto (tgt := 31) hx hb dX9_sent_27 (by decide) ?_
      exact hend ((g 43) p0) () _ _ _ _ dX9_sent_31 w (by omega)

def rotF (g : Nat → Int → Int) (n p : Int) : Int → Int := fun j => if 0 ≤ j ∧ j < n ∧ g 18 j = 0 then g 16 j - g 16 j * p / 100 else g 16 j
theorem rotF_b {x p : Int} (h : 0 ≤ x ∧ x ≤ 500) (hp : 0 ≤ p ∧ p ≤ 50) : 0 ≤ x * p ∧ x * p ≤ 25000 ∧ 0 ≤ x * p / 100 ∧ x * p / 100 ≤ x := by
  have h1 : 0 ≤ x * p := Int.mul_nonneg h.1 hp.1
  have h2 : x * p ≤ x * 50 := Int.mul_le_mul_of_nonneg_left hp.2 h.1
  omega
theorem rotF_st {g : Nat → Int → Int} {p i : Int} {f : Int → Int} (hf : ∀ j, f j = rotF g i p j) (h0 : 0 ≤ i) (hs : g 18 i = 0) : ∀ j, uI f i (f i - f i * p / 100) j = rotF g (i + 1) p j := by
  intro j
  by_cases e : j = i
  · subst e
    rw [uI_s, hf]
    unfold rotF
    rw [if_neg (by omega), if_pos (by omega)]
  · rw [uI_n _ _ e, hf]
    unfold rotF
    by_cases q : 0 ≤ j ∧ j < i ∧ g 18 j = 0
    · rw [if_pos q, if_pos (by omega)]
    · rw [if_neg q, if_neg (by omega)]
theorem rotF_kp {g : Nat → Int → Int} {p i : Int} {f : Int → Int} (hf : ∀ j, f j = rotF g i p j) (hs : g 18 i ≠ 0) : ∀ j, f j = rotF g (i + 1) p j := by
  intro j
  rw [hf]
  unfold rotF
  by_cases q : 0 ≤ j ∧ j < i ∧ g 18 j = 0
  · rw [if_pos q, if_pos (by omega)]
  · rw [if_neg q, if_neg]
    intro q2
    rcases (show j = i ∨ j < i by omega) with e | e
    · subst e
      exact hs q2.2.2
    · exact q ⟨q2.1, e, q2.2.2⟩
theorem cpF_st {u w f : Int → Int} {i : Int} (h0 : 0 ≤ i) (hf : ∀ j, f j = if 0 ≤ j ∧ j < i then u j else w j) : ∀ j, uI f i (u i) j = if 0 ≤ j ∧ j < i + 1 then u j else w j := by
  intro j
  by_cases e : j = i
  · subst e
    rw [uI_s, if_pos (by omega)]
  · rw [uI_n _ _ e, hf]
    by_cases q : 0 ≤ j ∧ j < i
    · rw [if_pos q, if_pos (by omega)]
    · rw [if_neg q, if_neg (by omega)]
abbrev rm_X2_rotWaiting : Room := { frames := 0, cells := 0, slots := 0, locals := 0 }
set_option maxHeartbeats 4000000 in
set_option maxRecDepth 100000 in
theorem ct_X2_rotWaiting (l : Launch) (D : va_G) (cy : Nat → ClassId) (a : Nat → Nat) (z : Nat → Int) (g : Nat → Int → Int) (p0 : Int) (hz : xBz z) (hg : xBg g) (h0 : 0 ≤ p0 ∧ p0 ≤ 50) : MV l yX2_rotWaiting cX2_rotWaiting 3 (rm_X2_rotWaiting) D cy (xw cy a z g) [.ref (a 12), vI p0] (fun (u : sX) => (u.1 = z ∧ u.2 = uZ g 16 (rotF g (z 16) p0)) ∧ xBz u.1 ∧ xBg u.2) (fun u => xw cy a u.1 u.2) 0 0 := by
  refine go_v (by decide +kernel) (Nat.le_of_ble_eq_true rfl) ?_
  intro p e s m args below meth c Q A ls C hnm hA w hl hend
  have hx := C.1
  have hb := C.2.1
  have b16 := xZ16 hz
  have J2 : ∀ N : Nat, ∀ (i : Int) (f : Int → Int), (∀ j : Int, (0 : Int) ≤ f j ∧ f j ≤ 500) → (0 ≤ i ∧ i ≤ z 16) → (∀ j, f j = rotF g i p0 j) → ((z 16 - i).toNat) < N → ∀ (H : Heap) (locs : List Loc) (ls : Array Slot), wd D A s.heap (xw cy a z (uZ g 16 f)) H locs → lv_has ls 3 [(0, .ref (a 12)), (1, vI p0), (2, vI i)] → W p l e (rm_X2_rotWaiting) s m args below meth c H locs 0 0 Q (F0 m 2 ls []) := by
    intro N
    induction N with
    | zero => intro i f bf hi hf hN9; exact absurd hN9 (Nat.not_lt_zero _)
    | succ N ih2 =>
      intro i f bf hi hf hN2 H locs ls w hl
      refine lv_iload_n hx hb dX2_rotWaiting_2 rfl (lv_at hl 2 rfl) ?_
      refine lv_aload_n hx hb dX2_rotWaiting_3 rfl (lv_at hl 0 rfl) ?_
      refine r_get C w 12 (v := vI (z 16)) rfl rfl 7 (by decide) inX2 kf_X2_34 rfl dX2_rotWaiting_4 ?_
      have qz1 := xZ16 hz
      refine r_icmp_ge (tgt := 45) hx hb dX2_rotWaiting_7 (by decide) (by omega) (by omega) (fun c7 => ?_) (fun c7 => ?_)
      · skip
        exact hend (z, (uZ g 16 f)) _ _ _ _ dX2_rotWaiting_45 w ⟨(by refine ⟨rfl, ?_⟩; rw [show z 16 = i by omega]; show _ = uZ g 16 (rotF g i p0); rw [show f = rotF g i p0 from funext hf]), hz, (xBg_u hg 16 bf)⟩
      · skip
        refine lv_aload_n hx hb dX2_rotWaiting_10 rfl (lv_at hl 0 rfl) ?_
        refine r_get C w 12 (v := .ref (a 18)) rfl rfl 5 (by decide) inX2 kf_X2_27 rfl dX2_rotWaiting_11 ?_
        refine lv_iload_n hx hb dX2_rotWaiting_14 rfl (lv_at hl 2 rfl) ?_
        refine r_zald C w 18 (f := (g 18)) rfl (by omega) (by omega) (by decide) dX2_rotWaiting_15 ?_
        have qg2 := xB18 hg i
        refine r_if_ne (tgt := 39) hx hb dX2_rotWaiting_16 (by decide) (by omega) (fun c16 => ?_) (fun c16 => ?_)
        · skip
          refine r_iinc (lv' := [(2, vI (i + 1)), (0, .ref (a 12)), (1, vI p0)]) hx hb dX2_rotWaiting_39 hl (k := 2) rfl (by decide) rfl (fun ls hl => ?_)
          refine lv_goto (tgt := 2) hx hb dX2_rotWaiting_42 (by decide) ?_
          exact ih2 (i + 1) f bf (by omega) (by first | exact rotF_st hf hi.1 (by omega) | exact rotF_kp hf (by omega)) (by omega) _ _ _ w (lv_sub hl [1, 2, 0] rfl)
        · skip
          refine lv_aload_n hx hb dX2_rotWaiting_19 rfl (lv_at hl 0 rfl) ?_
          refine r_get C w 12 (v := .ref (a 16)) rfl rfl 3 (by decide) inX2 kf_X2_21 rfl dX2_rotWaiting_20 ?_
          refine lv_iload_n hx hb dX2_rotWaiting_23 rfl (lv_at hl 2 rfl) ?_
          refine lv_dup2_11 hx hb dX2_rotWaiting_24 rfl rfl ?_
          refine r_iald C w 16 (f := f) rfl (by omega) (by omega) (by decide) dX2_rotWaiting_25 ?_
          have qg3 := bf i
          refine lv_aload_n hx hb dX2_rotWaiting_26 rfl (lv_at hl 0 rfl) ?_
          refine r_get C w 12 (v := .ref (a 16)) rfl rfl 3 (by decide) inX2 kf_X2_21 rfl dX2_rotWaiting_27 ?_
          refine lv_iload_n hx hb dX2_rotWaiting_30 rfl (lv_at hl 2 rfl) ?_
          refine r_iald C w 16 (f := f) rfl (by omega) (by omega) (by decide) dX2_rotWaiting_31 ?_
          have qg4 := bf i
          have e1 := rotF_b (bf i) h0
          refine lv_iload_n hx hb dX2_rotWaiting_32 rfl (lv_at hl 1 rfl) ?_
          refine r_imul hx hb dX2_rotWaiting_33 ?_
          refine r_bipush hx hb dX2_rotWaiting_34 (by decide) ?_
          refine r_idiv hx hb dX2_rotWaiting_36 (by omega) (by omega) ?_
          refine r_isub hx hb dX2_rotWaiting_37 ?_
          refine r_iast C w 16 (f := f) rfl (by omega) (by omega) (by decide) (ws' := xw cy a z (uZ g 16 (uI f i ((f i) - (((f i) * p0) / 100))))) rfl dX2_rotWaiting_38 (fun H locs w => ?_)
          have bg5 : ∀ j : Int, (0 : Int) ≤ (uI f i ((f i) - (((f i) * p0) / 100))) j ∧ (uI f i ((f i) - (((f i) * p0) / 100))) j ≤ 500 := uI_b bf (by omega)
          refine r_iinc (lv' := [(2, vI (i + 1)), (0, .ref (a 12)), (1, vI p0)]) hx hb dX2_rotWaiting_39 hl (k := 2) rfl (by decide) rfl (fun ls hl => ?_)
          refine lv_goto (tgt := 2) hx hb dX2_rotWaiting_42 (by decide) ?_
          exact ih2 (i + 1) (uI f i ((f i) - (((f i) * p0) / 100))) bg5 (by omega) (by first | exact rotF_st hf hi.1 (by omega) | exact rotF_kp hf (by omega)) (by omega) _ _ _ w (lv_sub hl [1, 2, 0] rfl)
  replace hl : lv_has ls 3 [(0, .ref (a 12)), (1, vI p0)] := hl
  refine r_iconst hx hb dX2_rotWaiting_0 ?_
  refine lv_istore_n (lv' := [(2, vI 0), (0, .ref (a 12)), (1, vI p0)]) hx hb dX2_rotWaiting_1 rfl hl (by decide) rfl (fun ls hl => ?_)
  exact J2 _ 0 (g 16) (xB16 hg) (by omega) (by intro j; unfold rotF; rw [if_neg (by omega)]) (Nat.lt_succ_self _) _ _ _ w (lv_sub hl [1, 2, 0] rfl)

abbrev rm_X0_restoreMoney : Room := { frames := 0, cells := 0, slots := 0, locals := 0 }
set_option maxHeartbeats 4000000 in
set_option maxRecDepth 100000 in
theorem ct_X0_restoreMoney (l : Launch) (D : va_G) (cy : Nat → ClassId) (a : Nat → Nat) (z : Nat → Int) (g : Nat → Int → Int)  (hz : xBz z) (hg : xBg g) : MV l yX0_restoreMoney cX0_restoreMoney 2 (rm_X0_restoreMoney) D cy (xw cy a z g) [.ref (a 28)] (fun (u : sX) => (u.1 = z ∧ u.2 = uZ g 30 (fun j => if 0 ≤ j ∧ j < 10 then g 29 j else g 30 j)) ∧ xBz u.1 ∧ xBg u.2) (fun u => xw cy a u.1 u.2) 0 0 := by
  refine go_v (by decide +kernel) (Nat.le_of_ble_eq_true rfl) ?_
  intro p e s m args below meth c Q A ls C hnm hA w hl hend
  have hx := C.1
  have hb := C.2.1
  have J2 : ∀ N : Nat, ∀ (i : Int) (f : Int → Int), (∀ j : Int, (0 : Int) ≤ f j ∧ f j ≤ 1000000) → (0 ≤ i ∧ i ≤ 10) → (∀ j, f j = if 0 ≤ j ∧ j < i then g 29 j else g 30 j) → ((10 - i).toNat) < N → ∀ (H : Heap) (locs : List Loc) (ls : Array Slot), wd D A s.heap (xw cy a z (uZ g 30 f)) H locs → lv_has ls 2 [(0, .ref (a 28)), (1, vI i)] → W p l e (rm_X0_restoreMoney) s m args below meth c H locs 0 0 Q (F0 m 2 ls []) := by
    intro N
    induction N with
    | zero => intro i f bf hi hf hN9; exact absurd hN9 (Nat.not_lt_zero _)
    | succ N ih2 =>
      intro i f bf hi hf hN2 H locs ls w hl
      refine lv_iload_n hx hb dX0_restoreMoney_2 rfl (lv_at hl 1 rfl) ?_
      refine r_bipush hx hb dX0_restoreMoney_3 (by decide) ?_
      refine r_icmp_ge (tgt := 26) hx hb dX0_restoreMoney_5 (by decide) (by omega) (by omega) (fun c5 => ?_) (fun c5 => ?_)
      · skip
        exact hend (z, (uZ g 30 f)) _ _ _ _ dX0_restoreMoney_26 w ⟨(by refine ⟨rfl, ?_⟩; show uZ g 30 f = _; congr 1; funext j; rw [hf, show i = 10 by omega]), hz, (xBg_u hg 30 bf)⟩
      · skip
        refine lv_aload_n hx hb dX0_restoreMoney_8 rfl (lv_at hl 0 rfl) ?_
        refine r_get C w 28 (v := .ref (a 30)) rfl rfl 1 (by decide) inX0 kf_X0_15 rfl dX0_restoreMoney_9 ?_
        refine lv_iload_n hx hb dX0_restoreMoney_12 rfl (lv_at hl 1 rfl) ?_
        refine lv_aload_n hx hb dX0_restoreMoney_13 rfl (lv_at hl 0 rfl) ?_
        refine r_get C w 28 (v := .ref (a 29)) rfl rfl 0 (by decide) inX0 kf_X0_9 rfl dX0_restoreMoney_14 ?_
        refine lv_iload_n hx hb dX0_restoreMoney_17 rfl (lv_at hl 1 rfl) ?_
        refine r_iald C w 29 (f := (g 29)) rfl (by omega) (by omega) (by decide) dX0_restoreMoney_18 ?_
        have qg1 := xB29 hg i
        refine r_iast C w 30 (f := f) rfl (by omega) (by omega) (by decide) (ws' := xw cy a z (uZ g 30 (uI f i ((g 29) i)))) rfl dX0_restoreMoney_19 (fun H locs w => ?_)
        have bg2 : ∀ j : Int, (0 : Int) ≤ (uI f i ((g 29) i)) j ∧ (uI f i ((g 29) i)) j ≤ 1000000 := uI_b bf (by omega)
        refine r_iinc (lv' := [(1, vI (i + 1)), (0, .ref (a 28))]) hx hb dX0_restoreMoney_20 hl (k := 1) rfl (by decide) rfl (fun ls hl => ?_)
        refine lv_goto (tgt := 2) hx hb dX0_restoreMoney_23 (by decide) ?_
        exact ih2 (i + 1) (uI f i ((g 29) i)) bg2 (by omega) (by exact cpF_st hi.1 hf) (by omega) _ _ _ w (lv_sub hl [1, 0] rfl)
  replace hl : lv_has ls 2 [(0, .ref (a 28))] := hl
  refine r_iconst hx hb dX0_restoreMoney_0 ?_
  refine lv_istore_n (lv' := [(1, vI 0), (0, .ref (a 28))]) hx hb dX0_restoreMoney_1 rfl hl (by decide) rfl (fun ls hl => ?_)
  exact J2 _ 0 (g 30) (xB30 hg) (by omega) (by intro j; rw [if_neg (by omega)]) (Nat.lt_succ_self _) _ _ _ w (lv_sub hl [1, 0] rfl)

abbrev rm_X9_next : Room := { frames := 1, cells := 0, slots := 0, locals := 22 }
set_option maxHeartbeats 4000000 in
set_option maxRecDepth 100000 in
theorem ct_X9_next (l : Launch) (D : va_G) (cy : Nat → ClassId) (a : Nat → Nat) (z : Nat → Int) (g : Nat → Int → Int)  (hz : xBz z) (hg : xBg g) : MI l yX9_next cX9_next 1 .int (rm_X9_next) D cy (xw cy a z g) [.ref (a 0)] (fun (v : Int) (u : sX) => ((¬ z 0 < 999 ∧ v = -1 ∧ u = (z, g)) ∨ (z 0 < 999 ∧ v = z 0 + 1 ∧ u = (uZ z 0 (z 0 + 1), uZ (uZ g 16 (rotF g (z 16) (z 3))) 30 (fun j => if 0 ≤ j ∧ j < 10 then g 29 j else g 30 j)))) ∧ xBz u.1 ∧ xBg u.2) (fun u => xw cy a u.1 u.2) 0 0 := by
  refine go_i (by decide +kernel) (Nat.le_of_ble_eq_true rfl) (Or.inl rfl) ?_
  intro p e s m args below meth c Q A ls C hnm hA w hl hend
  have hx := C.1
  have hb := C.2.1
  replace hl : lv_has ls 1 [(0, .ref (a 0))] := hl
  refine lv_aload_n hx hb dX9_next_0 rfl (lv_at hl 0 rfl) ?_
  refine r_get C w 0 (v := vI (z 0)) rfl rfl 10 (by decide) inX9 kf_X9_82 rfl dX9_next_1 ?_
  have qz1 := xZ0 hz
  refine r_sipush hx hb dX9_next_4 (by decide) ?_
  refine r_icmp_lt (tgt := 12) hx hb dX9_next_7 (by decide) (by omega) (by omega) (fun c7 => ?_) (fun c7 => ?_)
  · skip
    refine lv_aload_n hx hb dX9_next_12 rfl (lv_at hl 0 rfl) ?_
    refine r_get C w 0 (v := .ref (a 12)) rfl rfl 3 (by decide) inX9 kf_X9_35 rfl dX9_next_13 ?_
    refine lv_aload_n hx hb dX9_next_16 rfl (lv_at hl 0 rfl) ?_
    refine r_get C w 0 (v := .ref (a 3)) rfl rfl 1 (by decide) inX9 kf_X9_19 rfl dX9_next_17 ?_
    refine r_getN C w 3 (v := vI (z 3)) rfl rfl 2 (by decide) inX6 kt_X9_163 rfl dX9_next_20 ?_
    have qz2 := xZ3 hz
    refine cVV C w hA (ct_X2_rotWaiting l D cy a z g (z 3) hz hg (by show 0 ≤ (z 3) ∧ (z 3) ≤ 50; omega)) ok_X2_rotWaiting km_X9_166 ⟨rfl, rfl⟩ ⟨by decide, by decide⟩ ⟨by decide, by decide⟩ rfl 12 rfl rfl hl.1 rfl (Nat.le_of_ble_eq_true rfl) dX9_next_23 (fun uv_1 H locs w hp_1 => ?_)
    obtain ⟨zc_1, gc_1⟩ := uv_1
    obtain ⟨hp_1, hzc_1, hgc_1⟩ := hp_1
    replace w : wd D A s.heap (xw cy a zc_1 gc_1) H locs := w
    replace hzc_1 : xBz zc_1 := hzc_1
    replace hgc_1 : xBg gc_1 := hgc_1
    try dsimp only at hp_1
    have ea_ : zc_1 = z := hp_1.1
    have eb_ : zc_1 0 = z 0 := by rw [ea_]
    refine lv_aload_n hx hb dX9_next_26 rfl (lv_at hl 0 rfl) ?_
    refine r_get C w 0 (v := .ref (a 28)) rfl rfl 5 (by decide) inX9 kf_X9_49 rfl dX9_next_27 ?_
    refine cVV C w hA (ct_X0_restoreMoney l D cy a zc_1 gc_1  hzc_1 hgc_1) ok_X0_restoreMoney km_X9_169 ⟨rfl, rfl⟩ ⟨by decide, by decide⟩ ⟨by decide, by decide⟩ rfl 28 rfl rfl hl.1 rfl (Nat.le_of_ble_eq_true rfl) dX9_next_30 (fun uv_2 H locs w hp_2 => ?_)
    obtain ⟨zc_2, gc_2⟩ := uv_2
    obtain ⟨hp_2, hzc_2, hgc_2⟩ := hp_2
    replace w : wd D A s.heap (xw cy a zc_2 gc_2) H locs := w
    replace hzc_2 : xBz zc_2 := hzc_2
    replace hgc_2 : xBg gc_2 := hgc_2
    try dsimp only at hp_2
    have ec_ : zc_2 0 = z 0 := by rw [hp_2.1]; exact eb_
    refine lv_aload_n hx hb dX9_next_33 rfl (lv_at hl 0 rfl) ?_
    refine lv_dup hx hb dX9_next_34 rfl ?_
    refine r_get C w 0 (v := vI (zc_2 0)) rfl rfl 10 (by decide) inX9 kf_X9_82 rfl dX9_next_35 ?_
    have qz3 := xZ0 hzc_2
    refine r_iconst hx hb dX9_next_38 ?_
    refine r_iadd hx hb dX9_next_39 ?_
    refine r_put C w 0 tyX9 tyX9_ok nmX9 rfl rfl 10 (by decide) inX9 kf_X9_82 rfl rfl rfl (Nat.le_of_ble_eq_true rfl) (ws' := xw cy a (uZ zc_2 0 ((zc_2 0) + 1)) gc_2) (xw_z0 cy a zc_2 gc_2 ((zc_2 0) + 1)) dX9_next_40 (fun H locs w => ?_)
    have bz4 : (0 : Int) ≤ ((zc_2 0) + 1) ∧ (((zc_2 0) + 1) : Int) ≤ 999 := (by omega)
    refine lv_aload_n hx hb dX9_next_43 rfl (lv_at hl 0 rfl) ?_
    refine r_get C w 0 (v := vI ((zc_2 0) + 1)) rfl rfl 10 (by decide) inX9 kf_X9_82 rfl dX9_next_44 ?_
    exact hend ((zc_2 0) + 1) ((uZ zc_2 0 ((zc_2 0) + 1)), gc_2) _ _ _ _ dX9_next_47 w ⟨(by refine Or.inr ⟨by omega, by omega, ?_⟩; rw [hp_2.1, hp_2.2, hp_1.1, hp_1.2]; rfl), (xBz_u hzc_2 0 bz4), hgc_2⟩
  · skip
    refine r_iconst hx hb dX9_next_10 ?_
    exact hend (-1) (z, g) _ _ _ _ dX9_next_11 w ⟨(by exact Or.inl ⟨by omega, rfl, rfl⟩), hz, hg⟩
