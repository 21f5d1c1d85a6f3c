theorem bI_hi {lim : Int → Int} (hl : ∀ b, 0 ≤ lim b) {i w s x : Int} (h : 0 ≤ i) (hw : w = (bI lim i).1) (hs : s = (bI lim i).2) (hv : (w < 0 ∧ x = 0) ∨ (0 ≤ w ∧ x = lim w)) (hx : x < lim i) : bI lim (i + 1) = (i, x) := by
  have hp := bI_p lim hl h
  rw [bI_s lim h, ← hw, ← hs]
  rw [← hw, ← hs] at hp
  have h0 : 0 ≤ x := by
    rcases hv with q | q
    · omega
    · rw [q.2]; exact hl w
  rw [if_neg (by omega)]
  rcases hv with q | q
  · rw [if_pos q.1, show s = x by omega]
  · rw [if_neg (by omega), if_pos (by rw [← q.2]; exact hx), ← q.2]
theorem bI_lo {lim : Int → Int} (hl : ∀ b, 0 ≤ lim b) {i w s x : Int} (h : 0 ≤ i) (hw : w = (bI lim i).1) (hs : s = (bI lim i).2) (hv : (w < 0 ∧ x = 0) ∨ (0 ≤ w ∧ x = lim w)) (hx : lim i ≤ x) : bI lim (i + 1) = (w, mx s (lim i)) := by
  have hp := bI_p lim hl h
  rw [bI_s lim h, ← hw, ← hs]
  rw [← hw, ← hs] at hp
  by_cases q0 : lim i ≤ 0
  · rw [if_pos q0]
    have e : mx s (lim i) = s := by
      have := hl i
      unfold mx
      split <;> omega
    rw [e, hw, hs]
  · rw [if_neg q0]
    rcases hv with q | q
    · omega
    · rw [if_neg (by omega), if_neg (by rw [← q.2]; omega)]
abbrev rm_X9_sell : Room := { frames := 1, cells := 0, slots := 0, locals := 25 }
set_option maxHeartbeats 4000000 in
set_option maxRecDepth 100000 in
theorem ct_X9_sell (l : Launch) (D : va_G) (cy : Nat → ClassId) (a : Nat → Nat) (z : Nat → Int) (g : Nat → Int → Int) (p0 p1 p2 : Int) (hz : xBz z) (hg : xBg g) (h0 : 0 ≤ p0 ∧ p0 < 100) (h1 : 0 ≤ p1 ∧ p1 < 10) (h2 : 1 ≤ p2 ∧ p2 ≤ 9999) (h3 : g 16 p0 ≤ g 31 ((p1 * 4 + g 17 p0) * 4 + g 15 p0)) (h4 : 0 ≤ g 16 p0 * p2 ∧ g 16 p0 * p2 ≤ g 30 p1) (h5 : z 17 < 400) : MV l yX9_sell cX9_sell 7 (rm_X9_sell) D cy (xw cy a z g) [.ref (a 0), vI p0, vI p1, vI p2] (fun (u : sX) => (u = sellX z g p0 p1 p2) ∧ xBz u.1 ∧ xBg u.2) (fun u => xw cy a u.1 u.2) 0 0 := by
  refine go_v (by decide +kernel) (Nat.le_of_ble_eq_true rfl) ?_
  intro p e s m args below meth c Q A ls C hnm hA w hl hend
  have hx := C.1
  have hb := C.2.1
  have q17 := xB17 hg p0
  have q15 := xB15 hg p0
  have q16 := xB16 hg p0
  have qz17 := xZ17 hz
  have qz0 := xZ0 hz
  replace hl : lv_has ls 7 [(0, .ref (a 0)), (1, vI p0), (2, vI p1), (3, vI p2)] := hl
  refine lv_aload_n hx hb dX9_sell_0 rfl (lv_at hl 0 rfl) ?_
  refine r_get C w 0 (v := .ref (a 12)) rfl rfl 3 (by decide) inX9 kf_X9_35 rfl dX9_sell_1 ?_
  refine r_getN C w 12 (v := .ref (a 16)) rfl rfl 3 (by decide) inX2 kt_X9_188 rfl dX9_sell_4 ?_
  refine lv_iload_n hx hb dX9_sell_7 rfl (lv_at hl 1 rfl) ?_
  refine r_iald C w 16 (f := (g 16)) rfl (by omega) (by omega) (by decide) dX9_sell_8 ?_
  have qg1 := xB16 hg p0
  refine lv_istore (lv' := [(4, vI ((g 16) p0)), (0, .ref (a 0)), (1, vI p0), (2, vI p1), (3, vI p2)]) hx hb dX9_sell_9 hl (by decide) rfl (fun ls hl => ?_)
  refine lv_aload_n hx hb dX9_sell_11 rfl (lv_at hl 1 rfl) ?_
  refine r_get C w 0 (v := .ref (a 28)) rfl rfl 5 (by decide) inX9 kf_X9_49 rfl dX9_sell_12 ?_
  refine lv_iload_n hx hb dX9_sell_15 rfl (lv_at hl 3 rfl) ?_
  refine lv_iload_n hx hb dX9_sell_16 rfl (lv_at hl 3 rfl) ?_
  refine lv_aload_n hx hb dX9_sell_17 rfl (lv_at hl 1 rfl) ?_
  refine r_get C w 0 (v := .ref (a 12)) rfl rfl 3 (by decide) inX9 kf_X9_35 rfl dX9_sell_18 ?_
  refine r_getN C w 12 (v := .ref (a 17)) rfl rfl 4 (by decide) inX2 kt_X9_191 rfl dX9_sell_21 ?_
  refine lv_iload_n hx hb dX9_sell_24 rfl (lv_at hl 2 rfl) ?_
  refine r_iald C w 17 (f := (g 17)) rfl (by omega) (by omega) (by decide) dX9_sell_25 ?_
  have qg2 := xB17 hg p0
  refine lv_aload_n hx hb dX9_sell_26 rfl (lv_at hl 1 rfl) ?_
  refine r_get C w 0 (v := .ref (a 12)) rfl rfl 3 (by decide) inX9 kf_X9_35 rfl dX9_sell_27 ?_
  refine r_getN C w 12 (v := .ref (a 15)) rfl rfl 2 (by decide) inX2 kt_X9_185 rfl dX9_sell_30 ?_
  refine lv_iload_n hx hb dX9_sell_33 rfl (lv_at hl 2 rfl) ?_
  refine r_iald C w 15 (f := (g 15)) rfl (by omega) (by omega) (by decide) dX9_sell_34 ?_
  have qg3 := xB15 hg p0
  refine cSI C w hA (ct_X0_wantPlace l D cy a z g p1 ((g 17) p0) ((g 15) p0) ) ok_X0_wantPlace km_X9_135 ⟨rfl, rfl⟩ ⟨by decide, by decide⟩ ⟨by decide, by decide⟩ rfl hl.1 rfl (Nat.le_of_ble_eq_true rfl) dX9_sell_35 (fun rv_1 uv_1 H locs w hp_1 => ?_)
  replace hp_1 : rv_1 = (p1 * 4 + ((g 17) p0)) * 4 + ((g 15) p0) := hp_1
  replace w : wd D A s.heap (xw cy a z g) H locs := w
  subst hp_1
  refine lv_iload hx hb dX9_sell_38 (lv_at hl 0 rfl) ?_
  refine lv_iload_n hx hb dX9_sell_40 rfl (lv_at hl 4 rfl) ?_
  refine cVV C w hA (ct_X0_take l D cy a z g p1 ((p1 * 4 + ((g 17) p0)) * 4 + ((g 15) p0)) ((g 16) p0) p2 hz hg (by show 0 ≤ p1 ∧ p1 < 10; omega) (by show 0 ≤ ((p1 * 4 + ((g 17) p0)) * 4 + ((g 15) p0)) ∧ ((p1 * 4 + ((g 17) p0)) * 4 + ((g 15) p0)) < 160; omega) (by show 0 ≤ ((g 16) p0) ∧ ((g 16) p0) ≤ (g 31) ((p1 * 4 + ((g 17) p0)) * 4 + ((g 15) p0)); omega) (by show 0 ≤ ((g 16) p0) * p2 ∧ ((g 16) p0) * p2 ≤ (g 30) p1; omega)) ok_X0_take km_X9_278 ⟨rfl, rfl⟩ ⟨by decide, by decide⟩ ⟨by decide, by decide⟩ rfl 28 rfl rfl hl.1 rfl (Nat.le_of_ble_eq_true rfl) dX9_sell_41 (fun uv_2 H locs w hp_2 => ?_)
  obtain ⟨zc_2, gc_2⟩ := uv_2
  obtain ⟨hp_2, hzc_2, hgc_2⟩ := hp_2
  replace w : wd D A s.heap (xw cy a zc_2 gc_2) H locs := w
  replace hzc_2 : xBz zc_2 := hzc_2
  replace hgc_2 : xBg gc_2 := hgc_2
  try dsimp only at hp_2
  obtain ⟨ez_2, eg_2⟩ := Prod.mk.inj hp_2
  have k17_2 : zc_2 17 = z 17 := by rw [ez_2]
  have k0_2 : zc_2 0 = z 0 := by rw [ez_2]
  refine lv_aload_n hx hb dX9_sell_44 rfl (lv_at hl 1 rfl) ?_
  refine r_get C w 0 (v := .ref (a 20)) rfl rfl 4 (by decide) inX9 kf_X9_42 rfl dX9_sell_45 ?_
  refine lv_iload_n hx hb dX9_sell_48 rfl (lv_at hl 2 rfl) ?_
  refine lv_iload_n hx hb dX9_sell_49 rfl (lv_at hl 3 rfl) ?_
  refine lv_aload_n hx hb dX9_sell_50 rfl (lv_at hl 1 rfl) ?_
  refine r_get C w 0 (v := vI (zc_2 0)) rfl rfl 10 (by decide) inX9 kf_X9_82 rfl dX9_sell_51 ?_
  have qz4 := xZ0 hzc_2
  refine lv_iload hx hb dX9_sell_54 (lv_at hl 0 rfl) ?_
  refine lv_iload_n hx hb dX9_sell_56 rfl (lv_at hl 4 rfl) ?_
  refine cVI C w hA (ct_X7_add l D cy a zc_2 gc_2 p0 p1 (zc_2 0) ((g 16) p0) p2 hzc_2 hgc_2 (by show 0 ≤ p0 ∧ p0 < 100; omega) (by show 0 ≤ p1 ∧ p1 < 10; omega) (by show 0 ≤ (zc_2 0) ∧ (zc_2 0) < 1000; omega) (by show 0 ≤ ((g 16) p0) ∧ ((g 16) p0) ≤ 500; omega) (by show 0 ≤ p2 ∧ p2 ≤ 9999; omega) (by show (zc_2 17) < 400; omega)) ok_X7_add km_X9_282 ⟨rfl, rfl⟩ ⟨by decide, by decide⟩ ⟨by decide, by decide⟩ rfl 20 rfl rfl hl.1 rfl (Nat.le_of_ble_eq_true rfl) dX9_sell_57 (fun rv_3 uv_3 H locs w hp_3 => ?_)
  obtain ⟨zc_3, gc_3⟩ := uv_3
  obtain ⟨hp_3, hzc_3, hgc_3⟩ := hp_3
  replace w : wd D A s.heap (xw cy a zc_3 gc_3) H locs := w
  replace hzc_3 : xBz zc_3 := hzc_3
  replace hgc_3 : xBg gc_3 := hgc_3
  try dsimp only at hp_3
  obtain ⟨er_3, e3_⟩ := hp_3
  obtain ⟨ez_3, eg_3⟩ := Prod.mk.inj e3_
  have k19_3 : gc_3 19 = g 19 := by rw [eg_3, eg_2]; rfl
  have k19p_ : gc_3 19 p0 = g 19 p0 := by rw [k19_3]
  have q19_3 := xB19 hg p0
  refine lv_istore (lv' := [(5, vI rv_3), (4, vI ((g 16) p0)), (0, .ref (a 0)), (1, vI p0), (2, vI p1), (3, vI p2)]) hx hb dX9_sell_60 hl (by decide) rfl (fun ls hl => ?_)
  refine lv_aload_n hx hb dX9_sell_62 rfl (lv_at hl 2 rfl) ?_
  refine r_get C w 0 (v := .ref (a 12)) rfl rfl 3 (by decide) inX9 kf_X9_35 rfl dX9_sell_63 ?_
  refine r_getN C w 12 (v := .ref (a 19)) rfl rfl 6 (by decide) inX2 kt_X9_156 rfl dX9_sell_66 ?_
  refine lv_iload_n hx hb dX9_sell_69 rfl (lv_at hl 3 rfl) ?_
  refine r_iald C w 19 (f := (gc_3 19)) rfl (by omega) (by omega) (by decide) dX9_sell_70 ?_
  have qg5 := xB19 hgc_3 p0
  refine lv_istore (lv' := [(6, vI ((gc_3 19) p0)), (5, vI rv_3), (4, vI ((g 16) p0)), (0, .ref (a 0)), (1, vI p0), (2, vI p1), (3, vI p2)]) hx hb dX9_sell_71 hl (by decide) rfl (fun ls hl => ?_)
  refine lv_iload hx hb dX9_sell_73 (lv_at hl 0 rfl) ?_
  refine r_iconst hx hb dX9_sell_75 ?_
  refine r_icmp_eq (tgt := 91) hx hb dX9_sell_76 (by decide) (by omega) (by omega) (fun c76 => ?_) (fun c76 => ?_)
  · skip
    replace c76 : g 19 p0 = -1 := by rw [← k19_3]; exact c76
    refine lv_aload_n hx hb dX9_sell_91 rfl (lv_at hl 3 rfl) ?_
    refine r_get C w 0 (v := .ref (a 12)) rfl rfl 3 (by decide) inX9 kf_X9_35 rfl dX9_sell_92 ?_
    refine r_getN C w 12 (v := .ref (a 19)) rfl rfl 6 (by decide) inX2 kt_X9_156 rfl dX9_sell_95 ?_
    refine lv_iload_n hx hb dX9_sell_98 rfl (lv_at hl 4 rfl) ?_
    refine lv_iload hx hb dX9_sell_99 (lv_at hl 1 rfl) ?_
    refine r_iast C w 19 (f := (gc_3 19)) rfl (by omega) (by omega) (by decide) (ws' := xw cy a zc_3 (uZ gc_3 19 (uI (gc_3 19) p0 rv_3))) (xw_g19 cy a zc_3 gc_3 (uI (gc_3 19) p0 rv_3)) dX9_sell_101 (fun H locs w => ?_)
    have bg6 : ∀ j : Int, (-1 : Int) ≤ (uI (gc_3 19) p0 rv_3) j ∧ (uI (gc_3 19) p0 rv_3) j ≤ 399 := uI_b (xB19 hgc_3) (by omega)
    refine lv_aload_n hx hb dX9_sell_102 rfl (lv_at hl 3 rfl) ?_
    refine r_get C w 0 (v := .ref (a 12)) rfl rfl 3 (by decide) inX9 kf_X9_35 rfl dX9_sell_103 ?_
    refine r_getN C w 12 (v := .ref (a 18)) rfl rfl 5 (by decide) inX2 kt_X9_159 rfl dX9_sell_106 ?_
    refine lv_iload_n hx hb dX9_sell_109 rfl (lv_at hl 4 rfl) ?_
    refine r_iconst hx hb dX9_sell_110 ?_
    refine r_zast C w 18 (f := (gc_3 18)) rfl (by omega) (by omega) (by decide) (vz01 (by omega)) (ws' := xw cy a zc_3 (uZ (uZ gc_3 19 (uI (gc_3 19) p0 rv_3)) 18 (uI (gc_3 18) p0 1))) (xw_g18 cy a zc_3 (uZ gc_3 19 (uI (gc_3 19) p0 rv_3)) (uI (gc_3 18) p0 1)) dX9_sell_111 (fun H locs w => ?_)
    have bg7 : ∀ j : Int, (0 : Int) ≤ (uI (gc_3 18) p0 1) j ∧ (uI (gc_3 18) p0 1) j ≤ 1 := uI_b (xB18 hgc_3) (by omega)
    exact hend (zc_3, (uZ (uZ gc_3 19 (uI (gc_3 19) p0 rv_3)) 18 (uI (gc_3 18) p0 1))) _ _ _ _ dX9_sell_112 w ⟨(by clear w; subst er_3; subst ez_3; subst eg_3; subst ez_2; subst eg_2; unfold sellX; first | (rw [if_pos c76]; rfl) | (rw [if_neg c76]; simp only [uZ_uZ]; rfl)), hzc_3, (xBg_u (xBg_u hgc_3 19 bg6) 18 bg7)⟩
  · skip
    replace c76 : g 19 p0 ≠ -1 := by rw [← k19_3]; exact c76
    refine lv_aload_n hx hb dX9_sell_79 rfl (lv_at hl 3 rfl) ?_
    refine r_get C w 0 (v := .ref (a 20)) rfl rfl 4 (by decide) inX9 kf_X9_42 rfl dX9_sell_80 ?_
    refine r_getN C w 20 (v := .ref (a 27)) rfl rfl 6 (by decide) inX7 kt_X9_283 rfl dX9_sell_83 ?_
    refine lv_iload hx hb dX9_sell_86 (lv_at hl 0 rfl) ?_
    refine lv_iload hx hb dX9_sell_88 (lv_at hl 1 rfl) ?_
    refine r_iast C w 27 (f := (gc_3 27)) rfl (by omega) (by omega) (by decide) (ws' := xw cy a zc_3 (uZ gc_3 27 (uI (gc_3 27) ((gc_3 19) p0) rv_3))) (xw_g27 cy a zc_3 gc_3 (uI (gc_3 27) ((gc_3 19) p0) rv_3)) dX9_sell_90 (fun H locs w => ?_)
    have bg8 : ∀ j : Int, (-1 : Int) ≤ (uI (gc_3 27) ((gc_3 19) p0) rv_3) j ∧ (uI (gc_3 27) ((gc_3 19) p0) rv_3) j ≤ 399 := uI_b (xB27 hgc_3) (by omega)
    refine lv_aload_n hx hb dX9_sell_91 rfl (lv_at hl 3 rfl) ?_
    refine r_get C w 0 (v := .ref (a 12)) rfl rfl 3 (by decide) inX9 kf_X9_35 rfl dX9_sell_92 ?_
    refine r_getN C w 12 (v := .ref (a 19)) rfl rfl 6 (by decide) inX2 kt_X9_156 rfl dX9_sell_95 ?_
    refine lv_iload_n hx hb dX9_sell_98 rfl (lv_at hl 4 rfl) ?_
    refine lv_iload hx hb dX9_sell_99 (lv_at hl 1 rfl) ?_
    refine r_iast C w 19 (f := (gc_3 19)) rfl (by omega) (by omega) (by decide) (ws' := xw cy a zc_3 (uZ (uZ gc_3 27 (uI (gc_3 27) ((gc_3 19) p0) rv_3)) 19 (uI (gc_3 19) p0 rv_3))) (xw_g19 cy a zc_3 (uZ gc_3 27 (uI (gc_3 27) ((gc_3 19) p0) rv_3)) (uI (gc_3 19) p0 rv_3)) dX9_sell_101 (fun H locs w => ?_)
    have bg9 : ∀ j : Int, (-1 : Int) ≤ (uI (gc_3 19) p0 rv_3) j ∧ (uI (gc_3 19) p0 rv_3) j ≤ 399 := uI_b (xB19 hgc_3) (by omega)
    refine lv_aload_n hx hb dX9_sell_102 rfl (lv_at hl 3 rfl) ?_
    refine r_get C w 0 (v := .ref (a 12)) rfl rfl 3 (by decide) inX9 kf_X9_35 rfl dX9_sell_103 ?_
    refine r_getN C w 12 (v := .ref (a 18)) rfl rfl 5 (by decide) inX2 kt_X9_159 rfl dX9_sell_106 ?_
    refine lv_iload_n hx hb dX9_sell_109 rfl (lv_at hl 4 rfl) ?_
    refine r_iconst hx hb dX9_sell_110 ?_
    refine r_zast C w 18 (f := (gc_3 18)) rfl (by omega) (by omega) (by decide) (vz01 (by omega)) (ws' := xw cy a zc_3 (uZ (uZ (uZ gc_3 27 (uI (gc_3 27) ((gc_3 19) p0) rv_3)) 19 (uI (gc_3 19) p0 rv_3)) 18 (uI (gc_3 18) p0 1))) (xw_g18 cy a zc_3 (uZ (uZ gc_3 27 (uI (gc_3 27) ((gc_3 19) p0) rv_3)) 19 (uI (gc_3 19) p0 rv_3)) (uI (gc_3 18) p0 1)) dX9_sell_111 (fun H locs w => ?_)
    have bg10 : ∀ j : Int, (0 : Int) ≤ (uI (gc_3 18) p0 1) j ∧ (uI (gc_3 18) p0 1) j ≤ 1 := uI_b (xB18 hgc_3) (by omega)
    exact hend (zc_3, (uZ (uZ (uZ gc_3 27 (uI (gc_3 27) ((gc_3 19) p0) rv_3)) 19 (uI (gc_3 19) p0 rv_3)) 18 (uI (gc_3 18) p0 1))) _ _ _ _ dX9_sell_112 w ⟨(by clear w; subst er_3; subst ez_3; subst eg_3; subst ez_2; subst eg_2; unfold sellX; first | (rw [if_pos c76]; rfl) | (rw [if_neg c76]; simp only [uZ_uZ]; rfl)), hzc_3, (xBg_u (xBg_u (xBg_u hgc_3 27 bg8) 19 bg9) 18 bg10)⟩

theorem pay_ok {b p L M : Int} (h0 : 0 ≤ b) (hp : 0 ≤ p) (h : p ≤ L) (hm : L * b ≤ M) : 0 ≤ b * p ∧ b * p ≤ M := by
  have h1 := Int.mul_nonneg h0 hp
  have h2 := Int.mul_le_mul_of_nonneg_right h h0
  rw [Int.mul_comm p b] at h2
  omega
abbrev rm_X9_offerLot : Room := { frames := 2, cells := 0, slots := 0, locals := 51 }
set_option maxHeartbeats 4000000 in
set_option maxRecDepth 100000 in
theorem ct_X9_offerLot (l : Launch) (D : va_G) (cy : Nat → ClassId) (a : Nat → Nat) (z : Nat → Int) (g : Nat → Int → Int) (p0 : Int) (hz : xBz z) (hg : xBg g) (h0 : 0 ≤ p0 ∧ p0 < 100) : MV l yX9_offerLot cX9_offerLot 9 (rm_X9_offerLot) D cy (xw cy a z g) [.ref (a 0), vI p0] (fun (u : sX) => (u = offX z g p0) ∧ xBz u.1 ∧ xBg u.2) (fun u => xw cy a u.1 u.2) 0 0 := by
  refine go_v (by decide +kernel) (Nat.le_of_ble_eq_true rfl) ?_
  intro p e s m args below meth c Q A ls C hnm hA w hl hend
  have hx := C.1
  have hb := C.2.1
  have q17 := xB17 hg p0
  have q15 := xB15 hg p0
  have q16 := xB16 hg p0
  have q4 := xB4 hg (g 15 p0)
  have hlm := lmX_0 hg p0
  have J54 : ∀ N : Nat, ∀ (w4 : Int) (x5 : Int) (s6 : Int) (b7 : Int), (z 17 < 400) → (0 ≤ b7 ∧ b7 ≤ 10) → (w4 = (bI (lmX g p0) b7).1) → (s6 = (bI (lmX g p0) b7).2) → ((w4 < 0 ∧ x5 = 0) ∨ (0 ≤ w4 ∧ x5 = lmX g p0 w4)) → ((10 - b7).toNat) < N → ∀ (H : Heap) (locs : List Loc) (ls : Array Slot), wd D A s.heap (xw cy a z g) H locs → lv_has ls 9 [(0, .ref (a 0)), (1, vI p0), (2, vI (g 16 p0)), (3, vI (g 4 (g 15 p0))), (4, vI w4), (5, vI x5), (6, vI s6), (7, vI b7)] → W p l e (rm_X9_offerLot) s m args below meth c H locs 0 0 Q (F0 m 54 ls []) := by
    intro N
    induction N with
    | zero => intro w4 x5 s6 b7 hfl hb7 hw hs hv hN9; exact absurd hN9 (Nat.not_lt_zero _)
    | succ N ih54 =>
      intro w4 x5 s6 b7 hfl hb7 hw hs hv hN54 H locs ls w hl
      have hpp := bI_p (lmX g p0) hlm hb7.1
      rw [← hw, ← hs] at hpp
      have hx5 : 0 ≤ x5 ∧ x5 ≤ 9999 := by rcases hv with q | q; omega; (have q2 := lmX_1 (g := g) (k := p0) (b := w4) (by omega)); (have q3 := xB32 hg (plX g p0 w4)); omega
      refine lv_iload hx hb dX9_offerLot_54 (lv_at hl 7 rfl) ?_
      refine r_bipush hx hb dX9_offerLot_56 (by decide) ?_
      refine r_icmp_ge (tgt := 129) hx hb dX9_offerLot_58 (by decide) (by omega) (by omega) (fun c58 => ?_) (fun c58 => ?_)
      · skip
        refine lv_iload hx hb dX9_offerLot_129 (lv_at hl 4 rfl) ?_
        refine r_iconst hx hb dX9_offerLot_131 ?_
        refine r_icmp_eq (tgt := 152) hx hb dX9_offerLot_132 (by decide) (by omega) (by omega) (fun c132 => ?_) (fun c132 => ?_)
        · skip
          exact hend (z, g) _ _ _ _ dX9_offerLot_152 w ⟨(by unfold offX; first | (rw [show b7 = 10 by omega] at hw; rw [if_pos (by omega)]) | (rw [show b7 = 10 by omega] at hw hs; rw [if_neg (by omega), hsell, ← hw, ← hs, em146, em142]; rfl)), hz, hg⟩
        · skip
          obtain ⟨⟨qa_, qb_, qc_, qd_⟩, qe_⟩ := lmX_1 (g := g) (k := p0) (b := w4) (by omega)
          replace qa_ : g 16 p0 ≤ g 31 ((w4 * 4 + g 17 p0) * 4 + g 15 p0) := qa_
          rw [← qe_] at qc_ qd_
          refine lv_aload_n hx hb dX9_offerLot_135 rfl (lv_at hl 0 rfl) ?_
          refine lv_iload_n hx hb dX9_offerLot_136 rfl (lv_at hl 1 rfl) ?_
          refine lv_iload hx hb dX9_offerLot_137 (lv_at hl 4 rfl) ?_
          refine lv_iload hx hb dX9_offerLot_139 (lv_at hl 6 rfl) ?_
          refine lv_iload_n hx hb dX9_offerLot_141 rfl (lv_at hl 3 rfl) ?_
          refine r_mmax C km_X9_248 hl.1 (by decide) (Nat.le_of_ble_eq_true rfl) ⟨by decide, by decide⟩ (by omega) (by omega) dX9_offerLot_142 (fun rv_1 hp_1 => ?_)
          have em142 := mx_of hp_1
          refine r_iconst hx hb dX9_offerLot_145 ?_
          refine r_mmax C km_X9_248 hl.1 (by decide) (Nat.le_of_ble_eq_true rfl) ⟨by decide, by decide⟩ (by omega) (by omega) dX9_offerLot_146 (fun rv_2 hp_2 => ?_)
          have em146 := mx_of hp_2
          refine cVV C w hA (ct_X9_sell l D cy a z g p0 w4 rv_2 hz hg (by show 0 ≤ p0 ∧ p0 < 100; omega) (by show 0 ≤ w4 ∧ w4 < 10; omega) (by show 1 ≤ rv_2 ∧ rv_2 ≤ 9999; omega) (by show (g 16) p0 ≤ (g 31) ((w4 * 4 + (g 17) p0) * 4 + (g 15) p0); omega) (by exact pay_ok q16.1 (by omega) (by omega) qd_) (by show (z 17) < 400; omega)) ok_X9_sell km_X9_274 ⟨rfl, rfl⟩ ⟨by decide, by decide⟩ ⟨by decide, by decide⟩ rfl 0 rfl rfl hl.1 rfl (Nat.le_of_ble_eq_true rfl) dX9_offerLot_149 (fun uv_3 H locs w hp_3 => ?_)
          obtain ⟨zc_3, gc_3⟩ := uv_3
          obtain ⟨hp_3, hzc_3, hgc_3⟩ := hp_3
          replace w : wd D A s.heap (xw cy a zc_3 gc_3) H locs := w
          replace hzc_3 : xBz zc_3 := hzc_3
          replace hgc_3 : xBg gc_3 := hgc_3
          try dsimp only at hp_3
          have hsell := hp_3
          exact hend (zc_3, gc_3) _ _ _ _ dX9_offerLot_152 w ⟨(by unfold offX; first | (rw [show b7 = 10 by omega] at hw; rw [if_pos (by omega)]) | (rw [show b7 = 10 by omega] at hw hs; rw [if_neg (by omega), hsell, ← hw, ← hs, em146, em142]; rfl)), hzc_3, hgc_3⟩
      · skip
        refine lv_aload_n hx hb dX9_offerLot_61 rfl (lv_at hl 0 rfl) ?_
        refine r_get C w 0 (v := .ref (a 28)) rfl rfl 5 (by decide) inX9 kf_X9_49 rfl dX9_offerLot_62 ?_
        refine lv_iload hx hb dX9_offerLot_65 (lv_at hl 7 rfl) ?_
        refine lv_aload_n hx hb dX9_offerLot_67 rfl (lv_at hl 0 rfl) ?_
        refine r_get C w 0 (v := .ref (a 12)) rfl rfl 3 (by decide) inX9 kf_X9_35 rfl dX9_offerLot_68 ?_
        refine r_getN C w 12 (v := .ref (a 17)) rfl rfl 4 (by decide) inX2 kt_X9_191 rfl dX9_offerLot_71 ?_
        refine lv_iload_n hx hb dX9_offerLot_74 rfl (lv_at hl 1 rfl) ?_
        refine r_iald C w 17 (f := (g 17)) rfl (by omega) (by omega) (by decide) dX9_offerLot_75 ?_
        have qg1 := xB17 hg p0
        refine lv_aload_n hx hb dX9_offerLot_76 rfl (lv_at hl 0 rfl) ?_
        refine r_get C w 0 (v := .ref (a 12)) rfl rfl 3 (by decide) inX9 kf_X9_35 rfl dX9_offerLot_77 ?_
        refine r_getN C w 12 (v := .ref (a 15)) rfl rfl 2 (by decide) inX2 kt_X9_185 rfl dX9_offerLot_80 ?_
        refine lv_iload_n hx hb dX9_offerLot_83 rfl (lv_at hl 1 rfl) ?_
        refine r_iald C w 15 (f := (g 15)) rfl (by omega) (by omega) (by decide) dX9_offerLot_84 ?_
        have qg2 := xB15 hg p0
        refine lv_iload_n hx hb dX9_offerLot_85 rfl (lv_at hl 2 rfl) ?_
        refine lv_iload_n hx hb dX9_offerLot_86 rfl (lv_at hl 3 rfl) ?_
        refine cVI C w hA (ct_X0_bidOf l D cy a z g b7 ((g 17) p0) ((g 15) p0) (g 16 p0) (g 4 (g 15 p0)) hz hg (by show 0 ≤ b7 ∧ b7 < 10; omega) (by show 0 ≤ ((g 17) p0) ∧ ((g 17) p0) < 4; omega) (by show 0 ≤ ((g 15) p0) ∧ ((g 15) p0) < 4; omega) (by show 0 ≤ (g 16 p0) ∧ (g 16 p0) ≤ 500; omega) (by show 0 ≤ (g 4 (g 15 p0)) ∧ (g 4 (g 15 p0)) ≤ 9999; omega)) ok_X0_bidOf km_X9_271 ⟨rfl, rfl⟩ ⟨by decide, by decide⟩ ⟨by decide, by decide⟩ rfl 28 rfl rfl hl.1 rfl (Nat.le_of_ble_eq_true rfl) dX9_offerLot_87 (fun rv_4 uv_4 H locs w hp_4 => ?_)
        replace hp_4 : rv_4 = if ((g 16 p0) ≤ (g 31) ((b7 * 4 + ((g 17) p0)) * 4 + ((g 15) p0)) ∧ 1 ≤ (g 32) ((b7 * 4 + ((g 17) p0)) * 4 + ((g 15) p0)) ∧ (g 4 (g 15 p0)) ≤ (g 32) ((b7 * 4 + ((g 17) p0)) * 4 + ((g 15) p0)) ∧ (g 32) ((b7 * 4 + ((g 17) p0)) * 4 + ((g 15) p0)) * (g 16 p0) ≤ (g 30) b7) then (g 32) ((b7 * 4 + ((g 17) p0)) * 4 + ((g 15) p0)) else 0 := hp_4
        replace w : wd D A s.heap (xw cy a z g) H locs := w
        have hlim : rv_4 = lmX g p0 b7 := hp_4
        have qlim : 0 ≤ rv_4 ∧ rv_4 ≤ 9999 := by rw [hlim]; refine ⟨hlm b7, ?_⟩; unfold lmX; have := xB32 hg (plX g p0 b7); split <;> omega
        have ehi_ := bI_hi hlm hb7.1 hw hs hv (i := b7)
        have elo_ := bI_lo hlm hb7.1 hw hs hv (i := b7)
        refine lv_istore (lv' := [(8, vI rv_4), (0, .ref (a 0)), (1, vI p0), (2, vI (g 16 p0)), (3, vI (g 4 (g 15 p0))), (4, vI w4), (5, vI x5), (6, vI s6), (7, vI b7)]) hx hb dX9_offerLot_90 hl (by decide) rfl (fun ls hl => ?_)
        refine lv_iload hx hb dX9_offerLot_92 (lv_at hl 0 rfl) ?_
        refine lv_iload hx hb dX9_offerLot_94 (lv_at hl 6 rfl) ?_
        refine r_icmp_le (tgt := 114) hx hb dX9_offerLot_96 (by decide) (by omega) (by omega) (fun c96 => ?_) (fun c96 => ?_)
        · skip
          refine lv_iload hx hb dX9_offerLot_114 (lv_at hl 7 rfl) ?_
          refine lv_iload hx hb dX9_offerLot_116 (lv_at hl 0 rfl) ?_
          refine r_mmax C km_X9_248 hl.1 (by decide) (Nat.le_of_ble_eq_true rfl) ⟨by decide, by decide⟩ (by omega) (by omega) dX9_offerLot_118 (fun rv_5 hp_5 => ?_)
          have em118 := mx_of hp_5
          refine lv_istore (lv' := [(6, vI rv_5), (8, vI rv_4), (0, .ref (a 0)), (1, vI p0), (2, vI (g 16 p0)), (3, vI (g 4 (g 15 p0))), (4, vI w4), (5, vI x5), (7, vI b7)]) hx hb dX9_offerLot_121 hl (by decide) rfl (fun ls hl => ?_)
          refine r_iinc (lv' := [(7, vI (b7 + 1)), (6, vI rv_5), (8, vI rv_4), (0, .ref (a 0)), (1, vI p0), (2, vI (g 16 p0)), (3, vI (g 4 (g 15 p0))), (4, vI w4), (5, vI x5)]) hx hb dX9_offerLot_123 hl (k := 8) rfl (by decide) rfl (fun ls hl => ?_)
          refine lv_goto (tgt := 54) hx hb dX9_offerLot_126 (by decide) ?_
          exact ih54 w4 x5 rv_5 (b7 + 1) (by omega) (by omega) (by first | rw [ehi_ (by omega)] | rw [elo_ (by omega)]) (by first | rw [ehi_ (by omega)] | (rw [elo_ (by omega), em118, hlim])) (by first | exact Or.inr ⟨hb7.1, hlim⟩ | exact hv) (by omega) _ _ _ w (lv_sub hl [3, 4, 5, 6, 7, 8, 1, 0] rfl)
        · skip
          refine lv_iload hx hb dX9_offerLot_99 (lv_at hl 6 rfl) ?_
          refine lv_istore (lv' := [(6, vI x5), (8, vI rv_4), (0, .ref (a 0)), (1, vI p0), (2, vI (g 16 p0)), (3, vI (g 4 (g 15 p0))), (4, vI w4), (5, vI x5), (7, vI b7)]) hx hb dX9_offerLot_101 hl (by decide) rfl (fun ls hl => ?_)
          refine lv_iload hx hb dX9_offerLot_103 (lv_at hl 1 rfl) ?_
          refine lv_istore (lv' := [(5, vI rv_4), (6, vI x5), (8, vI rv_4), (0, .ref (a 0)), (1, vI p0), (2, vI (g 16 p0)), (3, vI (g 4 (g 15 p0))), (4, vI w4), (7, vI b7)]) hx hb dX9_offerLot_105 hl (by decide) rfl (fun ls hl => ?_)
          refine lv_iload hx hb dX9_offerLot_107 (lv_at hl 8 rfl) ?_
          refine lv_istore (lv' := [(4, vI b7), (5, vI rv_4), (6, vI x5), (8, vI rv_4), (0, .ref (a 0)), (1, vI p0), (2, vI (g 16 p0)), (3, vI (g 4 (g 15 p0))), (7, vI b7)]) hx hb dX9_offerLot_109 hl (by decide) rfl (fun ls hl => ?_)
          refine lv_goto (tgt := 123) hx hb dX9_offerLot_111 (by decide) ?_
          refine r_iinc (lv' := [(7, vI (b7 + 1)), (4, vI b7), (5, vI rv_4), (6, vI x5), (8, vI rv_4), (0, .ref (a 0)), (1, vI p0), (2, vI (g 16 p0)), (3, vI (g 4 (g 15 p0)))]) hx hb dX9_offerLot_123 hl (k := 8) rfl (by decide) rfl (fun ls hl => ?_)
          refine lv_goto (tgt := 54) hx hb dX9_offerLot_126 (by decide) ?_
          exact ih54 b7 rv_4 x5 (b7 + 1) (by omega) (by omega) (by first | rw [ehi_ (by omega)] | rw [elo_ (by omega)]) (by first | rw [ehi_ (by omega)] | (rw [elo_ (by omega), em118, hlim])) (by first | exact Or.inr ⟨hb7.1, hlim⟩ | exact hv) (by omega) _ _ _ w (lv_sub hl [5, 6, 7, 8, 1, 2, 3, 0] rfl)
  replace hl : lv_has ls 9 [(0, .ref (a 0)), (1, vI p0)] := hl
  refine lv_aload_n hx hb dX9_offerLot_0 rfl (lv_at hl 0 rfl) ?_
  refine r_get C w 0 (v := .ref (a 20)) rfl rfl 4 (by decide) inX9 kf_X9_42 rfl dX9_offerLot_1 ?_
  refine r_getN C w 20 (v := vI (z 17)) rfl rfl 7 (by decide) inX7 kt_X9_145 rfl dX9_offerLot_4 ?_
  have qz3 := xZ17 hz
  refine r_sipush hx hb dX9_offerLot_7 (by decide) ?_
  refine r_icmp_lt (tgt := 14) hx hb dX9_offerLot_10 (by decide) (by omega) (by omega) (fun c10 => ?_) (fun c10 => ?_)
  · skip
    refine lv_aload_n hx hb dX9_offerLot_14 rfl (lv_at hl 0 rfl) ?_
    refine r_get C w 0 (v := .ref (a 12)) rfl rfl 3 (by decide) inX9 kf_X9_35 rfl dX9_offerLot_15 ?_
    refine r_getN C w 12 (v := .ref (a 16)) rfl rfl 3 (by decide) inX2 kt_X9_188 rfl dX9_offerLot_18 ?_
    refine lv_iload_n hx hb dX9_offerLot_21 rfl (lv_at hl 1 rfl) ?_
    refine r_iald C w 16 (f := (g 16)) rfl (by omega) (by omega) (by decide) dX9_offerLot_22 ?_
    have qg4 := xB16 hg p0
    refine lv_istore_n (lv' := [(2, vI ((g 16) p0)), (0, .ref (a 0)), (1, vI p0)]) hx hb dX9_offerLot_23 rfl hl (by decide) rfl (fun ls hl => ?_)
    refine lv_aload_n hx hb dX9_offerLot_24 rfl (lv_at hl 1 rfl) ?_
    refine r_get C w 0 (v := .ref (a 3)) rfl rfl 1 (by decide) inX9 kf_X9_19 rfl dX9_offerLot_25 ?_
    refine r_getN C w 3 (v := .ref (a 4)) rfl rfl 0 (by decide) inX6 kt_X9_268 rfl dX9_offerLot_28 ?_
    refine lv_aload_n hx hb dX9_offerLot_31 rfl (lv_at hl 1 rfl) ?_
    refine r_get C w 0 (v := .ref (a 12)) rfl rfl 3 (by decide) inX9 kf_X9_35 rfl dX9_offerLot_32 ?_
    refine r_getN C w 12 (v := .ref (a 15)) rfl rfl 2 (by decide) inX2 kt_X9_185 rfl dX9_offerLot_35 ?_
    refine lv_iload_n hx hb dX9_offerLot_38 rfl (lv_at hl 2 rfl) ?_
    refine r_iald C w 15 (f := (g 15)) rfl (by omega) (by omega) (by decide) dX9_offerLot_39 ?_
    have qg5 := xB15 hg p0
    refine r_iald C w 4 (f := (g 4)) rfl (by omega) (by omega) (by decide) dX9_offerLot_40 ?_
    have qg6 := xB4 hg ((g 15) p0)
    refine lv_istore_n (lv' := [(3, vI ((g 4) ((g 15) p0))), (2, vI ((g 16) p0)), (0, .ref (a 0)), (1, vI p0)]) hx hb dX9_offerLot_41 rfl hl (by decide) rfl (fun ls hl => ?_)
    refine r_iconst hx hb dX9_offerLot_42 ?_
    refine lv_istore (lv' := [(4, vI (-1)), (3, vI ((g 4) ((g 15) p0))), (2, vI ((g 16) p0)), (0, .ref (a 0)), (1, vI p0)]) hx hb dX9_offerLot_43 hl (by decide) rfl (fun ls hl => ?_)
    refine r_iconst hx hb dX9_offerLot_45 ?_
    refine lv_istore (lv' := [(5, vI 0), (4, vI (-1)), (3, vI ((g 4) ((g 15) p0))), (2, vI ((g 16) p0)), (0, .ref (a 0)), (1, vI p0)]) hx hb dX9_offerLot_46 hl (by decide) rfl (fun ls hl => ?_)
    refine r_iconst hx hb dX9_offerLot_48 ?_
    refine lv_istore (lv' := [(6, vI 0), (5, vI 0), (4, vI (-1)), (3, vI ((g 4) ((g 15) p0))), (2, vI ((g 16) p0)), (0, .ref (a 0)), (1, vI p0)]) hx hb dX9_offerLot_49 hl (by decide) rfl (fun ls hl => ?_)
    refine r_iconst hx hb dX9_offerLot_51 ?_
    refine lv_istore (lv' := [(7, vI 0), (6, vI 0), (5, vI 0), (4, vI (-1)), (3, vI ((g 4) ((g 15) p0))), (2, vI ((g 16) p0)), (0, .ref (a 0)), (1, vI p0)]) hx hb dX9_offerLot_52 hl (by decide) rfl (fun ls hl => ?_)
    exact J54 _ (-1) 0 0 0 (by omega) (by omega) (by rfl) (by rfl) (by omega) (Nat.lt_succ_self _) _ _ _ w (lv_sub hl [6, 7, 5, 4, 3, 2, 1, 0] rfl)
  · skip
    exact hend (z, g) _ _ _ _ dX9_offerLot_13 w ⟨(by unfold offX; rw [if_pos (by omega)]), hz, hg⟩
