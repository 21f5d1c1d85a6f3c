/-! about, sale, worth of the class; about, sale of the reference -/
abbrev rm_X9_about : Room := { frames := 6, cells := 1, slots := 6, locals := 82 }
set_option maxHeartbeats 4000000 in
set_option maxRecDepth 100000 in
theorem ct_X9_about (l : Launch) (D : va_G) (cy : Nat → ClassId) (a : Nat → Nat) (z : Nat → Int) (g : Nat → Int → Int) (ad : Nat → Nat) (hst9 : l.stackTraces = false) (p0 p1 : Int) (hz : xBz z) (hg : xBg g) (h0 : iR p0) (h1 : iR p1) : MIX l yX9_about cX9_about 3 (rm_X9_about) D cy ad (xw cy a z g) [.ref (a 0), vI p0, vI p1] (fun (v : Int) (u : Unit) => (0 ≤ p0 ∧ p0 < z 16) ∧ ((p1 = 0 ∧ v = g 13 p0) ∨ (p1 = 1 ∧ v = g 14 p0) ∨ (p1 = 2 ∧ v = g 15 p0) ∨ (p1 = 3 ∧ v = g 16 p0) ∨ (p1 = 4 ∧ v = g 17 p0) ∨ (p1 = 5 ∧ v = g 18 p0) ∨ (p1 = 6 ∧ v = g 19 p0))) (fun (u : Unit) => ¬ (0 ≤ p0 ∧ p0 < z 16) ∨ ¬ (0 ≤ p1 ∧ p1 ≤ 6)) (fun _ => xw cy a z g) 1 6 := by
  refine go_iX hst9 (by decide +kernel) rfl (Nat.le_of_ble_eq_true rfl) (by decide) (by decide) (by decide) (by decide) (by decide) (by decide) ?_
  intro p e s m args below meth c Q A ls C hE hnm hA w hl hend hthr
  have hx := C.1
  have hb := C.2.1
  have b16_ := xZ16 hz
  replace hl : lv_has ls 3 [(0, .ref (a 0)), (1, vI p0), (2, vI p1)] := hl
  refine lv_iload_n hx hb dX9_about_0 rfl (lv_at hl 1 rfl) ?_
  refine lv_aload_n hx hb dX9_about_1 rfl (lv_at hl 0 rfl) ?_
  refine r_get C w 0 (v := .ref (a 12)) rfl rfl 3 (by decide) inX9 kf_X9_35 rfl dX9_about_2 ?_
  refine r_getN C w 12 (v := vI (z 16)) rfl rfl 7 (by decide) inX2 kt_X9_119 rfl dX9_about_5 ?_
  have qz1 := xZ16 hz
  refine cSI C w hA (ct_X9_isBelow l D cy a z g p0 (z 16) (by show iR p0; omega) (by show iR (z 16); omega)) ok_X9_isBelow km_X9_115 ⟨rfl, rfl⟩ ⟨by decide, by decide⟩ ⟨by decide, by decide⟩ rfl hl.1 rfl (Nat.le_of_ble_eq_true rfl) dX9_about_8 (fun rv_1 uv_1 H locs w hp_1 => ?_)
  replace hp_1 : (rv_1 = 1 ∧ 0 ≤ p0 ∧ p0 < (z 16)) ∨ (rv_1 = 0 ∧ ¬ (0 ≤ p0 ∧ p0 < (z 16))) := hp_1
  replace w : wd D A s.heap (xw cy a z g) H locs := w
  refine r_if_ne (tgt := 24) hx hb dX9_about_11 (by decide) (by omega) (fun c11 => ?_) (fun c11 => ?_)
  · skip
    refine lv_iload_n hx hb dX9_about_24 rfl (lv_at hl 2 rfl) ?_
    by_cases c25_0 : p1 = 0
    · refine r_tsI (k := 0) (tgt := 68) hx hb dX9_about_25 (by omega) c25_0 (by decide) rfl (by decide) ?_
      refine lv_aload_n hx hb dX9_about_68 rfl (lv_at hl 0 rfl) ?_
      refine r_get C w 0 (v := .ref (a 12)) rfl rfl 3 (by decide) inX9 kf_X9_35 rfl dX9_about_69 ?_
      refine r_getN C w 12 (v := .ref (a 13)) rfl rfl 0 (by decide) inX2 kt_X9_179 rfl dX9_about_72 ?_
      refine lv_iload_n hx hb dX9_about_75 rfl (lv_at hl 1 rfl) ?_
      refine r_iald C w 13 (f := (g 13)) rfl (by omega) (by omega) (by decide) dX9_about_76 ?_
      have qg2 := xB13 hg p0
      exact hend ((g 13) p0) () _ _ _ _ dX9_about_77 w (by omega)
    by_cases c25_1 : p1 = 1
    · refine r_tsI (k := 1) (tgt := 78) hx hb dX9_about_25 (by omega) c25_1 (by decide) rfl (by decide) ?_
      refine lv_aload_n hx hb dX9_about_78 rfl (lv_at hl 0 rfl) ?_
      refine r_get C w 0 (v := .ref (a 12)) rfl rfl 3 (by decide) inX9 kf_X9_35 rfl dX9_about_79 ?_
      refine r_getN C w 12 (v := .ref (a 14)) rfl rfl 1 (by decide) inX2 kt_X9_182 rfl dX9_about_82 ?_
      refine lv_iload_n hx hb dX9_about_85 rfl (lv_at hl 1 rfl) ?_
      refine r_iald C w 14 (f := (g 14)) rfl (by omega) (by omega) (by decide) dX9_about_86 ?_
      have qg3 := xB14 hg p0
      exact hend ((g 14) p0) () _ _ _ _ dX9_about_87 w (by omega)
    by_cases c25_2 : p1 = 2
    · refine r_tsI (k := 2) (tgt := 88) hx hb dX9_about_25 (by omega) c25_2 (by decide) rfl (by decide) ?_
      refine lv_aload_n hx hb dX9_about_88 rfl (lv_at hl 0 rfl) ?_
      refine r_get C w 0 (v := .ref (a 12)) rfl rfl 3 (by decide) inX9 kf_X9_35 rfl dX9_about_89 ?_
      refine r_getN C w 12 (v := .ref (a 15)) rfl rfl 2 (by decide) inX2 kt_X9_185 rfl dX9_about_92 ?_
      refine lv_iload_n hx hb dX9_about_95 rfl (lv_at hl 1 rfl) ?_
      refine r_iald C w 15 (f := (g 15)) rfl (by omega) (by omega) (by decide) dX9_about_96 ?_
      have qg4 := xB15 hg p0
      exact hend ((g 15) p0) () _ _ _ _ dX9_about_97 w (by omega)
    by_cases c25_3 : p1 = 3
    · refine r_tsI (k := 3) (tgt := 98) hx hb dX9_about_25 (by omega) c25_3 (by decide) rfl (by decide) ?_
      refine lv_aload_n hx hb dX9_about_98 rfl (lv_at hl 0 rfl) ?_
      refine r_get C w 0 (v := .ref (a 12)) rfl rfl 3 (by decide) inX9 kf_X9_35 rfl dX9_about_99 ?_
      refine r_getN C w 12 (v := .ref (a 16)) rfl rfl 3 (by decide) inX2 kt_X9_188 rfl dX9_about_102 ?_
      refine lv_iload_n hx hb dX9_about_105 rfl (lv_at hl 1 rfl) ?_
      refine r_iald C w 16 (f := (g 16)) rfl (by omega) (by omega) (by decide) dX9_about_106 ?_
      have qg5 := xB16 hg p0
      exact hend ((g 16) p0) () _ _ _ _ dX9_about_107 w (by omega)
    by_cases c25_4 : p1 = 4
    · refine r_tsI (k := 4) (tgt := 108) hx hb dX9_about_25 (by omega) c25_4 (by decide) rfl (by decide) ?_
      refine lv_aload_n hx hb dX9_about_108 rfl (lv_at hl 0 rfl) ?_
      refine r_get C w 0 (v := .ref (a 12)) rfl rfl 3 (by decide) inX9 kf_X9_35 rfl dX9_about_109 ?_
      refine r_getN C w 12 (v := .ref (a 17)) rfl rfl 4 (by decide) inX2 kt_X9_191 rfl dX9_about_112 ?_
      refine lv_iload_n hx hb dX9_about_115 rfl (lv_at hl 1 rfl) ?_
      refine r_iald C w 17 (f := (g 17)) rfl (by omega) (by omega) (by decide) dX9_about_116 ?_
      have qg6 := xB17 hg p0
      exact hend ((g 17) p0) () _ _ _ _ dX9_about_117 w (by omega)
    by_cases c25_5 : p1 = 5
    · refine r_tsI (k := 5) (tgt := 118) hx hb dX9_about_25 (by omega) c25_5 (by decide) rfl (by decide) ?_
      refine lv_aload_n hx hb dX9_about_118 rfl (lv_at hl 0 rfl) ?_
      refine r_get C w 0 (v := .ref (a 12)) rfl rfl 3 (by decide) inX9 kf_X9_35 rfl dX9_about_119 ?_
      refine r_getN C w 12 (v := .ref (a 18)) rfl rfl 5 (by decide) inX2 kt_X9_159 rfl dX9_about_122 ?_
      refine lv_iload_n hx hb dX9_about_125 rfl (lv_at hl 1 rfl) ?_
      refine r_zald C w 18 (f := (g 18)) rfl (by omega) (by omega) (by decide) dX9_about_126 ?_
      have qg7 := xB18 hg p0
      refine r_if_eq (tgt := 134) hx hb dX9_about_127 (by decide) (by omega) (fun c127 => ?_) (fun c127 => ?_)
      · skip
        refine r_iconst hx hb dX9_about_134 ?_
        exact hend 0 () _ _ _ _ dX9_about_135 w (by omega)
      · skip
        refine r_iconst hx hb dX9_about_130 ?_
        refine lv_goto (tgt := 135) hx hb dX9_about_131 (by decide) ?_
        exact hend 1 () _ _ _ _ dX9_about_135 w (by omega)
    by_cases c25_6 : p1 = 6
    · refine r_tsI (k := 6) (tgt := 136) hx hb dX9_about_25 (by omega) c25_6 (by decide) rfl (by decide) ?_
      refine lv_aload_n hx hb dX9_about_136 rfl (lv_at hl 0 rfl) ?_
      refine r_get C w 0 (v := .ref (a 12)) rfl rfl 3 (by decide) inX9 kf_X9_35 rfl dX9_about_137 ?_
      refine r_getN C w 12 (v := .ref (a 19)) rfl rfl 6 (by decide) inX2 kt_X9_156 rfl dX9_about_140 ?_
      refine lv_iload_n hx hb dX9_about_143 rfl (lv_at hl 1 rfl) ?_
      refine r_iald C w 19 (f := (g 19)) rfl (by omega) (by omega) (by decide) dX9_about_144 ?_
      have qg8 := xB19 hg p0
      exact hend ((g 19) p0) () _ _ _ _ dX9_about_145 w (by omega)
    refine r_tsO (tgt := 146) hx hb dX9_about_25 (by omega) (by omega) (by decide) ?_
    exact hthr 1 (by decide) () _ _ 146 _ hl.1 dX9_about_146 dX9_about_149 dX9_about_150 dX9_about_152 dX9_about_155 w (by omega)
  · skip
    exact hthr 0 (by decide) () _ _ 14 _ hl.1 dX9_about_14 dX9_about_17 dX9_about_18 dX9_about_20 dX9_about_23 w (by omega)

abbrev rm_X9_sale : Room := { frames := 6, cells := 1, slots := 6, locals := 82 }
set_option maxHeartbeats 4000000 in
set_option maxRecDepth 100000 in
theorem ct_X9_sale (l : Launch) (D : va_G) (cy : Nat → ClassId) (a : Nat → Nat) (z : Nat → Int) (g : Nat → Int → Int) (ad : Nat → Nat) (hst9 : l.stackTraces = false) (p0 p1 : Int) (hz : xBz z) (hg : xBg g) (h0 : iR p0) (h1 : iR p1) : MIX l yX9_sale cX9_sale 3 (rm_X9_sale) D cy ad (xw cy a z g) [.ref (a 0), vI p0, vI p1] (fun (v : Int) (u : Unit) => (0 ≤ p0 ∧ p0 < z 17) ∧ ((p1 = 0 ∧ v = g 21 p0) ∨ (p1 = 1 ∧ v = g 22 p0) ∨ (p1 = 2 ∧ v = g 23 p0) ∨ (p1 = 3 ∧ v = g 24 p0) ∨ (p1 = 4 ∧ v = g 25 p0) ∨ (p1 = 5 ∧ v = g 26 p0) ∨ (p1 = 6 ∧ v = clX z g p0))) (fun (u : Unit) => ¬ (0 ≤ p0 ∧ p0 < z 17) ∨ ¬ (0 ≤ p1 ∧ p1 ≤ 6)) (fun _ => xw cy a z g) 1 6 := by
  refine go_iX hst9 (by decide +kernel) rfl (Nat.le_of_ble_eq_true rfl) (by decide) (by decide) (by decide) (by decide) (by decide) (by decide) ?_
  intro p e s m args below meth c Q A ls C hE hnm hA w hl hend hthr
  have hx := C.1
  have hb := C.2.1
  have b17_ := xZ17 hz
  replace hl : lv_has ls 3 [(0, .ref (a 0)), (1, vI p0), (2, vI p1)] := hl
  refine lv_iload_n hx hb dX9_sale_0 rfl (lv_at hl 1 rfl) ?_
  refine lv_aload_n hx hb dX9_sale_1 rfl (lv_at hl 0 rfl) ?_
  refine r_get C w 0 (v := .ref (a 20)) rfl rfl 4 (by decide) inX9 kf_X9_42 rfl dX9_sale_2 ?_
  refine r_getN C w 20 (v := vI (z 17)) rfl rfl 7 (by decide) inX7 kt_X9_145 rfl dX9_sale_5 ?_
  have qz1 := xZ17 hz
  refine cSI C w hA (ct_X9_isBelow l D cy a z g p0 (z 17) (by show iR p0; omega) (by show iR (z 17); omega)) ok_X9_isBelow km_X9_115 ⟨rfl, rfl⟩ ⟨by decide, by decide⟩ ⟨by decide, by decide⟩ rfl hl.1 rfl (Nat.le_of_ble_eq_true rfl) dX9_sale_8 (fun rv_1 uv_1 H locs w hp_1 => ?_)
  replace hp_1 : (rv_1 = 1 ∧ 0 ≤ p0 ∧ p0 < (z 17)) ∨ (rv_1 = 0 ∧ ¬ (0 ≤ p0 ∧ p0 < (z 17))) := hp_1
  replace w : wd D A s.heap (xw cy a z g) H locs := w
  refine r_if_ne (tgt := 24) hx hb dX9_sale_11 (by decide) (by omega) (fun c11 => ?_) (fun c11 => ?_)
  · skip
    refine lv_iload_n hx hb dX9_sale_24 rfl (lv_at hl 2 rfl) ?_
    by_cases c25_0 : p1 = 0
    · refine r_tsI (k := 0) (tgt := 68) hx hb dX9_sale_25 (by omega) c25_0 (by decide) rfl (by decide) ?_
      refine lv_aload_n hx hb dX9_sale_68 rfl (lv_at hl 0 rfl) ?_
      refine r_get C w 0 (v := .ref (a 20)) rfl rfl 4 (by decide) inX9 kf_X9_42 rfl dX9_sale_69 ?_
      refine r_getN C w 20 (v := .ref (a 21)) rfl rfl 0 (by decide) inX7 kt_X9_153 rfl dX9_sale_72 ?_
      refine lv_iload_n hx hb dX9_sale_75 rfl (lv_at hl 1 rfl) ?_
      refine r_iald C w 21 (f := (g 21)) rfl (by omega) (by omega) (by decide) dX9_sale_76 ?_
      have qg2 := xB21 hg p0
      exact hend ((g 21) p0) () _ _ _ _ dX9_sale_77 w (by omega)
    by_cases c25_1 : p1 = 1
    · refine r_tsI (k := 1) (tgt := 78) hx hb dX9_sale_25 (by omega) c25_1 (by decide) rfl (by decide) ?_
      refine lv_aload_n hx hb dX9_sale_78 rfl (lv_at hl 0 rfl) ?_
      refine r_get C w 0 (v := .ref (a 20)) rfl rfl 4 (by decide) inX9 kf_X9_42 rfl dX9_sale_79 ?_
      refine r_getN C w 20 (v := .ref (a 22)) rfl rfl 1 (by decide) inX7 kt_X9_198 rfl dX9_sale_82 ?_
      refine lv_iload_n hx hb dX9_sale_85 rfl (lv_at hl 1 rfl) ?_
      refine r_iald C w 22 (f := (g 22)) rfl (by omega) (by omega) (by decide) dX9_sale_86 ?_
      have qg3 := xB22 hg p0
      exact hend ((g 22) p0) () _ _ _ _ dX9_sale_87 w (by omega)
    by_cases c25_2 : p1 = 2
    · refine r_tsI (k := 2) (tgt := 88) hx hb dX9_sale_25 (by omega) c25_2 (by decide) rfl (by decide) ?_
      refine lv_aload_n hx hb dX9_sale_88 rfl (lv_at hl 0 rfl) ?_
      refine r_get C w 0 (v := .ref (a 20)) rfl rfl 4 (by decide) inX9 kf_X9_42 rfl dX9_sale_89 ?_
      refine r_getN C w 20 (v := .ref (a 23)) rfl rfl 2 (by decide) inX7 kt_X9_201 rfl dX9_sale_92 ?_
      refine lv_iload_n hx hb dX9_sale_95 rfl (lv_at hl 1 rfl) ?_
      refine r_iald C w 23 (f := (g 23)) rfl (by omega) (by omega) (by decide) dX9_sale_96 ?_
      have qg4 := xB23 hg p0
      exact hend ((g 23) p0) () _ _ _ _ dX9_sale_97 w (by omega)
    by_cases c25_3 : p1 = 3
    · refine r_tsI (k := 3) (tgt := 98) hx hb dX9_sale_25 (by omega) c25_3 (by decide) rfl (by decide) ?_
      refine lv_aload_n hx hb dX9_sale_98 rfl (lv_at hl 0 rfl) ?_
      refine r_get C w 0 (v := .ref (a 20)) rfl rfl 4 (by decide) inX9 kf_X9_42 rfl dX9_sale_99 ?_
      refine r_getN C w 20 (v := .ref (a 24)) rfl rfl 3 (by decide) inX7 kt_X9_204 rfl dX9_sale_102 ?_
      refine lv_iload_n hx hb dX9_sale_105 rfl (lv_at hl 1 rfl) ?_
      refine r_iald C w 24 (f := (g 24)) rfl (by omega) (by omega) (by decide) dX9_sale_106 ?_
      have qg5 := xB24 hg p0
      exact hend ((g 24) p0) () _ _ _ _ dX9_sale_107 w (by omega)
    by_cases c25_4 : p1 = 4
    · refine r_tsI (k := 4) (tgt := 108) hx hb dX9_sale_25 (by omega) c25_4 (by decide) rfl (by decide) ?_
      refine lv_aload_n hx hb dX9_sale_108 rfl (lv_at hl 0 rfl) ?_
      refine r_get C w 0 (v := .ref (a 20)) rfl rfl 4 (by decide) inX9 kf_X9_42 rfl dX9_sale_109 ?_
      refine r_getN C w 20 (v := .ref (a 25)) rfl rfl 4 (by decide) inX7 kt_X9_205 rfl dX9_sale_112 ?_
      refine lv_iload_n hx hb dX9_sale_115 rfl (lv_at hl 1 rfl) ?_
      refine r_iald C w 25 (f := (g 25)) rfl (by omega) (by omega) (by decide) dX9_sale_116 ?_
      have qg6 := xB25 hg p0
      exact hend ((g 25) p0) () _ _ _ _ dX9_sale_117 w (by omega)
    by_cases c25_5 : p1 = 5
    · refine r_tsI (k := 5) (tgt := 118) hx hb dX9_sale_25 (by omega) c25_5 (by decide) rfl (by decide) ?_
      refine lv_aload_n hx hb dX9_sale_118 rfl (lv_at hl 0 rfl) ?_
      refine r_get C w 0 (v := .ref (a 20)) rfl rfl 4 (by decide) inX9 kf_X9_42 rfl dX9_sale_119 ?_
      refine r_getN C w 20 (v := .ref (a 26)) rfl rfl 5 (by decide) inX7 kt_X9_150 rfl dX9_sale_122 ?_
      refine lv_iload_n hx hb dX9_sale_125 rfl (lv_at hl 1 rfl) ?_
      refine r_iald C w 26 (f := (g 26)) rfl (by omega) (by omega) (by decide) dX9_sale_126 ?_
      have qg7 := xB26 hg p0
      exact hend ((g 26) p0) () _ _ _ _ dX9_sale_127 w (by omega)
    by_cases c25_6 : p1 = 6
    · refine r_tsI (k := 6) (tgt := 128) hx hb dX9_sale_25 (by omega) c25_6 (by decide) rfl (by decide) ?_
      refine lv_aload_n hx hb dX9_sale_128 rfl (lv_at hl 0 rfl) ?_
      refine r_get C w 0 (v := .ref (a 33)) rfl rfl 6 (by decide) inX9 kf_X9_58 rfl dX9_sale_129 ?_
      refine lv_iload_n hx hb dX9_sale_132 rfl (lv_at hl 1 rfl) ?_
      refine cVI C w hA (ct_X3_claimOf l D cy a z g p0 hz hg (by show 0 ≤ p0 ∧ p0 < 400; omega)) ok_X3_claimOf km_X9_208 ⟨rfl, rfl⟩ ⟨by decide, by decide⟩ ⟨by decide, by decide⟩ rfl 33 rfl rfl hl.1 rfl (Nat.le_of_ble_eq_true rfl) dX9_sale_133 (fun rv_2 uv_2 H locs w hp_2 => ?_)
      replace w : wd D A s.heap (xw cy a z g) H locs := w
      have bcl_2 := clX_b (z := z) hg p0
      exact hend rv_2 () _ _ _ _ dX9_sale_136 w (by omega)
    refine r_tsO (tgt := 137) hx hb dX9_sale_25 (by omega) (by omega) (by decide) ?_
    exact hthr 3 (by decide) () _ _ 137 _ hl.1 dX9_sale_137 dX9_sale_140 dX9_sale_141 dX9_sale_143 dX9_sale_146 w (by omega)
  · skip
    exact hthr 2 (by decide) () _ _ 14 _ hl.1 dX9_sale_14 dX9_sale_17 dX9_sale_18 dX9_sale_20 dX9_sale_23 w (by omega)

abbrev rm_X9_worth : Room := { frames := 6, cells := 1, slots := 6, locals := 82 }
set_option maxHeartbeats 4000000 in
set_option maxRecDepth 100000 in
theorem ct_X9_worth (l : Launch) (D : va_G) (cy : Nat → ClassId) (a : Nat → Nat) (z : Nat → Int) (g : Nat → Int → Int) (ad : Nat → Nat) (hst9 : l.stackTraces = false) (p0 p1 p2 : Int) (hz : xBz z) (hg : xBg g) (h0 : iR p0) (h1 : iR p1) (h2 : iR p2) : MLX l yX9_worth cX9_worth 4 (rm_X9_worth) D cy ad (xw cy a z g) [.ref (a 0), vI p0, vI p1, vI p2] (fun (v : Int) (u : sX) => (((0 ≤ p0 ∧ p0 ≤ 5) ∧ (0 ≤ p2 ∧ p2 ≤ 1)) ∧ 1 ≤ (wT (ciX g p1) (gdX g) (mkX g) p0 (z 17)) ∧ ∃ (rp rq : Int) (fs fp fm : Int → Int), u.1 = uZ (uZ z 18 rp) 19 rq ∧ u.2 = uZ (uZ (uZ g 37 fs) 38 fp) 39 fm ∧ low (wV (ciX g p1) (gdX g) (mkX g) (g 25) p0 (z 17)) ((wT (ciX g p1) (gdX g) (mkX g) p0 (z 17)) * (wC (ciX g p1) (gdX g) (z 17))) rp rq ∧ v = if p2 = 0 then rp else rq) ∧ xBz u.1 ∧ xBg u.2) (fun (u : sX) => ((¬ ((0 ≤ p0 ∧ p0 ≤ 5) ∧ (0 ≤ p2 ∧ p2 ≤ 1)) ∧ u = (z, g)) ∨ (((0 ≤ p0 ∧ p0 ≤ 5) ∧ (0 ≤ p2 ∧ p2 ≤ 1)) ∧ (wT (ciX g p1) (gdX g) (mkX g) p0 (z 17)) < 1 ∧ ∃ (rp rq : Int) (fs fp fm : Int → Int), u.1 = uZ (uZ z 18 rp) 19 rq ∧ u.2 = uZ (uZ (uZ g 37 fs) 38 fp) 39 fm)) ∧ xBz u.1 ∧ xBg u.2) (fun u => xw cy a u.1 u.2) 1 6 := by
  refine go_lX hst9 (by decide +kernel) rfl (Nat.le_of_ble_eq_true rfl) (by decide) (by decide) (by decide) (by decide) (by decide) (by decide) ?_
  intro p e s m args below meth c Q A ls C hE hnm hA w hl hend hthr
  have hx := C.1
  have hb := C.2.1
  replace hl : lv_has ls 4 [(0, .ref (a 0)), (1, vI p0), (2, vI p1), (3, vI p2)] := hl
  refine lv_iload_n hx hb dX9_worth_0 rfl (lv_at hl 1 rfl) ?_
  refine r_bipush hx hb dX9_worth_1 (by decide) ?_
  refine cSI C w hA (ct_X9_isBelow l D cy a z g p0 6 (by show iR p0; omega) (by show iR 6; omega)) ok_X9_isBelow km_X9_115 ⟨rfl, rfl⟩ ⟨by decide, by decide⟩ ⟨by decide, by decide⟩ rfl hl.1 rfl (Nat.le_of_ble_eq_true rfl) dX9_worth_3 (fun rv_1 uv_1 H locs w hp_1 => ?_)
  replace hp_1 : (rv_1 = 1 ∧ 0 ≤ p0 ∧ p0 < 6) ∨ (rv_1 = 0 ∧ ¬ (0 ≤ p0 ∧ p0 < 6)) := hp_1
  replace w : wd D A s.heap (xw cy a z g) H locs := w
  refine r_if_ne (tgt := 19) hx hb dX9_worth_6 (by decide) (by omega) (fun c6 => ?_) (fun c6 => ?_)
  · skip
    refine lv_iload_n hx hb dX9_worth_19 rfl (lv_at hl 3 rfl) ?_
    refine r_if_eq (tgt := 38) hx hb dX9_worth_20 (by decide) (by omega) (fun c20 => ?_) (fun c20 => ?_)
    · skip
      refine lv_aload_n hx hb dX9_worth_38 rfl (lv_at hl 0 rfl) ?_
      refine r_get C w 0 (v := .ref (a 36)) rfl rfl 7 (by decide) inX9 kf_X9_67 rfl dX9_worth_39 ?_
      refine lv_iload_n hx hb dX9_worth_42 rfl (lv_at hl 1 rfl) ?_
      refine lv_iload_n hx hb dX9_worth_43 rfl (lv_at hl 2 rfl) ?_
      refine cVI C w hA (ct_X4_reckon l D cy a z g p0 p1 hz hg (by show iR p0; omega) (by show iR p1; omega)) ok_X4_reckon km_X9_226 ⟨rfl, rfl⟩ ⟨by decide, by decide⟩ ⟨by decide, by decide⟩ rfl 36 rfl rfl hl.1 rfl (Nat.le_of_ble_eq_true rfl) dX9_worth_44 (fun rv_2 uv_2 H locs w hp_2 => ?_)
      obtain ⟨zc_2, gc_2⟩ := uv_2
      obtain ⟨hp_2, hzc_2, hgc_2⟩ := hp_2
      replace w : wd D A s.heap (xw cy a zc_2 gc_2) H locs := w
      replace hzc_2 : xBz zc_2 := hzc_2
      replace hgc_2 : xBg gc_2 := hgc_2
      try dsimp only at hp_2
      have hp_W := hp_2
      have hrv : rv_2 = 0 ∨ rv_2 = 1 := by obtain ⟨rp, rq, fs, fp, fm, e1, e2, e3⟩ := hp_2; exact e3.elim (fun q => Or.inl q.1) (fun q => Or.inr q.1)
      refine r_if_ne (tgt := 60) hx hb dX9_worth_47 (by decide) (by omega) (fun c47 => ?_) (fun c47 => ?_)
      · skip
        refine lv_iload_n hx hb dX9_worth_60 rfl (lv_at hl 3 rfl) ?_
        refine r_if_ne (tgt := 74) hx hb dX9_worth_61 (by decide) (by omega) (fun c61 => ?_) (fun c61 => ?_)
        · skip
          refine lv_aload_n hx hb dX9_worth_74 rfl (lv_at hl 0 rfl) ?_
          refine r_get C w 0 (v := .ref (a 36)) rfl rfl 7 (by decide) inX9 kf_X9_67 rfl dX9_worth_75 ?_
          refine r_getN C w 36 (v := vL (zc_2 19)) rfl rfl 6 (by decide) inX4 kt_X9_235 rfl dX9_worth_78 ?_
          exact hend (zc_2 19) (zc_2, gc_2) _ _ _ _ dX9_worth_81 w ⟨(by obtain ⟨rp, rq, fs, fp, fm, e1, e2, e3⟩ := hp_W; have q3 := e3.elim (fun q => absurd q.1 (by omega)) (fun q => q.2); refine ⟨by omega, q3.1, rp, rq, fs, fp, fm, e1, e2, q3.2, ?_⟩; first | exact (congrFun e1 18).trans (if_pos (by omega)).symm | exact (congrFun e1 19).trans (if_neg (by omega)).symm), hzc_2, hgc_2⟩
        · skip
          refine lv_aload_n hx hb dX9_worth_64 rfl (lv_at hl 0 rfl) ?_
          refine r_get C w 0 (v := .ref (a 36)) rfl rfl 7 (by decide) inX9 kf_X9_67 rfl dX9_worth_65 ?_
          refine r_getN C w 36 (v := vL (zc_2 18)) rfl rfl 5 (by decide) inX4 kt_X9_231 rfl dX9_worth_68 ?_
          refine lv_goto (tgt := 81) hx hb dX9_worth_71 (by decide) ?_
          exact hend (zc_2 18) (zc_2, gc_2) _ _ _ _ dX9_worth_81 w ⟨(by obtain ⟨rp, rq, fs, fp, fm, e1, e2, e3⟩ := hp_W; have q3 := e3.elim (fun q => absurd q.1 (by omega)) (fun q => q.2); refine ⟨by omega, q3.1, rp, rq, fs, fp, fm, e1, e2, q3.2, ?_⟩; first | exact (congrFun e1 18).trans (if_pos (by omega)).symm | exact (congrFun e1 19).trans (if_neg (by omega)).symm), hzc_2, hgc_2⟩
      · skip
        exact hthr 6 (by decide) (zc_2, gc_2) _ _ 50 _ hl.1 dX9_worth_50 dX9_worth_53 dX9_worth_54 dX9_worth_56 dX9_worth_59 w ⟨(by obtain ⟨rp, rq, fs, fp, fm, e1, e2, e3⟩ := hp_W; exact Or.inr ⟨by omega, e3.elim (fun q => q.2) (fun q => absurd q.1 (by omega)), rp, rq, fs, fp, fm, e1, e2⟩), hzc_2, hgc_2⟩
    · skip
      refine lv_iload_n hx hb dX9_worth_23 rfl (lv_at hl 3 rfl) ?_
      refine r_iconst hx hb dX9_worth_24 ?_
      refine r_icmp_eq (tgt := 38) hx hb dX9_worth_25 (by decide) (by omega) (by omega) (fun c25 => ?_) (fun c25 => ?_)
      · skip
        refine lv_aload_n hx hb dX9_worth_38 rfl (lv_at hl 0 rfl) ?_
        refine r_get C w 0 (v := .ref (a 36)) rfl rfl 7 (by decide) inX9 kf_X9_67 rfl dX9_worth_39 ?_
        refine lv_iload_n hx hb dX9_worth_42 rfl (lv_at hl 1 rfl) ?_
        refine lv_iload_n hx hb dX9_worth_43 rfl (lv_at hl 2 rfl) ?_
        refine cVI C w hA (ct_X4_reckon l D cy a z g p0 p1 hz hg (by show iR p0; omega) (by show iR p1; omega)) ok_X4_reckon km_X9_226 ⟨rfl, rfl⟩ ⟨by decide, by decide⟩ ⟨by decide, by decide⟩ rfl 36 rfl rfl hl.1 rfl (Nat.le_of_ble_eq_true rfl) dX9_worth_44 (fun rv_3 uv_3 H locs w hp_3 => ?_)
        obtain ⟨zc_3, gc_3⟩ := uv_3
        obtain ⟨hp_3, hzc_3, hgc_3⟩ := hp_3
        replace w : wd D A s.heap (xw cy a zc_3 gc_3) H locs := w
        replace hzc_3 : xBz zc_3 := hzc_3
        replace hgc_3 : xBg gc_3 := hgc_3
        try dsimp only at hp_3
        have hp_W := hp_3
        have hrv : rv_3 = 0 ∨ rv_3 = 1 := by obtain ⟨rp, rq, fs, fp, fm, e1, e2, e3⟩ := hp_3; exact e3.elim (fun q => Or.inl q.1) (fun q => Or.inr q.1)
        refine r_if_ne (tgt := 60) hx hb dX9_worth_47 (by decide) (by omega) (fun c47 => ?_) (fun c47 => ?_)
        · skip
          refine lv_iload_n hx hb dX9_worth_60 rfl (lv_at hl 3 rfl) ?_
          refine r_if_ne (tgt := 74) hx hb dX9_worth_61 (by decide) (by omega) (fun c61 => ?_) (fun c61 => ?_)
          · skip
            refine lv_aload_n hx hb dX9_worth_74 rfl (lv_at hl 0 rfl) ?_
            refine r_get C w 0 (v := .ref (a 36)) rfl rfl 7 (by decide) inX9 kf_X9_67 rfl dX9_worth_75 ?_
            refine r_getN C w 36 (v := vL (zc_3 19)) rfl rfl 6 (by decide) inX4 kt_X9_235 rfl dX9_worth_78 ?_
            exact hend (zc_3 19) (zc_3, gc_3) _ _ _ _ dX9_worth_81 w ⟨(by obtain ⟨rp, rq, fs, fp, fm, e1, e2, e3⟩ := hp_W; have q3 := e3.elim (fun q => absurd q.1 (by omega)) (fun q => q.2); refine ⟨by omega, q3.1, rp, rq, fs, fp, fm, e1, e2, q3.2, ?_⟩; first | exact (congrFun e1 18).trans (if_pos (by omega)).symm | exact (congrFun e1 19).trans (if_neg (by omega)).symm), hzc_3, hgc_3⟩
          · skip
            refine lv_aload_n hx hb dX9_worth_64 rfl (lv_at hl 0 rfl) ?_
            refine r_get C w 0 (v := .ref (a 36)) rfl rfl 7 (by decide) inX9 kf_X9_67 rfl dX9_worth_65 ?_
            refine r_getN C w 36 (v := vL (zc_3 18)) rfl rfl 5 (by decide) inX4 kt_X9_231 rfl dX9_worth_68 ?_
            refine lv_goto (tgt := 81) hx hb dX9_worth_71 (by decide) ?_
            exact hend (zc_3 18) (zc_3, gc_3) _ _ _ _ dX9_worth_81 w ⟨(by obtain ⟨rp, rq, fs, fp, fm, e1, e2, e3⟩ := hp_W; have q3 := e3.elim (fun q => absurd q.1 (by omega)) (fun q => q.2); refine ⟨by omega, q3.1, rp, rq, fs, fp, fm, e1, e2, q3.2, ?_⟩; first | exact (congrFun e1 18).trans (if_pos (by omega)).symm | exact (congrFun e1 19).trans (if_neg (by omega)).symm), hzc_3, hgc_3⟩
        · skip
          exact hthr 6 (by decide) (zc_3, gc_3) _ _ 50 _ hl.1 dX9_worth_50 dX9_worth_53 dX9_worth_54 dX9_worth_56 dX9_worth_59 w ⟨(by obtain ⟨rp, rq, fs, fp, fm, e1, e2, e3⟩ := hp_W; exact Or.inr ⟨by omega, e3.elim (fun q => q.2) (fun q => absurd q.1 (by omega)), rp, rq, fs, fp, fm, e1, e2⟩), hzc_3, hgc_3⟩
      · skip
        exact hthr 5 (by decide) (z, g) _ _ 28 _ hl.1 dX9_worth_28 dX9_worth_31 dX9_worth_32 dX9_worth_34 dX9_worth_37 w ⟨(by exact Or.inl ⟨by omega, rfl⟩), hz, hg⟩
  · skip
    exact hthr 4 (by decide) (z, g) _ _ 9 _ hl.1 dX9_worth_9 dX9_worth_12 dX9_worth_13 dX9_worth_15 dX9_worth_18 w ⟨(by exact Or.inl ⟨by omega, rfl⟩), hz, hg⟩

