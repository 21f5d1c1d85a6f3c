/-! about, sale of the reference -/
abbrev rm_X10_about : Room := { frames := 1, cells := 0, slots := 0, locals := 21 }
set_option maxHeartbeats 4000000 in
set_option maxRecDepth 100000 in
theorem ct_X10_about (l : Launch) (D : va_G) (cy : Nat → ClassId) (a : Nat → Nat) (z : Nat → Int) (g : Nat → Int → Int) (p0 p1 : Int) (hz : mBz z) (hg : mBg g) (h0 : iR p0) (h1 : iR p1) : MI l yX10_about cX10_about 3 .int (rm_X10_about) D cy (mw cy a z g) [.ref (a 0), vI p0, vI p1] (fun (v : Int) (u : sX) => ((¬ ((0 ≤ p0 ∧ p0 < z 11) ∧ (0 ≤ p1 ∧ p1 ≤ 6)) ∧ v = 0 ∧ u = (uZ z 0 1, g)) ∨ (((0 ≤ p0 ∧ p0 < z 11) ∧ (0 ≤ p1 ∧ p1 ≤ 6)) ∧ u = (uZ z 0 0, g) ∧ ((p1 = 0 ∧ v = g 5 p0) ∨ (p1 = 1 ∧ v = g 6 p0) ∨ (p1 = 2 ∧ v = g 7 p0) ∨ (p1 = 3 ∧ v = g 8 p0) ∨ (p1 = 4 ∧ v = g 9 p0) ∨ (p1 = 5 ∧ v = g 11 p0) ∨ (p1 = 6 ∧ v = g 10 p0)))) ∧ mBz u.1 ∧ mBg u.2) (fun u => mw cy a u.1 u.2) 0 0 := by
  refine go_i (by decide +kernel) (Nat.le_of_ble_eq_true rfl) (Or.inl rfl) ?_
  intro p e s m args below meth c Q A ls C hnm hA w hl hend
  have hx := C.1
  have hb := C.2.1
  have bk_ := mZ11 hz
  replace hl : lv_has ls 3 [(0, .ref (a 0)), (1, vI p0), (2, vI p1)] := hl
  refine lv_aload_n hx hb dX10_about_0 rfl (lv_at hl 0 rfl) ?_
  refine lv_iload_n hx hb dX10_about_1 rfl (lv_at hl 1 rfl) ?_
  refine r_if_lt (tgt := 23) hx hb dX10_about_2 (by decide) (by omega) (fun c2 => ?_) (fun c2 => ?_)
  · skip
    refine r_iconst hx hb dX10_about_23 ?_
    refine lv_goto (tgt := 28) hx hb dX10_about_24 (by decide) ?_
    refine cVI C w hA (ct_X10_throwsIf l D cy a z g 1 hz hg (by show 1 = 0 ∨ 1 = 1; omega)) ok_X10_throwsIf km_X10_207 ⟨rfl, rfl⟩ ⟨by decide, by decide⟩ ⟨by decide, by decide⟩ rfl 0 rfl rfl hl.1 rfl (Nat.le_of_ble_eq_true rfl) dX10_about_28 (fun rv_1 uv_1 H locs w hp_1 => ?_)
    obtain ⟨zc_1, gc_1⟩ := uv_1
    obtain ⟨hp_1, -, -⟩ := hp_1
    obtain ⟨hv_1, hp_1⟩ := hp_1
    obtain ⟨ea_1, eb_1⟩ := Prod.mk.inj hp_1
    subst ea_1
    replace eb_1 := eb_1.symm
    subst eb_1
    subst hv_1
    have bz1 : (0 : Int) ≤ 1 ∧ (1 : Int) ≤ 1 := by omega
    replace w : wd D A s.heap (mw cy a (uZ z 0 1) g) H locs := w
    refine r_if_eq (tgt := 36) hx hb dX10_about_31 (by decide) (by omega) (fun c31 => ?_) (fun c31 => ?_)
    · skip
      exact absurd c31 (by omega)
    · skip
      refine r_iconst hx hb dX10_about_34 ?_
      exact hend 0 ((uZ z 0 1), g) _ _ _ _ dX10_about_35 w ⟨(by first | exact Or.inl ⟨by omega, rfl, rfl⟩ | exact Or.inr ⟨by omega, rfl, by omega⟩), (mBz_u hz 0 bz1), hg⟩
  · skip
    refine lv_iload_n hx hb dX10_about_5 rfl (lv_at hl 1 rfl) ?_
    refine lv_aload_n hx hb dX10_about_6 rfl (lv_at hl 0 rfl) ?_
    refine r_get C w 0 (v := vI (z 11)) rfl rfl 22 (by decide) inX10 kf_X10_180 rfl dX10_about_7 ?_
    have qz2 := mZ11 hz
    refine r_icmp_ge (tgt := 23) hx hb dX10_about_10 (by decide) (by omega) (by omega) (fun c10 => ?_) (fun c10 => ?_)
    · skip
      refine r_iconst hx hb dX10_about_23 ?_
      refine lv_goto (tgt := 28) hx hb dX10_about_24 (by decide) ?_
      refine cVI C w hA (ct_X10_throwsIf l D cy a z g 1 hz hg (by show 1 = 0 ∨ 1 = 1; omega)) ok_X10_throwsIf km_X10_207 ⟨rfl, rfl⟩ ⟨by decide, by decide⟩ ⟨by decide, by decide⟩ rfl 0 rfl rfl hl.1 rfl (Nat.le_of_ble_eq_true rfl) dX10_about_28 (fun rv_2 uv_2 H locs w hp_2 => ?_)
      obtain ⟨zc_2, gc_2⟩ := uv_2
      obtain ⟨hp_2, -, -⟩ := hp_2
      obtain ⟨hv_2, hp_2⟩ := hp_2
      obtain ⟨ea_2, eb_2⟩ := Prod.mk.inj hp_2
      subst ea_2
      replace eb_2 := eb_2.symm
      subst eb_2
      subst hv_2
      have bz3 : (0 : Int) ≤ 1 ∧ (1 : Int) ≤ 1 := by omega
      replace w : wd D A s.heap (mw cy a (uZ z 0 1) g) H locs := w
      refine r_if_eq (tgt := 36) hx hb dX10_about_31 (by decide) (by omega) (fun c31 => ?_) (fun c31 => ?_)
      · skip
        exact absurd c31 (by omega)
      · skip
        refine r_iconst hx hb dX10_about_34 ?_
        exact hend 0 ((uZ z 0 1), g) _ _ _ _ dX10_about_35 w ⟨(by first | exact Or.inl ⟨by omega, rfl, rfl⟩ | exact Or.inr ⟨by omega, rfl, by omega⟩), (mBz_u hz 0 bz3), hg⟩
    · skip
      refine lv_iload_n hx hb dX10_about_13 rfl (lv_at hl 2 rfl) ?_
      refine r_if_lt (tgt := 23) hx hb dX10_about_14 (by decide) (by omega) (fun c14 => ?_) (fun c14 => ?_)
      · skip
        refine r_iconst hx hb dX10_about_23 ?_
        refine lv_goto (tgt := 28) hx hb dX10_about_24 (by decide) ?_
        refine cVI C w hA (ct_X10_throwsIf l D cy a z g 1 hz hg (by show 1 = 0 ∨ 1 = 1; omega)) ok_X10_throwsIf km_X10_207 ⟨rfl, rfl⟩ ⟨by decide, by decide⟩ ⟨by decide, by decide⟩ rfl 0 rfl rfl hl.1 rfl (Nat.le_of_ble_eq_true rfl) dX10_about_28 (fun rv_3 uv_3 H locs w hp_3 => ?_)
        obtain ⟨zc_3, gc_3⟩ := uv_3
        obtain ⟨hp_3, -, -⟩ := hp_3
        obtain ⟨hv_3, hp_3⟩ := hp_3
        obtain ⟨ea_3, eb_3⟩ := Prod.mk.inj hp_3
        subst ea_3
        replace eb_3 := eb_3.symm
        subst eb_3
        subst hv_3
        have bz4 : (0 : Int) ≤ 1 ∧ (1 : Int) ≤ 1 := by omega
        replace w : wd D A s.heap (mw cy a (uZ z 0 1) g) H locs := w
        refine r_if_eq (tgt := 36) hx hb dX10_about_31 (by decide) (by omega) (fun c31 => ?_) (fun c31 => ?_)
        · skip
          exact absurd c31 (by omega)
        · skip
          refine r_iconst hx hb dX10_about_34 ?_
          exact hend 0 ((uZ z 0 1), g) _ _ _ _ dX10_about_35 w ⟨(by first | exact Or.inl ⟨by omega, rfl, rfl⟩ | exact Or.inr ⟨by omega, rfl, by omega⟩), (mBz_u hz 0 bz4), hg⟩
      · skip
        refine lv_iload_n hx hb dX10_about_17 rfl (lv_at hl 2 rfl) ?_
        refine r_bipush hx hb dX10_about_18 (by decide) ?_
        refine r_icmp_le (tgt := 27) hx hb dX10_about_20 (by decide) (by omega) (by omega) (fun c20 => ?_) (fun c20 => ?_)
        · skip
          refine r_iconst hx hb dX10_about_27 ?_
          refine cVI C w hA (ct_X10_throwsIf l D cy a z g 0 hz hg (by show 0 = 0 ∨ 0 = 1; omega)) ok_X10_throwsIf km_X10_207 ⟨rfl, rfl⟩ ⟨by decide, by decide⟩ ⟨by decide, by decide⟩ rfl 0 rfl rfl hl.1 rfl (Nat.le_of_ble_eq_true rfl) dX10_about_28 (fun rv_4 uv_4 H locs w hp_4 => ?_)
          obtain ⟨zc_4, gc_4⟩ := uv_4
          obtain ⟨hp_4, -, -⟩ := hp_4
          obtain ⟨hv_4, hp_4⟩ := hp_4
          obtain ⟨ea_4, eb_4⟩ := Prod.mk.inj hp_4
          subst ea_4
          replace eb_4 := eb_4.symm
          subst eb_4
          subst hv_4
          have bz5 : (0 : Int) ≤ 0 ∧ (0 : Int) ≤ 1 := by omega
          replace w : wd D A s.heap (mw cy a (uZ z 0 0) g) H locs := w
          refine r_if_eq (tgt := 36) hx hb dX10_about_31 (by decide) (by omega) (fun c31 => ?_) (fun c31 => ?_)
          · skip
            refine lv_iload_n hx hb dX10_about_36 rfl (lv_at hl 2 rfl) ?_
            by_cases c37_0 : p1 = 0
            · refine r_tsI (k := 0) (tgt := 76) hx hb dX10_about_37 (by omega) c37_0 (by decide) rfl (by decide) ?_
              refine lv_aload_n hx hb dX10_about_76 rfl (lv_at hl 0 rfl) ?_
              refine r_get C w 0 (v := .ref (a 5)) rfl rfl 15 (by decide) inX10 kf_X10_24 rfl dX10_about_77 ?_
              refine lv_iload_n hx hb dX10_about_80 rfl (lv_at hl 1 rfl) ?_
              refine r_iald C w 5 (f := (g 5)) rfl (by omega) (by omega) (by decide) dX10_about_81 ?_
              have qg6 := mB5 hg p0
              exact hend ((g 5) p0) ((uZ z 0 0), g) _ _ _ _ dX10_about_82 w ⟨(by first | exact Or.inl ⟨by omega, rfl, rfl⟩ | exact Or.inr ⟨by omega, rfl, by omega⟩), (mBz_u hz 0 bz5), hg⟩
            by_cases c37_1 : p1 = 1
            · refine r_tsI (k := 1) (tgt := 83) hx hb dX10_about_37 (by omega) c37_1 (by decide) rfl (by decide) ?_
              refine lv_aload_n hx hb dX10_about_83 rfl (lv_at hl 0 rfl) ?_
              refine r_get C w 0 (v := .ref (a 6)) rfl rfl 16 (by decide) inX10 kf_X10_27 rfl dX10_about_84 ?_
              refine lv_iload_n hx hb dX10_about_87 rfl (lv_at hl 1 rfl) ?_
              refine r_iald C w 6 (f := (g 6)) rfl (by omega) (by omega) (by decide) dX10_about_88 ?_
              have qg7 := mB6 hg p0
              exact hend ((g 6) p0) ((uZ z 0 0), g) _ _ _ _ dX10_about_89 w ⟨(by first | exact Or.inl ⟨by omega, rfl, rfl⟩ | exact Or.inr ⟨by omega, rfl, by omega⟩), (mBz_u hz 0 bz5), hg⟩
            by_cases c37_2 : p1 = 2
            · refine r_tsI (k := 2) (tgt := 90) hx hb dX10_about_37 (by omega) c37_2 (by decide) rfl (by decide) ?_
              refine lv_aload_n hx hb dX10_about_90 rfl (lv_at hl 0 rfl) ?_
              refine r_get C w 0 (v := .ref (a 7)) rfl rfl 17 (by decide) inX10 kf_X10_30 rfl dX10_about_91 ?_
              refine lv_iload_n hx hb dX10_about_94 rfl (lv_at hl 1 rfl) ?_
              refine r_iald C w 7 (f := (g 7)) rfl (by omega) (by omega) (by decide) dX10_about_95 ?_
              have qg8 := mB7 hg p0
              exact hend ((g 7) p0) ((uZ z 0 0), g) _ _ _ _ dX10_about_96 w ⟨(by first | exact Or.inl ⟨by omega, rfl, rfl⟩ | exact Or.inr ⟨by omega, rfl, by omega⟩), (mBz_u hz 0 bz5), hg⟩
            by_cases c37_3 : p1 = 3
            · refine r_tsI (k := 3) (tgt := 97) hx hb dX10_about_37 (by omega) c37_3 (by decide) rfl (by decide) ?_
              refine lv_aload_n hx hb dX10_about_97 rfl (lv_at hl 0 rfl) ?_
              refine r_get C w 0 (v := .ref (a 8)) rfl rfl 18 (by decide) inX10 kf_X10_33 rfl dX10_about_98 ?_
              refine lv_iload_n hx hb dX10_about_101 rfl (lv_at hl 1 rfl) ?_
              refine r_iald C w 8 (f := (g 8)) rfl (by omega) (by omega) (by decide) dX10_about_102 ?_
              have qg9 := mB8 hg p0
              exact hend ((g 8) p0) ((uZ z 0 0), g) _ _ _ _ dX10_about_103 w ⟨(by first | exact Or.inl ⟨by omega, rfl, rfl⟩ | exact Or.inr ⟨by omega, rfl, by omega⟩), (mBz_u hz 0 bz5), hg⟩
            by_cases c37_4 : p1 = 4
            · refine r_tsI (k := 4) (tgt := 104) hx hb dX10_about_37 (by omega) c37_4 (by decide) rfl (by decide) ?_
              refine lv_aload_n hx hb dX10_about_104 rfl (lv_at hl 0 rfl) ?_
              refine r_get C w 0 (v := .ref (a 9)) rfl rfl 19 (by decide) inX10 kf_X10_36 rfl dX10_about_105 ?_
              refine lv_iload_n hx hb dX10_about_108 rfl (lv_at hl 1 rfl) ?_
              refine r_iald C w 9 (f := (g 9)) rfl (by omega) (by omega) (by decide) dX10_about_109 ?_
              have qg10 := mB9 hg p0
              exact hend ((g 9) p0) ((uZ z 0 0), g) _ _ _ _ dX10_about_110 w ⟨(by first | exact Or.inl ⟨by omega, rfl, rfl⟩ | exact Or.inr ⟨by omega, rfl, by omega⟩), (mBz_u hz 0 bz5), hg⟩
            by_cases c37_5 : p1 = 5
            · refine r_tsI (k := 5) (tgt := 111) hx hb dX10_about_37 (by omega) c37_5 (by decide) rfl (by decide) ?_
              refine lv_aload_n hx hb dX10_about_111 rfl (lv_at hl 0 rfl) ?_
              refine r_get C w 0 (v := .ref (a 11)) rfl rfl 21 (by decide) inX10 kf_X10_42 rfl dX10_about_112 ?_
              refine lv_iload_n hx hb dX10_about_115 rfl (lv_at hl 1 rfl) ?_
              refine r_zald C w 11 (f := (g 11)) rfl (by omega) (by omega) (by decide) dX10_about_116 ?_
              have qg11 := mB11 hg p0
              refine r_if_eq (tgt := 124) hx hb dX10_about_117 (by decide) (by omega) (fun c117 => ?_) (fun c117 => ?_)
              · skip
                refine r_iconst hx hb dX10_about_124 ?_
                exact hend 0 ((uZ z 0 0), g) _ _ _ _ dX10_about_125 w ⟨(by first | exact Or.inl ⟨by omega, rfl, rfl⟩ | exact Or.inr ⟨by omega, rfl, by omega⟩), (mBz_u hz 0 bz5), hg⟩
              · skip
                refine r_iconst hx hb dX10_about_120 ?_
                refine lv_goto (tgt := 125) hx hb dX10_about_121 (by decide) ?_
                exact hend 1 ((uZ z 0 0), g) _ _ _ _ dX10_about_125 w ⟨(by first | exact Or.inl ⟨by omega, rfl, rfl⟩ | exact Or.inr ⟨by omega, rfl, by omega⟩), (mBz_u hz 0 bz5), hg⟩
            refine r_tsO (tgt := 126) hx hb dX10_about_37 (by omega) (by omega) (by decide) ?_
            refine lv_aload_n hx hb dX10_about_126 rfl (lv_at hl 0 rfl) ?_
            refine r_get C w 0 (v := .ref (a 10)) rfl rfl 20 (by decide) inX10 kf_X10_39 rfl dX10_about_127 ?_
            refine lv_iload_n hx hb dX10_about_130 rfl (lv_at hl 1 rfl) ?_
            refine r_iald C w 10 (f := (g 10)) rfl (by omega) (by omega) (by decide) dX10_about_131 ?_
            have qg12 := mB10 hg p0
            exact hend ((g 10) p0) ((uZ z 0 0), g) _ _ _ _ dX10_about_132 w ⟨(by first | exact Or.inl ⟨by omega, rfl, rfl⟩ | exact Or.inr ⟨by omega, rfl, by omega⟩), (mBz_u hz 0 bz5), hg⟩
          · skip
            exact absurd c31 (by omega)
        · skip
          refine r_iconst hx hb dX10_about_23 ?_
          refine lv_goto (tgt := 28) hx hb dX10_about_24 (by decide) ?_
          refine cVI C w hA (ct_X10_throwsIf l D cy a z g 1 hz hg (by show 1 = 0 ∨ 1 = 1; omega)) ok_X10_throwsIf km_X10_207 ⟨rfl, rfl⟩ ⟨by decide, by decide⟩ ⟨by decide, by decide⟩ rfl 0 rfl rfl hl.1 rfl (Nat.le_of_ble_eq_true rfl) dX10_about_28 (fun rv_5 uv_5 H locs w hp_5 => ?_)
          obtain ⟨zc_5, gc_5⟩ := uv_5
          obtain ⟨hp_5, -, -⟩ := hp_5
          obtain ⟨hv_5, hp_5⟩ := hp_5
          obtain ⟨ea_5, eb_5⟩ := Prod.mk.inj hp_5
          subst ea_5
          replace eb_5 := eb_5.symm
          subst eb_5
          subst hv_5
          have bz13 : (0 : Int) ≤ 1 ∧ (1 : Int) ≤ 1 := by omega
          replace w : wd D A s.heap (mw cy a (uZ z 0 1) g) H locs := w
          refine r_if_eq (tgt := 36) hx hb dX10_about_31 (by decide) (by omega) (fun c31 => ?_) (fun c31 => ?_)
          · skip
            exact absurd c31 (by omega)
          · skip
            refine r_iconst hx hb dX10_about_34 ?_
            exact hend 0 ((uZ z 0 1), g) _ _ _ _ dX10_about_35 w ⟨(by first | exact Or.inl ⟨by omega, rfl, rfl⟩ | exact Or.inr ⟨by omega, rfl, by omega⟩), (mBz_u hz 0 bz13), hg⟩

abbrev rm_X10_sale : Room := { frames := 2, cells := 0, slots := 0, locals := 44 }
set_option maxHeartbeats 4000000 in
set_option maxRecDepth 100000 in
theorem ct_X10_sale (l : Launch) (D : va_G) (cy : Nat → ClassId) (a : Nat → Nat) (z : Nat → Int) (g : Nat → Int → Int) (p0 p1 : Int) (hz : mBz z) (hg : mBg g) (h0 : iR p0) (h1 : iR p1) : MI l yX10_sale cX10_sale 3 .int (rm_X10_sale) D cy (mw cy a z g) [.ref (a 0), vI p0, vI p1] (fun (v : Int) (u : sX) => ((¬ ((0 ≤ p0 ∧ p0 < z 13) ∧ (0 ≤ p1 ∧ p1 ≤ 6)) ∧ v = 0 ∧ u = (uZ z 0 1, g)) ∨ (((0 ≤ p0 ∧ p0 < z 13) ∧ (0 ≤ p1 ∧ p1 ≤ 6)) ∧ u = (uZ z 0 0, g) ∧ ((p1 = 0 ∧ v = g 16 p0) ∨ (p1 = 1 ∧ v = g 17 p0) ∨ (p1 = 2 ∧ v = g 18 p0) ∨ (p1 = 3 ∧ v = g 19 p0) ∨ (p1 = 4 ∧ v = g 20 p0) ∨ (p1 = 5 ∧ v = g 21 p0) ∨ (p1 = 6 ∧ v = clM z g p0)))) ∧ mBz u.1 ∧ mBg u.2) (fun u => mw cy a u.1 u.2) 0 0 := by
  refine go_i (by decide +kernel) (Nat.le_of_ble_eq_true rfl) (Or.inl rfl) ?_
  intro p e s m args below meth c Q A ls C hnm hA w hl hend
  have hx := C.1
  have hb := C.2.1
  have bk_ := mZ13 hz
  replace hl : lv_has ls 3 [(0, .ref (a 0)), (1, vI p0), (2, vI p1)] := hl
  refine lv_aload_n hx hb dX10_sale_0 rfl (lv_at hl 0 rfl) ?_
  refine lv_aload_n hx hb dX10_sale_1 rfl (lv_at hl 0 rfl) ?_
  refine lv_iload_n hx hb dX10_sale_2 rfl (lv_at hl 1 rfl) ?_
  refine cVI C w hA (ct_X10_isSale l D cy a z g p0 hz hg (by show iR p0; omega)) ok_X10_isSale km_X10_204 ⟨rfl, rfl⟩ ⟨by decide, by decide⟩ ⟨by decide, by decide⟩ rfl 0 rfl rfl hl.1 rfl (Nat.le_of_ble_eq_true rfl) dX10_sale_3 (fun rv_1 uv_1 H locs w hp_1 => ?_)
  replace hp_1 : (rv_1 = 1 ∧ 0 ≤ p0 ∧ p0 < (z 13)) ∨ (rv_1 = 0 ∧ ¬ (0 ≤ p0 ∧ p0 < (z 13))) := hp_1
  replace w : wd D A s.heap (mw cy a z g) H locs := w
  refine r_if_eq (tgt := 19) hx hb dX10_sale_6 (by decide) (by omega) (fun c6 => ?_) (fun c6 => ?_)
  · skip
    refine r_iconst hx hb dX10_sale_19 ?_
    refine lv_goto (tgt := 24) hx hb dX10_sale_20 (by decide) ?_
    refine cVI C w hA (ct_X10_throwsIf l D cy a z g 1 hz hg (by show 1 = 0 ∨ 1 = 1; omega)) ok_X10_throwsIf km_X10_207 ⟨rfl, rfl⟩ ⟨by decide, by decide⟩ ⟨by decide, by decide⟩ rfl 0 rfl rfl hl.1 rfl (Nat.le_of_ble_eq_true rfl) dX10_sale_24 (fun rv_2 uv_2 H locs w hp_2 => ?_)
    obtain ⟨zc_2, gc_2⟩ := uv_2
    obtain ⟨hp_2, -, -⟩ := hp_2
    obtain ⟨hv_2, hp_2⟩ := hp_2
    obtain ⟨ea_2, eb_2⟩ := Prod.mk.inj hp_2
    subst ea_2
    replace eb_2 := eb_2.symm
    subst eb_2
    subst hv_2
    have bz1 : (0 : Int) ≤ 1 ∧ (1 : Int) ≤ 1 := by omega
    replace w : wd D A s.heap (mw cy a (uZ z 0 1) g) H locs := w
    refine r_if_eq (tgt := 32) hx hb dX10_sale_27 (by decide) (by omega) (fun c27 => ?_) (fun c27 => ?_)
    · skip
      exact absurd c27 (by omega)
    · skip
      refine r_iconst hx hb dX10_sale_30 ?_
      exact hend 0 ((uZ z 0 1), g) _ _ _ _ dX10_sale_31 w ⟨(by first | exact Or.inl ⟨by omega, rfl, rfl⟩ | exact Or.inr ⟨by omega, rfl, by omega⟩), (mBz_u hz 0 bz1), hg⟩
  · skip
    refine lv_iload_n hx hb dX10_sale_9 rfl (lv_at hl 2 rfl) ?_
    refine r_if_lt (tgt := 19) hx hb dX10_sale_10 (by decide) (by omega) (fun c10 => ?_) (fun c10 => ?_)
    · skip
      refine r_iconst hx hb dX10_sale_19 ?_
      refine lv_goto (tgt := 24) hx hb dX10_sale_20 (by decide) ?_
      refine cVI C w hA (ct_X10_throwsIf l D cy a z g 1 hz hg (by show 1 = 0 ∨ 1 = 1; omega)) ok_X10_throwsIf km_X10_207 ⟨rfl, rfl⟩ ⟨by decide, by decide⟩ ⟨by decide, by decide⟩ rfl 0 rfl rfl hl.1 rfl (Nat.le_of_ble_eq_true rfl) dX10_sale_24 (fun rv_3 uv_3 H locs w hp_3 => ?_)
      obtain ⟨zc_3, gc_3⟩ := uv_3
      obtain ⟨hp_3, -, -⟩ := hp_3
      obtain ⟨hv_3, hp_3⟩ := hp_3
      obtain ⟨ea_3, eb_3⟩ := Prod.mk.inj hp_3
      subst ea_3
      replace eb_3 := eb_3.symm
      subst eb_3
      subst hv_3
      have bz2 : (0 : Int) ≤ 1 ∧ (1 : Int) ≤ 1 := by omega
      replace w : wd D A s.heap (mw cy a (uZ z 0 1) g) H locs := w
      refine r_if_eq (tgt := 32) hx hb dX10_sale_27 (by decide) (by omega) (fun c27 => ?_) (fun c27 => ?_)
      · skip
        exact absurd c27 (by omega)
      · skip
        refine r_iconst hx hb dX10_sale_30 ?_
        exact hend 0 ((uZ z 0 1), g) _ _ _ _ dX10_sale_31 w ⟨(by first | exact Or.inl ⟨by omega, rfl, rfl⟩ | exact Or.inr ⟨by omega, rfl, by omega⟩), (mBz_u hz 0 bz2), hg⟩
    · skip
      refine lv_iload_n hx hb dX10_sale_13 rfl (lv_at hl 2 rfl) ?_
      refine r_bipush hx hb dX10_sale_14 (by decide) ?_
      refine r_icmp_le (tgt := 23) hx hb dX10_sale_16 (by decide) (by omega) (by omega) (fun c16 => ?_) (fun c16 => ?_)
      · skip
        refine r_iconst hx hb dX10_sale_23 ?_
        refine cVI C w hA (ct_X10_throwsIf l D cy a z g 0 hz hg (by show 0 = 0 ∨ 0 = 1; omega)) ok_X10_throwsIf km_X10_207 ⟨rfl, rfl⟩ ⟨by decide, by decide⟩ ⟨by decide, by decide⟩ rfl 0 rfl rfl hl.1 rfl (Nat.le_of_ble_eq_true rfl) dX10_sale_24 (fun rv_4 uv_4 H locs w hp_4 => ?_)
        obtain ⟨zc_4, gc_4⟩ := uv_4
        obtain ⟨hp_4, -, -⟩ := hp_4
        obtain ⟨hv_4, hp_4⟩ := hp_4
        obtain ⟨ea_4, eb_4⟩ := Prod.mk.inj hp_4
        subst ea_4
        replace eb_4 := eb_4.symm
        subst eb_4
        subst hv_4
        have bz3 : (0 : Int) ≤ 0 ∧ (0 : Int) ≤ 1 := by omega
        replace w : wd D A s.heap (mw cy a (uZ z 0 0) g) H locs := w
        refine r_if_eq (tgt := 32) hx hb dX10_sale_27 (by decide) (by omega) (fun c27 => ?_) (fun c27 => ?_)
        · skip
          refine lv_iload_n hx hb dX10_sale_32 rfl (lv_at hl 2 rfl) ?_
          by_cases c33_0 : p1 = 0
          · refine r_tsI (k := 0) (tgt := 72) hx hb dX10_sale_33 (by omega) c33_0 (by decide) rfl (by decide) ?_
            refine lv_aload_n hx hb dX10_sale_72 rfl (lv_at hl 0 rfl) ?_
            refine r_get C w 0 (v := .ref (a 16)) rfl rfl 28 (by decide) inX10 kf_X10_57 rfl dX10_sale_73 ?_
            refine lv_iload_n hx hb dX10_sale_76 rfl (lv_at hl 1 rfl) ?_
            refine r_iald C w 16 (f := (g 16)) rfl (by omega) (by omega) (by decide) dX10_sale_77 ?_
            have qg4 := mB16 hg p0
            exact hend ((g 16) p0) ((uZ z 0 0), g) _ _ _ _ dX10_sale_78 w ⟨(by first | exact Or.inl ⟨by omega, rfl, rfl⟩ | exact Or.inr ⟨by omega, rfl, by omega⟩), (mBz_u hz 0 bz3), hg⟩
          by_cases c33_1 : p1 = 1
          · refine r_tsI (k := 1) (tgt := 79) hx hb dX10_sale_33 (by omega) c33_1 (by decide) rfl (by decide) ?_
            refine lv_aload_n hx hb dX10_sale_79 rfl (lv_at hl 0 rfl) ?_
            refine r_get C w 0 (v := .ref (a 17)) rfl rfl 29 (by decide) inX10 kf_X10_60 rfl dX10_sale_80 ?_
            refine lv_iload_n hx hb dX10_sale_83 rfl (lv_at hl 1 rfl) ?_
            refine r_iald C w 17 (f := (g 17)) rfl (by omega) (by omega) (by decide) dX10_sale_84 ?_
            have qg5 := mB17 hg p0
            exact hend ((g 17) p0) ((uZ z 0 0), g) _ _ _ _ dX10_sale_85 w ⟨(by first | exact Or.inl ⟨by omega, rfl, rfl⟩ | exact Or.inr ⟨by omega, rfl, by omega⟩), (mBz_u hz 0 bz3), hg⟩
          by_cases c33_2 : p1 = 2
          · refine r_tsI (k := 2) (tgt := 86) hx hb dX10_sale_33 (by omega) c33_2 (by decide) rfl (by decide) ?_
            refine lv_aload_n hx hb dX10_sale_86 rfl (lv_at hl 0 rfl) ?_
            refine r_get C w 0 (v := .ref (a 18)) rfl rfl 30 (by decide) inX10 kf_X10_63 rfl dX10_sale_87 ?_
            refine lv_iload_n hx hb dX10_sale_90 rfl (lv_at hl 1 rfl) ?_
            refine r_iald C w 18 (f := (g 18)) rfl (by omega) (by omega) (by decide) dX10_sale_91 ?_
            have qg6 := mB18 hg p0
            exact hend ((g 18) p0) ((uZ z 0 0), g) _ _ _ _ dX10_sale_92 w ⟨(by first | exact Or.inl ⟨by omega, rfl, rfl⟩ | exact Or.inr ⟨by omega, rfl, by omega⟩), (mBz_u hz 0 bz3), hg⟩
          by_cases c33_3 : p1 = 3
          · refine r_tsI (k := 3) (tgt := 93) hx hb dX10_sale_33 (by omega) c33_3 (by decide) rfl (by decide) ?_
            refine lv_aload_n hx hb dX10_sale_93 rfl (lv_at hl 0 rfl) ?_
            refine r_get C w 0 (v := .ref (a 19)) rfl rfl 31 (by decide) inX10 kf_X10_66 rfl dX10_sale_94 ?_
            refine lv_iload_n hx hb dX10_sale_97 rfl (lv_at hl 1 rfl) ?_
            refine r_iald C w 19 (f := (g 19)) rfl (by omega) (by omega) (by decide) dX10_sale_98 ?_
            have qg7 := mB19 hg p0
            exact hend ((g 19) p0) ((uZ z 0 0), g) _ _ _ _ dX10_sale_99 w ⟨(by first | exact Or.inl ⟨by omega, rfl, rfl⟩ | exact Or.inr ⟨by omega, rfl, by omega⟩), (mBz_u hz 0 bz3), hg⟩
          by_cases c33_4 : p1 = 4
          · refine r_tsI (k := 4) (tgt := 100) hx hb dX10_sale_33 (by omega) c33_4 (by decide) rfl (by decide) ?_
            refine lv_aload_n hx hb dX10_sale_100 rfl (lv_at hl 0 rfl) ?_
            refine r_get C w 0 (v := .ref (a 20)) rfl rfl 32 (by decide) inX10 kf_X10_69 rfl dX10_sale_101 ?_
            refine lv_iload_n hx hb dX10_sale_104 rfl (lv_at hl 1 rfl) ?_
            refine r_iald C w 20 (f := (g 20)) rfl (by omega) (by omega) (by decide) dX10_sale_105 ?_
            have qg8 := mB20 hg p0
            exact hend ((g 20) p0) ((uZ z 0 0), g) _ _ _ _ dX10_sale_106 w ⟨(by first | exact Or.inl ⟨by omega, rfl, rfl⟩ | exact Or.inr ⟨by omega, rfl, by omega⟩), (mBz_u hz 0 bz3), hg⟩
          by_cases c33_5 : p1 = 5
          · refine r_tsI (k := 5) (tgt := 107) hx hb dX10_sale_33 (by omega) c33_5 (by decide) rfl (by decide) ?_
            refine lv_aload_n hx hb dX10_sale_107 rfl (lv_at hl 0 rfl) ?_
            refine r_get C w 0 (v := .ref (a 21)) rfl rfl 33 (by decide) inX10 kf_X10_72 rfl dX10_sale_108 ?_
            refine lv_iload_n hx hb dX10_sale_111 rfl (lv_at hl 1 rfl) ?_
            refine r_iald C w 21 (f := (g 21)) rfl (by omega) (by omega) (by decide) dX10_sale_112 ?_
            have qg9 := mB21 hg p0
            exact hend ((g 21) p0) ((uZ z 0 0), g) _ _ _ _ dX10_sale_113 w ⟨(by first | exact Or.inl ⟨by omega, rfl, rfl⟩ | exact Or.inr ⟨by omega, rfl, by omega⟩), (mBz_u hz 0 bz3), hg⟩
          refine r_tsO (tgt := 114) hx hb dX10_sale_33 (by omega) (by omega) (by decide) ?_
          refine lv_aload_n hx hb dX10_sale_114 rfl (lv_at hl 0 rfl) ?_
          refine lv_iload_n hx hb dX10_sale_115 rfl (lv_at hl 1 rfl) ?_
          refine cVI C w hA (ct_X10_claimOf l D cy a (uZ z 0 0) g p0 (mBz_u hz 0 bz3) hg (by show 0 ≤ p0 ∧ p0 < 400; omega)) ok_X10_claimOf km_X10_215 ⟨rfl, rfl⟩ ⟨by decide, by decide⟩ ⟨by decide, by decide⟩ rfl 0 rfl rfl hl.1 rfl (Nat.le_of_ble_eq_true rfl) dX10_sale_116 (fun rv_5 uv_5 H locs w hp_5 => ?_)
          replace w : wd D A s.heap (mw cy a (uZ z 0 0) g) H locs := w
          replace hp_5 : rv_5 = clM z g p0 := hp_5
          exact hend rv_5 ((uZ z 0 0), g) _ _ _ _ dX10_sale_119 w ⟨(by first | exact Or.inl ⟨by omega, rfl, rfl⟩ | exact Or.inr ⟨by omega, rfl, by omega⟩), (mBz_u hz 0 bz3), hg⟩
        · skip
          exact absurd c27 (by omega)
      · skip
        refine r_iconst hx hb dX10_sale_19 ?_
        refine lv_goto (tgt := 24) hx hb dX10_sale_20 (by decide) ?_
        refine cVI C w hA (ct_X10_throwsIf l D cy a z g 1 hz hg (by show 1 = 0 ∨ 1 = 1; omega)) ok_X10_throwsIf km_X10_207 ⟨rfl, rfl⟩ ⟨by decide, by decide⟩ ⟨by decide, by decide⟩ rfl 0 rfl rfl hl.1 rfl (Nat.le_of_ble_eq_true rfl) dX10_sale_24 (fun rv_6 uv_6 H locs w hp_6 => ?_)
        obtain ⟨zc_6, gc_6⟩ := uv_6
        obtain ⟨hp_6, -, -⟩ := hp_6
        obtain ⟨hv_6, hp_6⟩ := hp_6
        obtain ⟨ea_6, eb_6⟩ := Prod.mk.inj hp_6
        subst ea_6
        replace eb_6 := eb_6.symm
        subst eb_6
        subst hv_6
        have bz10 : (0 : Int) ≤ 1 ∧ (1 : Int) ≤ 1 := by omega
        replace w : wd D A s.heap (mw cy a (uZ z 0 1) g) H locs := w
        refine r_if_eq (tgt := 32) hx hb dX10_sale_27 (by decide) (by omega) (fun c27 => ?_) (fun c27 => ?_)
        · skip
          exact absurd c27 (by omega)
        · skip
          refine r_iconst hx hb dX10_sale_30 ?_
          exact hend 0 ((uZ z 0 1), g) _ _ _ _ dX10_sale_31 w ⟨(by first | exact Or.inl ⟨by omega, rfl, rfl⟩ | exact Or.inr ⟨by omega, rfl, by omega⟩), (mBz_u hz 0 bz10), hg⟩

