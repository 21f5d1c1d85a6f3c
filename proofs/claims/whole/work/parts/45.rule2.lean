/-! rules: a rule of the class -/
theorem fin_g {z zc : Nat → Int} {g g1 : Nat → Int → Int} {u : sX} {fr tl : Int → Int} {e : Int} (hr : resX zc u (finF (bt (g1 2) (zc 2)) (zc 2) (fdX zc g1) (tlX zc g1) (zc 10))) (h2 : zc 2 = z 2) (hg : g1 2 = g 2) (h10 : zc 10 = e) (h15 : zc 15 = z 15) (hfr : fdX zc g1 = fr) (htl : tlX zc g1 = tl) : resX z u (finF (bt (g 2) (z 2)) (z 2) fr tl e) := by
  rw [h2, hg, h10, hfr, htl] at hr
  exact resX_t hr h15

abbrev rm_X5_readByGrade_0 : Room := { frames := 4, cells := 0, slots := 0, locals := 87 }
set_option maxHeartbeats 4000000 in
set_option maxRecDepth 100000 in
theorem ct_X5_readByGrade_0 (l : Launch) (D : va_G) (cy : Nat → ClassId) (a : Nat → Nat) (z : Nat → Int) (g : Nat → Int → Int) (p2 : Int) (hz : xBz z) (hg : xBg g) (h10 : z 15 < z 10 ∧ z 10 ≤ z 2) (h11 : z 11 = 0) (h2 : 0 ≤ p2 ∧ p2 ≤ 9999) : MV l yX5_readByGrade cX5_readByGrade 6 (rm_X5_readByGrade_0) D cy (xw cy a z g) [.ref (a 6), .ref (a 8), .ref (a 10), vI p2] (fun (u : sX) => (frmX z g u ∧ resX z u (byG (bt (g 2) (z 2)) (z 2) (fdX z g) (tlX z g) 0 p2 (z 10))) ∧ xBz u.1 ∧ xBg u.2) (fun u => xw cy a u.1 u.2) 0 0 := by
  refine go_v (by decide +kernel) (Nat.le_of_ble_eq_true rfl) ?_
  intro p e s m args below meth c Q A ls C hnm hA w hl hend
  have hx := C.1
  have hb := C.2.1
  have b2_ := xZ2 hz
  have b10_ := xZ10 hz
  replace hl : lv_has ls 6 [(0, .ref (a 6)), (1, .ref (a 8)), (2, .ref (a 10)), (3, vI p2)] := hl
  refine lv_aload_n hx hb dX5_readByGrade_0 rfl (lv_at hl 0 rfl) ?_
  refine r_iconst hx hb dX5_readByGrade_1 ?_
  refine cVI C w hA (ct_X5_takeNumber l D cy a z g 3 hz hg (by exact h10.2) (by show 0 ≤ 3 ∧ 3 ≤ 9999; omega)) ok_X5_takeNumber km_X5_91 ⟨rfl, rfl⟩ ⟨by decide, by decide⟩ ⟨by decide, by decide⟩ rfl 6 rfl rfl hl.1 rfl (Nat.le_of_ble_eq_true rfl) dX5_readByGrade_2 (fun rv_1 uv_1 H locs w hp_1 => ?_)
  obtain ⟨zc_1, gc_1⟩ := uv_1
  obtain ⟨⟨s_1, e_1, k_1, ht_1, eg_1, hkp_1, hd_1⟩, hzc_1, -⟩ := hp_1
  replace eg_1 : g = gc_1 := eg_1.symm
  subst eg_1
  replace ht_1 : isTok (bt (g 2) (z 2)) (z 2) (z 10) s_1 e_1 k_1 := ht_1
  replace hkp_1 : kpX z zc_1 := hkp_1
  replace hzc_1 : xBz zc_1 := hzc_1
  replace hd_1 : (k_1 ≠ 2 ∧ rv_1 = -1 ∧ zc_1 11 = ct k_1 ∧ zc_1 12 = s_1) ∨ (k_1 = 2 ∧ 3 < nv (bt (g 2) (z 2)) s_1 e_1 ∧ rv_1 = -1 ∧ zc_1 11 = 3 ∧ zc_1 12 = s_1) ∨ (k_1 = 2 ∧ nv (bt (g 2) (z 2)) s_1 e_1 ≤ 3 ∧ 0 ≤ rv_1 ∧ rv_1 = nv (bt (g 2) (z 2)) s_1 e_1 ∧ zc_1 11 = (z 11) ∧ zc_1 10 = e_1 ∧ zc_1 9 = s_1) := hd_1
  have hb_1 := isTok_b ht_1
  have q2_1 : zc_1 2 = (z 2) := hkp_1.1 2 (by omega)
  have q6_1 : zc_1 6 = (z 6) := hkp_1.2.1
  have q7_1 : zc_1 7 = (z 7) := hkp_1.2.2.1
  have q13_1 : zc_1 13 = (z 13) := hkp_1.2.2.2.1
  have q14_1 : zc_1 14 = (z 14) := hkp_1.2.2.2.2.1
  have q15_1 : zc_1 15 = (z 15) := hkp_1.2.2.2.2.2.1
  have qp_1 : (z 10) ≤ zc_1 10 ∧ zc_1 10 ≤ (z 2) := hkp_1.2.2.2.2.2.2
  replace w : wd D A s.heap (xw cy a zc_1 g) H locs := w
  refine lv_istore (lv' := [(4, vI rv_1), (0, .ref (a 6)), (1, .ref (a 8)), (2, .ref (a 10)), (3, vI p2)]) hx hb dX5_readByGrade_5 hl (by decide) rfl (fun ls hl => ?_)
  refine lv_iload hx hb dX5_readByGrade_7 (lv_at hl 0 rfl) ?_
  refine r_iconst hx hb dX5_readByGrade_9 ?_
  refine r_icmp_ne (tgt := 14) hx hb dX5_readByGrade_10 (by decide) (by omega) (by omega) (fun c10 => ?_) (fun c10 => ?_)
  · skip
    have hd1 := hd_1.elim (fun h => absurd h.2.1 c10) (fun h => h.elim (fun h => absurd h.2.2.1 c10) id)
    have e0 : 0 + nv (bt (g 2) (z 2)) s_1 e_1 = 0 + rv_1 := by omega
    have et : tlX z g (0 + nv (bt (g 2) (z 2)) s_1 e_1) = g 10 rv_1 := by rw [e0, Int.zero_add]; exact FRX_a1 ⟨by omega, by omega⟩
    refine lv_aload_n hx hb dX5_readByGrade_14 rfl (lv_at hl 3 rfl) ?_
    refine lv_iload hx hb dX5_readByGrade_15 (lv_at hl 0 rfl) ?_
    refine r_zald C w 10 (f := (g 10)) rfl (by omega) (by omega) (by decide) dX5_readByGrade_17 ?_
    have qg1 := xB10 hg rv_1
    refine r_if_eq (tgt := 27) hx hb dX5_readByGrade_18 (by decide) (by omega) (fun c18 => ?_) (fun c18 => ?_)
    · skip
      refine lv_aload_n hx hb dX5_readByGrade_27 rfl (lv_at hl 3 rfl) ?_
      refine lv_iload hx hb dX5_readByGrade_28 (lv_at hl 0 rfl) ?_
      refine r_iconst hx hb dX5_readByGrade_30 ?_
      refine r_zast C w 10 (f := (g 10)) rfl (by omega) (by omega) (by decide) (vz01 (by omega)) (ws' := xw cy a zc_1 (uZ g 10 (uI (g 10) rv_1 1))) (xw_g10 cy a zc_1 g (uI (g 10) rv_1 1)) dX5_readByGrade_31 (fun H locs w => ?_)
      have bg2 : ∀ j : Int, (0 : Int) ≤ (uI (g 10) rv_1 1) j ∧ (uI (g 10) rv_1 1) j ≤ 1 := uI_b (xB10 hg) (by omega)
      refine lv_aload_n hx hb dX5_readByGrade_32 rfl (lv_at hl 1 rfl) ?_
      refine lv_iload_n hx hb dX5_readByGrade_33 rfl (lv_at hl 4 rfl) ?_
      refine cVI C w hA (ct_X5_takeNumber l D cy a zc_1 (uZ g 10 (uI (g 10) rv_1 1)) p2 hzc_1 (xBg_u hg 10 bg2) (by show zc_1 10 ≤ zc_1 2; omega) (by show 0 ≤ p2 ∧ p2 ≤ 9999; omega)) ok_X5_takeNumber km_X5_91 ⟨rfl, rfl⟩ ⟨by decide, by decide⟩ ⟨by decide, by decide⟩ rfl 6 rfl rfl hl.1 rfl (Nat.le_of_ble_eq_true rfl) dX5_readByGrade_34 (fun rv_2 uv_2 H locs w hp_2 => ?_)
      obtain ⟨zc_2, gc_2⟩ := uv_2
      obtain ⟨⟨s_2, e_2, k_2, ht_2, eg_2, hkp_2, hd_2⟩, hzc_2, -⟩ := hp_2
      replace eg_2 : (uZ g 10 (uI (g 10) rv_1 1)) = gc_2 := eg_2.symm
      subst eg_2
      replace ht_2 : isTok (bt (g 2) (zc_1 2)) (zc_1 2) (zc_1 10) s_2 e_2 k_2 := ht_2
      replace hkp_2 : kpX zc_1 zc_2 := hkp_2
      replace hzc_2 : xBz zc_2 := hzc_2
      replace hd_2 : (k_2 ≠ 2 ∧ rv_2 = -1 ∧ zc_2 11 = ct k_2 ∧ zc_2 12 = s_2) ∨ (k_2 = 2 ∧ p2 < nv (bt (g 2) (zc_1 2)) s_2 e_2 ∧ rv_2 = -1 ∧ zc_2 11 = 3 ∧ zc_2 12 = s_2) ∨ (k_2 = 2 ∧ nv (bt (g 2) (zc_1 2)) s_2 e_2 ≤ p2 ∧ 0 ≤ rv_2 ∧ rv_2 = nv (bt (g 2) (zc_1 2)) s_2 e_2 ∧ zc_2 11 = (zc_1 11) ∧ zc_2 10 = e_2 ∧ zc_2 9 = s_2) := hd_2
      have hb_2 := isTok_b ht_2
      have q2_2 : zc_2 2 = (zc_1 2) := hkp_2.1 2 (by omega)
      have q6_2 : zc_2 6 = (zc_1 6) := hkp_2.2.1
      have q7_2 : zc_2 7 = (zc_1 7) := hkp_2.2.2.1
      have q13_2 : zc_2 13 = (zc_1 13) := hkp_2.2.2.2.1
      have q14_2 : zc_2 14 = (zc_1 14) := hkp_2.2.2.2.2.1
      have q15_2 : zc_2 15 = (zc_1 15) := hkp_2.2.2.2.2.2.1
      have qp_2 : (zc_1 10) ≤ zc_2 10 ∧ zc_2 10 ≤ (zc_1 2) := hkp_2.2.2.2.2.2.2
      rw [q2_1] at ht_2 hd_2
      rw [q2_1] at q2_2
      replace w : wd D A s.heap (xw cy a zc_2 (uZ g 10 (uI (g 10) rv_1 1))) H locs := w
      refine lv_istore (lv' := [(5, vI rv_2), (4, vI rv_1), (0, .ref (a 6)), (1, .ref (a 8)), (2, .ref (a 10)), (3, vI p2)]) hx hb dX5_readByGrade_37 hl (by decide) rfl (fun ls hl => ?_)
      refine lv_iload hx hb dX5_readByGrade_39 (lv_at hl 0 rfl) ?_
      refine r_iconst hx hb dX5_readByGrade_41 ?_
      refine r_icmp_ne (tgt := 46) hx hb dX5_readByGrade_42 (by decide) (by omega) (by omega) (fun c42 => ?_) (fun c42 => ?_)
      · skip
        have hd2 := hd_2.elim (fun h => absurd h.2.1 c42) (fun h => h.elim (fun h => absurd h.2.2.1 c42) id)
        rw [hd1.2.2.2.2.2.1] at ht_2
        refine lv_aload_n hx hb dX5_readByGrade_46 rfl (lv_at hl 3 rfl) ?_
        refine lv_iload hx hb dX5_readByGrade_47 (lv_at hl 1 rfl) ?_
        refine lv_iload hx hb dX5_readByGrade_49 (lv_at hl 0 rfl) ?_
        refine r_iast C w 8 (f := (g 8)) rfl (by omega) (by omega) (by decide) (ws' := xw cy a zc_2 (uZ (uZ g 10 (uI (g 10) rv_1 1)) 8 (uI (g 8) rv_1 rv_2))) (xw_g8 cy a zc_2 (uZ g 10 (uI (g 10) rv_1 1)) (uI (g 8) rv_1 rv_2)) dX5_readByGrade_51 (fun H locs w => ?_)
        have bg3 : ∀ j : Int, (0 : Int) ≤ (uI (g 8) rv_1 rv_2) j ∧ (uI (g 8) rv_1 rv_2) j ≤ 9999 := uI_b (xB8 hg) (by omega)
        refine lv_aload_n hx hb dX5_readByGrade_52 rfl (lv_at hl 2 rfl) ?_
        refine cVV C w hA (ct_X5_finishRule l D cy a zc_2 (uZ (uZ g 10 (uI (g 10) rv_1 1)) 8 (uI (g 8) rv_1 rv_2))  hzc_2 (xBg_u (xBg_u hg 10 bg2) 8 bg3) (by show zc_2 15 < zc_2 10 ∧ zc_2 10 ≤ zc_2 2; omega) (by show zc_2 11 = 0; omega)) ok_X5_finishRule km_X5_99 ⟨rfl, rfl⟩ ⟨by decide, by decide⟩ ⟨by decide, by decide⟩ rfl 6 rfl rfl hl.1 rfl (Nat.le_of_ble_eq_true rfl) dX5_readByGrade_53 (fun uv_3 H locs w hp_3 => ?_)
        obtain ⟨zc_3, gc_3⟩ := uv_3
        obtain ⟨hp_3, hzc_3, hgc_3⟩ := hp_3
        replace w : wd D A s.heap (xw cy a zc_3 gc_3) H locs := w
        replace hzc_3 : xBz zc_3 := hzc_3
        replace hgc_3 : xBg gc_3 := hgc_3
        try dsimp only at hp_3
        exact hend (zc_3, gc_3) _ _ _ _ dX5_readByGrade_56 w ⟨(by rw [byG_4 ht_1 hd1.1 hd1.2.1 (by rw [et]; exact c18), amtF_3 ht_2 hd2.1 hd2.2.1]; have fa := frA_t hkp_2.1 hkp_1.1; refine ⟨frmX_t hp_3.1 fa (by repeat (first | assumption | exact frG_0 _ | refine frG_u ?_ (by decide) (by decide))) (by omega), fin_g hp_3.2 (by omega) rfl hd2.2.2.2.2.2.1 (by omega) ?_ ?_⟩; (show FRX _ _ (zc_2 13) (zc_2 14) = _; rw [show zc_2 13 = z 13 by omega, show zc_2 14 = z 14 by omega, ← hd2.2.2.2.1, e0, Int.zero_add]; exact FRX_1 ⟨by omega, by omega⟩); (show FRX _ _ (zc_2 6) (zc_2 7) = _; rw [show zc_2 6 = z 6 by omega, show zc_2 7 = z 7 by omega, e0, Int.zero_add]; exact FRX_1 ⟨by omega, by omega⟩)), hzc_3, hgc_3⟩
      · skip
        rw [hd1.2.2.2.2.2.1] at ht_2
        exact hend (zc_2, (uZ g 10 (uI (g 10) rv_1 1))) _ _ _ _ dX5_readByGrade_45 w ⟨(by rw [byG_4 ht_1 hd1.1 hd1.2.1 (by rw [et]; exact c18)]; have fa := frA_t hkp_2.1 hkp_1.1; rcases hd_2 with h | h | h; (rw [amtF_1 ht_2 h.1]; exact ⟨⟨fa, (by repeat (first | assumption | exact frG_0 _ | refine frG_u ?_ (by decide) (by decide))), by show z 10 ≤ zc_2 10; omega, by show zc_2 10 ≤ z 2; omega⟩, h.2.2.1, h.2.2.2, (ct_b _).1⟩); (rw [amtF_2 ht_2 h.1 h.2.1]; exact ⟨⟨fa, (by repeat (first | assumption | exact frG_0 _ | refine frG_u ?_ (by decide) (by decide))), by show z 10 ≤ zc_2 10; omega, by show zc_2 10 ≤ z 2; omega⟩, h.2.2.2.1, h.2.2.2.2, (by decide : (1 : Int) ≤ 3)⟩); exact absurd h.2.2.1 (by omega)), hzc_2, (xBg_u hg 10 bg2)⟩
    · skip
      refine lv_aload_n hx hb dX5_readByGrade_21 rfl (lv_at hl 1 rfl) ?_
      refine r_iconst hx hb dX5_readByGrade_22 ?_
      refine cVV C w hA (ct_X5_refuse l D cy a zc_1 g 4 hzc_1 hg (by show 1 ≤ 4 ∧ 4 ≤ 4; omega)) ok_X5_refuse km_X5_95 ⟨rfl, rfl⟩ ⟨by decide, by decide⟩ ⟨by decide, by decide⟩ rfl 6 rfl rfl hl.1 rfl (Nat.le_of_ble_eq_true rfl) dX5_readByGrade_23 (fun uv_4 H locs w hp_4 => ?_)
      obtain ⟨zc_4, gc_4⟩ := uv_4
      have hzr_4 := hp_4.2.1
      obtain ⟨hp_4, -, -⟩ := hp_4
      obtain ⟨ea_4, eb_4⟩ := Prod.mk.inj hp_4
      subst ea_4
      replace eb_4 := eb_4.symm
      subst eb_4
      have bz4 : (0 : Int) ≤ 4 ∧ (4 : Int) ≤ 4 := hzr_4 11 (by decide)
      have bz5 : (0 : Int) ≤ (zc_1 9) ∧ ((zc_1 9) : Int) ≤ 200 := hzr_4 12 (by decide)
      replace w : wd D A s.heap (xw cy a (uZ (uZ zc_1 11 4) 12 (zc_1 9)) g) H locs := w
      exact hend ((uZ (uZ zc_1 11 4) 12 (zc_1 9)), g) _ _ _ _ dX5_readByGrade_26 w ⟨(by rw [byG_3 ht_1 hd1.1 hd1.2.1 (by rw [et]; exact c18)]; have fa := hkp_1.1; exact ⟨⟨(by repeat (first | assumption | exact frA_0 _ | refine frA_u ?_ (by decide) (by decide))), frG_0 _, qp_1.1, qp_1.2⟩, rfl, hd1.2.2.2.2.2.2, (by decide : (1 : Int) ≤ 4)⟩), (xBz_u (xBz_u hzc_1 11 bz4) 12 bz5), hg⟩
  · skip
    exact hend (zc_1, g) _ _ _ _ dX5_readByGrade_13 w ⟨(by rcases hd_1 with h | h | h; (rw [byG_1 ht_1 h.1]; exact ⟨⟨hkp_1.1, frG_0 _, qp_1.1, qp_1.2⟩, h.2.2.1, h.2.2.2, (ct_b _).1⟩); (rw [byG_2 ht_1 h.1 h.2.1]; exact ⟨⟨hkp_1.1, frG_0 _, qp_1.1, qp_1.2⟩, h.2.2.2.1, h.2.2.2.2, (by decide : (1 : Int) ≤ 3)⟩); exact absurd h.2.2.1 (by omega)), hzc_1, hg⟩

abbrev rm_X5_readByGrade_4 : Room := { frames := 4, cells := 0, slots := 0, locals := 87 }
set_option maxHeartbeats 4000000 in
set_option maxRecDepth 100000 in
theorem ct_X5_readByGrade_4 (l : Launch) (D : va_G) (cy : Nat → ClassId) (a : Nat → Nat) (z : Nat → Int) (g : Nat → Int → Int) (p2 : Int) (hz : xBz z) (hg : xBg g) (h10 : z 15 < z 10 ∧ z 10 ≤ z 2) (h11 : z 11 = 0) (h2 : 0 ≤ p2 ∧ p2 ≤ 100) : MV l yX5_readByGrade cX5_readByGrade 6 (rm_X5_readByGrade_4) D cy (xw cy a z g) [.ref (a 6), .ref (a 9), .ref (a 11), vI p2] (fun (u : sX) => (frmX z g u ∧ resX z u (byG (bt (g 2) (z 2)) (z 2) (fdX z g) (tlX z g) 4 p2 (z 10))) ∧ xBz u.1 ∧ xBg u.2) (fun u => xw cy a u.1 u.2) 0 0 := by
  refine go_v (by decide +kernel) (Nat.le_of_ble_eq_true rfl) ?_
  intro p e s m args below meth c Q A ls C hnm hA w hl hend
  have hx := C.1
  have hb := C.2.1
  have b2_ := xZ2 hz
  have b10_ := xZ10 hz
  replace hl : lv_has ls 6 [(0, .ref (a 6)), (1, .ref (a 9)), (2, .ref (a 11)), (3, vI p2)] := hl
  refine lv_aload_n hx hb dX5_readByGrade_0 rfl (lv_at hl 0 rfl) ?_
  refine r_iconst hx hb dX5_readByGrade_1 ?_
  refine cVI C w hA (ct_X5_takeNumber l D cy a z g 3 hz hg (by exact h10.2) (by show 0 ≤ 3 ∧ 3 ≤ 9999; omega)) ok_X5_takeNumber km_X5_91 ⟨rfl, rfl⟩ ⟨by decide, by decide⟩ ⟨by decide, by decide⟩ rfl 6 rfl rfl hl.1 rfl (Nat.le_of_ble_eq_true rfl) dX5_readByGrade_2 (fun rv_1 uv_1 H locs w hp_1 => ?_)
  obtain ⟨zc_1, gc_1⟩ := uv_1
  obtain ⟨⟨s_1, e_1, k_1, ht_1, eg_1, hkp_1, hd_1⟩, hzc_1, -⟩ := hp_1
  replace eg_1 : g = gc_1 := eg_1.symm
  subst eg_1
  replace ht_1 : isTok (bt (g 2) (z 2)) (z 2) (z 10) s_1 e_1 k_1 := ht_1
  replace hkp_1 : kpX z zc_1 := hkp_1
  replace hzc_1 : xBz zc_1 := hzc_1
  replace hd_1 : (k_1 ≠ 2 ∧ rv_1 = -1 ∧ zc_1 11 = ct k_1 ∧ zc_1 12 = s_1) ∨ (k_1 = 2 ∧ 3 < nv (bt (g 2) (z 2)) s_1 e_1 ∧ rv_1 = -1 ∧ zc_1 11 = 3 ∧ zc_1 12 = s_1) ∨ (k_1 = 2 ∧ nv (bt (g 2) (z 2)) s_1 e_1 ≤ 3 ∧ 0 ≤ rv_1 ∧ rv_1 = nv (bt (g 2) (z 2)) s_1 e_1 ∧ zc_1 11 = (z 11) ∧ zc_1 10 = e_1 ∧ zc_1 9 = s_1) := hd_1
  have hb_1 := isTok_b ht_1
  have q2_1 : zc_1 2 = (z 2) := hkp_1.1 2 (by omega)
  have q6_1 : zc_1 6 = (z 6) := hkp_1.2.1
  have q7_1 : zc_1 7 = (z 7) := hkp_1.2.2.1
  have q13_1 : zc_1 13 = (z 13) := hkp_1.2.2.2.1
  have q14_1 : zc_1 14 = (z 14) := hkp_1.2.2.2.2.1
  have q15_1 : zc_1 15 = (z 15) := hkp_1.2.2.2.2.2.1
  have qp_1 : (z 10) ≤ zc_1 10 ∧ zc_1 10 ≤ (z 2) := hkp_1.2.2.2.2.2.2
  replace w : wd D A s.heap (xw cy a zc_1 g) H locs := w
  refine lv_istore (lv' := [(4, vI rv_1), (0, .ref (a 6)), (1, .ref (a 9)), (2, .ref (a 11)), (3, vI p2)]) hx hb dX5_readByGrade_5 hl (by decide) rfl (fun ls hl => ?_)
  refine lv_iload hx hb dX5_readByGrade_7 (lv_at hl 0 rfl) ?_
  refine r_iconst hx hb dX5_readByGrade_9 ?_
  refine r_icmp_ne (tgt := 14) hx hb dX5_readByGrade_10 (by decide) (by omega) (by omega) (fun c10 => ?_) (fun c10 => ?_)
  · skip
    have hd1 := hd_1.elim (fun h => absurd h.2.1 c10) (fun h => h.elim (fun h => absurd h.2.2.1 c10) id)
    have e0 : 4 + nv (bt (g 2) (z 2)) s_1 e_1 = 4 + rv_1 := by omega
    have et : tlX z g (4 + nv (bt (g 2) (z 2)) s_1 e_1) = g 11 rv_1 := by rw [e0]; exact FRX_a2 ⟨by omega, by omega⟩
    refine lv_aload_n hx hb dX5_readByGrade_14 rfl (lv_at hl 3 rfl) ?_
    refine lv_iload hx hb dX5_readByGrade_15 (lv_at hl 0 rfl) ?_
    refine r_zald C w 11 (f := (g 11)) rfl (by omega) (by omega) (by decide) dX5_readByGrade_17 ?_
    have qg1 := xB11 hg rv_1
    refine r_if_eq (tgt := 27) hx hb dX5_readByGrade_18 (by decide) (by omega) (fun c18 => ?_) (fun c18 => ?_)
    · skip
      refine lv_aload_n hx hb dX5_readByGrade_27 rfl (lv_at hl 3 rfl) ?_
      refine lv_iload hx hb dX5_readByGrade_28 (lv_at hl 0 rfl) ?_
      refine r_iconst hx hb dX5_readByGrade_30 ?_
      refine r_zast C w 11 (f := (g 11)) rfl (by omega) (by omega) (by decide) (vz01 (by omega)) (ws' := xw cy a zc_1 (uZ g 11 (uI (g 11) rv_1 1))) (xw_g11 cy a zc_1 g (uI (g 11) rv_1 1)) dX5_readByGrade_31 (fun H locs w => ?_)
      have bg2 : ∀ j : Int, (0 : Int) ≤ (uI (g 11) rv_1 1) j ∧ (uI (g 11) rv_1 1) j ≤ 1 := uI_b (xB11 hg) (by omega)
      refine lv_aload_n hx hb dX5_readByGrade_32 rfl (lv_at hl 1 rfl) ?_
      refine lv_iload_n hx hb dX5_readByGrade_33 rfl (lv_at hl 4 rfl) ?_
      refine cVI C w hA (ct_X5_takeNumber l D cy a zc_1 (uZ g 11 (uI (g 11) rv_1 1)) p2 hzc_1 (xBg_u hg 11 bg2) (by show zc_1 10 ≤ zc_1 2; omega) (by show 0 ≤ p2 ∧ p2 ≤ 9999; omega)) ok_X5_takeNumber km_X5_91 ⟨rfl, rfl⟩ ⟨by decide, by decide⟩ ⟨by decide, by decide⟩ rfl 6 rfl rfl hl.1 rfl (Nat.le_of_ble_eq_true rfl) dX5_readByGrade_34 (fun rv_2 uv_2 H locs w hp_2 => ?_)
      obtain ⟨zc_2, gc_2⟩ := uv_2
      obtain ⟨⟨s_2, e_2, k_2, ht_2, eg_2, hkp_2, hd_2⟩, hzc_2, -⟩ := hp_2
      replace eg_2 : (uZ g 11 (uI (g 11) rv_1 1)) = gc_2 := eg_2.symm
      subst eg_2
      replace ht_2 : isTok (bt (g 2) (zc_1 2)) (zc_1 2) (zc_1 10) s_2 e_2 k_2 := ht_2
      replace hkp_2 : kpX zc_1 zc_2 := hkp_2
      replace hzc_2 : xBz zc_2 := hzc_2
      replace hd_2 : (k_2 ≠ 2 ∧ rv_2 = -1 ∧ zc_2 11 = ct k_2 ∧ zc_2 12 = s_2) ∨ (k_2 = 2 ∧ p2 < nv (bt (g 2) (zc_1 2)) s_2 e_2 ∧ rv_2 = -1 ∧ zc_2 11 = 3 ∧ zc_2 12 = s_2) ∨ (k_2 = 2 ∧ nv (bt (g 2) (zc_1 2)) s_2 e_2 ≤ p2 ∧ 0 ≤ rv_2 ∧ rv_2 = nv (bt (g 2) (zc_1 2)) s_2 e_2 ∧ zc_2 11 = (zc_1 11) ∧ zc_2 10 = e_2 ∧ zc_2 9 = s_2) := hd_2
      have hb_2 := isTok_b ht_2
      have q2_2 : zc_2 2 = (zc_1 2) := hkp_2.1 2 (by omega)
      have q6_2 : zc_2 6 = (zc_1 6) := hkp_2.2.1
      have q7_2 : zc_2 7 = (zc_1 7) := hkp_2.2.2.1
      have q13_2 : zc_2 13 = (zc_1 13) := hkp_2.2.2.2.1
      have q14_2 : zc_2 14 = (zc_1 14) := hkp_2.2.2.2.2.1
      have q15_2 : zc_2 15 = (zc_1 15) := hkp_2.2.2.2.2.2.1
      have qp_2 : (zc_1 10) ≤ zc_2 10 ∧ zc_2 10 ≤ (zc_1 2) := hkp_2.2.2.2.2.2.2
      rw [q2_1] at ht_2 hd_2
      rw [q2_1] at q2_2
      replace w : wd D A s.heap (xw cy a zc_2 (uZ g 11 (uI (g 11) rv_1 1))) H locs := w
      refine lv_istore (lv' := [(5, vI rv_2), (4, vI rv_1), (0, .ref (a 6)), (1, .ref (a 9)), (2, .ref (a 11)), (3, vI p2)]) hx hb dX5_readByGrade_37 hl (by decide) rfl (fun ls hl => ?_)
      refine lv_iload hx hb dX5_readByGrade_39 (lv_at hl 0 rfl) ?_
      refine r_iconst hx hb dX5_readByGrade_41 ?_
      refine r_icmp_ne (tgt := 46) hx hb dX5_readByGrade_42 (by decide) (by omega) (by omega) (fun c42 => ?_) (fun c42 => ?_)
      · skip
        have hd2 := hd_2.elim (fun h => absurd h.2.1 c42) (fun h => h.elim (fun h => absurd h.2.2.1 c42) id)
        rw [hd1.2.2.2.2.2.1] at ht_2
        refine lv_aload_n hx hb dX5_readByGrade_46 rfl (lv_at hl 3 rfl) ?_
        refine lv_iload hx hb dX5_readByGrade_47 (lv_at hl 1 rfl) ?_
        refine lv_iload hx hb dX5_readByGrade_49 (lv_at hl 0 rfl) ?_
        refine r_iast C w 9 (f := (g 9)) rfl (by omega) (by omega) (by decide) (ws' := xw cy a zc_2 (uZ (uZ g 11 (uI (g 11) rv_1 1)) 9 (uI (g 9) rv_1 rv_2))) (xw_g9 cy a zc_2 (uZ g 11 (uI (g 11) rv_1 1)) (uI (g 9) rv_1 rv_2)) dX5_readByGrade_51 (fun H locs w => ?_)
        have bg3 : ∀ j : Int, (0 : Int) ≤ (uI (g 9) rv_1 rv_2) j ∧ (uI (g 9) rv_1 rv_2) j ≤ 100 := uI_b (xB9 hg) (by omega)
        refine lv_aload_n hx hb dX5_readByGrade_52 rfl (lv_at hl 2 rfl) ?_
        refine cVV C w hA (ct_X5_finishRule l D cy a zc_2 (uZ (uZ g 11 (uI (g 11) rv_1 1)) 9 (uI (g 9) rv_1 rv_2))  hzc_2 (xBg_u (xBg_u hg 11 bg2) 9 bg3) (by show zc_2 15 < zc_2 10 ∧ zc_2 10 ≤ zc_2 2; omega) (by show zc_2 11 = 0; omega)) ok_X5_finishRule km_X5_99 ⟨rfl, rfl⟩ ⟨by decide, by decide⟩ ⟨by decide, by decide⟩ rfl 6 rfl rfl hl.1 rfl (Nat.le_of_ble_eq_true rfl) dX5_readByGrade_53 (fun uv_3 H locs w hp_3 => ?_)
        obtain ⟨zc_3, gc_3⟩ := uv_3
        obtain ⟨hp_3, hzc_3, hgc_3⟩ := hp_3
        replace w : wd D A s.heap (xw cy a zc_3 gc_3) H locs := w
        replace hzc_3 : xBz zc_3 := hzc_3
        replace hgc_3 : xBg gc_3 := hgc_3
        try dsimp only at hp_3
        exact hend (zc_3, gc_3) _ _ _ _ dX5_readByGrade_56 w ⟨(by rw [byG_4 ht_1 hd1.1 hd1.2.1 (by rw [et]; exact c18), amtF_3 ht_2 hd2.1 hd2.2.1]; have fa := frA_t hkp_2.1 hkp_1.1; refine ⟨frmX_t hp_3.1 fa (by repeat (first | assumption | exact frG_0 _ | refine frG_u ?_ (by decide) (by decide))) (by omega), fin_g hp_3.2 (by omega) rfl hd2.2.2.2.2.2.1 (by omega) ?_ ?_⟩; (show FRX _ _ (zc_2 13) (zc_2 14) = _; rw [show zc_2 13 = z 13 by omega, show zc_2 14 = z 14 by omega, ← hd2.2.2.2.1, e0]; exact FRX_2 ⟨by omega, by omega⟩); (show FRX _ _ (zc_2 6) (zc_2 7) = _; rw [show zc_2 6 = z 6 by omega, show zc_2 7 = z 7 by omega, e0]; exact FRX_2 ⟨by omega, by omega⟩)), hzc_3, hgc_3⟩
      · skip
        rw [hd1.2.2.2.2.2.1] at ht_2
        exact hend (zc_2, (uZ g 11 (uI (g 11) rv_1 1))) _ _ _ _ dX5_readByGrade_45 w ⟨(by rw [byG_4 ht_1 hd1.1 hd1.2.1 (by rw [et]; exact c18)]; have fa := frA_t hkp_2.1 hkp_1.1; rcases hd_2 with h | h | h; (rw [amtF_1 ht_2 h.1]; exact ⟨⟨fa, (by repeat (first | assumption | exact frG_0 _ | refine frG_u ?_ (by decide) (by decide))), by show z 10 ≤ zc_2 10; omega, by show zc_2 10 ≤ z 2; omega⟩, h.2.2.1, h.2.2.2, (ct_b _).1⟩); (rw [amtF_2 ht_2 h.1 h.2.1]; exact ⟨⟨fa, (by repeat (first | assumption | exact frG_0 _ | refine frG_u ?_ (by decide) (by decide))), by show z 10 ≤ zc_2 10; omega, by show zc_2 10 ≤ z 2; omega⟩, h.2.2.2.1, h.2.2.2.2, (by decide : (1 : Int) ≤ 3)⟩); exact absurd h.2.2.1 (by omega)), hzc_2, (xBg_u hg 11 bg2)⟩
    · skip
      refine lv_aload_n hx hb dX5_readByGrade_21 rfl (lv_at hl 1 rfl) ?_
      refine r_iconst hx hb dX5_readByGrade_22 ?_
      refine cVV C w hA (ct_X5_refuse l D cy a zc_1 g 4 hzc_1 hg (by show 1 ≤ 4 ∧ 4 ≤ 4; omega)) ok_X5_refuse km_X5_95 ⟨rfl, rfl⟩ ⟨by decide, by decide⟩ ⟨by decide, by decide⟩ rfl 6 rfl rfl hl.1 rfl (Nat.le_of_ble_eq_true rfl) dX5_readByGrade_23 (fun uv_4 H locs w hp_4 => ?_)
      obtain ⟨zc_4, gc_4⟩ := uv_4
      have hzr_4 := hp_4.2.1
      obtain ⟨hp_4, -, -⟩ := hp_4
      obtain ⟨ea_4, eb_4⟩ := Prod.mk.inj hp_4
      subst ea_4
      replace eb_4 := eb_4.symm
      subst eb_4
      have bz4 : (0 : Int) ≤ 4 ∧ (4 : Int) ≤ 4 := hzr_4 11 (by decide)
      have bz5 : (0 : Int) ≤ (zc_1 9) ∧ ((zc_1 9) : Int) ≤ 200 := hzr_4 12 (by decide)
      replace w : wd D A s.heap (xw cy a (uZ (uZ zc_1 11 4) 12 (zc_1 9)) g) H locs := w
      exact hend ((uZ (uZ zc_1 11 4) 12 (zc_1 9)), g) _ _ _ _ dX5_readByGrade_26 w ⟨(by rw [byG_3 ht_1 hd1.1 hd1.2.1 (by rw [et]; exact c18)]; have fa := hkp_1.1; exact ⟨⟨(by repeat (first | assumption | exact frA_0 _ | refine frA_u ?_ (by decide) (by decide))), frG_0 _, qp_1.1, qp_1.2⟩, rfl, hd1.2.2.2.2.2.2, (by decide : (1 : Int) ≤ 4)⟩), (xBz_u (xBz_u hzc_1 11 bz4) 12 bz5), hg⟩
  · skip
    exact hend (zc_1, g) _ _ _ _ dX5_readByGrade_13 w ⟨(by rcases hd_1 with h | h | h; (rw [byG_1 ht_1 h.1]; exact ⟨⟨hkp_1.1, frG_0 _, qp_1.1, qp_1.2⟩, h.2.2.1, h.2.2.2, (ct_b _).1⟩); (rw [byG_2 ht_1 h.1 h.2.1]; exact ⟨⟨hkp_1.1, frG_0 _, qp_1.1, qp_1.2⟩, h.2.2.2.1, h.2.2.2.2, (by decide : (1 : Int) ≤ 3)⟩); exact absurd h.2.2.1 (by omega)), hzc_1, hg⟩

abbrev rm_X5_readRot : Room := { frames := 4, cells := 0, slots := 0, locals := 87 }
set_option maxHeartbeats 4000000 in
set_option maxRecDepth 100000 in
theorem ct_X5_readRot (l : Launch) (D : va_G) (cy : Nat → ClassId) (a : Nat → Nat) (z : Nat → Int) (g : Nat → Int → Int)  (hz : xBz z) (hg : xBg g) (h10 : z 15 < z 10 ∧ z 10 ≤ z 2) (h11 : z 11 = 0) : MV l yX5_readRot cX5_readRot 2 (rm_X5_readRot) D cy (xw cy a z g) [.ref (a 6)] (fun (u : sX) => (frmX z g u ∧ resX z u (rttF (bt (g 2) (z 2)) (z 2) (fdX z g) (tlX z g) (z 9) (z 10))) ∧ xBz u.1 ∧ xBg u.2) (fun u => xw cy a u.1 u.2) 0 0 := by
  refine go_v (by decide +kernel) (Nat.le_of_ble_eq_true rfl) ?_
  intro p e s m args below meth c Q A ls C hnm hA w hl hend
  have hx := C.1
  have hb := C.2.1
  have b2_ := xZ2 hz
  have b10_ := xZ10 hz
  replace hl : lv_has ls 2 [(0, .ref (a 6))] := hl
  refine lv_aload_n hx hb dX5_readRot_0 rfl (lv_at hl 0 rfl) ?_
  refine r_get C w 6 (v := vI (z 6)) rfl rfl 4 (by decide) inX5 kf_X5_48 rfl dX5_readRot_1 ?_
  have qz1 := xZ6 hz
  refine r_if_eq (tgt := 13) hx hb dX5_readRot_4 (by decide) (by omega) (fun c4 => ?_) (fun c4 => ?_)
  · skip
    have et : tlX z g 8 = z 6 := rfl
    refine lv_aload_n hx hb dX5_readRot_13 rfl (lv_at hl 0 rfl) ?_
    refine r_iconst hx hb dX5_readRot_14 ?_
    refine r_put C w 6 tyX5 tyX5_ok nmX5 rfl rfl 4 (by decide) inX5 kf_X5_48 rfl (nb01 (by omega)) (fb01 (by omega)) (Nat.le_of_ble_eq_true rfl) (ws' := xw cy a (uZ z 6 1) g) (xw_z6 cy a z g 1) dX5_readRot_15 (fun H locs w => ?_)
    have bz2 : (0 : Int) ≤ 1 ∧ (1 : Int) ≤ 1 := (by omega)
    refine lv_aload_n hx hb dX5_readRot_18 rfl (lv_at hl 0 rfl) ?_
    refine r_bipush hx hb dX5_readRot_19 (by decide) ?_
    refine cVI C w hA (ct_X5_takeNumber l D cy a (uZ z 6 1) g 50 (xBz_u hz 6 bz2) hg (by show z 10 ≤ z 2; omega) (by show 0 ≤ 50 ∧ 50 ≤ 9999; omega)) ok_X5_takeNumber km_X5_91 ⟨rfl, rfl⟩ ⟨by decide, by decide⟩ ⟨by decide, by decide⟩ rfl 6 rfl rfl hl.1 rfl (Nat.le_of_ble_eq_true rfl) dX5_readRot_21 (fun rv_1 uv_1 H locs w hp_1 => ?_)
    obtain ⟨zc_1, gc_1⟩ := uv_1
    obtain ⟨⟨s_1, e_1, k_1, ht_1, eg_1, hkp_1, hd_1⟩, hzc_1, -⟩ := hp_1
    replace eg_1 : g = gc_1 := eg_1.symm
    subst eg_1
    replace ht_1 : isTok (bt (g 2) (z 2)) (z 2) (z 10) s_1 e_1 k_1 := ht_1
    replace hkp_1 : kpX (uZ z 6 1) zc_1 := hkp_1
    replace hzc_1 : xBz zc_1 := hzc_1
    replace hd_1 : (k_1 ≠ 2 ∧ rv_1 = -1 ∧ zc_1 11 = ct k_1 ∧ zc_1 12 = s_1) ∨ (k_1 = 2 ∧ 50 < nv (bt (g 2) (z 2)) s_1 e_1 ∧ rv_1 = -1 ∧ zc_1 11 = 3 ∧ zc_1 12 = s_1) ∨ (k_1 = 2 ∧ nv (bt (g 2) (z 2)) s_1 e_1 ≤ 50 ∧ 0 ≤ rv_1 ∧ rv_1 = nv (bt (g 2) (z 2)) s_1 e_1 ∧ zc_1 11 = (z 11) ∧ zc_1 10 = e_1 ∧ zc_1 9 = s_1) := hd_1
    have hb_1 := isTok_b ht_1
    have q2_1 : zc_1 2 = (z 2) := hkp_1.1 2 (by omega)
    have q6_1 : zc_1 6 = 1 := hkp_1.2.1
    have q7_1 : zc_1 7 = (z 7) := hkp_1.2.2.1
    have q13_1 : zc_1 13 = (z 13) := hkp_1.2.2.2.1
    have q14_1 : zc_1 14 = (z 14) := hkp_1.2.2.2.2.1
    have q15_1 : zc_1 15 = (z 15) := hkp_1.2.2.2.2.2.1
    have qp_1 : (z 10) ≤ zc_1 10 ∧ zc_1 10 ≤ (z 2) := hkp_1.2.2.2.2.2.2
    replace w : wd D A s.heap (xw cy a zc_1 g) H locs := w
    refine lv_istore_n (lv' := [(1, vI rv_1), (0, .ref (a 6))]) hx hb dX5_readRot_24 rfl hl (by decide) rfl (fun ls hl => ?_)
    refine lv_iload_n hx hb dX5_readRot_25 rfl (lv_at hl 0 rfl) ?_
    refine r_iconst hx hb dX5_readRot_26 ?_
    refine r_icmp_ne (tgt := 31) hx hb dX5_readRot_27 (by decide) (by omega) (by omega) (fun c27 => ?_) (fun c27 => ?_)
    · skip
      have hd1 := hd_1.elim (fun h => absurd h.2.1 c27) (fun h => h.elim (fun h => absurd h.2.2.1 c27) id)
      refine lv_aload_n hx hb dX5_readRot_31 rfl (lv_at hl 1 rfl) ?_
      refine r_get C w 6 (v := .ref (a 7)) rfl rfl 1 (by decide) inX5 kf_X5_12 rfl dX5_readRot_32 ?_
      refine lv_iload_n hx hb dX5_readRot_35 rfl (lv_at hl 0 rfl) ?_
      refine r_putN C w 7 tyX6 tyX6_ok nmX6 rfl rfl 2 (by decide) inX6 kt_X5_102 rfl rfl rfl (Nat.le_of_ble_eq_true rfl) (ws' := xw cy a (uZ zc_1 13 rv_1) g) (xw_z13 cy a zc_1 g rv_1) dX5_readRot_36 (fun H locs w => ?_)
      have bz3 : (0 : Int) ≤ rv_1 ∧ (rv_1 : Int) ≤ 50 := (by omega)
      refine lv_aload_n hx hb dX5_readRot_39 rfl (lv_at hl 1 rfl) ?_
      refine cVV C w hA (ct_X5_finishRule l D cy a (uZ zc_1 13 rv_1) g  (xBz_u hzc_1 13 bz3) hg (by show zc_1 15 < zc_1 10 ∧ zc_1 10 ≤ zc_1 2; omega) (by show zc_1 11 = 0; omega)) ok_X5_finishRule km_X5_99 ⟨rfl, rfl⟩ ⟨by decide, by decide⟩ ⟨by decide, by decide⟩ rfl 6 rfl rfl hl.1 rfl (Nat.le_of_ble_eq_true rfl) dX5_readRot_40 (fun uv_2 H locs w hp_2 => ?_)
      obtain ⟨zc_2, gc_2⟩ := uv_2
      obtain ⟨hp_2, hzc_2, hgc_2⟩ := hp_2
      replace w : wd D A s.heap (xw cy a zc_2 gc_2) H locs := w
      replace hzc_2 : xBz zc_2 := hzc_2
      replace hgc_2 : xBg gc_2 := hgc_2
      try dsimp only at hp_2
      exact hend (zc_2, gc_2) _ _ _ _ dX5_readRot_43 w ⟨(by unfold rttF; rw [if_neg (by rw [et, c4]; decide), amtF_3 ht_1 hd1.1 hd1.2.1]; have fa := frA_t hkp_1.1 (frA_u (frA_0 z) (j := 6) (v := 1) (by decide) (by decide)); refine ⟨frmX_t hp_2.1 (by repeat (first | assumption | exact frA_0 _ | refine frA_u ?_ (by decide) (by decide))) (frG_0 _) (by show z 10 ≤ zc_1 10; omega), fin_g hp_2.2 (by show zc_1 2 = z 2; omega) rfl hd1.2.2.2.2.2.1 (by show zc_1 15 = z 15; omega) ?_ ?_⟩; (show FRX _ _ rv_1 (zc_1 14) = _; rw [show zc_1 14 = z 14 by omega, ← hd1.2.2.2.1]; exact FRX_8); (show FRX _ _ (zc_1 6) (zc_1 7) = _; rw [show zc_1 6 = 1 by omega, show zc_1 7 = z 7 by omega]; exact FRX_8)), hzc_2, hgc_2⟩
    · skip
      exact hend (zc_1, g) _ _ _ _ dX5_readRot_30 w ⟨(by unfold rttF; rw [if_neg (by rw [et, c4]; decide)]; have fa := frA_t hkp_1.1 (frA_u (frA_0 z) (j := 6) (v := 1) (by decide) (by decide)); rcases hd_1 with h | h | h; (rw [amtF_1 ht_1 h.1]; exact ⟨⟨fa, frG_0 _, qp_1.1, qp_1.2⟩, h.2.2.1, h.2.2.2, (ct_b _).1⟩); (rw [amtF_2 ht_1 h.1 h.2.1]; exact ⟨⟨fa, frG_0 _, qp_1.1, qp_1.2⟩, h.2.2.2.1, h.2.2.2.2, (by decide : (1 : Int) ≤ 3)⟩); exact absurd h.2.2.1 (by omega)), hzc_1, hg⟩
  · skip
    have et : tlX z g 8 = z 6 := rfl
    refine lv_aload_n hx hb dX5_readRot_7 rfl (lv_at hl 0 rfl) ?_
    refine r_iconst hx hb dX5_readRot_8 ?_
    refine cVV C w hA (ct_X5_refuse l D cy a z g 4 hz hg (by show 1 ≤ 4 ∧ 4 ≤ 4; omega)) ok_X5_refuse km_X5_95 ⟨rfl, rfl⟩ ⟨by decide, by decide⟩ ⟨by decide, by decide⟩ rfl 6 rfl rfl hl.1 rfl (Nat.le_of_ble_eq_true rfl) dX5_readRot_9 (fun uv_3 H locs w hp_3 => ?_)
    obtain ⟨zc_3, gc_3⟩ := uv_3
    have hzr_3 := hp_3.2.1
    obtain ⟨hp_3, -, -⟩ := hp_3
    obtain ⟨ea_3, eb_3⟩ := Prod.mk.inj hp_3
    subst ea_3
    replace eb_3 := eb_3.symm
    subst eb_3
    have bz4 : (0 : Int) ≤ 4 ∧ (4 : Int) ≤ 4 := hzr_3 11 (by decide)
    have bz5 : (0 : Int) ≤ (z 9) ∧ ((z 9) : Int) ≤ 200 := hzr_3 12 (by decide)
    replace w : wd D A s.heap (xw cy a (uZ (uZ z 11 4) 12 (z 9)) g) H locs := w
    exact hend ((uZ (uZ z 11 4) 12 (z 9)), g) _ _ _ _ dX5_readRot_12 w ⟨(by unfold rttF; rw [if_pos (by rw [et]; exact c4)]; exact ⟨⟨(by repeat (first | assumption | exact frA_0 _ | refine frA_u ?_ (by decide) (by decide))), frG_0 _, Int.le_refl _, h10.2⟩, rfl, rfl, (by decide : (1 : Int) ≤ 4)⟩), (xBz_u (xBz_u hz 11 bz4) 12 bz5), hg⟩

