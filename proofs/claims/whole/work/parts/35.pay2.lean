theorem tdv {a b : Int} (h : 0 ≤ a) : Int.tdiv a b = a / b := Int.tdiv_eq_ediv_of_nonneg h
theorem tmd {a b : Int} (h : 0 ≤ a) : Int.tmod a b = a % b := Int.tmod_eq_emod_of_nonneg h
theorem ini_st {f k : Int → Int} {i : Int} (hf : ∀ q, 0 ≤ q → q < i → f q = k q) (v : Int) (hv : v = k i) : ∀ q, 0 ≤ q → q < i + 1 → uI f i v q = k q := by
  intro q h1 h2
  by_cases e : q = i
  · rw [e, uI_s, hv]
  · rw [uI_n _ _ e]
    exact hf q h1 (by omega)
theorem sum_cg8 {f k : Int → Int} (h : ∀ q, 0 ≤ q → q < 8 → f q = k q) : sumI f 8 = sumI k 8 := sumI_cg h
theorem rk_cg {r r2 : Int → Int} (h : ∀ q, 0 ≤ q → q < 8 → r q = r2 q) {q : Int} (h0 : 0 ≤ q) (h1 : q < 8) : rkF r q = rkF r2 q := by
  unfold rkF
  refine sumI_cg (fun j a1 a2 => ?_)
  unfold btF
  rw [h j a1 a2, h q h0 h1]

abbrev rm_X3_shareOf : Room := { frames := 3, cells := 0, slots := 0, locals := 60 }
set_option maxHeartbeats 4000000 in
set_option maxRecDepth 100000 in
theorem ct_X3_shareOf (l : Launch) (D : va_G) (cy : Nat → ClassId) (a : Nat → Nat) (z : Nat → Int) (g : Nat → Int → Int) (p0 p1 : Int) (hz : xBz z) (hg : xBg g) (h0 : 0 ≤ p0 ∧ p0 < 8) (h1 : iR p1) : ML l yX3_shareOf cX3_shareOf 11 (rm_X3_shareOf) D cy (xw cy a z g) [.ref (a 33), vI p0, vI p1] (fun (v : Int) (u : sX) => (v = payF (poolX z g p1) (AX z g p1) (WX z g p1) p0 ∧ u.1 = z ∧ ∃ f1 f2 : Int → Int, u.2 = uZ (uZ g 34 f1) 35 f2) ∧ xBz u.1 ∧ xBg u.2) (fun u => xw cy a u.1 u.2) 0 0 := by
  refine go_l (by decide +kernel) (Nat.le_of_ble_eq_true rfl) ?_
  intro p e s m args below meth c Q A ls C hnm hA w hl hend
  have hx := C.1
  have hb := C.2.1
  have hAb := AX_b hz hg p1
  have hPb := poolX_b hz hg p1
  have hWb := WX_b hz hg p1
  have hPW : ∀ q, 0 ≤ poolX z g p1 * WX z g p1 q ∧ poolX z g p1 * WX z g p1 q ≤ 1999800000 * 20000000 := fun q => mul_b hPb (hWb q)
  have hWA := WX_A (z := z) hg p1
  have J28 : ∀ N : Nat, ∀ (o7 : Int) (i9 : Int) (fw : Int → Int) (fr : Int → Int), (∀ j : Int, (-9223372036854775808 : Int) ≤ fr j ∧ fr j ≤ 9223372036854775807) → (1 ≤ (AX z g p1)) → (∀ j : Int, (-9223372036854775808 : Int) ≤ fw j ∧ fw j ≤ 9223372036854775807) → (∀ q, 0 ≤ q → q < 8 → fw q = WX z g p1 q) → (0 ≤ i9 ∧ i9 ≤ 8) → (o7 = (poolX z g p1) - sumI (qF (poolX z g p1) (AX z g p1) (WX z g p1)) i9) → (∀ q, 0 ≤ q → q < i9 → fr q = rF (poolX z g p1) (AX z g p1) (WX z g p1) q) → ((8 - i9).toNat) < N → ∀ (H : Heap) (locs : List Loc) (ls : Array Slot), wd D A s.heap (xw cy a z (uZ (uZ g 34 fw) 35 fr)) H locs → lv_has ls 11 [(0, .ref (a 33)), (1, vI p0), (3, vL (AX z g p1)), (5, vL (poolX z g p1)), (7, vL o7), (9, vI i9)] → W p l e (rm_X3_shareOf) s m args below meth c H locs 0 0 Q (F0 m 28 ls []) := by
    intro N
    induction N with
    | zero => intro o7 i9 fw fr bfr hA1 bfw hfw hi9 ho7 hfr hN9; exact absurd hN9 (Nat.not_lt_zero _)
    | succ N ih28 =>
      intro o7 i9 fw fr bfr hA1 bfw hfw hi9 ho7 hfr hN28 H locs ls w hl
      have hPi := hPW i9
      have hov := ovF_b (P := poolX z g p1) (W := WX z g p1) hA1 hWA
      refine lv_iload hx hb dX3_shareOf_28 (lv_at hl 5 rfl) ?_
      refine r_bipush hx hb dX3_shareOf_30 (by decide) ?_
      refine r_icmp_ge (tgt := 77) hx hb dX3_shareOf_32 (by decide) (by omega) (by omega) (fun c32 => ?_) (fun c32 => ?_)
      · skip
        refine lv_lload hx hb dX3_shareOf_77 (lv_at hl 3 rfl) ?_
        refine lv_aload_n hx hb dX3_shareOf_79 rfl (lv_at hl 0 rfl) ?_
        refine r_get C w 33 (v := .ref (a 34)) rfl rfl 3 (by decide) inX3 kf_X3_9 rfl dX3_shareOf_80 ?_
        refine lv_iload_n hx hb dX3_shareOf_83 rfl (lv_at hl 1 rfl) ?_
        refine r_lald C w 34 (f := fw) rfl (by omega) (by omega) (by decide) dX3_shareOf_84 ?_
        refine r_asL (v := (WX z g p1 p0)) (by exact hfw p0 h0.1 h0.2) ?_
        refine r_lmul hx hb dX3_shareOf_85 ?_
        refine lv_lload_n hx hb dX3_shareOf_86 rfl (lv_at hl 2 rfl) ?_
        refine r_ldiv hx hb dX3_shareOf_87 (by exact ⟨by have := hPW p0; omega, by have := hPW p0; omega⟩) (by exact ⟨by omega, by omega⟩) (by omega) ?_
        refine r_asL (v := (qF (poolX z g p1) (AX z g p1) (WX z g p1) p0)) (by exact tdv (hPW p0).1) ?_
        refine lv_lstore (lv' := [(9, vL (qF (poolX z g p1) (AX z g p1) (WX z g p1) p0)), (0, .ref (a 33)), (1, vI p0), (3, vL (AX z g p1)), (5, vL (poolX z g p1)), (7, vL o7)]) hx hb dX3_shareOf_88 hl (by decide) rfl (fun ls hl => ?_)
        refine lv_aload_n hx hb dX3_shareOf_90 rfl (lv_at hl 1 rfl) ?_
        refine lv_iload_n hx hb dX3_shareOf_91 rfl (lv_at hl 2 rfl) ?_
        refine cVI C w hA (ct_X3_placeByRest l D cy a z (uZ (uZ g 34 fw) 35 fr) p0 hz (xBg_u (xBg_u hg 34 bfw) 35 bfr) (by show 0 ≤ p0 ∧ p0 < 8; omega)) ok_X3_placeByRest km_X3_76 ⟨rfl, rfl⟩ ⟨by decide, by decide⟩ ⟨by decide, by decide⟩ rfl 33 rfl rfl hl.1 rfl (Nat.le_of_ble_eq_true rfl) dX3_shareOf_92 (fun rv_1 uv_1 H locs w hp_1 => ?_)
        replace w : wd D A s.heap (xw cy a z (uZ (uZ g 34 fw) 35 fr)) H locs := w
        replace hp_1 : rv_1 = rkF fr p0 := hp_1
        have hrb_1 := rk_b fr (q := p0) (by omega)
        refine r_i2l hx hb dX3_shareOf_95 (by omega) ?_
        refine lv_lload hx hb dX3_shareOf_96 (lv_at hl 5 rfl) ?_
        refine r_lcif_ge (tgt := 109) hx hb dX3_shareOf_98 dX3_shareOf_99 (by decide) (by exact ⟨by omega, by omega⟩) (by rw [ho7, show i9 = 8 by omega]; exact ⟨by unfold ovF at hov; omega, by unfold ovF at hov; omega⟩) (fun c98 => ?_) (fun c98 => ?_)
        · skip
          refine lv_lload hx hb dX3_shareOf_109 (lv_at hl 0 rfl) ?_
          exact hend (qF (poolX z g p1) (AX z g p1) (WX z g p1) p0) (z, (uZ (uZ g 34 fw) 35 fr)) _ _ _ _ dX3_shareOf_111 w ⟨(by refine ⟨?_, rfl, fw, fr, rfl⟩; unfold payF pdF; rw [if_neg (by omega)]; have hro : ovF (poolX z g p1) (AX z g p1) (WX z g p1) = o7 := (by rw [ho7, show i9 = 8 by omega]; rfl); have hrk : rkF (rF (poolX z g p1) (AX z g p1) (WX z g p1)) p0 = rkF fr p0 := rk_cg (fun q a1 a2 => (hfr q a1 (by omega)).symm) h0.1 h0.2; rw [hro, hrk]; first | (rw [if_pos (by omega)]) | (rw [if_neg (by omega)]; omega)), hz, (xBg_u (xBg_u hg 34 bfw) 35 bfr)⟩
        · skip
          refine lv_lload hx hb dX3_shareOf_102 (lv_at hl 0 rfl) ?_
          refine r_lconst (z := 1) hx hb dX3_shareOf_104 (by decide) ?_
          refine r_ladd hx hb dX3_shareOf_105 ?_
          refine lv_goto (tgt := 111) hx hb dX3_shareOf_106 (by decide) ?_
          exact hend ((qF (poolX z g p1) (AX z g p1) (WX z g p1) p0) + 1) (z, (uZ (uZ g 34 fw) 35 fr)) _ _ _ _ dX3_shareOf_111 w ⟨(by refine ⟨?_, rfl, fw, fr, rfl⟩; unfold payF pdF; rw [if_neg (by omega)]; have hro : ovF (poolX z g p1) (AX z g p1) (WX z g p1) = o7 := (by rw [ho7, show i9 = 8 by omega]; rfl); have hrk : rkF (rF (poolX z g p1) (AX z g p1) (WX z g p1)) p0 = rkF fr p0 := rk_cg (fun q a1 a2 => (hfr q a1 (by omega)).symm) h0.1 h0.2; rw [hro, hrk]; first | (rw [if_pos (by omega)]) | (rw [if_neg (by omega)]; omega)), hz, (xBg_u (xBg_u hg 34 bfw) 35 bfr)⟩
      · skip
        refine lv_lload hx hb dX3_shareOf_35 (lv_at hl 4 rfl) ?_
        refine lv_lload hx hb dX3_shareOf_37 (lv_at hl 3 rfl) ?_
        refine lv_aload_n hx hb dX3_shareOf_39 rfl (lv_at hl 0 rfl) ?_
        refine r_get C w 33 (v := .ref (a 34)) rfl rfl 3 (by decide) inX3 kf_X3_9 rfl dX3_shareOf_40 ?_
        refine lv_iload hx hb dX3_shareOf_43 (lv_at hl 5 rfl) ?_
        refine r_lald C w 34 (f := fw) rfl (by omega) (by omega) (by decide) dX3_shareOf_45 ?_
        refine r_asL (v := (WX z g p1 i9)) (by exact hfw i9 hi9.1 (by omega)) ?_
        refine r_lmul hx hb dX3_shareOf_46 ?_
        refine lv_lload_n hx hb dX3_shareOf_47 rfl (lv_at hl 2 rfl) ?_
        refine r_ldiv hx hb dX3_shareOf_48 (by exact ⟨by have := hPW p0; have := hPW i9; omega, by have := hPW p0; have := hPW i9; omega⟩) (by exact ⟨by omega, by omega⟩) (by omega) ?_
        refine r_asL (v := (qF (poolX z g p1) (AX z g p1) (WX z g p1) i9)) (by exact tdv hPi.1) ?_
        refine r_lsub hx hb dX3_shareOf_49 ?_
        refine lv_lstore (lv' := [(7, vL (o7 - (qF (poolX z g p1) (AX z g p1) (WX z g p1) i9))), (0, .ref (a 33)), (1, vI p0), (3, vL (AX z g p1)), (5, vL (poolX z g p1)), (9, vI i9)]) hx hb dX3_shareOf_50 hl (by decide) rfl (fun ls hl => ?_)
        refine lv_aload_n hx hb dX3_shareOf_52 rfl (lv_at hl 1 rfl) ?_
        refine r_get C w 33 (v := .ref (a 35)) rfl rfl 4 (by decide) inX3 kf_X3_15 rfl dX3_shareOf_53 ?_
        refine lv_iload hx hb dX3_shareOf_56 (lv_at hl 5 rfl) ?_
        refine lv_lload hx hb dX3_shareOf_58 (lv_at hl 4 rfl) ?_
        refine lv_aload_n hx hb dX3_shareOf_60 rfl (lv_at hl 1 rfl) ?_
        refine r_get C w 33 (v := .ref (a 34)) rfl rfl 3 (by decide) inX3 kf_X3_9 rfl dX3_shareOf_61 ?_
        refine lv_iload hx hb dX3_shareOf_64 (lv_at hl 5 rfl) ?_
        refine r_lald C w 34 (f := fw) rfl (by omega) (by omega) (by decide) dX3_shareOf_66 ?_
        refine r_asL (v := (WX z g p1 i9)) (by exact hfw i9 hi9.1 (by omega)) ?_
        refine r_lmul hx hb dX3_shareOf_67 ?_
        refine lv_lload_n hx hb dX3_shareOf_68 rfl (lv_at hl 3 rfl) ?_
        refine r_lrem hx hb dX3_shareOf_69 (by exact ⟨by have := hPW p0; have := hPW i9; omega, by have := hPW p0; have := hPW i9; omega⟩) (by exact ⟨by omega, by omega⟩) (by omega) ?_
        refine r_asL (v := (rF (poolX z g p1) (AX z g p1) (WX z g p1) i9)) (by exact tmd hPi.1) ?_
        refine r_last C w 35 (f := fr) rfl (by omega) (by omega) (by decide) (ws' := xw cy a z (uZ (uZ g 34 fw) 35 (uI fr i9 (rF (poolX z g p1) (AX z g p1) (WX z g p1) i9)))) rfl dX3_shareOf_70 (fun H locs w => ?_)
        have bg1 : ∀ j : Int, (-9223372036854775808 : Int) ≤ (uI fr i9 (rF (poolX z g p1) (AX z g p1) (WX z g p1) i9)) j ∧ (uI fr i9 (rF (poolX z g p1) (AX z g p1) (WX z g p1) i9)) j ≤ 9223372036854775807 := uI_b bfr (by have q1 := Int.emod_nonneg (poolX z g p1 * WX z g p1 i9) (show AX z g p1 ≠ 0 by omega); have q2 := Int.emod_lt_of_pos (poolX z g p1 * WX z g p1 i9) (show 0 < AX z g p1 by omega); unfold rF; exact ⟨by omega, by omega⟩)
        refine r_iinc (lv' := [(9, vI (i9 + 1)), (7, vL (o7 - (qF (poolX z g p1) (AX z g p1) (WX z g p1) i9))), (0, .ref (a 33)), (1, vI p0), (3, vL (AX z g p1)), (5, vL (poolX z g p1))]) hx hb dX3_shareOf_71 hl (k := 5) rfl (by decide) rfl (fun ls hl => ?_)
        refine lv_goto (tgt := 28) hx hb dX3_shareOf_74 (by decide) ?_
        exact ih28 (o7 - (qF (poolX z g p1) (AX z g p1) (WX z g p1) i9)) (i9 + 1) fw (uI fr i9 (rF (poolX z g p1) (AX z g p1) (WX z g p1) i9)) bg1 (by omega) (by exact bfw) (by exact hfw) (by omega) (by rw [sumI_s _ hi9.1, ho7]; omega) (by exact ini_st hfr _ rfl) (by omega) _ _ _ w (lv_sub hl [2, 3, 4, 5, 1, 0] rfl)
  replace hl : lv_has ls 11 [(0, .ref (a 33)), (1, vI p0), (2, vI p1)] := hl
  refine lv_aload_n hx hb dX3_shareOf_0 rfl (lv_at hl 0 rfl) ?_
  refine lv_iload_n hx hb dX3_shareOf_1 rfl (lv_at hl 2 rfl) ?_
  refine cVL C w hA (ct_X3_weigh l D cy a z g p1 hz hg (by show iR p1; omega)) ok_X3_weigh km_X3_69 ⟨rfl, rfl⟩ ⟨by decide, by decide⟩ ⟨by decide, by decide⟩ rfl 33 rfl rfl hl.1 rfl (Nat.le_of_ble_eq_true rfl) dX3_shareOf_2 (fun rv_2 uv_2 H locs w hp_2 => ?_)
  obtain ⟨zc_2, gc_2⟩ := uv_2
  have hgc9 : xBg gc_2 := hp_2.2.2
  obtain ⟨hp_2, -, -⟩ := hp_2
  obtain ⟨ea_2, eb_2, fw, ec_2, hfw⟩ := hp_2
  replace eb_2 : z = zc_2 := eb_2.symm
  replace ec_2 : gc_2 = uZ g 34 fw := ec_2
  subst eb_2
  subst ec_2
  replace ea_2 : rv_2 = AX z g p1 := ea_2
  have bfw : ∀ j : Int, (-9223372036854775808 : Int) ≤ fw j ∧ fw j ≤ 9223372036854775807 := fun j => by have q := hgc9 34 (by decide) j; exact q
  replace w : wd D A s.heap (xw cy a z (uZ g 34 fw)) H locs := w
  refine r_asL (v := (AX z g p1)) (by assumption) ?_
  refine lv_lstore_n (lv' := [(3, vL (AX z g p1)), (0, .ref (a 33)), (1, vI p0), (2, vI p1)]) hx hb dX3_shareOf_5 rfl hl (by decide) rfl (fun ls hl => ?_)
  refine lv_lload_n hx hb dX3_shareOf_6 rfl (lv_at hl 0 rfl) ?_
  refine r_lconst (z := 1) hx hb dX3_shareOf_7 (by decide) ?_
  refine r_lcif_ge (tgt := 14) hx hb dX3_shareOf_8 dX3_shareOf_9 (by decide) (by exact ⟨by omega, by omega⟩) (by exact ⟨by omega, by omega⟩) (fun c8 => ?_) (fun c8 => ?_)
  · skip
    refine lv_aload_n hx hb dX3_shareOf_14 rfl (lv_at hl 1 rfl) ?_
    refine lv_iload_n hx hb dX3_shareOf_15 rfl (lv_at hl 3 rfl) ?_
    refine cVL C w hA (ct_X3_poolAsOf l D cy a z (uZ g 34 fw) p1 hz (xBg_u hg 34 bfw) (by show iR p1; omega)) ok_X3_poolAsOf km_X3_73 ⟨rfl, rfl⟩ ⟨by decide, by decide⟩ ⟨by decide, by decide⟩ rfl 33 rfl rfl hl.1 rfl (Nat.le_of_ble_eq_true rfl) dX3_shareOf_16 (fun rv_3 uv_3 H locs w hp_3 => ?_)
    replace w : wd D A s.heap (xw cy a z (uZ g 34 fw)) H locs := w
    replace hp_3 : rv_3 = poolX z g p1 := hp_3
    refine r_asL (v := (poolX z g p1)) (by assumption) ?_
    refine lv_lstore (lv' := [(5, vL (poolX z g p1)), (3, vL (AX z g p1)), (0, .ref (a 33)), (1, vI p0), (2, vI p1)]) hx hb dX3_shareOf_19 hl (by decide) rfl (fun ls hl => ?_)
    refine lv_lload hx hb dX3_shareOf_21 (lv_at hl 0 rfl) ?_
    refine lv_lstore (lv' := [(7, vL (poolX z g p1)), (5, vL (poolX z g p1)), (3, vL (AX z g p1)), (0, .ref (a 33)), (1, vI p0), (2, vI p1)]) hx hb dX3_shareOf_23 hl (by decide) rfl (fun ls hl => ?_)
    refine r_iconst hx hb dX3_shareOf_25 ?_
    refine lv_istore (lv' := [(9, vI 0), (7, vL (poolX z g p1)), (5, vL (poolX z g p1)), (3, vL (AX z g p1)), (0, .ref (a 33)), (1, vI p0), (2, vI p1)]) hx hb dX3_shareOf_26 hl (by decide) rfl (fun ls hl => ?_)
    exact J28 _ (poolX z g p1) 0 fw (g 35) (xB35 hg) (by omega) (by exact bfw) (by exact hfw) (by omega) (by show _ = _ - 0; omega) (by intro q h1 h2; omega) (Nat.lt_succ_self _) _ _ _ w (lv_sub hl [4, 5, 3, 2, 1, 0] rfl)
  · skip
    refine r_lconst (z := 0) hx hb dX3_shareOf_12 (by decide) ?_
    exact hend 0 (z, (uZ g 34 fw)) _ _ _ _ dX3_shareOf_13 w ⟨(by refine ⟨(if_pos (by omega)).symm, rfl, fw, g 35, ?_⟩; funext k; unfold uZ; cases hk : Nat.beq k 35; rfl; rw [show k = 35 from Nat.eq_of_beq_eq_true hk]; rfl), hz, (xBg_u hg 34 bfw)⟩

abbrev rm_X9_pay : Room := { frames := 4, cells := 0, slots := 0, locals := 90 }
set_option maxHeartbeats 4000000 in
set_option maxRecDepth 100000 in
theorem ct_X9_pay (l : Launch) (D : va_G) (cy : Nat → ClassId) (a : Nat → Nat) (z : Nat → Int) (g : Nat → Int → Int) (p0 p1 : Int) (hz : xBz z) (hg : xBg g) (h0 : iR p0) (h1 : iR p1) : MI l yX9_pay cX9_pay 3 .int (rm_X9_pay) D cy (xw cy a z g) [.ref (a 0), vI p0, vI p1] (fun (v : Int) (u : sX) => ((¬ (0 ≤ p0 ∧ p0 < 8) ∧ v = -1 ∧ u = (z, g)) ∨ ((0 ≤ p0 ∧ p0 < 8) ∧ v = payF (poolX z g p1) (AX z g p1) (WX z g p1) p0 ∧ u.1 = z ∧ ∃ f1 f2 : Int → Int, u.2 = uZ (uZ g 34 f1) 35 f2)) ∧ xBz u.1 ∧ xBg u.2) (fun u => xw cy a u.1 u.2) 0 0 := by
  refine go_i (by decide +kernel) (Nat.le_of_ble_eq_true rfl) (Or.inl rfl) ?_
  intro p e s m args below meth c Q A ls C hnm hA w hl hend
  have hx := C.1
  have hb := C.2.1
  replace hl : lv_has ls 3 [(0, .ref (a 0)), (1, vI p0), (2, vI p1)] := hl
  refine lv_iload_n hx hb dX9_pay_0 rfl (lv_at hl 1 rfl) ?_
  refine r_bipush hx hb dX9_pay_1 (by decide) ?_
  refine cSI C w hA (ct_X9_isBelow l D cy a z g p0 8 (by show iR p0; omega) (by show iR 8; omega)) ok_X9_isBelow km_X9_115 ⟨rfl, rfl⟩ ⟨by decide, by decide⟩ ⟨by decide, by decide⟩ rfl hl.1 rfl (Nat.le_of_ble_eq_true rfl) dX9_pay_3 (fun rv_1 uv_1 H locs w hp_1 => ?_)
  replace hp_1 : (rv_1 = 1 ∧ 0 ≤ p0 ∧ p0 < 8) ∨ (rv_1 = 0 ∧ ¬ (0 ≤ p0 ∧ p0 < 8)) := hp_1
  replace w : wd D A s.heap (xw cy a z g) H locs := w
  refine r_if_eq (tgt := 22) hx hb dX9_pay_6 (by decide) (by omega) (fun c6 => ?_) (fun c6 => ?_)
  · skip
    refine r_iconst hx hb dX9_pay_22 ?_
    exact hend (-1) (z, g) _ _ _ _ dX9_pay_23 w ⟨(by first | exact Or.inr ⟨by omega, hp_2.1, hp_2.2.1, hp_2.2.2⟩ | exact Or.inl ⟨by omega, rfl, rfl⟩), hz, hg⟩
  · skip
    refine lv_aload_n hx hb dX9_pay_9 rfl (lv_at hl 0 rfl) ?_
    refine r_get C w 0 (v := .ref (a 33)) rfl rfl 6 (by decide) inX9 kf_X9_58 rfl dX9_pay_10 ?_
    refine lv_iload_n hx hb dX9_pay_13 rfl (lv_at hl 1 rfl) ?_
    refine lv_iload_n hx hb dX9_pay_14 rfl (lv_at hl 2 rfl) ?_
    refine cVL C w hA (ct_X3_shareOf l D cy a z g p0 p1 hz hg (by show 0 ≤ p0 ∧ p0 < 8; omega) (by show iR p1; omega)) ok_X3_shareOf km_X9_218 ⟨rfl, rfl⟩ ⟨by decide, by decide⟩ ⟨by decide, by decide⟩ rfl 33 rfl rfl hl.1 rfl (Nat.le_of_ble_eq_true rfl) dX9_pay_15 (fun rv_2 uv_2 H locs w hp_2 => ?_)
    obtain ⟨zc_2, gc_2⟩ := uv_2
    obtain ⟨hp_2, hzc_2, hgc_2⟩ := hp_2
    replace w : wd D A s.heap (xw cy a zc_2 gc_2) H locs := w
    replace hzc_2 : xBz zc_2 := hzc_2
    replace hgc_2 : xBg gc_2 := hgc_2
    try dsimp only at hp_2
    refine r_l2i hx hb dX9_pay_18 ?_
    refine lv_goto (tgt := 23) hx hb dX9_pay_19 (by decide) ?_
    exact hend rv_2 (zc_2, gc_2) _ _ _ _ dX9_pay_23 w ⟨(by first | exact Or.inr ⟨by omega, hp_2.1, hp_2.2.1, hp_2.2.2⟩ | exact Or.inl ⟨by omega, rfl, rfl⟩), hzc_2, hgc_2⟩
