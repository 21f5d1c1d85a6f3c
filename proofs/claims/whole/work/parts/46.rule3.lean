/-! rules: words; a whole rule -/
theorem isW_s {b : Int → Int} {s i2 : Int} {i : Nat} (h0 : 0 ≤ i2) (h : ∀ j : Nat, j < i2.toNat → b (s + j) = chI i j) (he : b (s + i2) = chI i i2.toNat) : ∀ j : Nat, j < (i2 + 1).toNat → b (s + j) = chI i j := by
  intro j hj
  by_cases q : j = i2.toNat
  · subst q
    rw [show s + (i2.toNat : Int) = s + i2 by omega]
    exact he
  · exact h j (by omega)
abbrev rm_X5_isWord : Room := { frames := 4, cells := 0, slots := 0, locals := 85 }
set_option maxHeartbeats 4000000 in
set_option maxRecDepth 100000 in
theorem ct_X5_isWord (l : Launch) (D : va_G) (cy : Nat → ClassId) (a : Nat → Nat) (z : Nat → Int) (g : Nat → Int → Int) (ad : Nat → Nat) {i : Nat} (hi : i < 6) (hz : xBz z) (hg : xBg g) (h9 : 0 ≤ z 9 ∧ z 9 ≤ z 10 ∧ z 10 ≤ z 2) : MIE l yX5_isWord cX5_isWord 3 .boolean (rm_X5_isWord) D cy ad (xw cy a z g) [.ref (a 6), .ref (ad (2 * i))] (fun (v : Int) (u : Unit) => (v = 1 ∧ z 8 = 1 ∧ isW (bt (g 2) (z 2)) (z 9) (z 10) i) ∨ (v = 0 ∧ ¬ (z 8 = 1 ∧ isW (bt (g 2) (z 2)) (z 9) (z 10) i))) (fun _ => xw cy a z g) 0 0 := by
  refine go_iE (by decide +kernel) (Nat.le_of_ble_eq_true rfl) (Or.inr (fun v u h => nb01 (h.elim (fun q => Or.inr q.1) (fun q => Or.inl q.1)))) ?_
  intro p e s m args below meth c Q A ls C hE hnm hA w hl hend
  have hx := C.1
  have hb := C.2.1
  have b2_ := xZ2 hz
  have b8_ := xZ8 hz
  have hL := len_1 i hi
  have J28 : ∀ N : Nat, ∀ (i2 : Int), (z 8 = 1) → (z 10 - z 9 = (lenS.getD i 0 : Nat)) → (0 ≤ i2 ∧ i2 ≤ (lenS.getD i 0 : Nat)) → (∀ j : Nat, j < i2.toNat → bt (g 2) (z 2) (z 9 + j) = chI i j) → ((z 10 - z 9 - i2).toNat) < N → ∀ (H : Heap) (locs : List Loc) (ls : Array Slot), wd D A s.heap (xw cy a z g) H locs → lv_has ls 3 [(0, .ref (a 6)), (1, .ref (ad (2 * i))), (2, vI i2)] → W p l e (rm_X5_isWord) s m args below meth c H locs 0 0 Q (F0 m 28 ls []) := by
    intro N
    induction N with
    | zero => intro i2 hk1 hlen hi2 hm hN9; exact absurd hN9 (Nat.not_lt_zero _)
    | succ N ih28 =>
      intro i2 hk1 hlen hi2 hm hN28 H locs ls w hl
      refine lv_iload_n hx hb dX5_isWord_28 rfl (lv_at hl 2 rfl) ?_
      refine lv_aload_n hx hb dX5_isWord_29 rfl (lv_at hl 1 rfl) ?_
      refine cRIE C w hA hE (ct_J0_length_8abf5 l D cy ad (xw cy a z g) (i := i) hi ) ok_J0_length_8abf5 km_X5_138 ⟨rfl, rfl⟩ ⟨by decide, by decide⟩ ⟨by decide, by decide⟩ rfl (vk_recv (adK := fun i => ad (2 * i)) hE.1 hi w.2.2) hl.1 rfl (Nat.le_of_ble_eq_true rfl) dX5_isWord_30 (fun rv_1 uv_1 H locs w hp_1 => ?_)
      refine r_icmp_ge (tgt := 65) hx hb dX5_isWord_33 (by decide) (by omega) (by omega) (fun c33 => ?_) (fun c33 => ?_)
      · skip
        refine r_iconst hx hb dX5_isWord_65 ?_
        exact hend 1 () _ _ _ _ dX5_isWord_66 w (by exact Or.inl ⟨rfl, hk1, hlen, fun j hj => hm j (by omega)⟩)
      · skip
        refine lv_aload_n hx hb dX5_isWord_36 rfl (lv_at hl 0 rfl) ?_
        refine r_get C w 6 (v := .ref (a 1)) rfl rfl 0 (by decide) inX5 kf_X5_25 rfl dX5_isWord_37 ?_
        refine lv_aload_n hx hb dX5_isWord_40 rfl (lv_at hl 0 rfl) ?_
        refine r_get C w 6 (v := vI (z 9)) rfl rfl 7 (by decide) inX5 kf_X5_114 rfl dX5_isWord_41 ?_
        have qz1 := xZ9 hz
        refine lv_iload_n hx hb dX5_isWord_44 rfl (lv_at hl 2 rfl) ?_
        refine r_iadd hx hb dX5_isWord_45 ?_
        refine cVI C w hA (ct_X8_byteAt l D cy a z g ((z 9) + i2) hz hg (by show iR ((z 9) + i2); omega)) ok_X8_byteAt km_X5_117 ⟨rfl, rfl⟩ ⟨by decide, by decide⟩ ⟨by decide, by decide⟩ rfl 1 rfl rfl hl.1 rfl (Nat.le_of_ble_eq_true rfl) dX5_isWord_46 (fun rv_2 uv_2 H locs w hp_2 => ?_)
        replace hp_2 : (0 ≤ ((z 9) + i2) ∧ ((z 9) + i2) < (z 2) ∧ rv_2 = (g 2) ((z 9) + i2)) ∨ (¬ (0 ≤ ((z 9) + i2) ∧ ((z 9) + i2) < (z 2)) ∧ rv_2 = 0) := hp_2
        replace w : wd D A s.heap (xw cy a z g) H locs := w
        have hB2 := bt_v hp_2; have hBb2 := btv_b (z := z) hg hB2
        refine lv_aload_n hx hb dX5_isWord_49 rfl (lv_at hl 1 rfl) ?_
        refine lv_iload_n hx hb dX5_isWord_50 rfl (lv_at hl 2 rfl) ?_
        refine r_as (v := ((i2.toNat : Nat) : Int)) (by omega) ?_
        refine cRIE C w hA hE (ct_J0_charAt_5068e l D cy ad (xw cy a z g) (i := i) (k := i2.toNat) hi (by omega)) ok_J0_charAt_5068e km_X5_144 ⟨rfl, rfl⟩ ⟨by decide, by decide⟩ ⟨by decide, by decide⟩ rfl (vk_recv (adK := fun i => ad (2 * i)) hE.1 hi w.2.2) hl.1 rfl (Nat.le_of_ble_eq_true rfl) dX5_isWord_51 (fun rv_3 uv_3 H locs w hp_3 => ?_)
        have hch := ch_1 i hi i2.toNat (by omega)
        refine r_icmp_eq (tgt := 59) hx hb dX5_isWord_54 (by decide) (by omega) (by omega) (fun c54 => ?_) (fun c54 => ?_)
        · skip
          refine r_iinc (lv' := [(2, vI (i2 + 1)), (0, .ref (a 6)), (1, .ref (ad (2 * i)))]) hx hb dX5_isWord_59 hl (k := 2) rfl (by decide) rfl (fun ls hl => ?_)
          refine lv_goto (tgt := 28) hx hb dX5_isWord_62 (by decide) ?_
          exact ih28 (i2 + 1) (by omega) (by omega) (by omega) (by exact isW_s hi2.1 hm (by omega)) (by omega) _ _ _ w (lv_sub hl [1, 2, 0] rfl)
        · skip
          refine r_iconst hx hb dX5_isWord_57 ?_
          exact hend 0 () _ _ _ _ dX5_isWord_58 w (by exact Or.inr ⟨rfl, fun h => c54 (by have h2 := h.2.2 i2.toNat (by omega); rw [show z 9 + (i2.toNat : Int) = z 9 + i2 by omega] at h2; omega)⟩)
  replace hl : lv_has ls 3 [(0, .ref (a 6)), (1, .ref (ad (2 * i)))] := hl
  refine lv_aload_n hx hb dX5_isWord_0 rfl (lv_at hl 0 rfl) ?_
  refine r_get C w 6 (v := vI (z 8)) rfl rfl 6 (by decide) inX5 kf_X5_35 rfl dX5_isWord_1 ?_
  have qz2 := xZ8 hz
  refine r_iconst hx hb dX5_isWord_4 ?_
  refine r_icmp_ne (tgt := 24) hx hb dX5_isWord_5 (by decide) (by omega) (by omega) (fun c5 => ?_) (fun c5 => ?_)
  · skip
    refine r_iconst hx hb dX5_isWord_24 ?_
    exact hend 0 () _ _ _ _ dX5_isWord_25 w (by first | exact Or.inr ⟨rfl, fun h => c5 h.1⟩ | exact Or.inr ⟨rfl, fun h => c21 (by have := h.2.1; omega)⟩)
  · skip
    refine lv_aload_n hx hb dX5_isWord_8 rfl (lv_at hl 0 rfl) ?_
    refine r_get C w 6 (v := vI (z 10)) rfl rfl 8 (by decide) inX5 kf_X5_55 rfl dX5_isWord_9 ?_
    have qz3 := xZ10 hz
    refine lv_aload_n hx hb dX5_isWord_12 rfl (lv_at hl 0 rfl) ?_
    refine r_get C w 6 (v := vI (z 9)) rfl rfl 7 (by decide) inX5 kf_X5_114 rfl dX5_isWord_13 ?_
    have qz4 := xZ9 hz
    refine r_isub hx hb dX5_isWord_16 ?_
    refine lv_aload_n hx hb dX5_isWord_17 rfl (lv_at hl 1 rfl) ?_
    refine cRIE C w hA hE (ct_J0_length_8abf5 l D cy ad (xw cy a z g) (i := i) hi ) ok_J0_length_8abf5 km_X5_138 ⟨rfl, rfl⟩ ⟨by decide, by decide⟩ ⟨by decide, by decide⟩ rfl (vk_recv (adK := fun i => ad (2 * i)) hE.1 hi w.2.2) hl.1 rfl (Nat.le_of_ble_eq_true rfl) dX5_isWord_18 (fun rv_4 uv_4 H locs w hp_4 => ?_)
    refine r_icmp_eq (tgt := 26) hx hb dX5_isWord_21 (by decide) (by omega) (by omega) (fun c21 => ?_) (fun c21 => ?_)
    · skip
      refine r_iconst hx hb dX5_isWord_26 ?_
      refine lv_istore_n (lv' := [(2, vI 0), (0, .ref (a 6)), (1, .ref (ad (2 * i)))]) hx hb dX5_isWord_27 rfl hl (by decide) rfl (fun ls hl => ?_)
      exact J28 _ 0 (by omega) (by omega) (by omega) (by intro j hj; omega) (Nat.lt_succ_self _) _ _ _ w (lv_sub hl [1, 2, 0] rfl)
    · skip
      refine r_iconst hx hb dX5_isWord_24 ?_
      exact hend 0 () _ _ _ _ dX5_isWord_25 w (by first | exact Or.inr ⟨rfl, fun h => c5 h.1⟩ | exact Or.inr ⟨rfl, fun h => c21 (by have := h.2.1; omega)⟩)

abbrev rm_X5_readLoss : Room := { frames := 5, cells := 0, slots := 0, locals := 107 }
set_option maxHeartbeats 4000000 in
set_option maxRecDepth 100000 in
theorem ct_X5_readLoss (l : Launch) (D : va_G) (cy : Nat → ClassId) (a : Nat → Nat) (z : Nat → Int) (g : Nat → Int → Int) (ad : Nat → Nat)  (hz : xBz z) (hg : xBg g) (h10 : z 15 < z 10 ∧ z 10 ≤ z 2) (h11 : z 11 = 0) (h9 : z 9 ≤ z 10) : MVE l yX5_readLoss cX5_readLoss 2 (rm_X5_readLoss) D cy ad (xw cy a z g) [.ref (a 6)] (fun (u : sX) => (frmX z g u ∧ resX z u (losF (bt (g 2) (z 2)) (z 2) (fdX z g) (tlX z g) (z 9) (z 10))) ∧ xBz u.1 ∧ xBg u.2) (fun u => xw cy a u.1 u.2) 0 0 := by
  refine go_vE (by decide +kernel) (Nat.le_of_ble_eq_true rfl) ?_
  intro p e s m args below meth c Q A ls C hE hnm hA w hl hend
  have hx := C.1
  have hb := C.2.1
  have b2_ := xZ2 hz
  have b10_ := xZ10 hz
  have et : tlX z g 9 = z 7 := rfl
  replace hl : lv_has ls 2 [(0, .ref (a 6))] := hl
  refine lv_aload_n hx hb dX5_readLoss_0 rfl (lv_at hl 0 rfl) ?_
  refine r_get C w 6 (v := vI (z 7)) rfl rfl 5 (by decide) inX5 kf_X5_52 rfl dX5_readLoss_1 ?_
  have qz1 := xZ7 hz
  refine r_if_eq (tgt := 13) hx hb dX5_readLoss_4 (by decide) (by omega) (fun c4 => ?_) (fun c4 => ?_)
  · skip
    refine lv_aload_n hx hb dX5_readLoss_13 rfl (lv_at hl 0 rfl) ?_
    refine r_iconst hx hb dX5_readLoss_14 ?_
    refine r_put C w 6 tyX5 tyX5_ok nmX5 rfl rfl 5 (by decide) inX5 kf_X5_52 rfl (nb01 (by omega)) (fb01 (by omega)) (Nat.le_of_ble_eq_true rfl) (ws' := xw cy a (uZ z 7 1) g) (xw_z7 cy a z g 1) dX5_readLoss_15 (fun H locs w => ?_)
    have bz2 : (0 : Int) ≤ 1 ∧ (1 : Int) ≤ 1 := (by omega)
    refine lv_aload_n hx hb dX5_readLoss_18 rfl (lv_at hl 0 rfl) ?_
    refine cVV C w hA (ct_X5_step l D cy a (uZ z 7 1) g  (xBz_u hz 7 bz2) hg (by show z 10 ≤ z 2; omega)) ok_X5_step km_X5_32 ⟨rfl, rfl⟩ ⟨by decide, by decide⟩ ⟨by decide, by decide⟩ rfl 6 rfl rfl hl.1 rfl (Nat.le_of_ble_eq_true rfl) dX5_readLoss_19 (fun uv_1 H locs w hp_1 => ?_)
    obtain ⟨zc_1, gc_1⟩ := uv_1
    obtain ⟨⟨s_1, e_1, k_1, hu_1, ht_1⟩, hzc_1, -⟩ := hp_1
    obtain ⟨ea_1, eb_1⟩ := Prod.mk.inj hu_1
    replace eb_1 := eb_1.symm
    subst ea_1
    subst eb_1
    replace ht_1 : isTok (bt (g 2) (z 2)) (z 2) (z 10) s_1 e_1 k_1 := ht_1
    have hb_1 := isTok_b ht_1
    have bs_1 : (0 : Int) ≤ s_1 ∧ s_1 ≤ 200 := hzc_1 9 (by decide)
    have be_1 : (0 : Int) ≤ e_1 ∧ e_1 ≤ 200 := hzc_1 10 (by decide)
    have bk_1 : (0 : Int) ≤ k_1 ∧ k_1 ≤ 4 := hzc_1 8 (by decide)
    replace w : wd D A s.heap (xw cy a (uZ (uZ (uZ (uZ z 7 1) 9 s_1) 10 e_1) 8 k_1) g) H locs := w
    refine lv_aload_n hx hb dX5_readLoss_22 rfl (lv_at hl 0 rfl) ?_
    refine va_ldcS hx hb C.2.2.2.1 (hE.2.2.2.1 4 (by decide)) dX5_readLoss_23 ?_
    refine cVIE C w hA hE (ct_X5_isWord l D cy a (uZ (uZ (uZ (uZ z 7 1) 9 s_1) 10 e_1) 8 k_1) g ad (i := 4) (by decide) (xBz_u (xBz_u (xBz_u (xBz_u hz 7 bz2) 9 bs_1) 10 be_1) 8 bk_1) hg (by show 0 ≤ s_1 ∧ s_1 ≤ e_1 ∧ e_1 ≤ (z 2); omega)) ok_X5_isWord km_X5_63 ⟨rfl, rfl⟩ ⟨by decide, by decide⟩ ⟨by decide, by decide⟩ rfl 6 rfl rfl hl.1 rfl (Nat.le_of_ble_eq_true rfl) dX5_readLoss_25 (fun rv_2 uv_2 H locs w hp_2 => ?_)
    replace hp_2 : (rv_2 = 1 ∧ k_1 = 1 ∧ isW (bt (g 2) (z 2)) s_1 e_1 4) ∨ (rv_2 = 0 ∧ ¬ (k_1 = 1 ∧ isW (bt (g 2) (z 2)) s_1 e_1 4)) := hp_2
    replace w : wd D A s.heap (xw cy a (uZ (uZ (uZ (uZ z 7 1) 9 s_1) 10 e_1) 8 k_1) g) H locs := w
    have hw_2 : rv_2 = 0 ∨ rv_2 = 1 := hp_2.elim (fun h => Or.inr h.1) (fun h => Or.inl h.1)
    refine lv_istore_n (lv' := [(1, vI rv_2), (0, .ref (a 6))]) hx hb dX5_readLoss_28 rfl hl (by decide) rfl (fun ls hl => ?_)
    refine lv_iload_n hx hb dX5_readLoss_29 rfl (lv_at hl 0 rfl) ?_
    refine r_if_ne (tgt := 47) hx hb dX5_readLoss_30 (by decide) (by omega) (fun c30 => ?_) (fun c30 => ?_)
    · skip
      refine lv_aload_n hx hb dX5_readLoss_47 rfl (lv_at hl 1 rfl) ?_
      refine r_get C w 6 (v := .ref (a 7)) rfl rfl 1 (by decide) inX5 kf_X5_12 rfl dX5_readLoss_48 ?_
      refine lv_iload_n hx hb dX5_readLoss_51 rfl (lv_at hl 0 rfl) ?_
      refine r_putN C w 7 tyX6 tyX6_ok nmX6 rfl rfl 3 (by decide) inX6 kt_X5_108 rfl (nb01 (by omega)) (fb01 (by omega)) (Nat.le_of_ble_eq_true rfl) (ws' := xw cy a (uZ (uZ (uZ (uZ (uZ z 7 1) 9 s_1) 10 e_1) 8 k_1) 14 rv_2) g) (xw_z14 cy a (uZ (uZ (uZ (uZ z 7 1) 9 s_1) 10 e_1) 8 k_1) g rv_2) dX5_readLoss_52 (fun H locs w => ?_)
      have bz3 : (0 : Int) ≤ rv_2 ∧ (rv_2 : Int) ≤ 1 := (by omega)
      refine lv_aload_n hx hb dX5_readLoss_55 rfl (lv_at hl 1 rfl) ?_
      refine cVV C w hA (ct_X5_finishRule l D cy a (uZ (uZ (uZ (uZ (uZ z 7 1) 9 s_1) 10 e_1) 8 k_1) 14 rv_2) g  (xBz_u (xBz_u (xBz_u (xBz_u (xBz_u hz 7 bz2) 9 bs_1) 10 be_1) 8 bk_1) 14 bz3) hg (by show (z 15) < e_1 ∧ e_1 ≤ (z 2); omega) (by show (z 11) = 0; omega)) ok_X5_finishRule km_X5_99 ⟨rfl, rfl⟩ ⟨by decide, by decide⟩ ⟨by decide, by decide⟩ rfl 6 rfl rfl hl.1 rfl (Nat.le_of_ble_eq_true rfl) dX5_readLoss_56 (fun uv_3 H locs w hp_3 => ?_)
      obtain ⟨zc_3, gc_3⟩ := uv_3
      obtain ⟨hp_3, hzc_3, hgc_3⟩ := hp_3
      replace w : wd D A s.heap (xw cy a zc_3 gc_3) H locs := w
      replace hzc_3 : xBz zc_3 := hzc_3
      replace hgc_3 : xBg gc_3 := hgc_3
      try dsimp only at hp_3
      exact hend (zc_3, gc_3) _ _ _ _ dX5_readLoss_59 w ⟨(by first | (rw [losF_2 ht_1 (et.trans c4) (hp_2.elim (fun h => h.2) (fun h => absurd h.1 (by omega)))]; refine ⟨frmX_t hp_3.1 (by repeat (first | assumption | exact frA_0 _ | refine frA_u ?_ (by decide) (by decide))) (frG_0 _) (by show z 10 ≤ e_1; omega), fin_g hp_3.2 rfl rfl rfl rfl ?_ FRX_9⟩; rw [show rv_2 = 1 by omega]; exact FRX_9) | (rw [losF_3 ht_1 (et.trans c4) (hp_2.elim (fun h => absurd h.1 (by omega)) (fun h => h.2)) (hp_4.elim (fun h => h.2) (fun h => absurd h.1 (by omega)))]; refine ⟨frmX_t hp_5.1 (by repeat (first | assumption | exact frA_0 _ | refine frA_u ?_ (by decide) (by decide))) (frG_0 _) (by show z 10 ≤ e_1; omega), fin_g hp_5.2 rfl rfl rfl rfl ?_ FRX_9⟩; rw [show rv_2 = 0 by omega]; exact FRX_9)), hzc_3, hgc_3⟩
    · skip
      refine lv_aload_n hx hb dX5_readLoss_33 rfl (lv_at hl 1 rfl) ?_
      refine va_ldcS hx hb C.2.2.2.1 (hE.2.2.2.1 5 (by decide)) dX5_readLoss_34 ?_
      refine cVIE C w hA hE (ct_X5_isWord l D cy a (uZ (uZ (uZ (uZ z 7 1) 9 s_1) 10 e_1) 8 k_1) g ad (i := 5) (by decide) (xBz_u (xBz_u (xBz_u (xBz_u hz 7 bz2) 9 bs_1) 10 be_1) 8 bk_1) hg (by show 0 ≤ s_1 ∧ s_1 ≤ e_1 ∧ e_1 ≤ (z 2); omega)) ok_X5_isWord km_X5_63 ⟨rfl, rfl⟩ ⟨by decide, by decide⟩ ⟨by decide, by decide⟩ rfl 6 rfl rfl hl.1 rfl (Nat.le_of_ble_eq_true rfl) dX5_readLoss_36 (fun rv_4 uv_4 H locs w hp_4 => ?_)
      replace hp_4 : (rv_4 = 1 ∧ k_1 = 1 ∧ isW (bt (g 2) (z 2)) s_1 e_1 5) ∨ (rv_4 = 0 ∧ ¬ (k_1 = 1 ∧ isW (bt (g 2) (z 2)) s_1 e_1 5)) := hp_4
      replace w : wd D A s.heap (xw cy a (uZ (uZ (uZ (uZ z 7 1) 9 s_1) 10 e_1) 8 k_1) g) H locs := w
      have hw_4 : rv_4 = 0 ∨ rv_4 = 1 := hp_4.elim (fun h => Or.inr h.1) (fun h => Or.inl h.1)
      refine r_if_ne (tgt := 47) hx hb dX5_readLoss_39 (by decide) (by omega) (fun c39 => ?_) (fun c39 => ?_)
      · skip
        refine lv_aload_n hx hb dX5_readLoss_47 rfl (lv_at hl 1 rfl) ?_
        refine r_get C w 6 (v := .ref (a 7)) rfl rfl 1 (by decide) inX5 kf_X5_12 rfl dX5_readLoss_48 ?_
        refine lv_iload_n hx hb dX5_readLoss_51 rfl (lv_at hl 0 rfl) ?_
        refine r_putN C w 7 tyX6 tyX6_ok nmX6 rfl rfl 3 (by decide) inX6 kt_X5_108 rfl (nb01 (by omega)) (fb01 (by omega)) (Nat.le_of_ble_eq_true rfl) (ws' := xw cy a (uZ (uZ (uZ (uZ (uZ z 7 1) 9 s_1) 10 e_1) 8 k_1) 14 rv_2) g) (xw_z14 cy a (uZ (uZ (uZ (uZ z 7 1) 9 s_1) 10 e_1) 8 k_1) g rv_2) dX5_readLoss_52 (fun H locs w => ?_)
        have bz4 : (0 : Int) ≤ rv_2 ∧ (rv_2 : Int) ≤ 1 := (by omega)
        refine lv_aload_n hx hb dX5_readLoss_55 rfl (lv_at hl 1 rfl) ?_
        refine cVV C w hA (ct_X5_finishRule l D cy a (uZ (uZ (uZ (uZ (uZ z 7 1) 9 s_1) 10 e_1) 8 k_1) 14 rv_2) g  (xBz_u (xBz_u (xBz_u (xBz_u (xBz_u hz 7 bz2) 9 bs_1) 10 be_1) 8 bk_1) 14 bz4) hg (by show (z 15) < e_1 ∧ e_1 ≤ (z 2); omega) (by show (z 11) = 0; omega)) ok_X5_finishRule km_X5_99 ⟨rfl, rfl⟩ ⟨by decide, by decide⟩ ⟨by decide, by decide⟩ rfl 6 rfl rfl hl.1 rfl (Nat.le_of_ble_eq_true rfl) dX5_readLoss_56 (fun uv_5 H locs w hp_5 => ?_)
        obtain ⟨zc_5, gc_5⟩ := uv_5
        obtain ⟨hp_5, hzc_5, hgc_5⟩ := hp_5
        replace w : wd D A s.heap (xw cy a zc_5 gc_5) H locs := w
        replace hzc_5 : xBz zc_5 := hzc_5
        replace hgc_5 : xBg gc_5 := hgc_5
        try dsimp only at hp_5
        exact hend (zc_5, gc_5) _ _ _ _ dX5_readLoss_59 w ⟨(by first | (rw [losF_2 ht_1 (et.trans c4) (hp_2.elim (fun h => h.2) (fun h => absurd h.1 (by omega)))]; refine ⟨frmX_t hp_3.1 (by repeat (first | assumption | exact frA_0 _ | refine frA_u ?_ (by decide) (by decide))) (frG_0 _) (by show z 10 ≤ e_1; omega), fin_g hp_3.2 rfl rfl rfl rfl ?_ FRX_9⟩; rw [show rv_2 = 1 by omega]; exact FRX_9) | (rw [losF_3 ht_1 (et.trans c4) (hp_2.elim (fun h => absurd h.1 (by omega)) (fun h => h.2)) (hp_4.elim (fun h => h.2) (fun h => absurd h.1 (by omega)))]; refine ⟨frmX_t hp_5.1 (by repeat (first | assumption | exact frA_0 _ | refine frA_u ?_ (by decide) (by decide))) (frG_0 _) (by show z 10 ≤ e_1; omega), fin_g hp_5.2 rfl rfl rfl rfl ?_ FRX_9⟩; rw [show rv_2 = 0 by omega]; exact FRX_9)), hzc_5, hgc_5⟩
      · skip
        refine lv_aload_n hx hb dX5_readLoss_42 rfl (lv_at hl 1 rfl) ?_
        refine cVV C w hA (ct_X5_refuseToken l D cy a (uZ (uZ (uZ (uZ z 7 1) 9 s_1) 10 e_1) 8 k_1) g  (xBz_u (xBz_u (xBz_u (xBz_u hz 7 bz2) 9 bs_1) 10 be_1) 8 bk_1) hg) ok_X5_refuseToken km_X5_88 ⟨rfl, rfl⟩ ⟨by decide, by decide⟩ ⟨by decide, by decide⟩ rfl 6 rfl rfl hl.1 rfl (Nat.le_of_ble_eq_true rfl) dX5_readLoss_43 (fun uv_6 H locs w hp_6 => ?_)
        obtain ⟨zc_6, gc_6⟩ := uv_6
        have hzr_6 := hp_6.2.1
        obtain ⟨hp_6, -, -⟩ := hp_6
        obtain ⟨ea_6, eb_6⟩ := Prod.mk.inj hp_6
        subst ea_6
        replace eb_6 := eb_6.symm
        subst eb_6
        have bz5 : (0 : Int) ≤ (ct k_1) ∧ ((ct k_1) : Int) ≤ 4 := hzr_6 11 (by decide)
        have bz6 : (0 : Int) ≤ s_1 ∧ (s_1 : Int) ≤ 200 := hzr_6 12 (by decide)
        replace w : wd D A s.heap (xw cy a (uZ (uZ (uZ (uZ (uZ (uZ z 7 1) 9 s_1) 10 e_1) 8 k_1) 11 (ct k_1)) 12 s_1) g) H locs := w
        exact hend ((uZ (uZ (uZ (uZ (uZ (uZ z 7 1) 9 s_1) 10 e_1) 8 k_1) 11 (ct k_1)) 12 s_1), g) _ _ _ _ dX5_readLoss_46 w ⟨(by rw [losF_4 ht_1 (et.trans c4) (hp_2.elim (fun h => absurd h.1 (by omega)) (fun h => h.2)) (hp_4.elim (fun h => absurd h.1 (by omega)) (fun h => h.2))]; exact ⟨⟨(by repeat (first | assumption | exact frA_0 _ | refine frA_u ?_ (by decide) (by decide))), frG_0 _, by show z 10 ≤ e_1; omega, by show e_1 ≤ z 2; omega⟩, rfl, rfl, (ct_b _).1⟩), (xBz_u (xBz_u (xBz_u (xBz_u (xBz_u (xBz_u hz 7 bz2) 9 bs_1) 10 be_1) 8 bk_1) 11 bz5) 12 bz6), hg⟩
  · skip
    refine lv_aload_n hx hb dX5_readLoss_7 rfl (lv_at hl 0 rfl) ?_
    refine r_iconst hx hb dX5_readLoss_8 ?_
    refine cVV C w hA (ct_X5_refuse l D cy a z g 4 hz hg (by show 1 ≤ 4 ∧ 4 ≤ 4; omega)) ok_X5_refuse km_X5_95 ⟨rfl, rfl⟩ ⟨by decide, by decide⟩ ⟨by decide, by decide⟩ rfl 6 rfl rfl hl.1 rfl (Nat.le_of_ble_eq_true rfl) dX5_readLoss_9 (fun uv_7 H locs w hp_7 => ?_)
    obtain ⟨zc_7, gc_7⟩ := uv_7
    have hzr_7 := hp_7.2.1
    obtain ⟨hp_7, -, -⟩ := hp_7
    obtain ⟨ea_7, eb_7⟩ := Prod.mk.inj hp_7
    subst ea_7
    replace eb_7 := eb_7.symm
    subst eb_7
    have bz7 : (0 : Int) ≤ 4 ∧ (4 : Int) ≤ 4 := hzr_7 11 (by decide)
    have bz8 : (0 : Int) ≤ (z 9) ∧ ((z 9) : Int) ≤ 200 := hzr_7 12 (by decide)
    replace w : wd D A s.heap (xw cy a (uZ (uZ z 11 4) 12 (z 9)) g) H locs := w
    exact hend ((uZ (uZ z 11 4) 12 (z 9)), g) _ _ _ _ dX5_readLoss_12 w ⟨(by unfold losF; rw [if_pos (by rw [et]; exact c4)]; exact ⟨⟨(by repeat (first | assumption | exact frA_0 _ | refine frA_u ?_ (by decide) (by decide))), frG_0 _, Int.le_refl _, h10.2⟩, rfl, rfl, (by decide : (1 : Int) ≤ 4)⟩), (xBz_u (xBz_u hz 11 bz7) 12 bz8), hg⟩

abbrev rm_X5_readRule : Room := { frames := 6, cells := 0, slots := 0, locals := 128 }
set_option maxHeartbeats 4000000 in
set_option maxRecDepth 100000 in
theorem ct_X5_readRule (l : Launch) (D : va_G) (cy : Nat → ClassId) (a : Nat → Nat) (z : Nat → Int) (g : Nat → Int → Int) (ad : Nat → Nat)  (hz : xBz z) (hg : xBg g) (h10 : z 15 < z 10 ∧ z 10 ≤ z 2) (h11 : z 11 = 0) (h9 : z 9 ≤ z 10) : MVE l yX5_readRule cX5_readRule 1 (rm_X5_readRule) D cy ad (xw cy a z g) [.ref (a 6)] (fun (u : sX) => (frmX z g u ∧ resX z u (rulF (bt (g 2) (z 2)) (z 2) (fdX z g) (tlX z g) (z 9) (z 10) (z 8))) ∧ xBz u.1 ∧ xBg u.2) (fun u => xw cy a u.1 u.2) 0 0 := by
  refine go_vE (by decide +kernel) (Nat.le_of_ble_eq_true rfl) ?_
  intro p e s m args below meth c Q A ls C hE hnm hA w hl hend
  have hx := C.1
  have hb := C.2.1
  have b2_ := xZ2 hz
  have b9_ := xZ9 hz
  have b10_ := xZ10 hz
  replace hl : lv_has ls 1 [(0, .ref (a 6))] := hl
  refine lv_aload_n hx hb dX5_readRule_0 rfl (lv_at hl 0 rfl) ?_
  refine va_ldcS hx hb C.2.2.2.1 (hE.2.2.2.1 0 (by decide)) dX5_readRule_1 ?_
  refine cVIE C w hA hE (ct_X5_isWord l D cy a z g ad (i := 0) (by decide) hz hg (by show 0 ≤ (z 9) ∧ (z 9) ≤ (z 10) ∧ (z 10) ≤ (z 2); omega)) ok_X5_isWord km_X5_63 ⟨rfl, rfl⟩ ⟨by decide, by decide⟩ ⟨by decide, by decide⟩ rfl 6 rfl rfl hl.1 rfl (Nat.le_of_ble_eq_true rfl) dX5_readRule_3 (fun rv_1 uv_1 H locs w hp_1 => ?_)
  replace hp_1 : (rv_1 = 1 ∧ (z 8) = 1 ∧ isW (bt (g 2) (z 2)) (z 9) (z 10) 0) ∨ (rv_1 = 0 ∧ ¬ ((z 8) = 1 ∧ isW (bt (g 2) (z 2)) (z 9) (z 10) 0)) := hp_1
  replace w : wd D A s.heap (xw cy a z g) H locs := w
  have hw_1 : rv_1 = 0 ∨ rv_1 = 1 := hp_1.elim (fun h => Or.inr h.1) (fun h => Or.inl h.1)
  refine r_if_eq (tgt := 30) hx hb dX5_readRule_6 (by decide) (by omega) (fun c6 => ?_) (fun c6 => ?_)
  · skip
    refine lv_aload_n hx hb dX5_readRule_30 rfl (lv_at hl 0 rfl) ?_
    refine va_ldcS hx hb C.2.2.2.1 (hE.2.2.2.1 1 (by decide)) dX5_readRule_31 ?_
    refine cVIE C w hA hE (ct_X5_isWord l D cy a z g ad (i := 1) (by decide) hz hg (by show 0 ≤ (z 9) ∧ (z 9) ≤ (z 10) ∧ (z 10) ≤ (z 2); omega)) ok_X5_isWord km_X5_63 ⟨rfl, rfl⟩ ⟨by decide, by decide⟩ ⟨by decide, by decide⟩ rfl 6 rfl rfl hl.1 rfl (Nat.le_of_ble_eq_true rfl) dX5_readRule_33 (fun rv_2 uv_2 H locs w hp_2 => ?_)
    replace hp_2 : (rv_2 = 1 ∧ (z 8) = 1 ∧ isW (bt (g 2) (z 2)) (z 9) (z 10) 1) ∨ (rv_2 = 0 ∧ ¬ ((z 8) = 1 ∧ isW (bt (g 2) (z 2)) (z 9) (z 10) 1)) := hp_2
    replace w : wd D A s.heap (xw cy a z g) H locs := w
    have hw_2 : rv_2 = 0 ∨ rv_2 = 1 := hp_2.elim (fun h => Or.inr h.1) (fun h => Or.inl h.1)
    refine r_if_eq (tgt := 59) hx hb dX5_readRule_36 (by decide) (by omega) (fun c36 => ?_) (fun c36 => ?_)
    · skip
      refine lv_aload_n hx hb dX5_readRule_59 rfl (lv_at hl 0 rfl) ?_
      refine va_ldcS hx hb C.2.2.2.1 (hE.2.2.2.1 2 (by decide)) dX5_readRule_60 ?_
      refine cVIE C w hA hE (ct_X5_isWord l D cy a z g ad (i := 2) (by decide) hz hg (by show 0 ≤ (z 9) ∧ (z 9) ≤ (z 10) ∧ (z 10) ≤ (z 2); omega)) ok_X5_isWord km_X5_63 ⟨rfl, rfl⟩ ⟨by decide, by decide⟩ ⟨by decide, by decide⟩ rfl 6 rfl rfl hl.1 rfl (Nat.le_of_ble_eq_true rfl) dX5_readRule_62 (fun rv_3 uv_3 H locs w hp_3 => ?_)
      replace hp_3 : (rv_3 = 1 ∧ (z 8) = 1 ∧ isW (bt (g 2) (z 2)) (z 9) (z 10) 2) ∨ (rv_3 = 0 ∧ ¬ ((z 8) = 1 ∧ isW (bt (g 2) (z 2)) (z 9) (z 10) 2)) := hp_3
      replace w : wd D A s.heap (xw cy a z g) H locs := w
      have hw_3 : rv_3 = 0 ∨ rv_3 = 1 := hp_3.elim (fun h => Or.inr h.1) (fun h => Or.inl h.1)
      refine r_if_eq (tgt := 75) hx hb dX5_readRule_65 (by decide) (by omega) (fun c65 => ?_) (fun c65 => ?_)
      · skip
        refine lv_aload_n hx hb dX5_readRule_75 rfl (lv_at hl 0 rfl) ?_
        refine va_ldcS hx hb C.2.2.2.1 (hE.2.2.2.1 3 (by decide)) dX5_readRule_76 ?_
        refine cVIE C w hA hE (ct_X5_isWord l D cy a z g ad (i := 3) (by decide) hz hg (by show 0 ≤ (z 9) ∧ (z 9) ≤ (z 10) ∧ (z 10) ≤ (z 2); omega)) ok_X5_isWord km_X5_63 ⟨rfl, rfl⟩ ⟨by decide, by decide⟩ ⟨by decide, by decide⟩ rfl 6 rfl rfl hl.1 rfl (Nat.le_of_ble_eq_true rfl) dX5_readRule_78 (fun rv_4 uv_4 H locs w hp_4 => ?_)
        replace hp_4 : (rv_4 = 1 ∧ (z 8) = 1 ∧ isW (bt (g 2) (z 2)) (z 9) (z 10) 3) ∨ (rv_4 = 0 ∧ ¬ ((z 8) = 1 ∧ isW (bt (g 2) (z 2)) (z 9) (z 10) 3)) := hp_4
        replace w : wd D A s.heap (xw cy a z g) H locs := w
        have hw_4 : rv_4 = 0 ∨ rv_4 = 1 := hp_4.elim (fun h => Or.inr h.1) (fun h => Or.inl h.1)
        refine r_if_eq (tgt := 91) hx hb dX5_readRule_81 (by decide) (by omega) (fun c81 => ?_) (fun c81 => ?_)
        · skip
          refine lv_aload_n hx hb dX5_readRule_91 rfl (lv_at hl 0 rfl) ?_
          refine cVV C w hA (ct_X5_refuseToken l D cy a z g  hz hg) ok_X5_refuseToken km_X5_88 ⟨rfl, rfl⟩ ⟨by decide, by decide⟩ ⟨by decide, by decide⟩ rfl 6 rfl rfl hl.1 rfl (Nat.le_of_ble_eq_true rfl) dX5_readRule_92 (fun uv_5 H locs w hp_5 => ?_)
          obtain ⟨zc_5, gc_5⟩ := uv_5
          have hzr_5 := hp_5.2.1
          obtain ⟨hp_5, -, -⟩ := hp_5
          obtain ⟨ea_5, eb_5⟩ := Prod.mk.inj hp_5
          subst ea_5
          replace eb_5 := eb_5.symm
          subst eb_5
          have bz1 : (0 : Int) ≤ (ct (z 8)) ∧ ((ct (z 8)) : Int) ≤ 4 := hzr_5 11 (by decide)
          have bz2 : (0 : Int) ≤ (z 9) ∧ ((z 9) : Int) ≤ 200 := hzr_5 12 (by decide)
          replace w : wd D A s.heap (xw cy a (uZ (uZ z 11 (ct (z 8))) 12 (z 9)) g) H locs := w
          exact hend ((uZ (uZ z 11 (ct (z 8))) 12 (z 9)), g) _ _ _ _ dX5_readRule_95 w ⟨(by first | (rw [rulF_0 (hp_1.elim (fun h => h.2) (fun h => absurd h.1 (by omega)))]; exact hp_9) | (rw [rulF_1 (hp_1.elim (fun h => absurd h.1 (by omega)) (fun h => h.2)) (hp_2.elim (fun h => h.2) (fun h => absurd h.1 (by omega)))]; exact hp_8) | (rw [rulF_2 (hp_1.elim (fun h => absurd h.1 (by omega)) (fun h => h.2)) (hp_2.elim (fun h => absurd h.1 (by omega)) (fun h => h.2)) (hp_3.elim (fun h => h.2) (fun h => absurd h.1 (by omega)))]; exact hp_7) | (rw [rulF_3 (hp_1.elim (fun h => absurd h.1 (by omega)) (fun h => h.2)) (hp_2.elim (fun h => absurd h.1 (by omega)) (fun h => h.2)) (hp_3.elim (fun h => absurd h.1 (by omega)) (fun h => h.2)) (hp_4.elim (fun h => h.2) (fun h => absurd h.1 (by omega)))]; exact hp_6) | (rw [rulF_4 (hp_1.elim (fun h => absurd h.1 (by omega)) (fun h => h.2)) (hp_2.elim (fun h => absurd h.1 (by omega)) (fun h => h.2)) (hp_3.elim (fun h => absurd h.1 (by omega)) (fun h => h.2)) (hp_4.elim (fun h => absurd h.1 (by omega)) (fun h => h.2))]; exact ⟨⟨(by repeat (first | assumption | exact frA_0 _ | refine frA_u ?_ (by decide) (by decide))), frG_0 _, Int.le_refl _, h10.2⟩, rfl, rfl, (ct_b _).1⟩)), (xBz_u (xBz_u hz 11 bz1) 12 bz2), hg⟩
        · skip
          refine lv_aload_n hx hb dX5_readRule_84 rfl (lv_at hl 0 rfl) ?_
          refine cVVE C w hA hE (ct_X5_readLoss l D cy a z g ad  hz hg (by show (z 15) < (z 10) ∧ (z 10) ≤ (z 2); omega) (by show (z 11) = 0; omega) (by show (z 9) ≤ (z 10); omega)) ok_X5_readLoss km_X5_85 ⟨rfl, rfl⟩ ⟨by decide, by decide⟩ ⟨by decide, by decide⟩ rfl 6 rfl rfl hl.1 rfl (Nat.le_of_ble_eq_true rfl) dX5_readRule_85 (fun uv_6 H locs w hp_6 => ?_)
          obtain ⟨zc_6, gc_6⟩ := uv_6
          obtain ⟨hp_6, hzc_6, hgc_6⟩ := hp_6
          replace w : wd D A s.heap (xw cy a zc_6 gc_6) H locs := w
          replace hzc_6 : xBz zc_6 := hzc_6
          replace hgc_6 : xBg gc_6 := hgc_6
          try dsimp only at hp_6
          refine lv_goto (tgt := 95) hx hb dX5_readRule_88 (by decide) ?_
          exact hend (zc_6, gc_6) _ _ _ _ dX5_readRule_95 w ⟨(by first | (rw [rulF_0 (hp_1.elim (fun h => h.2) (fun h => absurd h.1 (by omega)))]; exact hp_9) | (rw [rulF_1 (hp_1.elim (fun h => absurd h.1 (by omega)) (fun h => h.2)) (hp_2.elim (fun h => h.2) (fun h => absurd h.1 (by omega)))]; exact hp_8) | (rw [rulF_2 (hp_1.elim (fun h => absurd h.1 (by omega)) (fun h => h.2)) (hp_2.elim (fun h => absurd h.1 (by omega)) (fun h => h.2)) (hp_3.elim (fun h => h.2) (fun h => absurd h.1 (by omega)))]; exact hp_7) | (rw [rulF_3 (hp_1.elim (fun h => absurd h.1 (by omega)) (fun h => h.2)) (hp_2.elim (fun h => absurd h.1 (by omega)) (fun h => h.2)) (hp_3.elim (fun h => absurd h.1 (by omega)) (fun h => h.2)) (hp_4.elim (fun h => h.2) (fun h => absurd h.1 (by omega)))]; exact hp_6) | (rw [rulF_4 (hp_1.elim (fun h => absurd h.1 (by omega)) (fun h => h.2)) (hp_2.elim (fun h => absurd h.1 (by omega)) (fun h => h.2)) (hp_3.elim (fun h => absurd h.1 (by omega)) (fun h => h.2)) (hp_4.elim (fun h => absurd h.1 (by omega)) (fun h => h.2))]; exact ⟨⟨(by repeat (first | assumption | exact frA_0 _ | refine frA_u ?_ (by decide) (by decide))), frG_0 _, Int.le_refl _, h10.2⟩, rfl, rfl, (ct_b _).1⟩)), hzc_6, hgc_6⟩
      · skip
        refine lv_aload_n hx hb dX5_readRule_68 rfl (lv_at hl 0 rfl) ?_
        refine cVV C w hA (ct_X5_readRot l D cy a z g  hz hg (by show (z 15) < (z 10) ∧ (z 10) ≤ (z 2); omega) (by show (z 11) = 0; omega)) ok_X5_readRot km_X5_80 ⟨rfl, rfl⟩ ⟨by decide, by decide⟩ ⟨by decide, by decide⟩ rfl 6 rfl rfl hl.1 rfl (Nat.le_of_ble_eq_true rfl) dX5_readRule_69 (fun uv_7 H locs w hp_7 => ?_)
        obtain ⟨zc_7, gc_7⟩ := uv_7
        obtain ⟨hp_7, hzc_7, hgc_7⟩ := hp_7
        replace w : wd D A s.heap (xw cy a zc_7 gc_7) H locs := w
        replace hzc_7 : xBz zc_7 := hzc_7
        replace hgc_7 : xBg gc_7 := hgc_7
        try dsimp only at hp_7
        refine lv_goto (tgt := 95) hx hb dX5_readRule_72 (by decide) ?_
        exact hend (zc_7, gc_7) _ _ _ _ dX5_readRule_95 w ⟨(by first | (rw [rulF_0 (hp_1.elim (fun h => h.2) (fun h => absurd h.1 (by omega)))]; exact hp_9) | (rw [rulF_1 (hp_1.elim (fun h => absurd h.1 (by omega)) (fun h => h.2)) (hp_2.elim (fun h => h.2) (fun h => absurd h.1 (by omega)))]; exact hp_8) | (rw [rulF_2 (hp_1.elim (fun h => absurd h.1 (by omega)) (fun h => h.2)) (hp_2.elim (fun h => absurd h.1 (by omega)) (fun h => h.2)) (hp_3.elim (fun h => h.2) (fun h => absurd h.1 (by omega)))]; exact hp_7) | (rw [rulF_3 (hp_1.elim (fun h => absurd h.1 (by omega)) (fun h => h.2)) (hp_2.elim (fun h => absurd h.1 (by omega)) (fun h => h.2)) (hp_3.elim (fun h => absurd h.1 (by omega)) (fun h => h.2)) (hp_4.elim (fun h => h.2) (fun h => absurd h.1 (by omega)))]; exact hp_6) | (rw [rulF_4 (hp_1.elim (fun h => absurd h.1 (by omega)) (fun h => h.2)) (hp_2.elim (fun h => absurd h.1 (by omega)) (fun h => h.2)) (hp_3.elim (fun h => absurd h.1 (by omega)) (fun h => h.2)) (hp_4.elim (fun h => absurd h.1 (by omega)) (fun h => h.2))]; exact ⟨⟨(by repeat (first | assumption | exact frA_0 _ | refine frA_u ?_ (by decide) (by decide))), frG_0 _, Int.le_refl _, h10.2⟩, rfl, rfl, (ct_b _).1⟩)), hzc_7, hgc_7⟩
    · skip
      refine lv_aload_n hx hb dX5_readRule_39 rfl (lv_at hl 0 rfl) ?_
      refine lv_aload_n hx hb dX5_readRule_40 rfl (lv_at hl 0 rfl) ?_
      refine r_get C w 6 (v := .ref (a 7)) rfl rfl 1 (by decide) inX5 kf_X5_12 rfl dX5_readRule_41 ?_
      refine r_getN C w 7 (v := .ref (a 9)) rfl rfl 1 (by decide) inX6 kt_X5_76 rfl dX5_readRule_44 ?_
      refine lv_aload_n hx hb dX5_readRule_47 rfl (lv_at hl 0 rfl) ?_
      refine r_get C w 6 (v := .ref (a 11)) rfl rfl 3 (by decide) inX5 kf_X5_22 rfl dX5_readRule_48 ?_
      refine r_bipush hx hb dX5_readRule_51 (by decide) ?_
      refine cVV C w hA (ct_X5_readByGrade_4 l D cy a z g 100 hz hg (by show (z 15) < (z 10) ∧ (z 10) ≤ (z 2); omega) (by show (z 11) = 0; omega) (by show 0 ≤ 100 ∧ 100 ≤ 100; omega)) ok_X5_readByGrade km_X5_70 ⟨rfl, rfl⟩ ⟨by decide, by decide⟩ ⟨by decide, by decide⟩ rfl 6 rfl rfl hl.1 rfl (Nat.le_of_ble_eq_true rfl) dX5_readRule_53 (fun uv_8 H locs w hp_8 => ?_)
      obtain ⟨zc_8, gc_8⟩ := uv_8
      obtain ⟨hp_8, hzc_8, hgc_8⟩ := hp_8
      replace w : wd D A s.heap (xw cy a zc_8 gc_8) H locs := w
      replace hzc_8 : xBz zc_8 := hzc_8
      replace hgc_8 : xBg gc_8 := hgc_8
      try dsimp only at hp_8
      refine lv_goto (tgt := 95) hx hb dX5_readRule_56 (by decide) ?_
      exact hend (zc_8, gc_8) _ _ _ _ dX5_readRule_95 w ⟨(by first | (rw [rulF_0 (hp_1.elim (fun h => h.2) (fun h => absurd h.1 (by omega)))]; exact hp_9) | (rw [rulF_1 (hp_1.elim (fun h => absurd h.1 (by omega)) (fun h => h.2)) (hp_2.elim (fun h => h.2) (fun h => absurd h.1 (by omega)))]; exact hp_8) | (rw [rulF_2 (hp_1.elim (fun h => absurd h.1 (by omega)) (fun h => h.2)) (hp_2.elim (fun h => absurd h.1 (by omega)) (fun h => h.2)) (hp_3.elim (fun h => h.2) (fun h => absurd h.1 (by omega)))]; exact hp_7) | (rw [rulF_3 (hp_1.elim (fun h => absurd h.1 (by omega)) (fun h => h.2)) (hp_2.elim (fun h => absurd h.1 (by omega)) (fun h => h.2)) (hp_3.elim (fun h => absurd h.1 (by omega)) (fun h => h.2)) (hp_4.elim (fun h => h.2) (fun h => absurd h.1 (by omega)))]; exact hp_6) | (rw [rulF_4 (hp_1.elim (fun h => absurd h.1 (by omega)) (fun h => h.2)) (hp_2.elim (fun h => absurd h.1 (by omega)) (fun h => h.2)) (hp_3.elim (fun h => absurd h.1 (by omega)) (fun h => h.2)) (hp_4.elim (fun h => absurd h.1 (by omega)) (fun h => h.2))]; exact ⟨⟨(by repeat (first | assumption | exact frA_0 _ | refine frA_u ?_ (by decide) (by decide))), frG_0 _, Int.le_refl _, h10.2⟩, rfl, rfl, (ct_b _).1⟩)), hzc_8, hgc_8⟩
  · skip
    refine lv_aload_n hx hb dX5_readRule_9 rfl (lv_at hl 0 rfl) ?_
    refine lv_aload_n hx hb dX5_readRule_10 rfl (lv_at hl 0 rfl) ?_
    refine r_get C w 6 (v := .ref (a 7)) rfl rfl 1 (by decide) inX5 kf_X5_12 rfl dX5_readRule_11 ?_
    refine r_getN C w 7 (v := .ref (a 8)) rfl rfl 0 (by decide) inX6 kt_X5_67 rfl dX5_readRule_14 ?_
    refine lv_aload_n hx hb dX5_readRule_17 rfl (lv_at hl 0 rfl) ?_
    refine r_get C w 6 (v := .ref (a 10)) rfl rfl 2 (by decide) inX5 kf_X5_18 rfl dX5_readRule_18 ?_
    refine r_sipush hx hb dX5_readRule_21 (by decide) ?_
    refine cVV C w hA (ct_X5_readByGrade_0 l D cy a z g 9999 hz hg (by show (z 15) < (z 10) ∧ (z 10) ≤ (z 2); omega) (by show (z 11) = 0; omega) (by show 0 ≤ 9999 ∧ 9999 ≤ 9999; omega)) ok_X5_readByGrade km_X5_70 ⟨rfl, rfl⟩ ⟨by decide, by decide⟩ ⟨by decide, by decide⟩ rfl 6 rfl rfl hl.1 rfl (Nat.le_of_ble_eq_true rfl) dX5_readRule_24 (fun uv_9 H locs w hp_9 => ?_)
    obtain ⟨zc_9, gc_9⟩ := uv_9
    obtain ⟨hp_9, hzc_9, hgc_9⟩ := hp_9
    replace w : wd D A s.heap (xw cy a zc_9 gc_9) H locs := w
    replace hzc_9 : xBz zc_9 := hzc_9
    replace hgc_9 : xBg gc_9 := hgc_9
    try dsimp only at hp_9
    refine lv_goto (tgt := 95) hx hb dX5_readRule_27 (by decide) ?_
    exact hend (zc_9, gc_9) _ _ _ _ dX5_readRule_95 w ⟨(by first | (rw [rulF_0 (hp_1.elim (fun h => h.2) (fun h => absurd h.1 (by omega)))]; exact hp_9) | (rw [rulF_1 (hp_1.elim (fun h => absurd h.1 (by omega)) (fun h => h.2)) (hp_2.elim (fun h => h.2) (fun h => absurd h.1 (by omega)))]; exact hp_8) | (rw [rulF_2 (hp_1.elim (fun h => absurd h.1 (by omega)) (fun h => h.2)) (hp_2.elim (fun h => absurd h.1 (by omega)) (fun h => h.2)) (hp_3.elim (fun h => h.2) (fun h => absurd h.1 (by omega)))]; exact hp_7) | (rw [rulF_3 (hp_1.elim (fun h => absurd h.1 (by omega)) (fun h => h.2)) (hp_2.elim (fun h => absurd h.1 (by omega)) (fun h => h.2)) (hp_3.elim (fun h => absurd h.1 (by omega)) (fun h => h.2)) (hp_4.elim (fun h => h.2) (fun h => absurd h.1 (by omega)))]; exact hp_6) | (rw [rulF_4 (hp_1.elim (fun h => absurd h.1 (by omega)) (fun h => h.2)) (hp_2.elim (fun h => absurd h.1 (by omega)) (fun h => h.2)) (hp_3.elim (fun h => absurd h.1 (by omega)) (fun h => h.2)) (hp_4.elim (fun h => absurd h.1 (by omega)) (fun h => h.2))]; exact ⟨⟨(by repeat (first | assumption | exact frA_0 _ | refine frA_u ?_ (by decide) (by decide))), frG_0 _, Int.le_refl _, h10.2⟩, rfl, rfl, (ct_b _).1⟩)), hzc_9, hgc_9⟩

