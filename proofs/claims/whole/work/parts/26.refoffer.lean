abbrev plM (g : Nat → Int → Int) (k b : Int) : Int := 16 * b + 4 * g 9 k + g 7 k
abbrev bdM (g : Nat → Int → Int) (k b : Int) : Prop := g 8 k ≤ g 14 (plM g k b) ∧ 1 ≤ g 15 (plM g k b) ∧ g 2 (0 + g 7 k) ≤ g 15 (plM g k b) ∧ g 15 (plM g k b) * g 8 k ≤ g 13 b
def lmM (g : Nat → Int → Int) (k b : Int) : Int := if bdM g k b then g 15 (plM g k b) else 0
theorem lmM_0 {g : Nat → Int → Int} (hg : mBg g) (k b : Int) : 0 ≤ lmM g k b := by
  unfold lmM
  have := mB15 hg (plM g k b)
  split <;> omega
theorem lmM_1 {g : Nat → Int → Int} {k b : Int} (h : 0 < lmM g k b) : bdM g k b ∧ lmM g k b = g 15 (plM g k b) := by
  unfold lmM at *
  by_cases q : bdM g k b
  · exact ⟨q, if_pos q⟩
  · rw [if_neg q] at h
    omega
def prM (g : Nat → Int → Int) (k s : Int) : Int := mx (mx s (g 2 (0 + g 7 k))) 1
def sellM (z : Nat → Int) (g : Nat → Int → Int) (k w p : Int) : sX :=
  (uZ z 13 (z 13 + 1), uZ (uZ (uZ (uZ (uZ (uZ (uZ (uZ (uZ (uZ g 16 (uI (g 16) (z 13) k)) 17 (uI (g 17) (z 13) w)) 18 (uI (g 18) (z 13) (z 12))) 19 (uI (g 19) (z 13) (g 8 k))) 20 (uI (g 20) (z 13) p)) 21 (uI (g 21) (z 13) (-1))) 14 (uI (g 14) (plM g k w) (g 14 (plM g k w) - g 8 k))) 13 (uI (g 13) w (g 13 w - p * g 8 k))) 11 (uI (g 11) k 1)) 10 (uI (g 10) k (z 13)))
def offM (z : Nat → Int) (g : Nat → Int → Int) (k : Int) : sX := if 400 ≤ z 13 ∨ (bI (lmM g k) 10).1 < 0 then (z, g) else sellM z g k (bI (lmM g k) 10).1 (prM g k (bI (lmM g k) 10).2)
theorem pay_ok2 {b p L M : Int} (h0 : 0 ≤ b) (hp : 0 ≤ p) (h : p ≤ L) (hm : L * b ≤ M) : 0 ≤ p * b ∧ p * b ≤ M := by
  have := pay_ok h0 hp h hm
  rw [Int.mul_comm b p] at this
  exact this
abbrev rm_X10_bids : Room := { frames := 1, cells := 0, slots := 0, locals := 22 }
set_option maxHeartbeats 4000000 in
set_option maxRecDepth 100000 in
theorem ct_X10_bids (l : Launch) (D : va_G) (cy : Nat → ClassId) (a : Nat → Nat) (z : Nat → Int) (g : Nat → Int → Int) (p0 p1 : Int) (hz : mBz z) (hg : mBg g) (h0 : 0 ≤ p0 ∧ p0 < 10) (h1 : 0 ≤ p1 ∧ p1 < 100) : MI l yX10_bids cX10_bids 4 .boolean (rm_X10_bids) D cy (mw cy a z g) [.ref (a 0), vI p0, vI p1] (fun (v : Int) (u : Unit) => (v = 1 ∧ (g 8 p1 ≤ g 14 (16 * p0 + 4 * g 9 p1 + g 7 p1) ∧ 1 ≤ g 15 (16 * p0 + 4 * g 9 p1 + g 7 p1) ∧ g 2 (0 + g 7 p1) ≤ g 15 (16 * p0 + 4 * g 9 p1 + g 7 p1) ∧ g 15 (16 * p0 + 4 * g 9 p1 + g 7 p1) * g 8 p1 ≤ g 13 p0)) ∨ (v = 0 ∧ ¬ (g 8 p1 ≤ g 14 (16 * p0 + 4 * g 9 p1 + g 7 p1) ∧ 1 ≤ g 15 (16 * p0 + 4 * g 9 p1 + g 7 p1) ∧ g 2 (0 + g 7 p1) ≤ g 15 (16 * p0 + 4 * g 9 p1 + g 7 p1) ∧ g 15 (16 * p0 + 4 * g 9 p1 + g 7 p1) * g 8 p1 ≤ g 13 p0))) (fun _ => mw cy a z g) 0 0 := by
  refine go_i (by decide +kernel) (Nat.le_of_ble_eq_true rfl) (Or.inr (fun v u h => nb01 (by omega))) ?_
  intro p e s m args below meth c Q A ls C hnm hA w hl hend
  have hx := C.1
  have hb := C.2.1
  have q9 := mB9 hg p1
  have q7 := mB7 hg p1
  have q8 := mB8 hg p1
  have bm1 := mul_b (mB15 hg (16 * p0 + 4 * g 9 p1 + g 7 p1)) q8
  replace hl : lv_has ls 4 [(0, .ref (a 0)), (1, vI p0), (2, vI p1)] := hl
  refine lv_iload_n hx hb dX10_bids_0 rfl (lv_at hl 1 rfl) ?_
  refine lv_aload_n hx hb dX10_bids_1 rfl (lv_at hl 0 rfl) ?_
  refine r_get C w 0 (v := .ref (a 9)) rfl rfl 19 (by decide) inX10 kf_X10_36 rfl dX10_bids_2 ?_
  refine lv_iload_n hx hb dX10_bids_5 rfl (lv_at hl 2 rfl) ?_
  refine r_iald C w 9 (f := (g 9)) rfl (by omega) (by omega) (by decide) dX10_bids_6 ?_
  have qg1 := mB9 hg p1
  refine lv_aload_n hx hb dX10_bids_7 rfl (lv_at hl 0 rfl) ?_
  refine r_get C w 0 (v := .ref (a 7)) rfl rfl 17 (by decide) inX10 kf_X10_30 rfl dX10_bids_8 ?_
  refine lv_iload_n hx hb dX10_bids_11 rfl (lv_at hl 2 rfl) ?_
  refine r_iald C w 7 (f := (g 7)) rfl (by omega) (by omega) (by decide) dX10_bids_12 ?_
  have qg2 := mB7 hg p1
  refine cSI C w hA (ct_X10_place l D cy a z g p0 ((g 9) p1) ((g 7) p1) ) ok_X10_place km_X10_188 ⟨rfl, rfl⟩ ⟨by decide, by decide⟩ ⟨by decide, by decide⟩ rfl hl.1 rfl (Nat.le_of_ble_eq_true rfl) dX10_bids_13 (fun rv_1 uv_1 H locs w hp_1 => ?_)
  replace hp_1 : rv_1 = 16 * p0 + 4 * ((g 9) p1) + ((g 7) p1) := hp_1
  replace w : wd D A s.heap (mw cy a z g) H locs := w
  subst hp_1
  refine lv_istore_n (lv' := [(3, vI (16 * p0 + 4 * ((g 9) p1) + ((g 7) p1))), (0, .ref (a 0)), (1, vI p0), (2, vI p1)]) hx hb dX10_bids_16 rfl hl (by decide) rfl (fun ls hl => ?_)
  refine lv_aload_n hx hb dX10_bids_17 rfl (lv_at hl 1 rfl) ?_
  refine r_get C w 0 (v := .ref (a 14)) rfl rfl 26 (by decide) inX10 kf_X10_51 rfl dX10_bids_18 ?_
  refine lv_iload_n hx hb dX10_bids_21 rfl (lv_at hl 0 rfl) ?_
  refine r_iald C w 14 (f := (g 14)) rfl (by omega) (by omega) (by decide) dX10_bids_22 ?_
  have qg3 := mB14 hg (16 * p0 + 4 * ((g 9) p1) + ((g 7) p1))
  refine lv_aload_n hx hb dX10_bids_23 rfl (lv_at hl 1 rfl) ?_
  refine r_get C w 0 (v := .ref (a 8)) rfl rfl 18 (by decide) inX10 kf_X10_33 rfl dX10_bids_24 ?_
  refine lv_iload_n hx hb dX10_bids_27 rfl (lv_at hl 3 rfl) ?_
  refine r_iald C w 8 (f := (g 8)) rfl (by omega) (by omega) (by decide) dX10_bids_28 ?_
  have qg4 := mB8 hg p1
  refine r_icmp_lt (tgt := 94) hx hb dX10_bids_29 (by decide) (by omega) (by omega) (fun c29 => ?_) (fun c29 => ?_)
  · skip
    refine r_iconst hx hb dX10_bids_94 ?_
    exact hend 0 () _ _ _ _ dX10_bids_95 w (by omega)
  · skip
    refine lv_aload_n hx hb dX10_bids_32 rfl (lv_at hl 1 rfl) ?_
    refine r_get C w 0 (v := .ref (a 15)) rfl rfl 27 (by decide) inX10 kf_X10_54 rfl dX10_bids_33 ?_
    refine lv_iload_n hx hb dX10_bids_36 rfl (lv_at hl 0 rfl) ?_
    refine r_iald C w 15 (f := (g 15)) rfl (by omega) (by omega) (by decide) dX10_bids_37 ?_
    have qg5 := mB15 hg (16 * p0 + 4 * ((g 9) p1) + ((g 7) p1))
    refine r_iconst hx hb dX10_bids_38 ?_
    refine r_icmp_lt (tgt := 94) hx hb dX10_bids_39 (by decide) (by omega) (by omega) (fun c39 => ?_) (fun c39 => ?_)
    · skip
      refine r_iconst hx hb dX10_bids_94 ?_
      exact hend 0 () _ _ _ _ dX10_bids_95 w (by omega)
    · skip
      refine lv_aload_n hx hb dX10_bids_42 rfl (lv_at hl 1 rfl) ?_
      refine r_get C w 0 (v := .ref (a 15)) rfl rfl 27 (by decide) inX10 kf_X10_54 rfl dX10_bids_43 ?_
      refine lv_iload_n hx hb dX10_bids_46 rfl (lv_at hl 0 rfl) ?_
      refine r_iald C w 15 (f := (g 15)) rfl (by omega) (by omega) (by decide) dX10_bids_47 ?_
      have qg6 := mB15 hg (16 * p0 + 4 * ((g 9) p1) + ((g 7) p1))
      refine lv_aload_n hx hb dX10_bids_48 rfl (lv_at hl 1 rfl) ?_
      refine r_get C w 0 (v := .ref (a 2)) rfl rfl 5 (by decide) inX10 kf_X10_13 rfl dX10_bids_49 ?_
      refine r_iconst hx hb dX10_bids_52 ?_
      refine lv_aload_n hx hb dX10_bids_53 rfl (lv_at hl 1 rfl) ?_
      refine r_get C w 0 (v := .ref (a 7)) rfl rfl 17 (by decide) inX10 kf_X10_30 rfl dX10_bids_54 ?_
      refine lv_iload_n hx hb dX10_bids_57 rfl (lv_at hl 3 rfl) ?_
      refine r_iald C w 7 (f := (g 7)) rfl (by omega) (by omega) (by decide) dX10_bids_58 ?_
      have qg7 := mB7 hg p1
      refine r_iadd hx hb dX10_bids_59 ?_
      refine r_iald C w 2 (f := (g 2)) rfl (by omega) (by omega) (by decide) dX10_bids_60 ?_
      have qg8 := mB2 hg (0 + ((g 7) p1))
      refine r_icmp_lt (tgt := 94) hx hb dX10_bids_61 (by decide) (by omega) (by omega) (fun c61 => ?_) (fun c61 => ?_)
      · skip
        refine r_iconst hx hb dX10_bids_94 ?_
        exact hend 0 () _ _ _ _ dX10_bids_95 w (by omega)
      · skip
        refine lv_aload_n hx hb dX10_bids_64 rfl (lv_at hl 1 rfl) ?_
        refine r_get C w 0 (v := .ref (a 15)) rfl rfl 27 (by decide) inX10 kf_X10_54 rfl dX10_bids_65 ?_
        refine lv_iload_n hx hb dX10_bids_68 rfl (lv_at hl 0 rfl) ?_
        refine r_iald C w 15 (f := (g 15)) rfl (by omega) (by omega) (by decide) dX10_bids_69 ?_
        have qg9 := mB15 hg (16 * p0 + 4 * ((g 9) p1) + ((g 7) p1))
        refine r_i2l hx hb dX10_bids_70 (by omega) ?_
        refine lv_aload_n hx hb dX10_bids_71 rfl (lv_at hl 1 rfl) ?_
        refine r_get C w 0 (v := .ref (a 8)) rfl rfl 18 (by decide) inX10 kf_X10_33 rfl dX10_bids_72 ?_
        refine lv_iload_n hx hb dX10_bids_75 rfl (lv_at hl 3 rfl) ?_
        refine r_iald C w 8 (f := (g 8)) rfl (by omega) (by omega) (by decide) dX10_bids_76 ?_
        have qg10 := mB8 hg p1
        refine r_i2l hx hb dX10_bids_77 (by omega) ?_
        refine r_lmul hx hb dX10_bids_78 ?_
        refine lv_aload_n hx hb dX10_bids_79 rfl (lv_at hl 1 rfl) ?_
        refine r_get C w 0 (v := .ref (a 13)) rfl rfl 25 (by decide) inX10 kf_X10_48 rfl dX10_bids_80 ?_
        refine lv_iload_n hx hb dX10_bids_83 rfl (lv_at hl 2 rfl) ?_
        refine r_iald C w 13 (f := (g 13)) rfl (by omega) (by omega) (by decide) dX10_bids_84 ?_
        have qg11 := mB13 hg p0
        refine r_i2l hx hb dX10_bids_85 (by omega) ?_
        refine r_lcif_gt (tgt := 94) hx hb dX10_bids_86 dX10_bids_87 (by decide) (by omega) (by omega) (fun c86 => ?_) (fun c86 => ?_)
        · skip
          refine r_iconst hx hb dX10_bids_94 ?_
          exact hend 0 () _ _ _ _ dX10_bids_95 w (by omega)
        · skip
          refine r_iconst hx hb dX10_bids_90 ?_
          refine lv_goto (tgt := 95) hx hb dX10_bids_91 (by decide) ?_
          exact hend 1 () _ _ _ _ dX10_bids_95 w (by omega)

abbrev rm_X10_offer : Room := { frames := 2, cells := 0, slots := 0, locals := 45 }
set_option maxHeartbeats 4000000 in
set_option maxRecDepth 100000 in
theorem ct_X10_offer (l : Launch) (D : va_G) (cy : Nat → ClassId) (a : Nat → Nat) (z : Nat → Int) (g : Nat → Int → Int) (p0 : Int) (hz : mBz z) (hg : mBg g) (h0 : 0 ≤ p0 ∧ p0 < 100) : MI l yX10_offer cX10_offer 6 .boolean (rm_X10_offer) D cy (mw cy a z g) [.ref (a 0), vI p0] (fun (v : Int) (u : sX) => ((v = 0 ∧ u = offM z g p0 ∧ u.1 13 = z 13) ∨ (v = 1 ∧ u = offM z g p0 ∧ u.1 13 = z 13 + 1)) ∧ mBz u.1 ∧ mBg u.2) (fun u => mw cy a u.1 u.2) 0 0 := by
  refine go_i (by decide +kernel) (Nat.le_of_ble_eq_true rfl) (Or.inr (fun v u h => nb01 (by rcases h.1 with q | q <;> omega))) ?_
  intro p e s m args below meth c Q A ls C hnm hA w hl hend
  have hx := C.1
  have hb := C.2.1
  have q9 := mB9 hg p0
  have q7 := mB7 hg p0
  have q8 := mB8 hg p0
  have q2 := mB2 hg (0 + g 7 p0)
  have hlm := lmM_0 hg p0
  have qz13 := mZ13 hz
  have qz12 := mZ12 hz
  have J200 : ∀ (w4 : Int) (s6 : Int) (p9 : Int), (z 13 < 400) → (0 ≤ w4) → (w4 = (bI (lmM g p0) 10).1) → (s6 = (bI (lmM g p0) 10).2) → (p9 = prM g p0 s6) → ∀ (H : Heap) (locs : List Loc) (ls : Array Slot), wd D A s.heap (mw cy a z g) H locs → lv_has ls 6 [(0, .ref (a 0)), (1, vI p0), (2, vI w4)] → W p l e (rm_X10_offer) s m args below meth c H locs 0 0 Q (F0 m 200 ls [vI p9]) := by
    intro w4 s6 p9 hfl hge hw hs hp9 H locs ls w hl
    have hpp := bI_p (lmM g p0) hlm (i := 10) (by omega)
    rw [← hw, ← hs] at hpp
    obtain ⟨⟨qa_, qb_, qc_, qd_⟩, qe_⟩ := lmM_1 (g := g) (k := p0) (b := w4) (by omega)
    replace qa_ : g 8 p0 ≤ g 14 (16 * w4 + 4 * g 9 p0 + g 7 p0) := qa_
    rw [← qe_] at qc_ qd_
    have qpr : 1 ≤ p9 ∧ p9 ≤ lmM g p0 w4 := by rw [hp9]; unfold prM; have h1_ := mx_b s6 (g 2 (0 + g 7 p0)); have h2_ := mx_b (mx s6 (g 2 (0 + g 7 p0))) 1; omega
    have qpl := mB15 hg (plM g p0 w4)
    rw [← qe_] at qpl
    have qpay := pay_ok2 q8.1 (by omega) qpr.2 qd_
    refine lv_istore (lv' := [(4, vI p9), (0, .ref (a 0)), (1, vI p0), (2, vI w4)]) hx hb dX10_offer_200 hl (by decide) rfl (fun ls hl => ?_)
    refine lv_aload_n hx hb dX10_offer_202 rfl (lv_at hl 1 rfl) ?_
    refine r_get C w 0 (v := .ref (a 16)) rfl rfl 28 (by decide) inX10 kf_X10_57 rfl dX10_offer_203 ?_
    refine lv_aload_n hx hb dX10_offer_206 rfl (lv_at hl 1 rfl) ?_
    refine r_get C w 0 (v := vI (z 13)) rfl rfl 34 (by decide) inX10 kf_X10_198 rfl dX10_offer_207 ?_
    have qz1 := mZ13 hz
    refine lv_iload_n hx hb dX10_offer_210 rfl (lv_at hl 2 rfl) ?_
    refine r_iast C w 16 (f := (g 16)) rfl (by omega) (by omega) (by decide) (ws' := mw cy a z (uZ g 16 (uI (g 16) (z 13) p0))) (mw_g16 cy a z g (uI (g 16) (z 13) p0)) dX10_offer_211 (fun H locs w => ?_)
    have bg2 : ∀ j : Int, (0 : Int) ≤ (uI (g 16) (z 13) p0) j ∧ (uI (g 16) (z 13) p0) j ≤ 99 := uI_b (mB16 hg) (by omega)
    refine lv_aload_n hx hb dX10_offer_212 rfl (lv_at hl 1 rfl) ?_
    refine r_get C w 0 (v := .ref (a 17)) rfl rfl 29 (by decide) inX10 kf_X10_60 rfl dX10_offer_213 ?_
    refine lv_aload_n hx hb dX10_offer_216 rfl (lv_at hl 1 rfl) ?_
    refine r_get C w 0 (v := vI (z 13)) rfl rfl 34 (by decide) inX10 kf_X10_198 rfl dX10_offer_217 ?_
    have qz3 := mZ13 hz
    refine lv_iload_n hx hb dX10_offer_220 rfl (lv_at hl 3 rfl) ?_
    refine r_iast C w 17 (f := (g 17)) rfl (by omega) (by omega) (by decide) (ws' := mw cy a z (uZ (uZ g 16 (uI (g 16) (z 13) p0)) 17 (uI (g 17) (z 13) w4))) (mw_g17 cy a z (uZ g 16 (uI (g 16) (z 13) p0)) (uI (g 17) (z 13) w4)) dX10_offer_221 (fun H locs w => ?_)
    have bg4 : ∀ j : Int, (0 : Int) ≤ (uI (g 17) (z 13) w4) j ∧ (uI (g 17) (z 13) w4) j ≤ 9 := uI_b (mB17 hg) (by omega)
    refine lv_aload_n hx hb dX10_offer_222 rfl (lv_at hl 1 rfl) ?_
    refine r_get C w 0 (v := .ref (a 18)) rfl rfl 30 (by decide) inX10 kf_X10_63 rfl dX10_offer_223 ?_
    refine lv_aload_n hx hb dX10_offer_226 rfl (lv_at hl 1 rfl) ?_
    refine r_get C w 0 (v := vI (z 13)) rfl rfl 34 (by decide) inX10 kf_X10_198 rfl dX10_offer_227 ?_
    have qz5 := mZ13 hz
    refine lv_aload_n hx hb dX10_offer_230 rfl (lv_at hl 1 rfl) ?_
    refine r_get C w 0 (v := vI (z 12)) rfl rfl 23 (by decide) inX10 kf_X10_192 rfl dX10_offer_231 ?_
    have qz6 := mZ12 hz
    refine r_iast C w 18 (f := (g 18)) rfl (by omega) (by omega) (by decide) (ws' := mw cy a z (uZ (uZ (uZ g 16 (uI (g 16) (z 13) p0)) 17 (uI (g 17) (z 13) w4)) 18 (uI (g 18) (z 13) (z 12)))) (mw_g18 cy a z (uZ (uZ g 16 (uI (g 16) (z 13) p0)) 17 (uI (g 17) (z 13) w4)) (uI (g 18) (z 13) (z 12))) dX10_offer_234 (fun H locs w => ?_)
    have bg7 : ∀ j : Int, (0 : Int) ≤ (uI (g 18) (z 13) (z 12)) j ∧ (uI (g 18) (z 13) (z 12)) j ≤ 999 := uI_b (mB18 hg) (by omega)
    refine lv_aload_n hx hb dX10_offer_235 rfl (lv_at hl 1 rfl) ?_
    refine r_get C w 0 (v := .ref (a 19)) rfl rfl 31 (by decide) inX10 kf_X10_66 rfl dX10_offer_236 ?_
    refine lv_aload_n hx hb dX10_offer_239 rfl (lv_at hl 1 rfl) ?_
    refine r_get C w 0 (v := vI (z 13)) rfl rfl 34 (by decide) inX10 kf_X10_198 rfl dX10_offer_240 ?_
    have qz8 := mZ13 hz
    refine lv_aload_n hx hb dX10_offer_243 rfl (lv_at hl 1 rfl) ?_
    refine r_get C w 0 (v := .ref (a 8)) rfl rfl 18 (by decide) inX10 kf_X10_33 rfl dX10_offer_244 ?_
    refine lv_iload_n hx hb dX10_offer_247 rfl (lv_at hl 2 rfl) ?_
    refine r_iald C w 8 (f := (g 8)) rfl (by omega) (by omega) (by decide) dX10_offer_248 ?_
    have qg9 := mB8 hg p0
    refine r_iast C w 19 (f := (g 19)) rfl (by omega) (by omega) (by decide) (ws' := mw cy a z (uZ (uZ (uZ (uZ g 16 (uI (g 16) (z 13) p0)) 17 (uI (g 17) (z 13) w4)) 18 (uI (g 18) (z 13) (z 12))) 19 (uI (g 19) (z 13) ((g 8) p0)))) (mw_g19 cy a z (uZ (uZ (uZ g 16 (uI (g 16) (z 13) p0)) 17 (uI (g 17) (z 13) w4)) 18 (uI (g 18) (z 13) (z 12))) (uI (g 19) (z 13) ((g 8) p0))) dX10_offer_249 (fun H locs w => ?_)
    have bg10 : ∀ j : Int, (0 : Int) ≤ (uI (g 19) (z 13) ((g 8) p0)) j ∧ (uI (g 19) (z 13) ((g 8) p0)) j ≤ 500 := uI_b (mB19 hg) (by omega)
    refine lv_aload_n hx hb dX10_offer_250 rfl (lv_at hl 1 rfl) ?_
    refine r_get C w 0 (v := .ref (a 20)) rfl rfl 32 (by decide) inX10 kf_X10_69 rfl dX10_offer_251 ?_
    refine lv_aload_n hx hb dX10_offer_254 rfl (lv_at hl 1 rfl) ?_
    refine r_get C w 0 (v := vI (z 13)) rfl rfl 34 (by decide) inX10 kf_X10_198 rfl dX10_offer_255 ?_
    have qz11 := mZ13 hz
    refine lv_iload hx hb dX10_offer_258 (lv_at hl 0 rfl) ?_
    refine r_iast C w 20 (f := (g 20)) rfl (by omega) (by omega) (by decide) (ws' := mw cy a z (uZ (uZ (uZ (uZ (uZ g 16 (uI (g 16) (z 13) p0)) 17 (uI (g 17) (z 13) w4)) 18 (uI (g 18) (z 13) (z 12))) 19 (uI (g 19) (z 13) ((g 8) p0))) 20 (uI (g 20) (z 13) p9))) (mw_g20 cy a z (uZ (uZ (uZ (uZ g 16 (uI (g 16) (z 13) p0)) 17 (uI (g 17) (z 13) w4)) 18 (uI (g 18) (z 13) (z 12))) 19 (uI (g 19) (z 13) ((g 8) p0))) (uI (g 20) (z 13) p9)) dX10_offer_260 (fun H locs w => ?_)
    have bg12 : ∀ j : Int, (0 : Int) ≤ (uI (g 20) (z 13) p9) j ∧ (uI (g 20) (z 13) p9) j ≤ 9999 := uI_b (mB20 hg) (by omega)
    refine lv_aload_n hx hb dX10_offer_261 rfl (lv_at hl 1 rfl) ?_
    refine r_get C w 0 (v := .ref (a 21)) rfl rfl 33 (by decide) inX10 kf_X10_72 rfl dX10_offer_262 ?_
    refine lv_aload_n hx hb dX10_offer_265 rfl (lv_at hl 1 rfl) ?_
    refine r_get C w 0 (v := vI (z 13)) rfl rfl 34 (by decide) inX10 kf_X10_198 rfl dX10_offer_266 ?_
    have qz13 := mZ13 hz
    refine r_iconst hx hb dX10_offer_269 ?_
    refine r_iast C w 21 (f := (g 21)) rfl (by omega) (by omega) (by decide) (ws' := mw cy a z (uZ (uZ (uZ (uZ (uZ (uZ g 16 (uI (g 16) (z 13) p0)) 17 (uI (g 17) (z 13) w4)) 18 (uI (g 18) (z 13) (z 12))) 19 (uI (g 19) (z 13) ((g 8) p0))) 20 (uI (g 20) (z 13) p9)) 21 (uI (g 21) (z 13) (-1)))) (mw_g21 cy a z (uZ (uZ (uZ (uZ (uZ g 16 (uI (g 16) (z 13) p0)) 17 (uI (g 17) (z 13) w4)) 18 (uI (g 18) (z 13) (z 12))) 19 (uI (g 19) (z 13) ((g 8) p0))) 20 (uI (g 20) (z 13) p9)) (uI (g 21) (z 13) (-1))) dX10_offer_270 (fun H locs w => ?_)
    have bg14 : ∀ j : Int, (-1 : Int) ≤ (uI (g 21) (z 13) (-1)) j ∧ (uI (g 21) (z 13) (-1)) j ≤ 999 := uI_b (mB21 hg) (by omega)
    refine lv_aload_n hx hb dX10_offer_271 rfl (lv_at hl 1 rfl) ?_
    refine r_get C w 0 (v := .ref (a 14)) rfl rfl 26 (by decide) inX10 kf_X10_51 rfl dX10_offer_272 ?_
    refine lv_iload_n hx hb dX10_offer_275 rfl (lv_at hl 3 rfl) ?_
    refine lv_aload_n hx hb dX10_offer_276 rfl (lv_at hl 1 rfl) ?_
    refine r_get C w 0 (v := .ref (a 9)) rfl rfl 19 (by decide) inX10 kf_X10_36 rfl dX10_offer_277 ?_
    refine lv_iload_n hx hb dX10_offer_280 rfl (lv_at hl 2 rfl) ?_
    refine r_iald C w 9 (f := (g 9)) rfl (by omega) (by omega) (by decide) dX10_offer_281 ?_
    have qg15 := mB9 hg p0
    refine lv_aload_n hx hb dX10_offer_282 rfl (lv_at hl 1 rfl) ?_
    refine r_get C w 0 (v := .ref (a 7)) rfl rfl 17 (by decide) inX10 kf_X10_30 rfl dX10_offer_283 ?_
    refine lv_iload_n hx hb dX10_offer_286 rfl (lv_at hl 2 rfl) ?_
    refine r_iald C w 7 (f := (g 7)) rfl (by omega) (by omega) (by decide) dX10_offer_287 ?_
    have qg16 := mB7 hg p0
    refine cSI C w hA (ct_X10_place l D cy a z (uZ (uZ (uZ (uZ (uZ (uZ g 16 (uI (g 16) (z 13) p0)) 17 (uI (g 17) (z 13) w4)) 18 (uI (g 18) (z 13) (z 12))) 19 (uI (g 19) (z 13) ((g 8) p0))) 20 (uI (g 20) (z 13) p9)) 21 (uI (g 21) (z 13) (-1))) w4 ((g 9) p0) ((g 7) p0) ) ok_X10_place km_X10_188 ⟨rfl, rfl⟩ ⟨by decide, by decide⟩ ⟨by decide, by decide⟩ rfl hl.1 rfl (Nat.le_of_ble_eq_true rfl) dX10_offer_288 (fun rv_1 uv_1 H locs w hp_1 => ?_)
    replace hp_1 : rv_1 = 16 * w4 + 4 * ((g 9) p0) + ((g 7) p0) := hp_1
    replace w : wd D A s.heap (mw cy a z (uZ (uZ (uZ (uZ (uZ (uZ g 16 (uI (g 16) (z 13) p0)) 17 (uI (g 17) (z 13) w4)) 18 (uI (g 18) (z 13) (z 12))) 19 (uI (g 19) (z 13) ((g 8) p0))) 20 (uI (g 20) (z 13) p9)) 21 (uI (g 21) (z 13) (-1)))) H locs := w
    subst hp_1
    refine lv_dup2_11 hx hb dX10_offer_291 rfl rfl ?_
    refine r_iald C w 14 (f := (g 14)) rfl (by omega) (by omega) (by decide) dX10_offer_292 ?_
    have qg17 := mB14 hg (16 * w4 + 4 * ((g 9) p0) + ((g 7) p0))
    refine lv_aload_n hx hb dX10_offer_293 rfl (lv_at hl 1 rfl) ?_
    refine r_get C w 0 (v := .ref (a 8)) rfl rfl 18 (by decide) inX10 kf_X10_33 rfl dX10_offer_294 ?_
    refine lv_iload_n hx hb dX10_offer_297 rfl (lv_at hl 2 rfl) ?_
    refine r_iald C w 8 (f := (g 8)) rfl (by omega) (by omega) (by decide) dX10_offer_298 ?_
    have qg18 := mB8 hg p0
    refine r_isub hx hb dX10_offer_299 ?_
    refine r_iast C w 14 (f := (g 14)) rfl (by omega) (by omega) (by decide) (ws' := mw cy a z (uZ (uZ (uZ (uZ (uZ (uZ (uZ g 16 (uI (g 16) (z 13) p0)) 17 (uI (g 17) (z 13) w4)) 18 (uI (g 18) (z 13) (z 12))) 19 (uI (g 19) (z 13) ((g 8) p0))) 20 (uI (g 20) (z 13) p9)) 21 (uI (g 21) (z 13) (-1))) 14 (uI (g 14) (16 * w4 + 4 * ((g 9) p0) + ((g 7) p0)) (((g 14) (16 * w4 + 4 * ((g 9) p0) + ((g 7) p0))) - ((g 8) p0))))) (mw_g14 cy a z (uZ (uZ (uZ (uZ (uZ (uZ g 16 (uI (g 16) (z 13) p0)) 17 (uI (g 17) (z 13) w4)) 18 (uI (g 18) (z 13) (z 12))) 19 (uI (g 19) (z 13) ((g 8) p0))) 20 (uI (g 20) (z 13) p9)) 21 (uI (g 21) (z 13) (-1))) (uI (g 14) (16 * w4 + 4 * ((g 9) p0) + ((g 7) p0)) (((g 14) (16 * w4 + 4 * ((g 9) p0) + ((g 7) p0))) - ((g 8) p0)))) dX10_offer_300 (fun H locs w => ?_)
    have bg19 : ∀ j : Int, (0 : Int) ≤ (uI (g 14) (16 * w4 + 4 * ((g 9) p0) + ((g 7) p0)) (((g 14) (16 * w4 + 4 * ((g 9) p0) + ((g 7) p0))) - ((g 8) p0))) j ∧ (uI (g 14) (16 * w4 + 4 * ((g 9) p0) + ((g 7) p0)) (((g 14) (16 * w4 + 4 * ((g 9) p0) + ((g 7) p0))) - ((g 8) p0))) j ≤ 5000 := uI_b (mB14 hg) (by omega)
    refine lv_aload_n hx hb dX10_offer_301 rfl (lv_at hl 1 rfl) ?_
    refine r_get C w 0 (v := .ref (a 13)) rfl rfl 25 (by decide) inX10 kf_X10_48 rfl dX10_offer_302 ?_
    refine lv_iload_n hx hb dX10_offer_305 rfl (lv_at hl 3 rfl) ?_
    refine lv_dup2_11 hx hb dX10_offer_306 rfl rfl ?_
    refine r_iald C w 13 (f := (g 13)) rfl (by omega) (by omega) (by decide) dX10_offer_307 ?_
    have qg20 := mB13 hg w4
    refine lv_iload hx hb dX10_offer_308 (lv_at hl 0 rfl) ?_
    refine lv_aload_n hx hb dX10_offer_310 rfl (lv_at hl 1 rfl) ?_
    refine r_get C w 0 (v := .ref (a 8)) rfl rfl 18 (by decide) inX10 kf_X10_33 rfl dX10_offer_311 ?_
    refine lv_iload_n hx hb dX10_offer_314 rfl (lv_at hl 2 rfl) ?_
    refine r_iald C w 8 (f := (g 8)) rfl (by omega) (by omega) (by decide) dX10_offer_315 ?_
    have qg21 := mB8 hg p0
    refine r_imul hx hb dX10_offer_316 ?_
    refine r_isub hx hb dX10_offer_317 ?_
    refine r_iast C w 13 (f := (g 13)) rfl (by omega) (by omega) (by decide) (ws' := mw cy a z (uZ (uZ (uZ (uZ (uZ (uZ (uZ (uZ g 16 (uI (g 16) (z 13) p0)) 17 (uI (g 17) (z 13) w4)) 18 (uI (g 18) (z 13) (z 12))) 19 (uI (g 19) (z 13) ((g 8) p0))) 20 (uI (g 20) (z 13) p9)) 21 (uI (g 21) (z 13) (-1))) 14 (uI (g 14) (16 * w4 + 4 * ((g 9) p0) + ((g 7) p0)) (((g 14) (16 * w4 + 4 * ((g 9) p0) + ((g 7) p0))) - ((g 8) p0)))) 13 (uI (g 13) w4 (((g 13) w4) - (p9 * ((g 8) p0)))))) (mw_g13 cy a z (uZ (uZ (uZ (uZ (uZ (uZ (uZ g 16 (uI (g 16) (z 13) p0)) 17 (uI (g 17) (z 13) w4)) 18 (uI (g 18) (z 13) (z 12))) 19 (uI (g 19) (z 13) ((g 8) p0))) 20 (uI (g 20) (z 13) p9)) 21 (uI (g 21) (z 13) (-1))) 14 (uI (g 14) (16 * w4 + 4 * ((g 9) p0) + ((g 7) p0)) (((g 14) (16 * w4 + 4 * ((g 9) p0) + ((g 7) p0))) - ((g 8) p0)))) (uI (g 13) w4 (((g 13) w4) - (p9 * ((g 8) p0))))) dX10_offer_318 (fun H locs w => ?_)
    have bg22 : ∀ j : Int, (0 : Int) ≤ (uI (g 13) w4 (((g 13) w4) - (p9 * ((g 8) p0)))) j ∧ (uI (g 13) w4 (((g 13) w4) - (p9 * ((g 8) p0)))) j ≤ 1000000 := uI_b (mB13 hg) (by omega)
    refine lv_aload_n hx hb dX10_offer_319 rfl (lv_at hl 1 rfl) ?_
    refine r_get C w 0 (v := .ref (a 11)) rfl rfl 21 (by decide) inX10 kf_X10_42 rfl dX10_offer_320 ?_
    refine lv_iload_n hx hb dX10_offer_323 rfl (lv_at hl 2 rfl) ?_
    refine r_iconst hx hb dX10_offer_324 ?_
    refine r_zast C w 11 (f := (g 11)) rfl (by omega) (by omega) (by decide) (vz01 (by omega)) (ws' := mw cy a z (uZ (uZ (uZ (uZ (uZ (uZ (uZ (uZ (uZ g 16 (uI (g 16) (z 13) p0)) 17 (uI (g 17) (z 13) w4)) 18 (uI (g 18) (z 13) (z 12))) 19 (uI (g 19) (z 13) ((g 8) p0))) 20 (uI (g 20) (z 13) p9)) 21 (uI (g 21) (z 13) (-1))) 14 (uI (g 14) (16 * w4 + 4 * ((g 9) p0) + ((g 7) p0)) (((g 14) (16 * w4 + 4 * ((g 9) p0) + ((g 7) p0))) - ((g 8) p0)))) 13 (uI (g 13) w4 (((g 13) w4) - (p9 * ((g 8) p0))))) 11 (uI (g 11) p0 1))) (mw_g11 cy a z (uZ (uZ (uZ (uZ (uZ (uZ (uZ (uZ g 16 (uI (g 16) (z 13) p0)) 17 (uI (g 17) (z 13) w4)) 18 (uI (g 18) (z 13) (z 12))) 19 (uI (g 19) (z 13) ((g 8) p0))) 20 (uI (g 20) (z 13) p9)) 21 (uI (g 21) (z 13) (-1))) 14 (uI (g 14) (16 * w4 + 4 * ((g 9) p0) + ((g 7) p0)) (((g 14) (16 * w4 + 4 * ((g 9) p0) + ((g 7) p0))) - ((g 8) p0)))) 13 (uI (g 13) w4 (((g 13) w4) - (p9 * ((g 8) p0))))) (uI (g 11) p0 1)) dX10_offer_325 (fun H locs w => ?_)
    have bg23 : ∀ j : Int, (0 : Int) ≤ (uI (g 11) p0 1) j ∧ (uI (g 11) p0 1) j ≤ 1 := uI_b (mB11 hg) (by omega)
    refine lv_aload_n hx hb dX10_offer_326 rfl (lv_at hl 1 rfl) ?_
    refine r_get C w 0 (v := .ref (a 10)) rfl rfl 20 (by decide) inX10 kf_X10_39 rfl dX10_offer_327 ?_
    refine lv_iload_n hx hb dX10_offer_330 rfl (lv_at hl 2 rfl) ?_
    refine lv_aload_n hx hb dX10_offer_331 rfl (lv_at hl 1 rfl) ?_
    refine r_get C w 0 (v := vI (z 13)) rfl rfl 34 (by decide) inX10 kf_X10_198 rfl dX10_offer_332 ?_
    have qz24 := mZ13 hz
    refine r_iast C w 10 (f := (g 10)) rfl (by omega) (by omega) (by decide) (ws' := mw cy a z (uZ (uZ (uZ (uZ (uZ (uZ (uZ (uZ (uZ (uZ g 16 (uI (g 16) (z 13) p0)) 17 (uI (g 17) (z 13) w4)) 18 (uI (g 18) (z 13) (z 12))) 19 (uI (g 19) (z 13) ((g 8) p0))) 20 (uI (g 20) (z 13) p9)) 21 (uI (g 21) (z 13) (-1))) 14 (uI (g 14) (16 * w4 + 4 * ((g 9) p0) + ((g 7) p0)) (((g 14) (16 * w4 + 4 * ((g 9) p0) + ((g 7) p0))) - ((g 8) p0)))) 13 (uI (g 13) w4 (((g 13) w4) - (p9 * ((g 8) p0))))) 11 (uI (g 11) p0 1)) 10 (uI (g 10) p0 (z 13)))) (mw_g10 cy a z (uZ (uZ (uZ (uZ (uZ (uZ (uZ (uZ (uZ g 16 (uI (g 16) (z 13) p0)) 17 (uI (g 17) (z 13) w4)) 18 (uI (g 18) (z 13) (z 12))) 19 (uI (g 19) (z 13) ((g 8) p0))) 20 (uI (g 20) (z 13) p9)) 21 (uI (g 21) (z 13) (-1))) 14 (uI (g 14) (16 * w4 + 4 * ((g 9) p0) + ((g 7) p0)) (((g 14) (16 * w4 + 4 * ((g 9) p0) + ((g 7) p0))) - ((g 8) p0)))) 13 (uI (g 13) w4 (((g 13) w4) - (p9 * ((g 8) p0))))) 11 (uI (g 11) p0 1)) (uI (g 10) p0 (z 13))) dX10_offer_335 (fun H locs w => ?_)
    have bg25 : ∀ j : Int, (-1 : Int) ≤ (uI (g 10) p0 (z 13)) j ∧ (uI (g 10) p0 (z 13)) j ≤ 399 := uI_b (mB10 hg) (by omega)
    refine lv_aload_n hx hb dX10_offer_336 rfl (lv_at hl 1 rfl) ?_
    refine lv_dup hx hb dX10_offer_337 rfl ?_
    refine r_get C w 0 (v := vI (z 13)) rfl rfl 34 (by decide) inX10 kf_X10_198 rfl dX10_offer_338 ?_
    have qz26 := mZ13 hz
    refine r_iconst hx hb dX10_offer_341 ?_
    refine r_iadd hx hb dX10_offer_342 ?_
    refine r_put C w 0 tyX10 tyX10_ok nmX10 rfl rfl 34 (by decide) inX10 kf_X10_198 rfl rfl rfl (Nat.le_of_ble_eq_true rfl) (ws' := mw cy a (uZ z 13 ((z 13) + 1)) (uZ (uZ (uZ (uZ (uZ (uZ (uZ (uZ (uZ (uZ g 16 (uI (g 16) (z 13) p0)) 17 (uI (g 17) (z 13) w4)) 18 (uI (g 18) (z 13) (z 12))) 19 (uI (g 19) (z 13) ((g 8) p0))) 20 (uI (g 20) (z 13) p9)) 21 (uI (g 21) (z 13) (-1))) 14 (uI (g 14) (16 * w4 + 4 * ((g 9) p0) + ((g 7) p0)) (((g 14) (16 * w4 + 4 * ((g 9) p0) + ((g 7) p0))) - ((g 8) p0)))) 13 (uI (g 13) w4 (((g 13) w4) - (p9 * ((g 8) p0))))) 11 (uI (g 11) p0 1)) 10 (uI (g 10) p0 (z 13)))) (mw_z13 cy a z (uZ (uZ (uZ (uZ (uZ (uZ (uZ (uZ (uZ (uZ g 16 (uI (g 16) (z 13) p0)) 17 (uI (g 17) (z 13) w4)) 18 (uI (g 18) (z 13) (z 12))) 19 (uI (g 19) (z 13) ((g 8) p0))) 20 (uI (g 20) (z 13) p9)) 21 (uI (g 21) (z 13) (-1))) 14 (uI (g 14) (16 * w4 + 4 * ((g 9) p0) + ((g 7) p0)) (((g 14) (16 * w4 + 4 * ((g 9) p0) + ((g 7) p0))) - ((g 8) p0)))) 13 (uI (g 13) w4 (((g 13) w4) - (p9 * ((g 8) p0))))) 11 (uI (g 11) p0 1)) 10 (uI (g 10) p0 (z 13))) ((z 13) + 1)) dX10_offer_343 (fun H locs w => ?_)
    have bz27 : (0 : Int) ≤ ((z 13) + 1) ∧ (((z 13) + 1) : Int) ≤ 400 := (by omega)
    refine r_iconst hx hb dX10_offer_346 ?_
    exact hend 1 ((uZ z 13 ((z 13) + 1)), (uZ (uZ (uZ (uZ (uZ (uZ (uZ (uZ (uZ (uZ g 16 (uI (g 16) (z 13) p0)) 17 (uI (g 17) (z 13) w4)) 18 (uI (g 18) (z 13) (z 12))) 19 (uI (g 19) (z 13) ((g 8) p0))) 20 (uI (g 20) (z 13) p9)) 21 (uI (g 21) (z 13) (-1))) 14 (uI (g 14) (16 * w4 + 4 * ((g 9) p0) + ((g 7) p0)) (((g 14) (16 * w4 + 4 * ((g 9) p0) + ((g 7) p0))) - ((g 8) p0)))) 13 (uI (g 13) w4 (((g 13) w4) - (p9 * ((g 8) p0))))) 11 (uI (g 11) p0 1)) 10 (uI (g 10) p0 (z 13)))) _ _ _ _ dX10_offer_347 w ⟨(by refine Or.inr ⟨rfl, ?_, rfl⟩; unfold offM; rw [if_neg (by omega), ← hw, ← hs, hp9]; rfl), (mBz_u hz 13 bz27), (mBg_u (mBg_u (mBg_u (mBg_u (mBg_u (mBg_u (mBg_u (mBg_u (mBg_u (mBg_u hg 16 bg2) 17 bg4) 18 bg7) 19 bg10) 20 bg12) 21 bg14) 14 bg19) 13 bg22) 11 bg23) 10 bg25)⟩
  have J186 : ∀ (w4 : Int) (s6 : Int) (x9 : Int), (z 13 < 400) → (0 ≤ w4) → (w4 = (bI (lmM g p0) 10).1) → (s6 = (bI (lmM g p0) 10).2) → (x9 = mx s6 (g 2 (0 + g 7 p0))) → (0 ≤ x9 ∧ x9 ≤ 9999) → ∀ (H : Heap) (locs : List Loc) (ls : Array Slot), wd D A s.heap (mw cy a z g) H locs → lv_has ls 6 [(0, .ref (a 0)), (1, vI p0), (2, vI w4), (3, vI s6)] → W p l e (rm_X10_offer) s m args below meth c H locs 0 0 Q (F0 m 186 ls [vI x9]) := by
    intro w4 s6 x9 hfl hge hw hs hx9 hx8 H locs ls w hl
    refine lv_istore (lv' := [(4, vI x9), (0, .ref (a 0)), (1, vI p0), (2, vI w4), (3, vI s6)]) hx hb dX10_offer_186 hl (by decide) rfl (fun ls hl => ?_)
    refine lv_iload hx hb dX10_offer_188 (lv_at hl 0 rfl) ?_
    refine r_iconst hx hb dX10_offer_190 ?_
    refine r_icmp_ge (tgt := 198) hx hb dX10_offer_191 (by decide) (by omega) (by omega) (fun c191 => ?_) (fun c191 => ?_)
    · skip
      refine lv_iload hx hb dX10_offer_198 (lv_at hl 0 rfl) ?_
      exact J200 w4 s6 x9 (by omega) (by omega) (by exact hw) (by exact hs) (by unfold prM; rw [← hx9]; unfold mx; split <;> omega) _ _ _ w (lv_sub hl [1, 2, 3] rfl)
    · skip
      refine r_iconst hx hb dX10_offer_194 ?_
      refine lv_goto (tgt := 200) hx hb dX10_offer_195 (by decide) ?_
      exact J200 w4 s6 1 (by omega) (by omega) (by exact hw) (by exact hs) (by unfold prM; rw [← hx9]; unfold mx; rw [if_pos (by omega)]) _ _ _ w (lv_sub hl [1, 2, 3] rfl)
  have J19 : ∀ N : Nat, ∀ (w4 : Int) (s6 : Int) (b7 : Int), (z 13 < 400) → (0 ≤ b7 ∧ b7 ≤ 10) → (w4 = (bI (lmM g p0) b7).1) → (s6 = (bI (lmM g p0) b7).2) → ((10 - b7).toNat) < N → ∀ (H : Heap) (locs : List Loc) (ls : Array Slot), wd D A s.heap (mw cy a z g) H locs → lv_has ls 6 [(0, .ref (a 0)), (1, vI p0), (2, vI w4), (3, vI s6), (4, vI b7)] → W p l e (rm_X10_offer) s m args below meth c H locs 0 0 Q (F0 m 19 ls []) := by
    intro N
    induction N with
    | zero => intro w4 s6 b7 hfl hb7 hw hs hN9; exact absurd hN9 (Nat.not_lt_zero _)
    | succ N ih19 =>
      intro w4 s6 b7 hfl hb7 hw hs hN19 H locs ls w hl
      have hpp := bI_p (lmM g p0) hlm hb7.1
      rw [← hw, ← hs] at hpp
      have hstep := bI_s (lmM g p0) hb7.1
      rw [← hw, ← hs] at hstep
      have hs9 : 0 ≤ s6 ∧ s6 ≤ 9999 := by rcases hpp with q | q; omega; (have q2_ := lmM_1 (g := g) (k := p0) (b := w4) (by omega)); (have q3_ := mB15 hg (plM g p0 w4)); omega
      refine lv_iload hx hb dX10_offer_19 (lv_at hl 4 rfl) ?_
      refine r_bipush hx hb dX10_offer_21 (by decide) ?_
      refine r_icmp_ge (tgt := 146) hx hb dX10_offer_23 (by decide) (by omega) (by omega) (fun c23 => ?_) (fun c23 => ?_)
      · skip
        refine lv_iload_n hx hb dX10_offer_146 rfl (lv_at hl 2 rfl) ?_
        refine r_if_ge (tgt := 152) hx hb dX10_offer_147 (by decide) (by omega) (fun c147 => ?_) (fun c147 => ?_)
        · skip
          refine lv_aload_n hx hb dX10_offer_152 rfl (lv_at hl 0 rfl) ?_
          refine r_get C w 0 (v := .ref (a 2)) rfl rfl 5 (by decide) inX10 kf_X10_13 rfl dX10_offer_153 ?_
          refine r_iconst hx hb dX10_offer_156 ?_
          refine lv_aload_n hx hb dX10_offer_157 rfl (lv_at hl 0 rfl) ?_
          refine r_get C w 0 (v := .ref (a 7)) rfl rfl 17 (by decide) inX10 kf_X10_30 rfl dX10_offer_158 ?_
          refine lv_iload_n hx hb dX10_offer_161 rfl (lv_at hl 1 rfl) ?_
          refine r_iald C w 7 (f := (g 7)) rfl (by omega) (by omega) (by decide) dX10_offer_162 ?_
          have qg28 := mB7 hg p0
          refine r_iadd hx hb dX10_offer_163 ?_
          refine r_iald C w 2 (f := (g 2)) rfl (by omega) (by omega) (by decide) dX10_offer_164 ?_
          have qg29 := mB2 hg (0 + ((g 7) p0))
          refine lv_iload_n hx hb dX10_offer_165 rfl (lv_at hl 3 rfl) ?_
          refine r_icmp_le (tgt := 185) hx hb dX10_offer_166 (by decide) (by omega) (by omega) (fun c166 => ?_) (fun c166 => ?_)
          · skip
            refine lv_iload_n hx hb dX10_offer_185 rfl (lv_at hl 3 rfl) ?_
            exact J186 w4 s6 s6 (by omega) (by omega) (by rw [← show b7 = 10 by omega]; exact hw) (by rw [← show b7 = 10 by omega]; exact hs) (by unfold mx; split <;> omega) (by omega) _ _ _ w (lv_sub hl [0, 1, 2, 3] rfl)
          · skip
            refine lv_aload_n hx hb dX10_offer_169 rfl (lv_at hl 0 rfl) ?_
            refine r_get C w 0 (v := .ref (a 2)) rfl rfl 5 (by decide) inX10 kf_X10_13 rfl dX10_offer_170 ?_
            refine r_iconst hx hb dX10_offer_173 ?_
            refine lv_aload_n hx hb dX10_offer_174 rfl (lv_at hl 0 rfl) ?_
            refine r_get C w 0 (v := .ref (a 7)) rfl rfl 17 (by decide) inX10 kf_X10_30 rfl dX10_offer_175 ?_
            refine lv_iload_n hx hb dX10_offer_178 rfl (lv_at hl 1 rfl) ?_
            refine r_iald C w 7 (f := (g 7)) rfl (by omega) (by omega) (by decide) dX10_offer_179 ?_
            have qg30 := mB7 hg p0
            refine r_iadd hx hb dX10_offer_180 ?_
            refine r_iald C w 2 (f := (g 2)) rfl (by omega) (by omega) (by decide) dX10_offer_181 ?_
            have qg31 := mB2 hg (0 + ((g 7) p0))
            refine lv_goto (tgt := 186) hx hb dX10_offer_182 (by decide) ?_
            exact J186 w4 s6 ((g 2) (0 + ((g 7) p0))) (by omega) (by omega) (by rw [← show b7 = 10 by omega]; exact hw) (by rw [← show b7 = 10 by omega]; exact hs) (by unfold mx; rw [if_pos (by omega)]) (by omega) _ _ _ w (lv_sub hl [0, 1, 2, 3] rfl)
        · skip
          refine r_iconst hx hb dX10_offer_150 ?_
          exact hend 0 (z, g) _ _ _ _ dX10_offer_151 w ⟨(by refine Or.inl ⟨rfl, ?_, rfl⟩; unfold offM; rw [show b7 = 10 by omega] at hw; rw [if_pos (by omega)]), hz, hg⟩
      · skip
        refine lv_aload_n hx hb dX10_offer_26 rfl (lv_at hl 0 rfl) ?_
        refine lv_iload hx hb dX10_offer_27 (lv_at hl 4 rfl) ?_
        refine lv_iload_n hx hb dX10_offer_29 rfl (lv_at hl 1 rfl) ?_
        refine cVI C w hA (ct_X10_bids l D cy a z g b7 p0 hz hg (by show 0 ≤ b7 ∧ b7 < 10; omega) (by show 0 ≤ p0 ∧ p0 < 100; omega)) ok_X10_bids km_X10_201 ⟨rfl, rfl⟩ ⟨by decide, by decide⟩ ⟨by decide, by decide⟩ rfl 0 rfl rfl hl.1 rfl (Nat.le_of_ble_eq_true rfl) dX10_offer_30 (fun rv_2 uv_2 H locs w hp_2 => ?_)
        replace hp_2 : (rv_2 = 1 ∧ ((g 8) p0 ≤ (g 14) (16 * b7 + 4 * (g 9) p0 + (g 7) p0) ∧ 1 ≤ (g 15) (16 * b7 + 4 * (g 9) p0 + (g 7) p0) ∧ (g 2) (0 + (g 7) p0) ≤ (g 15) (16 * b7 + 4 * (g 9) p0 + (g 7) p0) ∧ (g 15) (16 * b7 + 4 * (g 9) p0 + (g 7) p0) * (g 8) p0 ≤ (g 13) b7)) ∨ (rv_2 = 0 ∧ ¬ ((g 8) p0 ≤ (g 14) (16 * b7 + 4 * (g 9) p0 + (g 7) p0) ∧ 1 ≤ (g 15) (16 * b7 + 4 * (g 9) p0 + (g 7) p0) ∧ (g 2) (0 + (g 7) p0) ≤ (g 15) (16 * b7 + 4 * (g 9) p0 + (g 7) p0) ∧ (g 15) (16 * b7 + 4 * (g 9) p0 + (g 7) p0) * (g 8) p0 ≤ (g 13) b7)) := hp_2
        replace w : wd D A s.heap (mw cy a z g) H locs := w
        have hbid := hp_2
        refine r_if_ne (tgt := 39) hx hb dX10_offer_33 (by decide) (by omega) (fun c33 => ?_) (fun c33 => ?_)
        · skip
          have elim : lmM g p0 b7 = g 15 (16 * b7 + 4 * g 9 p0 + g 7 p0) := if_pos (by rcases hbid with q | q; exact q.2; omega)
          have elim1 : 1 ≤ lmM g p0 b7 := by rw [elim]; rcases hbid with q | q; exact q.2.2.1; omega
          refine lv_aload_n hx hb dX10_offer_39 rfl (lv_at hl 0 rfl) ?_
          refine r_get C w 0 (v := .ref (a 15)) rfl rfl 27 (by decide) inX10 kf_X10_54 rfl dX10_offer_40 ?_
          refine lv_iload hx hb dX10_offer_43 (lv_at hl 4 rfl) ?_
          refine lv_aload_n hx hb dX10_offer_45 rfl (lv_at hl 0 rfl) ?_
          refine r_get C w 0 (v := .ref (a 9)) rfl rfl 19 (by decide) inX10 kf_X10_36 rfl dX10_offer_46 ?_
          refine lv_iload_n hx hb dX10_offer_49 rfl (lv_at hl 1 rfl) ?_
          refine r_iald C w 9 (f := (g 9)) rfl (by omega) (by omega) (by decide) dX10_offer_50 ?_
          have qg32 := mB9 hg p0
          refine lv_aload_n hx hb dX10_offer_51 rfl (lv_at hl 0 rfl) ?_
          refine r_get C w 0 (v := .ref (a 7)) rfl rfl 17 (by decide) inX10 kf_X10_30 rfl dX10_offer_52 ?_
          refine lv_iload_n hx hb dX10_offer_55 rfl (lv_at hl 1 rfl) ?_
          refine r_iald C w 7 (f := (g 7)) rfl (by omega) (by omega) (by decide) dX10_offer_56 ?_
          have qg33 := mB7 hg p0
          refine cSI C w hA (ct_X10_place l D cy a z g b7 ((g 9) p0) ((g 7) p0) ) ok_X10_place km_X10_188 ⟨rfl, rfl⟩ ⟨by decide, by decide⟩ ⟨by decide, by decide⟩ rfl hl.1 rfl (Nat.le_of_ble_eq_true rfl) dX10_offer_57 (fun rv_3 uv_3 H locs w hp_3 => ?_)
          replace hp_3 : rv_3 = 16 * b7 + 4 * ((g 9) p0) + ((g 7) p0) := hp_3
          replace w : wd D A s.heap (mw cy a z g) H locs := w
          subst hp_3
          refine r_iald C w 15 (f := (g 15)) rfl (by omega) (by omega) (by decide) dX10_offer_60 ?_
          have qg34 := mB15 hg (16 * b7 + 4 * ((g 9) p0) + ((g 7) p0))
          refine lv_istore (lv' := [(5, vI ((g 15) (16 * b7 + 4 * ((g 9) p0) + ((g 7) p0)))), (0, .ref (a 0)), (1, vI p0), (2, vI w4), (3, vI s6), (4, vI b7)]) hx hb dX10_offer_61 hl (by decide) rfl (fun ls hl => ?_)
          refine lv_iload_n hx hb dX10_offer_63 rfl (lv_at hl 3 rfl) ?_
          refine r_if_ge (tgt := 73) hx hb dX10_offer_64 (by decide) (by omega) (fun c64 => ?_) (fun c64 => ?_)
          · skip
            have elw : lmM g p0 w4 = g 15 (16 * w4 + 4 * g 9 p0 + g 7 p0) := (lmM_1 (by omega)).2
            refine lv_iload hx hb dX10_offer_73 (lv_at hl 0 rfl) ?_
            refine lv_aload_n hx hb dX10_offer_75 rfl (lv_at hl 1 rfl) ?_
            refine r_get C w 0 (v := .ref (a 15)) rfl rfl 27 (by decide) inX10 kf_X10_54 rfl dX10_offer_76 ?_
            refine lv_iload_n hx hb dX10_offer_79 rfl (lv_at hl 3 rfl) ?_
            refine lv_aload_n hx hb dX10_offer_80 rfl (lv_at hl 1 rfl) ?_
            refine r_get C w 0 (v := .ref (a 9)) rfl rfl 19 (by decide) inX10 kf_X10_36 rfl dX10_offer_81 ?_
            refine lv_iload_n hx hb dX10_offer_84 rfl (lv_at hl 2 rfl) ?_
            refine r_iald C w 9 (f := (g 9)) rfl (by omega) (by omega) (by decide) dX10_offer_85 ?_
            have qg35 := mB9 hg p0
            refine lv_aload_n hx hb dX10_offer_86 rfl (lv_at hl 1 rfl) ?_
            refine r_get C w 0 (v := .ref (a 7)) rfl rfl 17 (by decide) inX10 kf_X10_30 rfl dX10_offer_87 ?_
            refine lv_iload_n hx hb dX10_offer_90 rfl (lv_at hl 2 rfl) ?_
            refine r_iald C w 7 (f := (g 7)) rfl (by omega) (by omega) (by decide) dX10_offer_91 ?_
            have qg36 := mB7 hg p0
            refine cSI C w hA (ct_X10_place l D cy a z g w4 ((g 9) p0) ((g 7) p0) ) ok_X10_place km_X10_188 ⟨rfl, rfl⟩ ⟨by decide, by decide⟩ ⟨by decide, by decide⟩ rfl hl.1 rfl (Nat.le_of_ble_eq_true rfl) dX10_offer_92 (fun rv_4 uv_4 H locs w hp_4 => ?_)
            replace hp_4 : rv_4 = 16 * w4 + 4 * ((g 9) p0) + ((g 7) p0) := hp_4
            replace w : wd D A s.heap (mw cy a z g) H locs := w
            subst hp_4
            refine r_iald C w 15 (f := (g 15)) rfl (by omega) (by omega) (by decide) dX10_offer_95 ?_
            have qg37 := mB15 hg (16 * w4 + 4 * ((g 9) p0) + ((g 7) p0))
            refine r_icmp_le (tgt := 127) hx hb dX10_offer_96 (by decide) (by omega) (by omega) (fun c96 => ?_) (fun c96 => ?_)
            · skip
              refine lv_iload hx hb dX10_offer_127 (lv_at hl 0 rfl) ?_
              refine lv_iload_n hx hb dX10_offer_129 rfl (lv_at hl 4 rfl) ?_
              refine r_icmp_le (tgt := 138) hx hb dX10_offer_130 (by decide) (by omega) (by omega) (fun c130 => ?_) (fun c130 => ?_)
              · skip
                refine lv_iload_n hx hb dX10_offer_138 rfl (lv_at hl 4 rfl) ?_
                refine lv_istore_n (lv' := [(3, vI s6), (5, vI ((g 15) (16 * b7 + 4 * ((g 9) p0) + ((g 7) p0)))), (0, .ref (a 0)), (1, vI p0), (2, vI w4), (4, vI b7)]) hx hb dX10_offer_139 rfl hl (by decide) rfl (fun ls hl => ?_)
                refine r_iinc (lv' := [(4, vI (b7 + 1)), (3, vI s6), (5, vI ((g 15) (16 * b7 + 4 * ((g 9) p0) + ((g 7) p0)))), (0, .ref (a 0)), (1, vI p0), (2, vI w4)]) hx hb dX10_offer_140 hl (k := 5) rfl (by decide) rfl (fun ls hl => ?_)
                refine lv_goto (tgt := 19) hx hb dX10_offer_143 (by decide) ?_
                exact ih19 w4 s6 (b7 + 1) (by omega) (by omega) (by rw [hstep]; first | (rw [if_pos (by omega)]; exact hw) | (rw [if_neg (by omega), if_pos (by omega)]) | (rw [if_neg (by omega), if_neg (by omega), if_pos (by omega)]) | (rw [if_neg (by omega), if_neg (by omega), if_neg (by omega)])) (by rw [hstep]; first | (rw [if_pos (by omega)]; exact hs) | (rw [if_neg (by omega), if_pos (by omega)]) | (rw [if_neg (by omega), if_neg (by omega), if_pos (by omega)]; exact elw.symm) | (rw [if_neg (by omega), if_neg (by omega), if_neg (by omega)]; unfold mx; first | (rw [if_pos (by omega)]; exact elim.symm) | (rw [if_neg (by omega)]) | (split <;> omega))) (by omega) _ _ _ w (lv_sub hl [3, 4, 5, 1, 0] rfl)
              · skip
                refine lv_iload hx hb dX10_offer_133 (lv_at hl 0 rfl) ?_
                refine lv_goto (tgt := 139) hx hb dX10_offer_135 (by decide) ?_
                refine lv_istore_n (lv' := [(3, vI ((g 15) (16 * b7 + 4 * ((g 9) p0) + ((g 7) p0)))), (5, vI ((g 15) (16 * b7 + 4 * ((g 9) p0) + ((g 7) p0)))), (0, .ref (a 0)), (1, vI p0), (2, vI w4), (4, vI b7)]) hx hb dX10_offer_139 rfl hl (by decide) rfl (fun ls hl => ?_)
                refine r_iinc (lv' := [(4, vI (b7 + 1)), (3, vI ((g 15) (16 * b7 + 4 * ((g 9) p0) + ((g 7) p0)))), (5, vI ((g 15) (16 * b7 + 4 * ((g 9) p0) + ((g 7) p0)))), (0, .ref (a 0)), (1, vI p0), (2, vI w4)]) hx hb dX10_offer_140 hl (k := 5) rfl (by decide) rfl (fun ls hl => ?_)
                refine lv_goto (tgt := 19) hx hb dX10_offer_143 (by decide) ?_
                exact ih19 w4 ((g 15) (16 * b7 + 4 * ((g 9) p0) + ((g 7) p0))) (b7 + 1) (by omega) (by omega) (by rw [hstep]; first | (rw [if_pos (by omega)]; exact hw) | (rw [if_neg (by omega), if_pos (by omega)]) | (rw [if_neg (by omega), if_neg (by omega), if_pos (by omega)]) | (rw [if_neg (by omega), if_neg (by omega), if_neg (by omega)])) (by rw [hstep]; first | (rw [if_pos (by omega)]; exact hs) | (rw [if_neg (by omega), if_pos (by omega)]) | (rw [if_neg (by omega), if_neg (by omega), if_pos (by omega)]; exact elw.symm) | (rw [if_neg (by omega), if_neg (by omega), if_neg (by omega)]; unfold mx; first | (rw [if_pos (by omega)]; exact elim.symm) | (rw [if_neg (by omega)]) | (split <;> omega))) (by omega) _ _ _ w (lv_sub hl [3, 4, 5, 1, 0] rfl)
            · skip
              refine lv_aload_n hx hb dX10_offer_99 rfl (lv_at hl 1 rfl) ?_
              refine r_get C w 0 (v := .ref (a 15)) rfl rfl 27 (by decide) inX10 kf_X10_54 rfl dX10_offer_100 ?_
              refine lv_iload_n hx hb dX10_offer_103 rfl (lv_at hl 3 rfl) ?_
              refine lv_aload_n hx hb dX10_offer_104 rfl (lv_at hl 1 rfl) ?_
              refine r_get C w 0 (v := .ref (a 9)) rfl rfl 19 (by decide) inX10 kf_X10_36 rfl dX10_offer_105 ?_
              refine lv_iload_n hx hb dX10_offer_108 rfl (lv_at hl 2 rfl) ?_
              refine r_iald C w 9 (f := (g 9)) rfl (by omega) (by omega) (by decide) dX10_offer_109 ?_
              have qg38 := mB9 hg p0
              refine lv_aload_n hx hb dX10_offer_110 rfl (lv_at hl 1 rfl) ?_
              refine r_get C w 0 (v := .ref (a 7)) rfl rfl 17 (by decide) inX10 kf_X10_30 rfl dX10_offer_111 ?_
              refine lv_iload_n hx hb dX10_offer_114 rfl (lv_at hl 2 rfl) ?_
              refine r_iald C w 7 (f := (g 7)) rfl (by omega) (by omega) (by decide) dX10_offer_115 ?_
              have qg39 := mB7 hg p0
              refine cSI C w hA (ct_X10_place l D cy a z g w4 ((g 9) p0) ((g 7) p0) ) ok_X10_place km_X10_188 ⟨rfl, rfl⟩ ⟨by decide, by decide⟩ ⟨by decide, by decide⟩ rfl hl.1 rfl (Nat.le_of_ble_eq_true rfl) dX10_offer_116 (fun rv_5 uv_5 H locs w hp_5 => ?_)
              replace hp_5 : rv_5 = 16 * w4 + 4 * ((g 9) p0) + ((g 7) p0) := hp_5
              replace w : wd D A s.heap (mw cy a z g) H locs := w
              subst hp_5
              refine r_iald C w 15 (f := (g 15)) rfl (by omega) (by omega) (by decide) dX10_offer_119 ?_
              have qg40 := mB15 hg (16 * w4 + 4 * ((g 9) p0) + ((g 7) p0))
              refine lv_istore_n (lv' := [(3, vI ((g 15) (16 * w4 + 4 * ((g 9) p0) + ((g 7) p0)))), (5, vI ((g 15) (16 * b7 + 4 * ((g 9) p0) + ((g 7) p0)))), (0, .ref (a 0)), (1, vI p0), (2, vI w4), (4, vI b7)]) hx hb dX10_offer_120 rfl hl (by decide) rfl (fun ls hl => ?_)
              refine lv_iload hx hb dX10_offer_121 (lv_at hl 5 rfl) ?_
              refine lv_istore_n (lv' := [(2, vI b7), (3, vI ((g 15) (16 * w4 + 4 * ((g 9) p0) + ((g 7) p0)))), (5, vI ((g 15) (16 * b7 + 4 * ((g 9) p0) + ((g 7) p0)))), (0, .ref (a 0)), (1, vI p0), (4, vI b7)]) hx hb dX10_offer_123 rfl hl (by decide) rfl (fun ls hl => ?_)
              refine lv_goto (tgt := 140) hx hb dX10_offer_124 (by decide) ?_
              refine r_iinc (lv' := [(4, vI (b7 + 1)), (2, vI b7), (3, vI ((g 15) (16 * w4 + 4 * ((g 9) p0) + ((g 7) p0)))), (5, vI ((g 15) (16 * b7 + 4 * ((g 9) p0) + ((g 7) p0)))), (0, .ref (a 0)), (1, vI p0)]) hx hb dX10_offer_140 hl (k := 5) rfl (by decide) rfl (fun ls hl => ?_)
              refine lv_goto (tgt := 19) hx hb dX10_offer_143 (by decide) ?_
              exact ih19 b7 ((g 15) (16 * w4 + 4 * ((g 9) p0) + ((g 7) p0))) (b7 + 1) (by omega) (by omega) (by rw [hstep]; first | (rw [if_pos (by omega)]; exact hw) | (rw [if_neg (by omega), if_pos (by omega)]) | (rw [if_neg (by omega), if_neg (by omega), if_pos (by omega)]) | (rw [if_neg (by omega), if_neg (by omega), if_neg (by omega)])) (by rw [hstep]; first | (rw [if_pos (by omega)]; exact hs) | (rw [if_neg (by omega), if_pos (by omega)]) | (rw [if_neg (by omega), if_neg (by omega), if_pos (by omega)]; exact elw.symm) | (rw [if_neg (by omega), if_neg (by omega), if_neg (by omega)]; unfold mx; first | (rw [if_pos (by omega)]; exact elim.symm) | (rw [if_neg (by omega)]) | (split <;> omega))) (by omega) _ _ _ w (lv_sub hl [4, 5, 1, 2, 0] rfl)
          · skip
            refine lv_iload hx hb dX10_offer_67 (lv_at hl 5 rfl) ?_
            refine lv_istore_n (lv' := [(2, vI b7), (5, vI ((g 15) (16 * b7 + 4 * ((g 9) p0) + ((g 7) p0)))), (0, .ref (a 0)), (1, vI p0), (3, vI s6), (4, vI b7)]) hx hb dX10_offer_69 rfl hl (by decide) rfl (fun ls hl => ?_)
            refine lv_goto (tgt := 140) hx hb dX10_offer_70 (by decide) ?_
            refine r_iinc (lv' := [(4, vI (b7 + 1)), (2, vI b7), (5, vI ((g 15) (16 * b7 + 4 * ((g 9) p0) + ((g 7) p0)))), (0, .ref (a 0)), (1, vI p0), (3, vI s6)]) hx hb dX10_offer_140 hl (k := 5) rfl (by decide) rfl (fun ls hl => ?_)
            refine lv_goto (tgt := 19) hx hb dX10_offer_143 (by decide) ?_
            exact ih19 b7 s6 (b7 + 1) (by omega) (by omega) (by rw [hstep]; first | (rw [if_pos (by omega)]; exact hw) | (rw [if_neg (by omega), if_pos (by omega)]) | (rw [if_neg (by omega), if_neg (by omega), if_pos (by omega)]) | (rw [if_neg (by omega), if_neg (by omega), if_neg (by omega)])) (by rw [hstep]; first | (rw [if_pos (by omega)]; exact hs) | (rw [if_neg (by omega), if_pos (by omega)]) | (rw [if_neg (by omega), if_neg (by omega), if_pos (by omega)]; exact elw.symm) | (rw [if_neg (by omega), if_neg (by omega), if_neg (by omega)]; unfold mx; first | (rw [if_pos (by omega)]; exact elim.symm) | (rw [if_neg (by omega)]) | (split <;> omega))) (by omega) _ _ _ w (lv_sub hl [3, 4, 1, 5, 0] rfl)
        · skip
          have elim : lmM g p0 b7 = 0 := if_neg (by rcases hbid with q | q; omega; exact q.2)
          refine lv_goto (tgt := 140) hx hb dX10_offer_36 (by decide) ?_
          refine r_iinc (lv' := [(4, vI (b7 + 1)), (0, .ref (a 0)), (1, vI p0), (2, vI w4), (3, vI s6)]) hx hb dX10_offer_140 hl (k := 4) rfl (by decide) rfl (fun ls hl => ?_)
          refine lv_goto (tgt := 19) hx hb dX10_offer_143 (by decide) ?_
          exact ih19 w4 s6 (b7 + 1) (by omega) (by omega) (by rw [hstep]; first | (rw [if_pos (by omega)]; exact hw) | (rw [if_neg (by omega), if_pos (by omega)]) | (rw [if_neg (by omega), if_neg (by omega), if_pos (by omega)]) | (rw [if_neg (by omega), if_neg (by omega), if_neg (by omega)])) (by rw [hstep]; first | (rw [if_pos (by omega)]; exact hs) | (rw [if_neg (by omega), if_pos (by omega)]) | (rw [if_neg (by omega), if_neg (by omega), if_pos (by omega)]; exact elw.symm) | (rw [if_neg (by omega), if_neg (by omega), if_neg (by omega)]; unfold mx; first | (rw [if_pos (by omega)]; exact elim.symm) | (rw [if_neg (by omega)]) | (split <;> omega))) (by omega) _ _ _ w (lv_sub hl [1, 2, 3, 4, 0] rfl)
  replace hl : lv_has ls 6 [(0, .ref (a 0)), (1, vI p0)] := hl
  refine lv_aload_n hx hb dX10_offer_0 rfl (lv_at hl 0 rfl) ?_
  refine r_get C w 0 (v := vI (z 13)) rfl rfl 34 (by decide) inX10 kf_X10_198 rfl dX10_offer_1 ?_
  have qz41 := mZ13 hz
  refine r_sipush hx hb dX10_offer_4 (by decide) ?_
  refine r_icmp_ne (tgt := 12) hx hb dX10_offer_7 (by decide) (by omega) (by omega) (fun c7 => ?_) (fun c7 => ?_)
  · skip
    refine r_iconst hx hb dX10_offer_12 ?_
    refine lv_istore_n (lv' := [(2, vI (-1)), (0, .ref (a 0)), (1, vI p0)]) hx hb dX10_offer_13 rfl hl (by decide) rfl (fun ls hl => ?_)
    refine r_iconst hx hb dX10_offer_14 ?_
    refine lv_istore_n (lv' := [(3, vI 0), (2, vI (-1)), (0, .ref (a 0)), (1, vI p0)]) hx hb dX10_offer_15 rfl hl (by decide) rfl (fun ls hl => ?_)
    refine r_iconst hx hb dX10_offer_16 ?_
    refine lv_istore (lv' := [(4, vI 0), (3, vI 0), (2, vI (-1)), (0, .ref (a 0)), (1, vI p0)]) hx hb dX10_offer_17 hl (by decide) rfl (fun ls hl => ?_)
    exact J19 _ (-1) 0 0 (by omega) (by omega) (by rfl) (by rfl) (Nat.lt_succ_self _) _ _ _ w (lv_sub hl [3, 4, 2, 1, 0] rfl)
  · skip
    refine r_iconst hx hb dX10_offer_10 ?_
    exact hend 0 (z, g) _ _ _ _ dX10_offer_11 w ⟨(by refine Or.inl ⟨rfl, ?_, rfl⟩; unfold offM; rw [if_pos (by omega)]), hz, hg⟩
