/-! rules: the tokens of the class -/
def cntR (b : Int → Int) (s e lt dg : Int) : Prop := (∀ j, s ≤ j → j < e → isLD (b j)) ∧ (0 ≤ lt ∧ 0 ≤ dg ∧ lt + dg = e - s) ∧ (dg = 0 → ∀ j, s ≤ j → j < e → isLt (b j)) ∧ (1 ≤ dg → ∃ j, s ≤ j ∧ j < e ∧ isDg (b j)) ∧ (lt = 0 → ∀ j, s ≤ j → j < e → isDg (b j)) ∧ (1 ≤ lt → ∃ j, s ≤ j ∧ j < e ∧ isLt (b j))
theorem cnt_0 (b : Int → Int) (s : Int) : cntR b s s 0 0 := ⟨fun j h1 h2 => by omega, by omega, fun _ j h1 h2 => by omega, fun h => by omega, fun _ j h1 h2 => by omega, fun h => by omega⟩
theorem al_s {P : Int → Prop} {s e : Int} (h : ∀ j, s ≤ j → j < e → P j) (he : P e) : ∀ j, s ≤ j → j < e + 1 → P j := by
  intro j h1 h2
  by_cases q : j = e
  · rw [q]; exact he
  · exact h j h1 (by omega)
theorem cnt_l {b : Int → Int} {s e lt dg : Int} (h : cntR b s e lt dg) (hs : s ≤ e) (hb : isLt (b e)) : cntR b s (e + 1) (lt + 1) dg := by
  obtain ⟨h1, h2, h3, h4, h5, h6⟩ := h
  exact ⟨al_s h1 (Or.inl hb), by omega, fun q => al_s (h3 q) hb, fun q => (h4 q).elim (fun j hj => ⟨j, hj.1, by omega, hj.2.2⟩), fun q => by omega, fun _ => ⟨e, hs, by omega, hb⟩⟩
theorem cnt_d {b : Int → Int} {s e lt dg : Int} (h : cntR b s e lt dg) (hs : s ≤ e) (hb : isDg (b e)) : cntR b s (e + 1) lt (dg + 1) := by
  obtain ⟨h1, h2, h3, h4, h5, h6⟩ := h
  exact ⟨al_s h1 (Or.inr hb), by omega, fun q => by omega, fun _ => ⟨e, hs, by omega, hb⟩, fun q => al_s (h5 q) hb, fun q => (h6 q).elim (fun j hj => ⟨j, hj.1, by omega, hj.2.2⟩)⟩
theorem cnt_k {b : Int → Int} {s e lt dg k : Int} (h : cntR b s e lt dg) (hk : (dg = 0 ∧ k = 1) ∨ (dg ≠ 0 ∧ (lt ≠ 0 ∨ 4 < dg) ∧ k = 4) ∨ (dg ≠ 0 ∧ lt = 0 ∧ dg ≤ 4 ∧ k = 2)) : kRun b s e k := by
  obtain ⟨h1, h2, h3, h4, h5, h6⟩ := h
  rcases hk with ⟨q, e1⟩ | ⟨q, q2, e1⟩ | ⟨q, q2, q3, e1⟩
  · exact Or.inl ⟨e1, h3 q⟩
  · refine Or.inr (Or.inr ⟨e1, fun z => ?_, fun z => ?_⟩)
    · obtain ⟨j, a1, a2, a3⟩ := h4 (by omega)
      have := z j a1 a2
      omega
    · by_cases q4 : lt = 0
      · omega
      · obtain ⟨j, a1, a2, a3⟩ := h6 (by omega)
        have := z.1 j a1 a2
        omega
  · exact Or.inr (Or.inl ⟨e1, h5 q2, by omega⟩)
theorem run_ne {b : Int → Int} {n s e : Int} (h1 : s ≤ e) (h2 : s < n) (h3 : isLD (b s)) (h4 : e = n ∨ ¬ isLD (b e)) : s < e := by
  by_cases q : s = e
  · subst q
    rcases h4 with h4 | h4
    · omega
    · exact absurd h3 h4
  · omega
theorem btX_b {g : Nat → Int → Int} (hg : xBg g) (n j : Int) : 0 ≤ bt (g 2) n j ∧ bt (g 2) n j ≤ 255 := by
  have := xB2 hg j
  unfold bt
  split <;> omega
theorem btv_b {z : Nat → Int} {g : Nat → Int → Int} {v j : Int} (hg : xBg g) (h : v = bt (g 2) (z 2) j) : 0 ≤ v ∧ v ≤ 255 := by
  rw [h]
  exact btX_b hg _ _
def stZ (z : Nat → Int) (k s e : Int) : Nat → Int := uZ (uZ (uZ z 9 s) 10 e) 8 k
theorem stZ_c (z : Nat → Int) (k s e : Int) : uZ (uZ (uZ z 9 s) 8 k) 10 e = stZ z k s e := by
  funext j
  by_cases h1 : j = 8
  · subst h1; rfl
  · by_cases h2 : j = 10
    · subst h2; rfl
    · unfold stZ
      rw [uZ_n _ _ h2, uZ_n _ _ h1, uZ_n _ _ h1, uZ_n _ _ h2]

abbrev rm_X5_isBlank : Room := { frames := 0, cells := 0, slots := 0, locals := 0 }
set_option maxHeartbeats 4000000 in
set_option maxRecDepth 100000 in
theorem ct_X5_isBlank (l : Launch) (D : va_G) (cy : Nat → ClassId) (a : Nat → Nat) (z : Nat → Int) (g : Nat → Int → Int) (p0 : Int) (h0 : iR p0) : MI l yX5_isBlank cX5_isBlank 1 .boolean (rm_X5_isBlank) D cy (xw cy a z g) [vI p0] (fun (v : Int) (u : Unit) => (v = 1 ∧ (p0 = 32 ∨ p0 = 10)) ∨ (v = 0 ∧ ¬ (p0 = 32 ∨ p0 = 10))) (fun _ => xw cy a z g) 0 0 := by
  refine go_i (by decide +kernel) (Nat.le_of_ble_eq_true rfl) (Or.inr (fun v u h => nb01 (by omega))) ?_
  intro p e s m args below meth c Q A ls C hnm hA w hl hend
  have hx := C.1
  have hb := C.2.1
  replace hl : lv_has ls 1 [(0, vI p0)] := hl
  refine lv_iload_n hx hb dX5_isBlank_0 rfl (lv_at hl 0 rfl) ?_
  refine r_bipush hx hb dX5_isBlank_1 (by decide) ?_
  refine r_icmp_eq (tgt := 12) hx hb dX5_isBlank_3 (by decide) (by omega) (by omega) (fun c3 => ?_) (fun c3 => ?_)
  · skip
    refine r_iconst hx hb dX5_isBlank_12 ?_
    refine lv_goto (tgt := 17) hx hb dX5_isBlank_13 (by decide) ?_
    exact hend 1 () _ _ _ _ dX5_isBlank_17 w (by omega)
  · skip
    refine lv_iload_n hx hb dX5_isBlank_6 rfl (lv_at hl 0 rfl) ?_
    refine r_bipush hx hb dX5_isBlank_7 (by decide) ?_
    refine r_icmp_ne (tgt := 16) hx hb dX5_isBlank_9 (by decide) (by omega) (by omega) (fun c9 => ?_) (fun c9 => ?_)
    · skip
      refine r_iconst hx hb dX5_isBlank_16 ?_
      exact hend 0 () _ _ _ _ dX5_isBlank_17 w (by omega)
    · skip
      refine r_iconst hx hb dX5_isBlank_12 ?_
      refine lv_goto (tgt := 17) hx hb dX5_isBlank_13 (by decide) ?_
      exact hend 1 () _ _ _ _ dX5_isBlank_17 w (by omega)

abbrev rm_X5_isLetter : Room := { frames := 0, cells := 0, slots := 0, locals := 0 }
set_option maxHeartbeats 4000000 in
set_option maxRecDepth 100000 in
theorem ct_X5_isLetter (l : Launch) (D : va_G) (cy : Nat → ClassId) (a : Nat → Nat) (z : Nat → Int) (g : Nat → Int → Int) (p0 : Int) (h0 : iR p0) : MI l yX5_isLetter cX5_isLetter 1 .boolean (rm_X5_isLetter) D cy (xw cy a z g) [vI p0] (fun (v : Int) (u : Unit) => (v = 1 ∧ 97 ≤ p0 ∧ p0 ≤ 122) ∨ (v = 0 ∧ ¬ (97 ≤ p0 ∧ p0 ≤ 122))) (fun _ => xw cy a z g) 0 0 := by
  refine go_i (by decide +kernel) (Nat.le_of_ble_eq_true rfl) (Or.inr (fun v u h => nb01 (by omega))) ?_
  intro p e s m args below meth c Q A ls C hnm hA w hl hend
  have hx := C.1
  have hb := C.2.1
  replace hl : lv_has ls 1 [(0, vI p0)] := hl
  refine lv_iload_n hx hb dX5_isLetter_0 rfl (lv_at hl 0 rfl) ?_
  refine r_bipush hx hb dX5_isLetter_1 (by decide) ?_
  refine r_icmp_lt (tgt := 16) hx hb dX5_isLetter_3 (by decide) (by omega) (by omega) (fun c3 => ?_) (fun c3 => ?_)
  · skip
    refine r_iconst hx hb dX5_isLetter_16 ?_
    exact hend 0 () _ _ _ _ dX5_isLetter_17 w (by omega)
  · skip
    refine lv_iload_n hx hb dX5_isLetter_6 rfl (lv_at hl 0 rfl) ?_
    refine r_bipush hx hb dX5_isLetter_7 (by decide) ?_
    refine r_icmp_gt (tgt := 16) hx hb dX5_isLetter_9 (by decide) (by omega) (by omega) (fun c9 => ?_) (fun c9 => ?_)
    · skip
      refine r_iconst hx hb dX5_isLetter_16 ?_
      exact hend 0 () _ _ _ _ dX5_isLetter_17 w (by omega)
    · skip
      refine r_iconst hx hb dX5_isLetter_12 ?_
      refine lv_goto (tgt := 17) hx hb dX5_isLetter_13 (by decide) ?_
      exact hend 1 () _ _ _ _ dX5_isLetter_17 w (by omega)

abbrev rm_X5_isDigit : Room := { frames := 0, cells := 0, slots := 0, locals := 0 }
set_option maxHeartbeats 4000000 in
set_option maxRecDepth 100000 in
theorem ct_X5_isDigit (l : Launch) (D : va_G) (cy : Nat → ClassId) (a : Nat → Nat) (z : Nat → Int) (g : Nat → Int → Int) (p0 : Int) (h0 : iR p0) : MI l yX5_isDigit cX5_isDigit 1 .boolean (rm_X5_isDigit) D cy (xw cy a z g) [vI p0] (fun (v : Int) (u : Unit) => (v = 1 ∧ 48 ≤ p0 ∧ p0 ≤ 57) ∨ (v = 0 ∧ ¬ (48 ≤ p0 ∧ p0 ≤ 57))) (fun _ => xw cy a z g) 0 0 := by
  refine go_i (by decide +kernel) (Nat.le_of_ble_eq_true rfl) (Or.inr (fun v u h => nb01 (by omega))) ?_
  intro p e s m args below meth c Q A ls C hnm hA w hl hend
  have hx := C.1
  have hb := C.2.1
  replace hl : lv_has ls 1 [(0, vI p0)] := hl
  refine lv_iload_n hx hb dX5_isDigit_0 rfl (lv_at hl 0 rfl) ?_
  refine r_bipush hx hb dX5_isDigit_1 (by decide) ?_
  refine r_icmp_lt (tgt := 16) hx hb dX5_isDigit_3 (by decide) (by omega) (by omega) (fun c3 => ?_) (fun c3 => ?_)
  · skip
    refine r_iconst hx hb dX5_isDigit_16 ?_
    exact hend 0 () _ _ _ _ dX5_isDigit_17 w (by omega)
  · skip
    refine lv_iload_n hx hb dX5_isDigit_6 rfl (lv_at hl 0 rfl) ?_
    refine r_bipush hx hb dX5_isDigit_7 (by decide) ?_
    refine r_icmp_gt (tgt := 16) hx hb dX5_isDigit_9 (by decide) (by omega) (by omega) (fun c9 => ?_) (fun c9 => ?_)
    · skip
      refine r_iconst hx hb dX5_isDigit_16 ?_
      exact hend 0 () _ _ _ _ dX5_isDigit_17 w (by omega)
    · skip
      refine r_iconst hx hb dX5_isDigit_12 ?_
      refine lv_goto (tgt := 17) hx hb dX5_isDigit_13 (by decide) ?_
      exact hend 1 () _ _ _ _ dX5_isDigit_17 w (by omega)

abbrev rm_X5_stepOverRun : Room := { frames := 1, cells := 0, slots := 0, locals := 21 }
set_option maxHeartbeats 4000000 in
set_option maxRecDepth 100000 in
theorem ct_X5_stepOverRun (l : Launch) (D : va_G) (cy : Nat → ClassId) (a : Nat → Nat) (z : Nat → Int) (g : Nat → Int → Int)  (hz : xBz z) (hg : xBg g) (h9 : z 9 < z 2) (hld : isLD (bt (g 2) (z 2) (z 9))) : MV l yX5_stepOverRun cX5_stepOverRun 3 (rm_X5_stepOverRun) D cy (xw cy a z g) [.ref (a 6)] (fun (u : sX) => (∃ e k : Int, u = (uZ (uZ z 10 e) 8 k, g) ∧ z 9 < e ∧ e ≤ z 2 ∧ (∀ j, z 9 ≤ j → j < e → isLD (bt (g 2) (z 2) j)) ∧ (e = z 2 ∨ ¬ isLD (bt (g 2) (z 2) e)) ∧ kRun (bt (g 2) (z 2)) (z 9) e k) ∧ xBz u.1 ∧ xBg u.2) (fun u => xw cy a u.1 u.2) 0 0 := by
  refine go_v (by decide +kernel) (Nat.le_of_ble_eq_true rfl) ?_
  intro p e s m args below meth c Q A ls C hnm hA w hl hend
  have hx := C.1
  have hb := C.2.1
  have b2_ := xZ2 hz
  have b9_ := xZ9 hz
  have J12 : ∀ N : Nat, ∀ (lt : Int) (dg : Int) (e9 : Int), ((0 : Int) ≤ e9 ∧ e9 ≤ 200) → (z 9 ≤ e9 ∧ e9 ≤ z 2) → (cntR (bt (g 2) (z 2)) (z 9) e9 lt dg) → ((z 2 - e9).toNat) < N → ∀ (H : Heap) (locs : List Loc) (ls : Array Slot), wd D A s.heap (xw cy a (uZ z 10 e9) g) H locs → lv_has ls 3 [(0, .ref (a 6)), (1, vI lt), (2, vI dg)] → W p l e (rm_X5_stepOverRun) s m args below meth c H locs 0 0 Q (F0 m 12 ls []) := by
    intro N
    induction N with
    | zero => intro lt dg e9 be9 he hc hN9; exact absurd hN9 (Nat.not_lt_zero _)
    | succ N ih12 =>
      intro lt dg e9 be9 he hc hN12 H locs ls w hl
      have hc2 := hc.2.1
      refine lv_aload_n hx hb dX5_stepOverRun_12 rfl (lv_at hl 0 rfl) ?_
      refine r_get C w 6 (v := vI e9) rfl rfl 8 (by decide) inX5 kf_X5_55 rfl dX5_stepOverRun_13 ?_
      refine lv_aload_n hx hb dX5_stepOverRun_16 rfl (lv_at hl 0 rfl) ?_
      refine r_get C w 6 (v := .ref (a 1)) rfl rfl 0 (by decide) inX5 kf_X5_25 rfl dX5_stepOverRun_17 ?_
      refine r_getN C w 1 (v := vI (z 2)) rfl rfl 1 (by decide) inX8 kt_X5_122 rfl dX5_stepOverRun_20 ?_
      have qz1 := xZ2 hz
      refine r_icmp_ge (tgt := 99) hx hb dX5_stepOverRun_23 (by decide) (by omega) (by omega) (fun c23 => ?_) (fun c23 => ?_)
      · skip
        have hex : e9 = z 2 ∨ ¬ isLD (bt (g 2) (z 2) e9) := by omega
        have hne := run_ne he.1 h9 hld hex
        refine lv_iload_n hx hb dX5_stepOverRun_99 rfl (lv_at hl 2 rfl) ?_
        refine r_if_ne (tgt := 111) hx hb dX5_stepOverRun_100 (by decide) (by omega) (fun c100 => ?_) (fun c100 => ?_)
        · skip
          refine lv_aload_n hx hb dX5_stepOverRun_111 rfl (lv_at hl 0 rfl) ?_
          refine lv_iload_n hx hb dX5_stepOverRun_112 rfl (lv_at hl 1 rfl) ?_
          refine r_if_ne (tgt := 125) hx hb dX5_stepOverRun_113 (by decide) (by omega) (fun c113 => ?_) (fun c113 => ?_)
          · skip
            refine r_iconst hx hb dX5_stepOverRun_125 ?_
            refine r_put C w 6 tyX5 tyX5_ok nmX5 rfl rfl 6 (by decide) inX5 kf_X5_35 rfl rfl rfl (Nat.le_of_ble_eq_true rfl) (ws' := xw cy a (uZ (uZ z 10 e9) 8 4) g) (xw_z8 cy a (uZ z 10 e9) g 4) dX5_stepOverRun_126 (fun H locs w => ?_)
            have bz2 : (0 : Int) ≤ 4 ∧ (4 : Int) ≤ 4 := (by omega)
            exact hend ((uZ (uZ z 10 e9) 8 4), g) _ _ _ _ dX5_stepOverRun_129 w ⟨(by refine ⟨e9, _, rfl, hne, he.2, hc.1, hex, cnt_k hc ?_⟩; omega), (xBz_u (xBz_u hz 10 be9) 8 bz2), hg⟩
          · skip
            refine lv_iload_n hx hb dX5_stepOverRun_116 rfl (lv_at hl 2 rfl) ?_
            refine r_iconst hx hb dX5_stepOverRun_117 ?_
            refine r_icmp_gt (tgt := 125) hx hb dX5_stepOverRun_118 (by decide) (by omega) (by omega) (fun c118 => ?_) (fun c118 => ?_)
            · skip
              refine r_iconst hx hb dX5_stepOverRun_125 ?_
              refine r_put C w 6 tyX5 tyX5_ok nmX5 rfl rfl 6 (by decide) inX5 kf_X5_35 rfl rfl rfl (Nat.le_of_ble_eq_true rfl) (ws' := xw cy a (uZ (uZ z 10 e9) 8 4) g) (xw_z8 cy a (uZ z 10 e9) g 4) dX5_stepOverRun_126 (fun H locs w => ?_)
              have bz3 : (0 : Int) ≤ 4 ∧ (4 : Int) ≤ 4 := (by omega)
              exact hend ((uZ (uZ z 10 e9) 8 4), g) _ _ _ _ dX5_stepOverRun_129 w ⟨(by refine ⟨e9, _, rfl, hne, he.2, hc.1, hex, cnt_k hc ?_⟩; omega), (xBz_u (xBz_u hz 10 be9) 8 bz3), hg⟩
            · skip
              refine r_iconst hx hb dX5_stepOverRun_121 ?_
              refine lv_goto (tgt := 126) hx hb dX5_stepOverRun_122 (by decide) ?_
              refine r_put C w 6 tyX5 tyX5_ok nmX5 rfl rfl 6 (by decide) inX5 kf_X5_35 rfl rfl rfl (Nat.le_of_ble_eq_true rfl) (ws' := xw cy a (uZ (uZ z 10 e9) 8 2) g) (xw_z8 cy a (uZ z 10 e9) g 2) dX5_stepOverRun_126 (fun H locs w => ?_)
              have bz4 : (0 : Int) ≤ 2 ∧ (2 : Int) ≤ 4 := (by omega)
              exact hend ((uZ (uZ z 10 e9) 8 2), g) _ _ _ _ dX5_stepOverRun_129 w ⟨(by refine ⟨e9, _, rfl, hne, he.2, hc.1, hex, cnt_k hc ?_⟩; omega), (xBz_u (xBz_u hz 10 be9) 8 bz4), hg⟩
        · skip
          refine lv_aload_n hx hb dX5_stepOverRun_103 rfl (lv_at hl 0 rfl) ?_
          refine r_iconst hx hb dX5_stepOverRun_104 ?_
          refine r_put C w 6 tyX5 tyX5_ok nmX5 rfl rfl 6 (by decide) inX5 kf_X5_35 rfl rfl rfl (Nat.le_of_ble_eq_true rfl) (ws' := xw cy a (uZ (uZ z 10 e9) 8 1) g) (xw_z8 cy a (uZ z 10 e9) g 1) dX5_stepOverRun_105 (fun H locs w => ?_)
          have bz5 : (0 : Int) ≤ 1 ∧ (1 : Int) ≤ 4 := (by omega)
          refine lv_goto (tgt := 129) hx hb dX5_stepOverRun_108 (by decide) ?_
          exact hend ((uZ (uZ z 10 e9) 8 1), g) _ _ _ _ dX5_stepOverRun_129 w ⟨(by refine ⟨e9, _, rfl, hne, he.2, hc.1, hex, cnt_k hc ?_⟩; omega), (xBz_u (xBz_u hz 10 be9) 8 bz5), hg⟩
      · skip
        refine lv_aload_n hx hb dX5_stepOverRun_26 rfl (lv_at hl 0 rfl) ?_
        refine r_get C w 6 (v := .ref (a 1)) rfl rfl 0 (by decide) inX5 kf_X5_25 rfl dX5_stepOverRun_27 ?_
        refine lv_aload_n hx hb dX5_stepOverRun_30 rfl (lv_at hl 0 rfl) ?_
        refine r_get C w 6 (v := vI e9) rfl rfl 8 (by decide) inX5 kf_X5_55 rfl dX5_stepOverRun_31 ?_
        refine cVI C w hA (ct_X8_byteAt l D cy a (uZ z 10 e9) g e9 (xBz_u hz 10 be9) hg (by show iR e9; omega)) ok_X8_byteAt km_X5_117 ⟨rfl, rfl⟩ ⟨by decide, by decide⟩ ⟨by decide, by decide⟩ rfl 1 rfl rfl hl.1 rfl (Nat.le_of_ble_eq_true rfl) dX5_stepOverRun_34 (fun rv_1 uv_1 H locs w hp_1 => ?_)
        replace hp_1 : (0 ≤ e9 ∧ e9 < (z 2) ∧ rv_1 = (g 2) e9) ∨ (¬ (0 ≤ e9 ∧ e9 < (z 2)) ∧ rv_1 = 0) := hp_1
        replace w : wd D A s.heap (xw cy a (uZ z 10 e9) g) H locs := w
        have hB1 := bt_v hp_1; have hBb1 := btv_b (z := z) hg hB1
        refine cSI C w hA (ct_X5_isLetter l D cy a (uZ z 10 e9) g rv_1 (by show iR rv_1; omega)) ok_X5_isLetter km_X5_129 ⟨rfl, rfl⟩ ⟨by decide, by decide⟩ ⟨by decide, by decide⟩ rfl hl.1 rfl (Nat.le_of_ble_eq_true rfl) dX5_stepOverRun_37 (fun rv_2 uv_2 H locs w hp_2 => ?_)
        replace hp_2 : (rv_2 = 1 ∧ 97 ≤ rv_1 ∧ rv_1 ≤ 122) ∨ (rv_2 = 0 ∧ ¬ (97 ≤ rv_1 ∧ rv_1 ≤ 122)) := hp_2
        replace w : wd D A s.heap (xw cy a (uZ z 10 e9) g) H locs := w
        refine r_if_ne (tgt := 60) hx hb dX5_stepOverRun_40 (by decide) (by omega) (fun c40 => ?_) (fun c40 => ?_)
        · skip
          refine lv_aload_n hx hb dX5_stepOverRun_60 rfl (lv_at hl 0 rfl) ?_
          refine r_get C w 6 (v := .ref (a 1)) rfl rfl 0 (by decide) inX5 kf_X5_25 rfl dX5_stepOverRun_61 ?_
          refine lv_aload_n hx hb dX5_stepOverRun_64 rfl (lv_at hl 0 rfl) ?_
          refine r_get C w 6 (v := vI e9) rfl rfl 8 (by decide) inX5 kf_X5_55 rfl dX5_stepOverRun_65 ?_
          refine cVI C w hA (ct_X8_byteAt l D cy a (uZ z 10 e9) g e9 (xBz_u hz 10 be9) hg (by show iR e9; omega)) ok_X8_byteAt km_X5_117 ⟨rfl, rfl⟩ ⟨by decide, by decide⟩ ⟨by decide, by decide⟩ rfl 1 rfl rfl hl.1 rfl (Nat.le_of_ble_eq_true rfl) dX5_stepOverRun_68 (fun rv_3 uv_3 H locs w hp_3 => ?_)
          replace hp_3 : (0 ≤ e9 ∧ e9 < (z 2) ∧ rv_3 = (g 2) e9) ∨ (¬ (0 ≤ e9 ∧ e9 < (z 2)) ∧ rv_3 = 0) := hp_3
          replace w : wd D A s.heap (xw cy a (uZ z 10 e9) g) H locs := w
          have hB3 := bt_v hp_3; have hBb3 := btv_b (z := z) hg hB3
          refine cSI C w hA (ct_X5_isLetter l D cy a (uZ z 10 e9) g rv_3 (by show iR rv_3; omega)) ok_X5_isLetter km_X5_129 ⟨rfl, rfl⟩ ⟨by decide, by decide⟩ ⟨by decide, by decide⟩ rfl hl.1 rfl (Nat.le_of_ble_eq_true rfl) dX5_stepOverRun_71 (fun rv_4 uv_4 H locs w hp_4 => ?_)
          replace hp_4 : (rv_4 = 1 ∧ 97 ≤ rv_3 ∧ rv_3 ≤ 122) ∨ (rv_4 = 0 ∧ ¬ (97 ≤ rv_3 ∧ rv_3 ≤ 122)) := hp_4
          replace w : wd D A s.heap (xw cy a (uZ z 10 e9) g) H locs := w
          refine r_if_eq (tgt := 83) hx hb dX5_stepOverRun_74 (by decide) (by omega) (fun c74 => ?_) (fun c74 => ?_)
          · skip
            refine r_iinc (lv' := [(2, vI (dg + 1)), (0, .ref (a 6)), (1, vI lt)]) hx hb dX5_stepOverRun_83 hl (k := 2) rfl (by decide) rfl (fun ls hl => ?_)
            refine lv_aload_n hx hb dX5_stepOverRun_86 rfl (lv_at hl 1 rfl) ?_
            refine lv_dup hx hb dX5_stepOverRun_87 rfl ?_
            refine r_get C w 6 (v := vI e9) rfl rfl 8 (by decide) inX5 kf_X5_55 rfl dX5_stepOverRun_88 ?_
            refine r_iconst hx hb dX5_stepOverRun_91 ?_
            refine r_iadd hx hb dX5_stepOverRun_92 ?_
            refine r_put C w 6 tyX5 tyX5_ok nmX5 rfl rfl 8 (by decide) inX5 kf_X5_55 rfl rfl rfl (Nat.le_of_ble_eq_true rfl) (ws' := xw cy a (uZ z 10 (e9 + 1)) g) rfl dX5_stepOverRun_93 (fun H locs w => ?_)
            have bz6 : (0 : Int) ≤ (e9 + 1) ∧ ((e9 + 1) : Int) ≤ 200 := (by omega)
            refine lv_goto (tgt := 12) hx hb dX5_stepOverRun_96 (by decide) ?_
            exact ih12 lt (dg + 1) (e9 + 1) bz6 (by omega) (by first | exact cnt_l hc he.1 (by omega) | exact cnt_d hc he.1 (by omega)) (by omega) _ _ _ w (lv_sub hl [1, 2, 0] rfl)
          · skip
            refine r_iinc (lv' := [(1, vI (lt + 1)), (0, .ref (a 6)), (2, vI dg)]) hx hb dX5_stepOverRun_77 hl (k := 1) rfl (by decide) rfl (fun ls hl => ?_)
            refine lv_goto (tgt := 86) hx hb dX5_stepOverRun_80 (by decide) ?_
            refine lv_aload_n hx hb dX5_stepOverRun_86 rfl (lv_at hl 1 rfl) ?_
            refine lv_dup hx hb dX5_stepOverRun_87 rfl ?_
            refine r_get C w 6 (v := vI e9) rfl rfl 8 (by decide) inX5 kf_X5_55 rfl dX5_stepOverRun_88 ?_
            refine r_iconst hx hb dX5_stepOverRun_91 ?_
            refine r_iadd hx hb dX5_stepOverRun_92 ?_
            refine r_put C w 6 tyX5 tyX5_ok nmX5 rfl rfl 8 (by decide) inX5 kf_X5_55 rfl rfl rfl (Nat.le_of_ble_eq_true rfl) (ws' := xw cy a (uZ z 10 (e9 + 1)) g) rfl dX5_stepOverRun_93 (fun H locs w => ?_)
            have bz7 : (0 : Int) ≤ (e9 + 1) ∧ ((e9 + 1) : Int) ≤ 200 := (by omega)
            refine lv_goto (tgt := 12) hx hb dX5_stepOverRun_96 (by decide) ?_
            exact ih12 (lt + 1) dg (e9 + 1) bz7 (by omega) (by first | exact cnt_l hc he.1 (by omega) | exact cnt_d hc he.1 (by omega)) (by omega) _ _ _ w (lv_sub hl [1, 0, 2] rfl)
        · skip
          refine lv_aload_n hx hb dX5_stepOverRun_43 rfl (lv_at hl 0 rfl) ?_
          refine r_get C w 6 (v := .ref (a 1)) rfl rfl 0 (by decide) inX5 kf_X5_25 rfl dX5_stepOverRun_44 ?_
          refine lv_aload_n hx hb dX5_stepOverRun_47 rfl (lv_at hl 0 rfl) ?_
          refine r_get C w 6 (v := vI e9) rfl rfl 8 (by decide) inX5 kf_X5_55 rfl dX5_stepOverRun_48 ?_
          refine cVI C w hA (ct_X8_byteAt l D cy a (uZ z 10 e9) g e9 (xBz_u hz 10 be9) hg (by show iR e9; omega)) ok_X8_byteAt km_X5_117 ⟨rfl, rfl⟩ ⟨by decide, by decide⟩ ⟨by decide, by decide⟩ rfl 1 rfl rfl hl.1 rfl (Nat.le_of_ble_eq_true rfl) dX5_stepOverRun_51 (fun rv_5 uv_5 H locs w hp_5 => ?_)
          replace hp_5 : (0 ≤ e9 ∧ e9 < (z 2) ∧ rv_5 = (g 2) e9) ∨ (¬ (0 ≤ e9 ∧ e9 < (z 2)) ∧ rv_5 = 0) := hp_5
          replace w : wd D A s.heap (xw cy a (uZ z 10 e9) g) H locs := w
          have hB5 := bt_v hp_5; have hBb5 := btv_b (z := z) hg hB5
          refine cSI C w hA (ct_X5_isDigit l D cy a (uZ z 10 e9) g rv_5 (by show iR rv_5; omega)) ok_X5_isDigit km_X5_132 ⟨rfl, rfl⟩ ⟨by decide, by decide⟩ ⟨by decide, by decide⟩ rfl hl.1 rfl (Nat.le_of_ble_eq_true rfl) dX5_stepOverRun_54 (fun rv_6 uv_6 H locs w hp_6 => ?_)
          replace hp_6 : (rv_6 = 1 ∧ 48 ≤ rv_5 ∧ rv_5 ≤ 57) ∨ (rv_6 = 0 ∧ ¬ (48 ≤ rv_5 ∧ rv_5 ≤ 57)) := hp_6
          replace w : wd D A s.heap (xw cy a (uZ z 10 e9) g) H locs := w
          refine r_if_eq (tgt := 99) hx hb dX5_stepOverRun_57 (by decide) (by omega) (fun c57 => ?_) (fun c57 => ?_)
          · skip
            have hex : e9 = z 2 ∨ ¬ isLD (bt (g 2) (z 2) e9) := by omega
            have hne := run_ne he.1 h9 hld hex
            refine lv_iload_n hx hb dX5_stepOverRun_99 rfl (lv_at hl 2 rfl) ?_
            refine r_if_ne (tgt := 111) hx hb dX5_stepOverRun_100 (by decide) (by omega) (fun c100 => ?_) (fun c100 => ?_)
            · skip
              refine lv_aload_n hx hb dX5_stepOverRun_111 rfl (lv_at hl 0 rfl) ?_
              refine lv_iload_n hx hb dX5_stepOverRun_112 rfl (lv_at hl 1 rfl) ?_
              refine r_if_ne (tgt := 125) hx hb dX5_stepOverRun_113 (by decide) (by omega) (fun c113 => ?_) (fun c113 => ?_)
              · skip
                refine r_iconst hx hb dX5_stepOverRun_125 ?_
                refine r_put C w 6 tyX5 tyX5_ok nmX5 rfl rfl 6 (by decide) inX5 kf_X5_35 rfl rfl rfl (Nat.le_of_ble_eq_true rfl) (ws' := xw cy a (uZ (uZ z 10 e9) 8 4) g) (xw_z8 cy a (uZ z 10 e9) g 4) dX5_stepOverRun_126 (fun H locs w => ?_)
                have bz8 : (0 : Int) ≤ 4 ∧ (4 : Int) ≤ 4 := (by omega)
                exact hend ((uZ (uZ z 10 e9) 8 4), g) _ _ _ _ dX5_stepOverRun_129 w ⟨(by refine ⟨e9, _, rfl, hne, he.2, hc.1, hex, cnt_k hc ?_⟩; omega), (xBz_u (xBz_u hz 10 be9) 8 bz8), hg⟩
              · skip
                refine lv_iload_n hx hb dX5_stepOverRun_116 rfl (lv_at hl 2 rfl) ?_
                refine r_iconst hx hb dX5_stepOverRun_117 ?_
                refine r_icmp_gt (tgt := 125) hx hb dX5_stepOverRun_118 (by decide) (by omega) (by omega) (fun c118 => ?_) (fun c118 => ?_)
                · skip
                  refine r_iconst hx hb dX5_stepOverRun_125 ?_
                  refine r_put C w 6 tyX5 tyX5_ok nmX5 rfl rfl 6 (by decide) inX5 kf_X5_35 rfl rfl rfl (Nat.le_of_ble_eq_true rfl) (ws' := xw cy a (uZ (uZ z 10 e9) 8 4) g) (xw_z8 cy a (uZ z 10 e9) g 4) dX5_stepOverRun_126 (fun H locs w => ?_)
                  have bz9 : (0 : Int) ≤ 4 ∧ (4 : Int) ≤ 4 := (by omega)
                  exact hend ((uZ (uZ z 10 e9) 8 4), g) _ _ _ _ dX5_stepOverRun_129 w ⟨(by refine ⟨e9, _, rfl, hne, he.2, hc.1, hex, cnt_k hc ?_⟩; omega), (xBz_u (xBz_u hz 10 be9) 8 bz9), hg⟩
                · skip
                  refine r_iconst hx hb dX5_stepOverRun_121 ?_
                  refine lv_goto (tgt := 126) hx hb dX5_stepOverRun_122 (by decide) ?_
                  refine r_put C w 6 tyX5 tyX5_ok nmX5 rfl rfl 6 (by decide) inX5 kf_X5_35 rfl rfl rfl (Nat.le_of_ble_eq_true rfl) (ws' := xw cy a (uZ (uZ z 10 e9) 8 2) g) (xw_z8 cy a (uZ z 10 e9) g 2) dX5_stepOverRun_126 (fun H locs w => ?_)
                  have bz10 : (0 : Int) ≤ 2 ∧ (2 : Int) ≤ 4 := (by omega)
                  exact hend ((uZ (uZ z 10 e9) 8 2), g) _ _ _ _ dX5_stepOverRun_129 w ⟨(by refine ⟨e9, _, rfl, hne, he.2, hc.1, hex, cnt_k hc ?_⟩; omega), (xBz_u (xBz_u hz 10 be9) 8 bz10), hg⟩
            · skip
              refine lv_aload_n hx hb dX5_stepOverRun_103 rfl (lv_at hl 0 rfl) ?_
              refine r_iconst hx hb dX5_stepOverRun_104 ?_
              refine r_put C w 6 tyX5 tyX5_ok nmX5 rfl rfl 6 (by decide) inX5 kf_X5_35 rfl rfl rfl (Nat.le_of_ble_eq_true rfl) (ws' := xw cy a (uZ (uZ z 10 e9) 8 1) g) (xw_z8 cy a (uZ z 10 e9) g 1) dX5_stepOverRun_105 (fun H locs w => ?_)
              have bz11 : (0 : Int) ≤ 1 ∧ (1 : Int) ≤ 4 := (by omega)
              refine lv_goto (tgt := 129) hx hb dX5_stepOverRun_108 (by decide) ?_
              exact hend ((uZ (uZ z 10 e9) 8 1), g) _ _ _ _ dX5_stepOverRun_129 w ⟨(by refine ⟨e9, _, rfl, hne, he.2, hc.1, hex, cnt_k hc ?_⟩; omega), (xBz_u (xBz_u hz 10 be9) 8 bz11), hg⟩
          · skip
            refine lv_aload_n hx hb dX5_stepOverRun_60 rfl (lv_at hl 0 rfl) ?_
            refine r_get C w 6 (v := .ref (a 1)) rfl rfl 0 (by decide) inX5 kf_X5_25 rfl dX5_stepOverRun_61 ?_
            refine lv_aload_n hx hb dX5_stepOverRun_64 rfl (lv_at hl 0 rfl) ?_
            refine r_get C w 6 (v := vI e9) rfl rfl 8 (by decide) inX5 kf_X5_55 rfl dX5_stepOverRun_65 ?_
            refine cVI C w hA (ct_X8_byteAt l D cy a (uZ z 10 e9) g e9 (xBz_u hz 10 be9) hg (by show iR e9; omega)) ok_X8_byteAt km_X5_117 ⟨rfl, rfl⟩ ⟨by decide, by decide⟩ ⟨by decide, by decide⟩ rfl 1 rfl rfl hl.1 rfl (Nat.le_of_ble_eq_true rfl) dX5_stepOverRun_68 (fun rv_7 uv_7 H locs w hp_7 => ?_)
            replace hp_7 : (0 ≤ e9 ∧ e9 < (z 2) ∧ rv_7 = (g 2) e9) ∨ (¬ (0 ≤ e9 ∧ e9 < (z 2)) ∧ rv_7 = 0) := hp_7
            replace w : wd D A s.heap (xw cy a (uZ z 10 e9) g) H locs := w
            have hB7 := bt_v hp_7; have hBb7 := btv_b (z := z) hg hB7
            refine cSI C w hA (ct_X5_isLetter l D cy a (uZ z 10 e9) g rv_7 (by show iR rv_7; omega)) ok_X5_isLetter km_X5_129 ⟨rfl, rfl⟩ ⟨by decide, by decide⟩ ⟨by decide, by decide⟩ rfl hl.1 rfl (Nat.le_of_ble_eq_true rfl) dX5_stepOverRun_71 (fun rv_8 uv_8 H locs w hp_8 => ?_)
            replace hp_8 : (rv_8 = 1 ∧ 97 ≤ rv_7 ∧ rv_7 ≤ 122) ∨ (rv_8 = 0 ∧ ¬ (97 ≤ rv_7 ∧ rv_7 ≤ 122)) := hp_8
            replace w : wd D A s.heap (xw cy a (uZ z 10 e9) g) H locs := w
            refine r_if_eq (tgt := 83) hx hb dX5_stepOverRun_74 (by decide) (by omega) (fun c74 => ?_) (fun c74 => ?_)
            · skip
              refine r_iinc (lv' := [(2, vI (dg + 1)), (0, .ref (a 6)), (1, vI lt)]) hx hb dX5_stepOverRun_83 hl (k := 2) rfl (by decide) rfl (fun ls hl => ?_)
              refine lv_aload_n hx hb dX5_stepOverRun_86 rfl (lv_at hl 1 rfl) ?_
              refine lv_dup hx hb dX5_stepOverRun_87 rfl ?_
              refine r_get C w 6 (v := vI e9) rfl rfl 8 (by decide) inX5 kf_X5_55 rfl dX5_stepOverRun_88 ?_
              refine r_iconst hx hb dX5_stepOverRun_91 ?_
              refine r_iadd hx hb dX5_stepOverRun_92 ?_
              refine r_put C w 6 tyX5 tyX5_ok nmX5 rfl rfl 8 (by decide) inX5 kf_X5_55 rfl rfl rfl (Nat.le_of_ble_eq_true rfl) (ws' := xw cy a (uZ z 10 (e9 + 1)) g) rfl dX5_stepOverRun_93 (fun H locs w => ?_)
              have bz12 : (0 : Int) ≤ (e9 + 1) ∧ ((e9 + 1) : Int) ≤ 200 := (by omega)
              refine lv_goto (tgt := 12) hx hb dX5_stepOverRun_96 (by decide) ?_
              exact ih12 lt (dg + 1) (e9 + 1) bz12 (by omega) (by first | exact cnt_l hc he.1 (by omega) | exact cnt_d hc he.1 (by omega)) (by omega) _ _ _ w (lv_sub hl [1, 2, 0] rfl)
            · skip
              refine r_iinc (lv' := [(1, vI (lt + 1)), (0, .ref (a 6)), (2, vI dg)]) hx hb dX5_stepOverRun_77 hl (k := 1) rfl (by decide) rfl (fun ls hl => ?_)
              refine lv_goto (tgt := 86) hx hb dX5_stepOverRun_80 (by decide) ?_
              refine lv_aload_n hx hb dX5_stepOverRun_86 rfl (lv_at hl 1 rfl) ?_
              refine lv_dup hx hb dX5_stepOverRun_87 rfl ?_
              refine r_get C w 6 (v := vI e9) rfl rfl 8 (by decide) inX5 kf_X5_55 rfl dX5_stepOverRun_88 ?_
              refine r_iconst hx hb dX5_stepOverRun_91 ?_
              refine r_iadd hx hb dX5_stepOverRun_92 ?_
              refine r_put C w 6 tyX5 tyX5_ok nmX5 rfl rfl 8 (by decide) inX5 kf_X5_55 rfl rfl rfl (Nat.le_of_ble_eq_true rfl) (ws' := xw cy a (uZ z 10 (e9 + 1)) g) rfl dX5_stepOverRun_93 (fun H locs w => ?_)
              have bz13 : (0 : Int) ≤ (e9 + 1) ∧ ((e9 + 1) : Int) ≤ 200 := (by omega)
              refine lv_goto (tgt := 12) hx hb dX5_stepOverRun_96 (by decide) ?_
              exact ih12 (lt + 1) dg (e9 + 1) bz13 (by omega) (by first | exact cnt_l hc he.1 (by omega) | exact cnt_d hc he.1 (by omega)) (by omega) _ _ _ w (lv_sub hl [1, 0, 2] rfl)
  replace hl : lv_has ls 3 [(0, .ref (a 6))] := hl
  refine r_iconst hx hb dX5_stepOverRun_0 ?_
  refine lv_istore_n (lv' := [(1, vI 0), (0, .ref (a 6))]) hx hb dX5_stepOverRun_1 rfl hl (by decide) rfl (fun ls hl => ?_)
  refine r_iconst hx hb dX5_stepOverRun_2 ?_
  refine lv_istore_n (lv' := [(2, vI 0), (1, vI 0), (0, .ref (a 6))]) hx hb dX5_stepOverRun_3 rfl hl (by decide) rfl (fun ls hl => ?_)
  refine lv_aload_n hx hb dX5_stepOverRun_4 rfl (lv_at hl 2 rfl) ?_
  refine lv_aload_n hx hb dX5_stepOverRun_5 rfl (lv_at hl 2 rfl) ?_
  refine r_get C w 6 (v := vI (z 9)) rfl rfl 7 (by decide) inX5 kf_X5_114 rfl dX5_stepOverRun_6 ?_
  have qz14 := xZ9 hz
  refine r_put C w 6 tyX5 tyX5_ok nmX5 rfl rfl 8 (by decide) inX5 kf_X5_55 rfl rfl rfl (Nat.le_of_ble_eq_true rfl) (ws' := xw cy a (uZ z 10 (z 9)) g) (xw_z10 cy a z g (z 9)) dX5_stepOverRun_9 (fun H locs w => ?_)
  have bz15 : (0 : Int) ≤ (z 9) ∧ ((z 9) : Int) ≤ 200 := (by omega)
  exact J12 _ 0 0 (z 9) bz15 (by omega) (by exact cnt_0 _ _) (Nat.lt_succ_self _) _ _ _ w (lv_sub hl [2, 1, 0] rfl)

abbrev rm_X5_step : Room := { frames := 2, cells := 0, slots := 0, locals := 43 }
set_option maxHeartbeats 4000000 in
set_option maxRecDepth 100000 in
theorem ct_X5_step (l : Launch) (D : va_G) (cy : Nat → ClassId) (a : Nat → Nat) (z : Nat → Int) (g : Nat → Int → Int)  (hz : xBz z) (hg : xBg g) (h10 : z 10 ≤ z 2) : MV l yX5_step cX5_step 2 (rm_X5_step) D cy (xw cy a z g) [.ref (a 6)] (fun (u : sX) => (∃ s e k : Int, u = (stZ z k s e, g) ∧ isTok (bt (g 2) (z 2)) (z 2) (z 10) s e k) ∧ xBz u.1 ∧ xBg u.2) (fun u => xw cy a u.1 u.2) 0 0 := by
  refine go_v (by decide +kernel) (Nat.le_of_ble_eq_true rfl) ?_
  intro p e s m args below meth c Q A ls C hnm hA w hl hend
  have hx := C.1
  have hb := C.2.1
  have b2_ := xZ2 hz
  have b10_ := xZ10 hz
  have J8 : ∀ N : Nat, ∀ (s9 : Int), ((0 : Int) ≤ s9 ∧ s9 ≤ 200) → (z 10 ≤ s9 ∧ s9 ≤ z 2) → (∀ j, z 10 ≤ j → j < s9 → bt (g 2) (z 2) j = 32 ∨ bt (g 2) (z 2) j = 10) → ((z 2 - s9).toNat) < N → ∀ (H : Heap) (locs : List Loc) (ls : Array Slot), wd D A s.heap (xw cy a (uZ z 9 s9) g) H locs → lv_has ls 2 [(0, .ref (a 6))] → W p l e (rm_X5_step) s m args below meth c H locs 0 0 Q (F0 m 8 ls []) := by
    intro N
    induction N with
    | zero => intro s9 bs9 hs hbl hN9; exact absurd hN9 (Nat.not_lt_zero _)
    | succ N ih8 =>
      intro s9 bs9 hs hbl hN8 H locs ls w hl
      refine lv_aload_n hx hb dX5_step_8 rfl (lv_at hl 0 rfl) ?_
      refine r_get C w 6 (v := vI s9) rfl rfl 7 (by decide) inX5 kf_X5_114 rfl dX5_step_9 ?_
      refine lv_aload_n hx hb dX5_step_12 rfl (lv_at hl 0 rfl) ?_
      refine r_get C w 6 (v := .ref (a 1)) rfl rfl 0 (by decide) inX5 kf_X5_25 rfl dX5_step_13 ?_
      refine r_getN C w 1 (v := vI (z 2)) rfl rfl 1 (by decide) inX8 kt_X5_122 rfl dX5_step_16 ?_
      have qz1 := xZ2 hz
      refine r_icmp_ge (tgt := 52) hx hb dX5_step_19 (by decide) (by omega) (by omega) (fun c19 => ?_) (fun c19 => ?_)
      · skip
        have hnb : s9 = z 2 ∨ ¬ (bt (g 2) (z 2) s9 = 32 ∨ bt (g 2) (z 2) s9 = 10) := by omega
        refine lv_aload_n hx hb dX5_step_52 rfl (lv_at hl 0 rfl) ?_
        refine r_get C w 6 (v := .ref (a 1)) rfl rfl 0 (by decide) inX5 kf_X5_25 rfl dX5_step_53 ?_
        refine lv_aload_n hx hb dX5_step_56 rfl (lv_at hl 0 rfl) ?_
        refine r_get C w 6 (v := vI s9) rfl rfl 7 (by decide) inX5 kf_X5_114 rfl dX5_step_57 ?_
        refine cVI C w hA (ct_X8_byteAt l D cy a (uZ z 9 s9) g s9 (xBz_u hz 9 bs9) hg (by show iR s9; omega)) ok_X8_byteAt km_X5_117 ⟨rfl, rfl⟩ ⟨by decide, by decide⟩ ⟨by decide, by decide⟩ rfl 1 rfl rfl hl.1 rfl (Nat.le_of_ble_eq_true rfl) dX5_step_60 (fun rv_1 uv_1 H locs w hp_1 => ?_)
        replace hp_1 : (0 ≤ s9 ∧ s9 < (z 2) ∧ rv_1 = (g 2) s9) ∨ (¬ (0 ≤ s9 ∧ s9 < (z 2)) ∧ rv_1 = 0) := hp_1
        replace w : wd D A s.heap (xw cy a (uZ z 9 s9) g) H locs := w
        have hB1 := bt_v hp_1; have hBb1 := btv_b (z := z) hg hB1
        refine lv_istore_n (lv' := [(1, vI rv_1), (0, .ref (a 6))]) hx hb dX5_step_63 rfl hl (by decide) rfl (fun ls hl => ?_)
        refine lv_aload_n hx hb dX5_step_64 rfl (lv_at hl 1 rfl) ?_
        refine r_get C w 6 (v := vI s9) rfl rfl 7 (by decide) inX5 kf_X5_114 rfl dX5_step_65 ?_
        refine lv_aload_n hx hb dX5_step_68 rfl (lv_at hl 1 rfl) ?_
        refine r_get C w 6 (v := .ref (a 1)) rfl rfl 0 (by decide) inX5 kf_X5_25 rfl dX5_step_69 ?_
        refine r_getN C w 1 (v := vI (z 2)) rfl rfl 1 (by decide) inX8 kt_X5_122 rfl dX5_step_72 ?_
        have qz2 := xZ2 hz
        refine r_icmp_lt (tgt := 94) hx hb dX5_step_75 (by decide) (by omega) (by omega) (fun c75 => ?_) (fun c75 => ?_)
        · skip
          refine lv_iload_n hx hb dX5_step_94 rfl (lv_at hl 0 rfl) ?_
          refine cSI C w hA (ct_X5_isLetter l D cy a (uZ z 9 s9) g rv_1 (by show iR rv_1; omega)) ok_X5_isLetter km_X5_129 ⟨rfl, rfl⟩ ⟨by decide, by decide⟩ ⟨by decide, by decide⟩ rfl hl.1 rfl (Nat.le_of_ble_eq_true rfl) dX5_step_95 (fun rv_2 uv_2 H locs w hp_2 => ?_)
          replace hp_2 : (rv_2 = 1 ∧ 97 ≤ rv_1 ∧ rv_1 ≤ 122) ∨ (rv_2 = 0 ∧ ¬ (97 ≤ rv_1 ∧ rv_1 ≤ 122)) := hp_2
          replace w : wd D A s.heap (xw cy a (uZ z 9 s9) g) H locs := w
          refine r_if_ne (tgt := 108) hx hb dX5_step_98 (by decide) (by omega) (fun c98 => ?_) (fun c98 => ?_)
          · skip
            refine lv_aload_n hx hb dX5_step_108 rfl (lv_at hl 1 rfl) ?_
            refine cVV C w hA (ct_X5_stepOverRun l D cy a (uZ z 9 s9) g  (xBz_u hz 9 bs9) hg (by show s9 < z 2; omega) (by show isLD (bt (g 2) (z 2) s9); omega)) ok_X5_stepOverRun km_X5_135 ⟨rfl, rfl⟩ ⟨by decide, by decide⟩ ⟨by decide, by decide⟩ rfl 6 rfl rfl hl.1 rfl (Nat.le_of_ble_eq_true rfl) dX5_step_109 (fun uv_3 H locs w hp_3 => ?_)
            obtain ⟨zc_3, gc_3⟩ := uv_3
            obtain ⟨⟨e_3, k_3, hu_3, hr_3⟩, hzc_3, hgc_3⟩ := hp_3
            obtain ⟨ea_3, eb_3⟩ := Prod.mk.inj hu_3
            replace eb_3 : g = gc_3 := eb_3.symm
            subst ea_3
            subst eb_3
            have be_3 : (0 : Int) ≤ e_3 ∧ e_3 ≤ 200 := hzc_3 10 (by decide)
            have bk_3 : (0 : Int) ≤ k_3 ∧ k_3 ≤ 4 := hzc_3 8 (by decide)
            replace w : wd D A s.heap (xw cy a (uZ (uZ (uZ z 9 s9) 10 e_3) 8 k_3) g) H locs := w
            refine lv_goto (tgt := 140) hx hb dX5_step_112 (by decide) ?_
            exact hend ((uZ (uZ (uZ z 9 s9) 10 e_3) 8 k_3), g) _ _ _ _ dX5_step_140 w ⟨(by first | exact ⟨s9, s9, 0, congrArg (fun q => (q, g)) (stZ_c z 0 s9 s9), hs.1, hs.2, hbl, Or.inl ⟨by omega, rfl, rfl⟩⟩ | exact ⟨s9, s9 + 1, _, congrArg (fun q => (q, g)) (stZ_c z _ s9 (s9 + 1)), hs.1, hs.2, hbl, Or.inr (Or.inl ⟨by omega, by omega, by omega, rfl, by omega⟩)⟩ | exact ⟨s9, _, _, rfl, hs.1, hs.2, hbl, Or.inr (Or.inr ⟨by omega, by omega, by assumption⟩)⟩), (xBz_u (xBz_u (xBz_u hz 9 bs9) 10 be_3) 8 bk_3), hg⟩
          · skip
            refine lv_iload_n hx hb dX5_step_101 rfl (lv_at hl 0 rfl) ?_
            refine cSI C w hA (ct_X5_isDigit l D cy a (uZ z 9 s9) g rv_1 (by show iR rv_1; omega)) ok_X5_isDigit km_X5_132 ⟨rfl, rfl⟩ ⟨by decide, by decide⟩ ⟨by decide, by decide⟩ rfl hl.1 rfl (Nat.le_of_ble_eq_true rfl) dX5_step_102 (fun rv_4 uv_4 H locs w hp_4 => ?_)
            replace hp_4 : (rv_4 = 1 ∧ 48 ≤ rv_1 ∧ rv_1 ≤ 57) ∨ (rv_4 = 0 ∧ ¬ (48 ≤ rv_1 ∧ rv_1 ≤ 57)) := hp_4
            replace w : wd D A s.heap (xw cy a (uZ z 9 s9) g) H locs := w
            refine r_if_eq (tgt := 115) hx hb dX5_step_105 (by decide) (by omega) (fun c105 => ?_) (fun c105 => ?_)
            · skip
              refine lv_aload_n hx hb dX5_step_115 rfl (lv_at hl 1 rfl) ?_
              refine lv_iload_n hx hb dX5_step_116 rfl (lv_at hl 0 rfl) ?_
              refine r_bipush hx hb dX5_step_117 (by decide) ?_
              refine r_icmp_ne (tgt := 126) hx hb dX5_step_119 (by decide) (by omega) (by omega) (fun c119 => ?_) (fun c119 => ?_)
              · skip
                refine r_iconst hx hb dX5_step_126 ?_
                refine r_put C w 6 tyX5 tyX5_ok nmX5 rfl rfl 6 (by decide) inX5 kf_X5_35 rfl rfl rfl (Nat.le_of_ble_eq_true rfl) (ws' := xw cy a (uZ (uZ z 9 s9) 8 4) g) (xw_z8 cy a (uZ z 9 s9) g 4) dX5_step_127 (fun H locs w => ?_)
                have bz3 : (0 : Int) ≤ 4 ∧ (4 : Int) ≤ 4 := (by omega)
                refine lv_aload_n hx hb dX5_step_130 rfl (lv_at hl 1 rfl) ?_
                refine lv_aload_n hx hb dX5_step_131 rfl (lv_at hl 1 rfl) ?_
                refine r_get C w 6 (v := vI s9) rfl rfl 7 (by decide) inX5 kf_X5_114 rfl dX5_step_132 ?_
                refine r_iconst hx hb dX5_step_135 ?_
                refine r_iadd hx hb dX5_step_136 ?_
                refine r_put C w 6 tyX5 tyX5_ok nmX5 rfl rfl 8 (by decide) inX5 kf_X5_55 rfl rfl rfl (Nat.le_of_ble_eq_true rfl) (ws' := xw cy a (uZ (uZ (uZ z 9 s9) 8 4) 10 (s9 + 1)) g) (xw_z10 cy a (uZ (uZ z 9 s9) 8 4) g (s9 + 1)) dX5_step_137 (fun H locs w => ?_)
                have bz4 : (0 : Int) ≤ (s9 + 1) ∧ ((s9 + 1) : Int) ≤ 200 := (by omega)
                exact hend ((uZ (uZ (uZ z 9 s9) 8 4) 10 (s9 + 1)), g) _ _ _ _ dX5_step_140 w ⟨(by first | exact ⟨s9, s9, 0, congrArg (fun q => (q, g)) (stZ_c z 0 s9 s9), hs.1, hs.2, hbl, Or.inl ⟨by omega, rfl, rfl⟩⟩ | exact ⟨s9, s9 + 1, _, congrArg (fun q => (q, g)) (stZ_c z _ s9 (s9 + 1)), hs.1, hs.2, hbl, Or.inr (Or.inl ⟨by omega, by omega, by omega, rfl, by omega⟩)⟩ | exact ⟨s9, _, _, rfl, hs.1, hs.2, hbl, Or.inr (Or.inr ⟨by omega, by omega, by assumption⟩)⟩), (xBz_u (xBz_u (xBz_u hz 9 bs9) 8 bz3) 10 bz4), hg⟩
              · skip
                refine r_iconst hx hb dX5_step_122 ?_
                refine lv_goto (tgt := 127) hx hb dX5_step_123 (by decide) ?_
                refine r_put C w 6 tyX5 tyX5_ok nmX5 rfl rfl 6 (by decide) inX5 kf_X5_35 rfl rfl rfl (Nat.le_of_ble_eq_true rfl) (ws' := xw cy a (uZ (uZ z 9 s9) 8 3) g) (xw_z8 cy a (uZ z 9 s9) g 3) dX5_step_127 (fun H locs w => ?_)
                have bz5 : (0 : Int) ≤ 3 ∧ (3 : Int) ≤ 4 := (by omega)
                refine lv_aload_n hx hb dX5_step_130 rfl (lv_at hl 1 rfl) ?_
                refine lv_aload_n hx hb dX5_step_131 rfl (lv_at hl 1 rfl) ?_
                refine r_get C w 6 (v := vI s9) rfl rfl 7 (by decide) inX5 kf_X5_114 rfl dX5_step_132 ?_
                refine r_iconst hx hb dX5_step_135 ?_
                refine r_iadd hx hb dX5_step_136 ?_
                refine r_put C w 6 tyX5 tyX5_ok nmX5 rfl rfl 8 (by decide) inX5 kf_X5_55 rfl rfl rfl (Nat.le_of_ble_eq_true rfl) (ws' := xw cy a (uZ (uZ (uZ z 9 s9) 8 3) 10 (s9 + 1)) g) (xw_z10 cy a (uZ (uZ z 9 s9) 8 3) g (s9 + 1)) dX5_step_137 (fun H locs w => ?_)
                have bz6 : (0 : Int) ≤ (s9 + 1) ∧ ((s9 + 1) : Int) ≤ 200 := (by omega)
                exact hend ((uZ (uZ (uZ z 9 s9) 8 3) 10 (s9 + 1)), g) _ _ _ _ dX5_step_140 w ⟨(by first | exact ⟨s9, s9, 0, congrArg (fun q => (q, g)) (stZ_c z 0 s9 s9), hs.1, hs.2, hbl, Or.inl ⟨by omega, rfl, rfl⟩⟩ | exact ⟨s9, s9 + 1, _, congrArg (fun q => (q, g)) (stZ_c z _ s9 (s9 + 1)), hs.1, hs.2, hbl, Or.inr (Or.inl ⟨by omega, by omega, by omega, rfl, by omega⟩)⟩ | exact ⟨s9, _, _, rfl, hs.1, hs.2, hbl, Or.inr (Or.inr ⟨by omega, by omega, by assumption⟩)⟩), (xBz_u (xBz_u (xBz_u hz 9 bs9) 8 bz5) 10 bz6), hg⟩
            · skip
              refine lv_aload_n hx hb dX5_step_108 rfl (lv_at hl 1 rfl) ?_
              refine cVV C w hA (ct_X5_stepOverRun l D cy a (uZ z 9 s9) g  (xBz_u hz 9 bs9) hg (by show s9 < z 2; omega) (by show isLD (bt (g 2) (z 2) s9); omega)) ok_X5_stepOverRun km_X5_135 ⟨rfl, rfl⟩ ⟨by decide, by decide⟩ ⟨by decide, by decide⟩ rfl 6 rfl rfl hl.1 rfl (Nat.le_of_ble_eq_true rfl) dX5_step_109 (fun uv_5 H locs w hp_5 => ?_)
              obtain ⟨zc_5, gc_5⟩ := uv_5
              obtain ⟨⟨e_5, k_5, hu_5, hr_5⟩, hzc_5, hgc_5⟩ := hp_5
              obtain ⟨ea_5, eb_5⟩ := Prod.mk.inj hu_5
              replace eb_5 : g = gc_5 := eb_5.symm
              subst ea_5
              subst eb_5
              have be_5 : (0 : Int) ≤ e_5 ∧ e_5 ≤ 200 := hzc_5 10 (by decide)
              have bk_5 : (0 : Int) ≤ k_5 ∧ k_5 ≤ 4 := hzc_5 8 (by decide)
              replace w : wd D A s.heap (xw cy a (uZ (uZ (uZ z 9 s9) 10 e_5) 8 k_5) g) H locs := w
              refine lv_goto (tgt := 140) hx hb dX5_step_112 (by decide) ?_
              exact hend ((uZ (uZ (uZ z 9 s9) 10 e_5) 8 k_5), g) _ _ _ _ dX5_step_140 w ⟨(by first | exact ⟨s9, s9, 0, congrArg (fun q => (q, g)) (stZ_c z 0 s9 s9), hs.1, hs.2, hbl, Or.inl ⟨by omega, rfl, rfl⟩⟩ | exact ⟨s9, s9 + 1, _, congrArg (fun q => (q, g)) (stZ_c z _ s9 (s9 + 1)), hs.1, hs.2, hbl, Or.inr (Or.inl ⟨by omega, by omega, by omega, rfl, by omega⟩)⟩ | exact ⟨s9, _, _, rfl, hs.1, hs.2, hbl, Or.inr (Or.inr ⟨by omega, by omega, by assumption⟩)⟩), (xBz_u (xBz_u (xBz_u hz 9 bs9) 10 be_5) 8 bk_5), hg⟩
        · skip
          refine lv_aload_n hx hb dX5_step_78 rfl (lv_at hl 1 rfl) ?_
          refine r_iconst hx hb dX5_step_79 ?_
          refine r_put C w 6 tyX5 tyX5_ok nmX5 rfl rfl 6 (by decide) inX5 kf_X5_35 rfl rfl rfl (Nat.le_of_ble_eq_true rfl) (ws' := xw cy a (uZ (uZ z 9 s9) 8 0) g) (xw_z8 cy a (uZ z 9 s9) g 0) dX5_step_80 (fun H locs w => ?_)
          have bz7 : (0 : Int) ≤ 0 ∧ (0 : Int) ≤ 4 := (by omega)
          refine lv_aload_n hx hb dX5_step_83 rfl (lv_at hl 1 rfl) ?_
          refine lv_aload_n hx hb dX5_step_84 rfl (lv_at hl 1 rfl) ?_
          refine r_get C w 6 (v := vI s9) rfl rfl 7 (by decide) inX5 kf_X5_114 rfl dX5_step_85 ?_
          refine r_put C w 6 tyX5 tyX5_ok nmX5 rfl rfl 8 (by decide) inX5 kf_X5_55 rfl rfl rfl (Nat.le_of_ble_eq_true rfl) (ws' := xw cy a (uZ (uZ (uZ z 9 s9) 8 0) 10 s9) g) (xw_z10 cy a (uZ (uZ z 9 s9) 8 0) g s9) dX5_step_88 (fun H locs w => ?_)
          have bz8 : (0 : Int) ≤ s9 ∧ (s9 : Int) ≤ 200 := (by omega)
          refine lv_goto (tgt := 140) hx hb dX5_step_91 (by decide) ?_
          exact hend ((uZ (uZ (uZ z 9 s9) 8 0) 10 s9), g) _ _ _ _ dX5_step_140 w ⟨(by first | exact ⟨s9, s9, 0, congrArg (fun q => (q, g)) (stZ_c z 0 s9 s9), hs.1, hs.2, hbl, Or.inl ⟨by omega, rfl, rfl⟩⟩ | exact ⟨s9, s9 + 1, _, congrArg (fun q => (q, g)) (stZ_c z _ s9 (s9 + 1)), hs.1, hs.2, hbl, Or.inr (Or.inl ⟨by omega, by omega, by omega, rfl, by omega⟩)⟩ | exact ⟨s9, _, _, rfl, hs.1, hs.2, hbl, Or.inr (Or.inr ⟨by omega, by omega, by assumption⟩)⟩), (xBz_u (xBz_u (xBz_u hz 9 bs9) 8 bz7) 10 bz8), hg⟩
      · skip
        refine lv_aload_n hx hb dX5_step_22 rfl (lv_at hl 0 rfl) ?_
        refine r_get C w 6 (v := .ref (a 1)) rfl rfl 0 (by decide) inX5 kf_X5_25 rfl dX5_step_23 ?_
        refine lv_aload_n hx hb dX5_step_26 rfl (lv_at hl 0 rfl) ?_
        refine r_get C w 6 (v := vI s9) rfl rfl 7 (by decide) inX5 kf_X5_114 rfl dX5_step_27 ?_
        refine cVI C w hA (ct_X8_byteAt l D cy a (uZ z 9 s9) g s9 (xBz_u hz 9 bs9) hg (by show iR s9; omega)) ok_X8_byteAt km_X5_117 ⟨rfl, rfl⟩ ⟨by decide, by decide⟩ ⟨by decide, by decide⟩ rfl 1 rfl rfl hl.1 rfl (Nat.le_of_ble_eq_true rfl) dX5_step_30 (fun rv_6 uv_6 H locs w hp_6 => ?_)
        replace hp_6 : (0 ≤ s9 ∧ s9 < (z 2) ∧ rv_6 = (g 2) s9) ∨ (¬ (0 ≤ s9 ∧ s9 < (z 2)) ∧ rv_6 = 0) := hp_6
        replace w : wd D A s.heap (xw cy a (uZ z 9 s9) g) H locs := w
        have hB6 := bt_v hp_6; have hBb6 := btv_b (z := z) hg hB6
        refine cSI C w hA (ct_X5_isBlank l D cy a (uZ z 9 s9) g rv_6 (by show iR rv_6; omega)) ok_X5_isBlank km_X5_125 ⟨rfl, rfl⟩ ⟨by decide, by decide⟩ ⟨by decide, by decide⟩ rfl hl.1 rfl (Nat.le_of_ble_eq_true rfl) dX5_step_33 (fun rv_7 uv_7 H locs w hp_7 => ?_)
        replace hp_7 : (rv_7 = 1 ∧ (rv_6 = 32 ∨ rv_6 = 10)) ∨ (rv_7 = 0 ∧ ¬ (rv_6 = 32 ∨ rv_6 = 10)) := hp_7
        replace w : wd D A s.heap (xw cy a (uZ z 9 s9) g) H locs := w
        refine r_if_eq (tgt := 52) hx hb dX5_step_36 (by decide) (by omega) (fun c36 => ?_) (fun c36 => ?_)
        · skip
          have hnb : s9 = z 2 ∨ ¬ (bt (g 2) (z 2) s9 = 32 ∨ bt (g 2) (z 2) s9 = 10) := by omega
          refine lv_aload_n hx hb dX5_step_52 rfl (lv_at hl 0 rfl) ?_
          refine r_get C w 6 (v := .ref (a 1)) rfl rfl 0 (by decide) inX5 kf_X5_25 rfl dX5_step_53 ?_
          refine lv_aload_n hx hb dX5_step_56 rfl (lv_at hl 0 rfl) ?_
          refine r_get C w 6 (v := vI s9) rfl rfl 7 (by decide) inX5 kf_X5_114 rfl dX5_step_57 ?_
          refine cVI C w hA (ct_X8_byteAt l D cy a (uZ z 9 s9) g s9 (xBz_u hz 9 bs9) hg (by show iR s9; omega)) ok_X8_byteAt km_X5_117 ⟨rfl, rfl⟩ ⟨by decide, by decide⟩ ⟨by decide, by decide⟩ rfl 1 rfl rfl hl.1 rfl (Nat.le_of_ble_eq_true rfl) dX5_step_60 (fun rv_8 uv_8 H locs w hp_8 => ?_)
          replace hp_8 : (0 ≤ s9 ∧ s9 < (z 2) ∧ rv_8 = (g 2) s9) ∨ (¬ (0 ≤ s9 ∧ s9 < (z 2)) ∧ rv_8 = 0) := hp_8
          replace w : wd D A s.heap (xw cy a (uZ z 9 s9) g) H locs := w
          have hB8 := bt_v hp_8; have hBb8 := btv_b (z := z) hg hB8
          refine lv_istore_n (lv' := [(1, vI rv_8), (0, .ref (a 6))]) hx hb dX5_step_63 rfl hl (by decide) rfl (fun ls hl => ?_)
          refine lv_aload_n hx hb dX5_step_64 rfl (lv_at hl 1 rfl) ?_
          refine r_get C w 6 (v := vI s9) rfl rfl 7 (by decide) inX5 kf_X5_114 rfl dX5_step_65 ?_
          refine lv_aload_n hx hb dX5_step_68 rfl (lv_at hl 1 rfl) ?_
          refine r_get C w 6 (v := .ref (a 1)) rfl rfl 0 (by decide) inX5 kf_X5_25 rfl dX5_step_69 ?_
          refine r_getN C w 1 (v := vI (z 2)) rfl rfl 1 (by decide) inX8 kt_X5_122 rfl dX5_step_72 ?_
          have qz9 := xZ2 hz
          refine r_icmp_lt (tgt := 94) hx hb dX5_step_75 (by decide) (by omega) (by omega) (fun c75 => ?_) (fun c75 => ?_)
          · skip
            refine lv_iload_n hx hb dX5_step_94 rfl (lv_at hl 0 rfl) ?_
            refine cSI C w hA (ct_X5_isLetter l D cy a (uZ z 9 s9) g rv_8 (by show iR rv_8; omega)) ok_X5_isLetter km_X5_129 ⟨rfl, rfl⟩ ⟨by decide, by decide⟩ ⟨by decide, by decide⟩ rfl hl.1 rfl (Nat.le_of_ble_eq_true rfl) dX5_step_95 (fun rv_9 uv_9 H locs w hp_9 => ?_)
            replace hp_9 : (rv_9 = 1 ∧ 97 ≤ rv_8 ∧ rv_8 ≤ 122) ∨ (rv_9 = 0 ∧ ¬ (97 ≤ rv_8 ∧ rv_8 ≤ 122)) := hp_9
            replace w : wd D A s.heap (xw cy a (uZ z 9 s9) g) H locs := w
            refine r_if_ne (tgt := 108) hx hb dX5_step_98 (by decide) (by omega) (fun c98 => ?_) (fun c98 => ?_)
            · skip
              refine lv_aload_n hx hb dX5_step_108 rfl (lv_at hl 1 rfl) ?_
              refine cVV C w hA (ct_X5_stepOverRun l D cy a (uZ z 9 s9) g  (xBz_u hz 9 bs9) hg (by show s9 < z 2; omega) (by show isLD (bt (g 2) (z 2) s9); omega)) ok_X5_stepOverRun km_X5_135 ⟨rfl, rfl⟩ ⟨by decide, by decide⟩ ⟨by decide, by decide⟩ rfl 6 rfl rfl hl.1 rfl (Nat.le_of_ble_eq_true rfl) dX5_step_109 (fun uv_10 H locs w hp_10 => ?_)
              obtain ⟨zc_10, gc_10⟩ := uv_10
              obtain ⟨⟨e_10, k_10, hu_10, hr_10⟩, hzc_10, hgc_10⟩ := hp_10
              obtain ⟨ea_10, eb_10⟩ := Prod.mk.inj hu_10
              replace eb_10 : g = gc_10 := eb_10.symm
              subst ea_10
              subst eb_10
              have be_10 : (0 : Int) ≤ e_10 ∧ e_10 ≤ 200 := hzc_10 10 (by decide)
              have bk_10 : (0 : Int) ≤ k_10 ∧ k_10 ≤ 4 := hzc_10 8 (by decide)
              replace w : wd D A s.heap (xw cy a (uZ (uZ (uZ z 9 s9) 10 e_10) 8 k_10) g) H locs := w
              refine lv_goto (tgt := 140) hx hb dX5_step_112 (by decide) ?_
              exact hend ((uZ (uZ (uZ z 9 s9) 10 e_10) 8 k_10), g) _ _ _ _ dX5_step_140 w ⟨(by first | exact ⟨s9, s9, 0, congrArg (fun q => (q, g)) (stZ_c z 0 s9 s9), hs.1, hs.2, hbl, Or.inl ⟨by omega, rfl, rfl⟩⟩ | exact ⟨s9, s9 + 1, _, congrArg (fun q => (q, g)) (stZ_c z _ s9 (s9 + 1)), hs.1, hs.2, hbl, Or.inr (Or.inl ⟨by omega, by omega, by omega, rfl, by omega⟩)⟩ | exact ⟨s9, _, _, rfl, hs.1, hs.2, hbl, Or.inr (Or.inr ⟨by omega, by omega, by assumption⟩)⟩), (xBz_u (xBz_u (xBz_u hz 9 bs9) 10 be_10) 8 bk_10), hg⟩
            · skip
              refine lv_iload_n hx hb dX5_step_101 rfl (lv_at hl 0 rfl) ?_
              refine cSI C w hA (ct_X5_isDigit l D cy a (uZ z 9 s9) g rv_8 (by show iR rv_8; omega)) ok_X5_isDigit km_X5_132 ⟨rfl, rfl⟩ ⟨by decide, by decide⟩ ⟨by decide, by decide⟩ rfl hl.1 rfl (Nat.le_of_ble_eq_true rfl) dX5_step_102 (fun rv_11 uv_11 H locs w hp_11 => ?_)
              replace hp_11 : (rv_11 = 1 ∧ 48 ≤ rv_8 ∧ rv_8 ≤ 57) ∨ (rv_11 = 0 ∧ ¬ (48 ≤ rv_8 ∧ rv_8 ≤ 57)) := hp_11
              replace w : wd D A s.heap (xw cy a (uZ z 9 s9) g) H locs := w
              refine r_if_eq (tgt := 115) hx hb dX5_step_105 (by decide) (by omega) (fun c105 => ?_) (fun c105 => ?_)
              · skip
                refine lv_aload_n hx hb dX5_step_115 rfl (lv_at hl 1 rfl) ?_
                refine lv_iload_n hx hb dX5_step_116 rfl (lv_at hl 0 rfl) ?_
                refine r_bipush hx hb dX5_step_117 (by decide) ?_
                refine r_icmp_ne (tgt := 126) hx hb dX5_step_119 (by decide) (by omega) (by omega) (fun c119 => ?_) (fun c119 => ?_)
                · skip
                  refine r_iconst hx hb dX5_step_126 ?_
                  refine r_put C w 6 tyX5 tyX5_ok nmX5 rfl rfl 6 (by decide) inX5 kf_X5_35 rfl rfl rfl (Nat.le_of_ble_eq_true rfl) (ws' := xw cy a (uZ (uZ z 9 s9) 8 4) g) (xw_z8 cy a (uZ z 9 s9) g 4) dX5_step_127 (fun H locs w => ?_)
                  have bz10 : (0 : Int) ≤ 4 ∧ (4 : Int) ≤ 4 := (by omega)
                  refine lv_aload_n hx hb dX5_step_130 rfl (lv_at hl 1 rfl) ?_
                  refine lv_aload_n hx hb dX5_step_131 rfl (lv_at hl 1 rfl) ?_
                  refine r_get C w 6 (v := vI s9) rfl rfl 7 (by decide) inX5 kf_X5_114 rfl dX5_step_132 ?_
                  refine r_iconst hx hb dX5_step_135 ?_
                  refine r_iadd hx hb dX5_step_136 ?_
                  refine r_put C w 6 tyX5 tyX5_ok nmX5 rfl rfl 8 (by decide) inX5 kf_X5_55 rfl rfl rfl (Nat.le_of_ble_eq_true rfl) (ws' := xw cy a (uZ (uZ (uZ z 9 s9) 8 4) 10 (s9 + 1)) g) (xw_z10 cy a (uZ (uZ z 9 s9) 8 4) g (s9 + 1)) dX5_step_137 (fun H locs w => ?_)
                  have bz11 : (0 : Int) ≤ (s9 + 1) ∧ ((s9 + 1) : Int) ≤ 200 := (by omega)
                  exact hend ((uZ (uZ (uZ z 9 s9) 8 4) 10 (s9 + 1)), g) _ _ _ _ dX5_step_140 w ⟨(by first | exact ⟨s9, s9, 0, congrArg (fun q => (q, g)) (stZ_c z 0 s9 s9), hs.1, hs.2, hbl, Or.inl ⟨by omega, rfl, rfl⟩⟩ | exact ⟨s9, s9 + 1, _, congrArg (fun q => (q, g)) (stZ_c z _ s9 (s9 + 1)), hs.1, hs.2, hbl, Or.inr (Or.inl ⟨by omega, by omega, by omega, rfl, by omega⟩)⟩ | exact ⟨s9, _, _, rfl, hs.1, hs.2, hbl, Or.inr (Or.inr ⟨by omega, by omega, by assumption⟩)⟩), (xBz_u (xBz_u (xBz_u hz 9 bs9) 8 bz10) 10 bz11), hg⟩
                · skip
                  refine r_iconst hx hb dX5_step_122 ?_
                  refine lv_goto (tgt := 127) hx hb dX5_step_123 (by decide) ?_
                  refine r_put C w 6 tyX5 tyX5_ok nmX5 rfl rfl 6 (by decide) inX5 kf_X5_35 rfl rfl rfl (Nat.le_of_ble_eq_true rfl) (ws' := xw cy a (uZ (uZ z 9 s9) 8 3) g) (xw_z8 cy a (uZ z 9 s9) g 3) dX5_step_127 (fun H locs w => ?_)
                  have bz12 : (0 : Int) ≤ 3 ∧ (3 : Int) ≤ 4 := (by omega)
                  refine lv_aload_n hx hb dX5_step_130 rfl (lv_at hl 1 rfl) ?_
                  refine lv_aload_n hx hb dX5_step_131 rfl (lv_at hl 1 rfl) ?_
                  refine r_get C w 6 (v := vI s9) rfl rfl 7 (by decide) inX5 kf_X5_114 rfl dX5_step_132 ?_
                  refine r_iconst hx hb dX5_step_135 ?_
                  refine r_iadd hx hb dX5_step_136 ?_
                  refine r_put C w 6 tyX5 tyX5_ok nmX5 rfl rfl 8 (by decide) inX5 kf_X5_55 rfl rfl rfl (Nat.le_of_ble_eq_true rfl) (ws' := xw cy a (uZ (uZ (uZ z 9 s9) 8 3) 10 (s9 + 1)) g) (xw_z10 cy a (uZ (uZ z 9 s9) 8 3) g (s9 + 1)) dX5_step_137 (fun H locs w => ?_)
                  have bz13 : (0 : Int) ≤ (s9 + 1) ∧ ((s9 + 1) : Int) ≤ 200 := (by omega)
                  exact hend ((uZ (uZ (uZ z 9 s9) 8 3) 10 (s9 + 1)), g) _ _ _ _ dX5_step_140 w ⟨(by first | exact ⟨s9, s9, 0, congrArg (fun q => (q, g)) (stZ_c z 0 s9 s9), hs.1, hs.2, hbl, Or.inl ⟨by omega, rfl, rfl⟩⟩ | exact ⟨s9, s9 + 1, _, congrArg (fun q => (q, g)) (stZ_c z _ s9 (s9 + 1)), hs.1, hs.2, hbl, Or.inr (Or.inl ⟨by omega, by omega, by omega, rfl, by omega⟩)⟩ | exact ⟨s9, _, _, rfl, hs.1, hs.2, hbl, Or.inr (Or.inr ⟨by omega, by omega, by assumption⟩)⟩), (xBz_u (xBz_u (xBz_u hz 9 bs9) 8 bz12) 10 bz13), hg⟩
              · skip
                refine lv_aload_n hx hb dX5_step_108 rfl (lv_at hl 1 rfl) ?_
                refine cVV C w hA (ct_X5_stepOverRun l D cy a (uZ z 9 s9) g  (xBz_u hz 9 bs9) hg (by show s9 < z 2; omega) (by show isLD (bt (g 2) (z 2) s9); omega)) ok_X5_stepOverRun km_X5_135 ⟨rfl, rfl⟩ ⟨by decide, by decide⟩ ⟨by decide, by decide⟩ rfl 6 rfl rfl hl.1 rfl (Nat.le_of_ble_eq_true rfl) dX5_step_109 (fun uv_12 H locs w hp_12 => ?_)
                obtain ⟨zc_12, gc_12⟩ := uv_12
                obtain ⟨⟨e_12, k_12, hu_12, hr_12⟩, hzc_12, hgc_12⟩ := hp_12
                obtain ⟨ea_12, eb_12⟩ := Prod.mk.inj hu_12
                replace eb_12 : g = gc_12 := eb_12.symm
                subst ea_12
                subst eb_12
                have be_12 : (0 : Int) ≤ e_12 ∧ e_12 ≤ 200 := hzc_12 10 (by decide)
                have bk_12 : (0 : Int) ≤ k_12 ∧ k_12 ≤ 4 := hzc_12 8 (by decide)
                replace w : wd D A s.heap (xw cy a (uZ (uZ (uZ z 9 s9) 10 e_12) 8 k_12) g) H locs := w
                refine lv_goto (tgt := 140) hx hb dX5_step_112 (by decide) ?_
                exact hend ((uZ (uZ (uZ z 9 s9) 10 e_12) 8 k_12), g) _ _ _ _ dX5_step_140 w ⟨(by first | exact ⟨s9, s9, 0, congrArg (fun q => (q, g)) (stZ_c z 0 s9 s9), hs.1, hs.2, hbl, Or.inl ⟨by omega, rfl, rfl⟩⟩ | exact ⟨s9, s9 + 1, _, congrArg (fun q => (q, g)) (stZ_c z _ s9 (s9 + 1)), hs.1, hs.2, hbl, Or.inr (Or.inl ⟨by omega, by omega, by omega, rfl, by omega⟩)⟩ | exact ⟨s9, _, _, rfl, hs.1, hs.2, hbl, Or.inr (Or.inr ⟨by omega, by omega, by assumption⟩)⟩), (xBz_u (xBz_u (xBz_u hz 9 bs9) 10 be_12) 8 bk_12), hg⟩
          · skip
            refine lv_aload_n hx hb dX5_step_78 rfl (lv_at hl 1 rfl) ?_
            refine r_iconst hx hb dX5_step_79 ?_
            refine r_put C w 6 tyX5 tyX5_ok nmX5 rfl rfl 6 (by decide) inX5 kf_X5_35 rfl rfl rfl (Nat.le_of_ble_eq_true rfl) (ws' := xw cy a (uZ (uZ z 9 s9) 8 0) g) (xw_z8 cy a (uZ z 9 s9) g 0) dX5_step_80 (fun H locs w => ?_)
            have bz14 : (0 : Int) ≤ 0 ∧ (0 : Int) ≤ 4 := (by omega)
            refine lv_aload_n hx hb dX5_step_83 rfl (lv_at hl 1 rfl) ?_
            refine lv_aload_n hx hb dX5_step_84 rfl (lv_at hl 1 rfl) ?_
            refine r_get C w 6 (v := vI s9) rfl rfl 7 (by decide) inX5 kf_X5_114 rfl dX5_step_85 ?_
            refine r_put C w 6 tyX5 tyX5_ok nmX5 rfl rfl 8 (by decide) inX5 kf_X5_55 rfl rfl rfl (Nat.le_of_ble_eq_true rfl) (ws' := xw cy a (uZ (uZ (uZ z 9 s9) 8 0) 10 s9) g) (xw_z10 cy a (uZ (uZ z 9 s9) 8 0) g s9) dX5_step_88 (fun H locs w => ?_)
            have bz15 : (0 : Int) ≤ s9 ∧ (s9 : Int) ≤ 200 := (by omega)
            refine lv_goto (tgt := 140) hx hb dX5_step_91 (by decide) ?_
            exact hend ((uZ (uZ (uZ z 9 s9) 8 0) 10 s9), g) _ _ _ _ dX5_step_140 w ⟨(by first | exact ⟨s9, s9, 0, congrArg (fun q => (q, g)) (stZ_c z 0 s9 s9), hs.1, hs.2, hbl, Or.inl ⟨by omega, rfl, rfl⟩⟩ | exact ⟨s9, s9 + 1, _, congrArg (fun q => (q, g)) (stZ_c z _ s9 (s9 + 1)), hs.1, hs.2, hbl, Or.inr (Or.inl ⟨by omega, by omega, by omega, rfl, by omega⟩)⟩ | exact ⟨s9, _, _, rfl, hs.1, hs.2, hbl, Or.inr (Or.inr ⟨by omega, by omega, by assumption⟩)⟩), (xBz_u (xBz_u (xBz_u hz 9 bs9) 8 bz14) 10 bz15), hg⟩
        · skip
          refine lv_aload_n hx hb dX5_step_39 rfl (lv_at hl 0 rfl) ?_
          refine lv_dup hx hb dX5_step_40 rfl ?_
          refine r_get C w 6 (v := vI s9) rfl rfl 7 (by decide) inX5 kf_X5_114 rfl dX5_step_41 ?_
          refine r_iconst hx hb dX5_step_44 ?_
          refine r_iadd hx hb dX5_step_45 ?_
          refine r_put C w 6 tyX5 tyX5_ok nmX5 rfl rfl 7 (by decide) inX5 kf_X5_114 rfl rfl rfl (Nat.le_of_ble_eq_true rfl) (ws' := xw cy a (uZ z 9 (s9 + 1)) g) rfl dX5_step_46 (fun H locs w => ?_)
          have bz16 : (0 : Int) ≤ (s9 + 1) ∧ ((s9 + 1) : Int) ≤ 200 := (by omega)
          refine lv_goto (tgt := 8) hx hb dX5_step_49 (by decide) ?_
          exact ih8 (s9 + 1) bz16 (by omega) (by exact al_s hbl (by omega)) (by omega) _ _ _ w (lv_sub hl [0] rfl)
  replace hl : lv_has ls 2 [(0, .ref (a 6))] := hl
  refine lv_aload_n hx hb dX5_step_0 rfl (lv_at hl 0 rfl) ?_
  refine lv_aload_n hx hb dX5_step_1 rfl (lv_at hl 0 rfl) ?_
  refine r_get C w 6 (v := vI (z 10)) rfl rfl 8 (by decide) inX5 kf_X5_55 rfl dX5_step_2 ?_
  have qz17 := xZ10 hz
  refine r_put C w 6 tyX5 tyX5_ok nmX5 rfl rfl 7 (by decide) inX5 kf_X5_114 rfl rfl rfl (Nat.le_of_ble_eq_true rfl) (ws' := xw cy a (uZ z 9 (z 10)) g) (xw_z9 cy a z g (z 10)) dX5_step_5 (fun H locs w => ?_)
  have bz18 : (0 : Int) ≤ (z 10) ∧ ((z 10) : Int) ≤ 200 := (by omega)
  exact J8 _ (z 10) bz18 (by omega) (by intro j h1 h2; omega) (Nat.lt_succ_self _) _ _ _ w (lv_sub hl [0] rfl)

