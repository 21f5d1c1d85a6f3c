/-! rules of the reference: a rule -/
def CN (f : Int → Int) : Int → Int := fun q => if 0 ≤ q ∧ q ≤ 9 then f q else 0
theorem CN_u {f : Int → Int} {q v : Int} (h : 0 ≤ q ∧ q ≤ 9) : CN (uI f q v) = uI (CN f) q v := by
  funext j
  unfold CN uI
  by_cases e : j = q
  · subst e; rw [if_pos h, if_pos rfl, if_pos rfl]
  · rw [if_neg e, if_neg e]
theorem CN_a {f : Int → Int} {q : Int} (h : 0 ≤ q ∧ q ≤ 9) : CN f q = f q := if_pos h
theorem tk_lt {b : Int → Int} {n p s e k : Int} (h : isTok b n p s e k) (hk : k = 1) : s < e ∧ ∀ j, s ≤ j → j < e → isLt (b j) := by
  obtain ⟨h1, h2, h3, h4 | h4 | ⟨h5, h6, h7, h8, h9, h10, h11 | h11 | h11⟩⟩ := h
  · omega
  · omega
  · exact ⟨h7, h11.2⟩
  · omega
  · omega
theorem rtt_1 {b : Int → Int} {n s e : Int} {fr tl : Int → Int} (h : tl 8 ≠ 0) : rttF b n fr tl s e = bad 4 s := if_pos h
theorem rtt_2 {b : Int → Int} {n s e : Int} {fr tl : Int → Int} (h : tl 8 = 0) : rttF b n fr tl s e = amtF b n fr tl 8 50 e := if_neg (fun q => q h)
theorem los_1 {b : Int → Int} {n s e : Int} {fr tl : Int → Int} (h : tl 9 ≠ 0) : losF b n fr tl s e = bad 4 s := if_pos h
def frR (f z : Nat → Int) : Prop := ∀ k, k < 3 ∨ k = 9 ∨ 10 < k → f k = z k
theorem frR_0 (z : Nat → Int) : frR z z := fun _ _ => rfl
theorem frR_u {f z : Nat → Int} (h : frR f z) {j : Nat} {v : Int} (h1 : (3 ≤ j ∧ j ≤ 8) ∨ j = 10) : frR (uZ f j v) z := fun k hk => by rw [uZ_n _ _ (by omega)]; exact h k hk
theorem frR_t {f z y : Nat → Int} (h : frR f z) (h2 : frR z y) : frR f y := fun k hk => (h k hk).trans (h2 k hk)
theorem frB_R {f z : Nat → Int} (h : frB f z) : frR f z := fun k hk => h k (by omega)
def frH (f g : Nat → Int → Int) : Prop := ∀ k, k < 3 ∨ 4 < k → f k = g k
theorem frH_0 (z : Nat → Int → Int) : frH z z := fun _ _ => rfl
theorem frH_u {f z : Nat → Int → Int} (h : frH f z) {j : Nat} {v : Int → Int} (h1 : 3 ≤ j ∧ j ≤ 4) : frH (uZ f j v) z := fun k hk => by rw [uZ_n _ _ (by omega)]; exact h k hk
theorem frH_t {f z y : Nat → Int → Int} (h : frH f z) (h2 : frH z y) : frH f y := fun k hk => (h k hk).trans (h2 k hk)

theorem mw_0 {b : Int → Int} {n p s e k w : Int} (h : isTok b n p s e k) (hw : k = 1 → w = wrv b s e) : (k = 1 ∧ w = 32199693642659429) ↔ (k = 1 ∧ isW b s e 0) := by
  constructor
  · intro q
    have t := tk_lt h q.1
    exact ⟨q.1, (wrv_0 t.1 t.2).mp ((hw q.1).symm.trans q.2)⟩
  · intro q
    have t := tk_lt h q.1
    exact ⟨q.1, (hw q.1).trans ((wrv_0 t.1 t.2).mpr q.2)⟩
theorem mw_1 {b : Int → Int} {n p s e k w : Int} (h : isTok b n p s e k) (hw : k = 1 → w = wrv b s e) : (k = 1 ∧ w = 1885434484) ↔ (k = 1 ∧ isW b s e 1) := by
  constructor
  · intro q
    have t := tk_lt h q.1
    exact ⟨q.1, (wrv_1 t.1 t.2).mp ((hw q.1).symm.trans q.2)⟩
  · intro q
    have t := tk_lt h q.1
    exact ⟨q.1, (hw q.1).trans ((wrv_1 t.1 t.2).mpr q.2)⟩
theorem mw_2 {b : Int → Int} {n p s e k w : Int} (h : isTok b n p s e k) (hw : k = 1 → w = wrv b s e) : (k = 1 ∧ w = 7499636) ↔ (k = 1 ∧ isW b s e 2) := by
  constructor
  · intro q
    have t := tk_lt h q.1
    exact ⟨q.1, (wrv_2 t.1 t.2).mp ((hw q.1).symm.trans q.2)⟩
  · intro q
    have t := tk_lt h q.1
    exact ⟨q.1, (hw q.1).trans ((wrv_2 t.1 t.2).mpr q.2)⟩
theorem mw_3 {b : Int → Int} {n p s e k w : Int} (h : isTok b n p s e k) (hw : k = 1 → w = wrv b s e) : (k = 1 ∧ w = 1819243379) ↔ (k = 1 ∧ isW b s e 3) := by
  constructor
  · intro q
    have t := tk_lt h q.1
    exact ⟨q.1, (wrv_3 t.1 t.2).mp ((hw q.1).symm.trans q.2)⟩
  · intro q
    have t := tk_lt h q.1
    exact ⟨q.1, (hw q.1).trans ((wrv_3 t.1 t.2).mpr q.2)⟩
theorem mw_4 {b : Int → Int} {n p s e k w : Int} (h : isTok b n p s e k) (hw : k = 1 → w = wrv b s e) : (k = 1 ∧ w = 422877685106) ↔ (k = 1 ∧ isW b s e 4) := by
  constructor
  · intro q
    have t := tk_lt h q.1
    exact ⟨q.1, (wrv_4 t.1 t.2).mp ((hw q.1).symm.trans q.2)⟩
  · intro q
    have t := tk_lt h q.1
    exact ⟨q.1, (hw q.1).trans ((wrv_4 t.1 t.2).mpr q.2)⟩
theorem mw_5 {b : Int → Int} {n p s e k w : Int} (h : isTok b n p s e k) (hw : k = 1 → w = wrv b s e) : (k = 1 ∧ w = 1886351212) ↔ (k = 1 ∧ isW b s e 5) := by
  constructor
  · intro q
    have t := tk_lt h q.1
    exact ⟨q.1, (wrv_5 t.1 t.2).mp ((hw q.1).symm.trans q.2)⟩
  · intro q
    have t := tk_lt h q.1
    exact ⟨q.1, (hw q.1).trans ((wrv_5 t.1 t.2).mpr q.2)⟩
abbrev rm_X10_wrong : Room := { frames := 0, cells := 0, slots := 0, locals := 0 }
set_option maxHeartbeats 4000000 in
set_option maxRecDepth 100000 in
theorem ct_X10_wrong (l : Launch) (D : va_G) (cy : Nat → ClassId) (a : Nat → Nat) (z : Nat → Int) (g : Nat → Int → Int) (p0 p1 : Int) (hz : mBz z) (hg : mBg g) (h0 : 1 ≤ p0 ∧ p0 ≤ 4) (h1 : 0 ≤ p1 ∧ p1 ≤ 200) : MI l yX10_wrong cX10_wrong 3 .boolean (rm_X10_wrong) D cy (mw cy a z g) [.ref (a 0), vI p0, vI p1] (fun (v : Int) (u : sX) => (v = 0 ∧ u = (uZ (uZ z 7 p0) 8 p1, g)) ∧ mBz u.1 ∧ mBg u.2) (fun u => mw cy a u.1 u.2) 0 0 := by
  refine go_i (by decide +kernel) (Nat.le_of_ble_eq_true rfl) (Or.inr (fun v u h => nb01 (by have := h.1.1; omega))) ?_
  intro p e s m args below meth c Q A ls C hnm hA w hl hend
  have hx := C.1
  have hb := C.2.1
  replace hl : lv_has ls 3 [(0, .ref (a 0)), (1, vI p0), (2, vI p1)] := hl
  refine lv_aload_n hx hb dX10_wrong_0 rfl (lv_at hl 0 rfl) ?_
  refine lv_iload_n hx hb dX10_wrong_1 rfl (lv_at hl 1 rfl) ?_
  refine r_put C w 0 tyX10 tyX10_ok nmX10 rfl rfl 11 (by decide) inX10 kf_X10_138 rfl rfl rfl (Nat.le_of_ble_eq_true rfl) (ws' := mw cy a (uZ z 7 p0) g) (mw_z7 cy a z g p0) dX10_wrong_2 (fun H locs w => ?_)
  have bz1 : (0 : Int) ≤ p0 ∧ (p0 : Int) ≤ 4 := (by omega)
  refine lv_aload_n hx hb dX10_wrong_5 rfl (lv_at hl 0 rfl) ?_
  refine lv_iload_n hx hb dX10_wrong_6 rfl (lv_at hl 2 rfl) ?_
  refine r_put C w 0 tyX10 tyX10_ok nmX10 rfl rfl 12 (by decide) inX10 kf_X10_141 rfl rfl rfl (Nat.le_of_ble_eq_true rfl) (ws' := mw cy a (uZ (uZ z 7 p0) 8 p1) g) (mw_z8 cy a (uZ z 7 p0) g p1) dX10_wrong_7 (fun H locs w => ?_)
  have bz2 : (0 : Int) ≤ p1 ∧ (p1 : Int) ≤ 200 := (by omega)
  refine r_iconst hx hb dX10_wrong_10 ?_
  exact hend 0 ((uZ (uZ z 7 p0) 8 p1), g) _ _ _ _ dX10_wrong_11 w ⟨(by exact ⟨rfl, rfl⟩), (mBz_u (mBz_u hz 7 bz1) 8 bz2), hg⟩

abbrev rm_X10_cant : Room := { frames := 1, cells := 0, slots := 0, locals := 22 }
set_option maxHeartbeats 4000000 in
set_option maxRecDepth 100000 in
theorem ct_X10_cant (l : Launch) (D : va_G) (cy : Nat → ClassId) (a : Nat → Nat) (z : Nat → Int) (g : Nat → Int → Int)  (hz : mBz z) (hg : mBg g) : MI l yX10_cant cX10_cant 1 .boolean (rm_X10_cant) D cy (mw cy a z g) [.ref (a 0)] (fun (v : Int) (u : sX) => (v = 0 ∧ u = (uZ (uZ z 7 (ct (z 4))) 8 (z 5), g)) ∧ mBz u.1 ∧ mBg u.2) (fun u => mw cy a u.1 u.2) 0 0 := by
  refine go_i (by decide +kernel) (Nat.le_of_ble_eq_true rfl) (Or.inr (fun v u h => nb01 (by have := h.1.1; omega))) ?_
  intro p e s m args below meth c Q A ls C hnm hA w hl hend
  have hx := C.1
  have hb := C.2.1
  have b4_ := mZ4 hz
  have b5_ := mZ5 hz
  replace hl : lv_has ls 1 [(0, .ref (a 0))] := hl
  refine lv_aload_n hx hb dX10_cant_0 rfl (lv_at hl 0 rfl) ?_
  refine lv_aload_n hx hb dX10_cant_1 rfl (lv_at hl 0 rfl) ?_
  refine r_get C w 0 (v := vI (z 4)) rfl rfl 8 (by decide) inX10 kf_X10_121 rfl dX10_cant_2 ?_
  have qz1 := mZ4 hz
  refine r_iconst hx hb dX10_cant_5 ?_
  refine r_icmp_ne (tgt := 13) hx hb dX10_cant_6 (by decide) (by omega) (by omega) (fun c6 => ?_) (fun c6 => ?_)
  · skip
    refine r_iconst hx hb dX10_cant_13 ?_
    refine lv_aload_n hx hb dX10_cant_14 rfl (lv_at hl 0 rfl) ?_
    refine r_get C w 0 (v := vI (z 5)) rfl rfl 9 (by decide) inX10 kf_X10_118 rfl dX10_cant_15 ?_
    have qz2 := mZ5 hz
    refine cVI C w hA (ct_X10_wrong l D cy a z g 2 (z 5) hz hg (by show 1 ≤ 2 ∧ 2 ≤ 4; omega) (by show 0 ≤ (z 5) ∧ (z 5) ≤ 200; omega)) ok_X10_wrong km_X10_144 ⟨rfl, rfl⟩ ⟨by decide, by decide⟩ ⟨by decide, by decide⟩ rfl 0 rfl rfl hl.1 rfl (Nat.le_of_ble_eq_true rfl) dX10_cant_18 (fun rv_1 uv_1 H locs w hp_1 => ?_)
    obtain ⟨zc_1, gc_1⟩ := uv_1
    have hzr_1 := hp_1.2.1
    obtain ⟨⟨hv_1, hp_1⟩, -, -⟩ := hp_1
    obtain ⟨ea_1, eb_1⟩ := Prod.mk.inj hp_1
    subst ea_1
    replace eb_1 := eb_1.symm
    subst eb_1
    subst hv_1
    have bz3 : (0 : Int) ≤ 2 ∧ (2 : Int) ≤ 4 := hzr_1 7 (by decide)
    have bz4 : (0 : Int) ≤ (z 5) ∧ ((z 5) : Int) ≤ 200 := hzr_1 8 (by decide)
    replace w : wd D A s.heap (mw cy a (uZ (uZ z 7 2) 8 (z 5)) g) H locs := w
    exact hend 0 ((uZ (uZ z 7 2) 8 (z 5)), g) _ _ _ _ dX10_cant_21 w ⟨(by refine ⟨rfl, ?_⟩; unfold ct; first | rw [if_pos c6] | rw [if_neg c6]), (mBz_u (mBz_u hz 7 bz3) 8 bz4), hg⟩
  · skip
    refine r_iconst hx hb dX10_cant_9 ?_
    refine lv_goto (tgt := 14) hx hb dX10_cant_10 (by decide) ?_
    refine lv_aload_n hx hb dX10_cant_14 rfl (lv_at hl 0 rfl) ?_
    refine r_get C w 0 (v := vI (z 5)) rfl rfl 9 (by decide) inX10 kf_X10_118 rfl dX10_cant_15 ?_
    have qz5 := mZ5 hz
    refine cVI C w hA (ct_X10_wrong l D cy a z g 1 (z 5) hz hg (by show 1 ≤ 1 ∧ 1 ≤ 4; omega) (by show 0 ≤ (z 5) ∧ (z 5) ≤ 200; omega)) ok_X10_wrong km_X10_144 ⟨rfl, rfl⟩ ⟨by decide, by decide⟩ ⟨by decide, by decide⟩ rfl 0 rfl rfl hl.1 rfl (Nat.le_of_ble_eq_true rfl) dX10_cant_18 (fun rv_2 uv_2 H locs w hp_2 => ?_)
    obtain ⟨zc_2, gc_2⟩ := uv_2
    have hzr_2 := hp_2.2.1
    obtain ⟨⟨hv_2, hp_2⟩, -, -⟩ := hp_2
    obtain ⟨ea_2, eb_2⟩ := Prod.mk.inj hp_2
    subst ea_2
    replace eb_2 := eb_2.symm
    subst eb_2
    subst hv_2
    have bz6 : (0 : Int) ≤ 1 ∧ (1 : Int) ≤ 4 := hzr_2 7 (by decide)
    have bz7 : (0 : Int) ≤ (z 5) ∧ ((z 5) : Int) ≤ 200 := hzr_2 8 (by decide)
    replace w : wd D A s.heap (mw cy a (uZ (uZ z 7 1) 8 (z 5)) g) H locs := w
    exact hend 0 ((uZ (uZ z 7 1) 8 (z 5)), g) _ _ _ _ dX10_cant_21 w ⟨(by refine ⟨rfl, ?_⟩; unfold ct; first | rw [if_pos c6] | rw [if_neg c6]), (mBz_u (mBz_u hz 7 bz6) 8 bz7), hg⟩

abbrev rm_X10_isWord : Room := { frames := 0, cells := 0, slots := 0, locals := 0 }
set_option maxHeartbeats 4000000 in
set_option maxRecDepth 100000 in
theorem ct_X10_isWord (l : Launch) (D : va_G) (cy : Nat → ClassId) (a : Nat → Nat) (z : Nat → Int) (g : Nat → Int → Int) (p0 : Int) (hz : mBz z) (hg : mBg g) (h0 : lR p0) : MI l yX10_isWord cX10_isWord 3 .boolean (rm_X10_isWord) D cy (mw cy a z g) [.ref (a 0), vL p0] (fun (v : Int) (u : Unit) => (v = 1 ∧ z 4 = 1 ∧ z 10 = p0) ∨ (v = 0 ∧ ¬ (z 4 = 1 ∧ z 10 = p0))) (fun _ => mw cy a z g) 0 0 := by
  refine go_i (by decide +kernel) (Nat.le_of_ble_eq_true rfl) (Or.inr (fun v u h => nb01 (by omega))) ?_
  intro p e s m args below meth c Q A ls C hnm hA w hl hend
  have hx := C.1
  have hb := C.2.1
  have b4_ := mZ4 hz
  replace hl : lv_has ls 3 [(0, .ref (a 0)), (1, vL p0)] := hl
  refine lv_aload_n hx hb dX10_isWord_0 rfl (lv_at hl 0 rfl) ?_
  refine r_get C w 0 (v := vI (z 4)) rfl rfl 8 (by decide) inX10 kf_X10_121 rfl dX10_isWord_1 ?_
  have qz1 := mZ4 hz
  refine r_iconst hx hb dX10_isWord_4 ?_
  refine r_icmp_ne (tgt := 21) hx hb dX10_isWord_5 (by decide) (by omega) (by omega) (fun c5 => ?_) (fun c5 => ?_)
  · skip
    refine r_iconst hx hb dX10_isWord_21 ?_
    exact hend 0 () _ _ _ _ dX10_isWord_22 w (by omega)
  · skip
    refine lv_aload_n hx hb dX10_isWord_8 rfl (lv_at hl 0 rfl) ?_
    refine r_get C w 0 (v := vL (z 10)) rfl rfl 14 (by decide) inX10 kf_X10_131 rfl dX10_isWord_9 ?_
    refine lv_lload_n hx hb dX10_isWord_12 rfl (lv_at hl 1 rfl) ?_
    refine r_lcif_ne (tgt := 21) hx hb dX10_isWord_13 dX10_isWord_14 (by decide) (by exact mZ10 hz) (by exact h0) (fun c13 => ?_) (fun c13 => ?_)
    · skip
      refine r_iconst hx hb dX10_isWord_21 ?_
      exact hend 0 () _ _ _ _ dX10_isWord_22 w (by omega)
    · skip
      refine r_iconst hx hb dX10_isWord_17 ?_
      refine lv_goto (tgt := 22) hx hb dX10_isWord_18 (by decide) ?_
      exact hend 1 () _ _ _ _ dX10_isWord_22 w (by omega)

abbrev rm_X10_rule : Room := { frames := 2, cells := 0, slots := 0, locals := 44 }
set_option maxHeartbeats 4000000 in
set_option maxRecDepth 100000 in
theorem ct_X10_rule (l : Launch) (D : va_G) (cy : Nat → ClassId) (a : Nat → Nat) (z : Nat → Int) (g : Nat → Int → Int) {pz : Int} (hz : mBz z) (hg : mBg g) (ht : isTok (bM z g) (z 2) pz (z 5) (z 3) (z 4)) (hw : z 4 = 1 → z 10 = wrv (bM z g) (z 5) (z 3)) : MI l yX10_rule cX10_rule 4 .boolean (rm_X10_rule) D cy (mw cy a z g) [.ref (a 0)] (fun (v : Int) (u : sX) => (frR u.1 z ∧ frH u.2 g ∧ ((v = 1 ∧ ∃ e, rulF (bM z g) (z 2) (CN (g 3)) (CN (g 4)) (z 5) (z 3) (z 4) = okR (CN (u.2 3)) (CN (u.2 4)) e ∧ z 3 ≤ e ∧ isTok (bM z g) (z 2) e (u.1 5) (u.1 3) (u.1 4) ∧ (u.1 4 = 1 → u.1 10 = wrv (bM z g) (u.1 5) (u.1 3)) ∧ u.1 7 = z 7) ∨ (v = 0 ∧ rulF (bM z g) (z 2) (CN (g 3)) (CN (g 4)) (z 5) (z 3) (z 4) = bad (u.1 7) (u.1 8) ∧ 1 ≤ u.1 7))) ∧ mBz u.1 ∧ mBg u.2) (fun u => mw cy a u.1 u.2) 0 0 := by
  refine go_i (by decide +kernel) (Nat.le_of_ble_eq_true rfl) (Or.inr (fun v u h => nb01 (h.1.2.2.elim (fun q => Or.inr q.1) (fun q => Or.inl q.1)))) ?_
  intro p e s m args below meth c Q A ls C hnm hA w hl hend
  have hx := C.1
  have hb := C.2.1
  have b2_ := mZ2 hz
  have b3_ := mZ3 hz
  have b4_ := mZ4 hz
  have b5_ := mZ5 hz
  have htb := isTok_b ht
  have J280 : ∀ (q : Int) (wv : Int) (z280 : Nat → Int) (f3 : Int → Int), (mBz z280) → (∀ j : Int, (0 : Int) ≤ f3 j ∧ f3 j ≤ 9999) → (0 ≤ q ∧ q ≤ 9) → (rulF (bM z g) (z 2) (CN (g 3)) (CN (g 4)) (z 5) (z 3) (z 4) = finF (bM z g) (z 2) (uI (CN (g 3)) q wv) (uI (CN (g 4)) q 1) (z280 3)) → (CN f3 = uI (CN (g 3)) q wv) → (frR z280 z) → (z280 7 = z 7) → (z 3 ≤ z280 3 ∧ z280 3 ≤ z 2) → ∀ (H : Heap) (locs : List Loc) (ls : Array Slot), wd D A s.heap (mw cy a z280 (uZ g 3 f3)) H locs → lv_has ls 4 [(0, .ref (a 0)), (1, vI q)] → W p l e (rm_X10_rule) s m args below meth c H locs 0 0 Q (F0 m 280 ls []) := by
    intro q wv z280 f3 hz280 bf3 hq hF hf3 hfr h77 hpp H locs ls w hl
    have q22 : z280 2 = z 2 := hfr 2 (by omega)
    refine lv_aload_n hx hb dX10_rule_280 rfl (lv_at hl 0 rfl) ?_
    refine r_get C w 0 (v := .ref (a 4)) rfl rfl 7 (by decide) inX10 kf_X10_20 rfl dX10_rule_281 ?_
    refine lv_iload_n hx hb dX10_rule_284 rfl (lv_at hl 1 rfl) ?_
    refine r_iconst hx hb dX10_rule_285 ?_
    refine r_zast C w 4 (f := (g 4)) rfl (by omega) (by omega) (by decide) (vz01 (by omega)) (ws' := mw cy a z280 (uZ (uZ g 3 f3) 4 (uI (g 4) q 1))) (mw_g4 cy a z280 (uZ g 3 f3) (uI (g 4) q 1)) dX10_rule_286 (fun H locs w => ?_)
    have bg1 : ∀ j : Int, (0 : Int) ≤ (uI (g 4) q 1) j ∧ (uI (g 4) q 1) j ≤ 1 := uI_b (mB4 hg) (by omega)
    refine lv_aload_n hx hb dX10_rule_287 rfl (lv_at hl 0 rfl) ?_
    refine cVV C w hA (ct_X10_next0 l D cy a z280 (uZ (uZ g 3 f3) 4 (uI (g 4) q 1))  hz280 (mBg_u (mBg_u hg 3 bf3) 4 bg1) (by show (z280 3) ≤ (z280 2); omega)) ok_X10_next0 km_X10_151 ⟨rfl, rfl⟩ ⟨by decide, by decide⟩ ⟨by decide, by decide⟩ rfl 0 rfl rfl hl.1 rfl (Nat.le_of_ble_eq_true rfl) dX10_rule_288 (fun uv_1 H locs w hp_1 => ?_)
    obtain ⟨zc_1, gc_1⟩ := uv_1
    obtain ⟨⟨s_1, e_1, k_1, ht_1, eg_1, e5_1, e3_1, e4_1, h6_1, h10_1, hfb_1⟩, hzc_1, -⟩ := hp_1
    replace eg_1 : (uZ (uZ g 3 f3) 4 (uI (g 4) q 1)) = gc_1 := eg_1.symm
    subst eg_1
    replace e5_1 : zc_1 5 = s_1 := e5_1
    replace e3_1 : zc_1 3 = e_1 := e3_1
    replace e4_1 : zc_1 4 = k_1 := e4_1
    subst e5_1
    subst e3_1
    subst e4_1
    replace hfb_1 : frB zc_1 z280 := hfb_1
    replace hzc_1 : mBz zc_1 := hzc_1
    have q2_1 : zc_1 2 = (z280 2) := hfb_1 2 (by omega)
    replace ht_1 : isTok (bM z280 (uZ (uZ g 3 f3) 4 (uI (g 4) q 1))) (z280 2) (z280 3) (zc_1 5) (zc_1 3) (zc_1 4) := ht_1
    replace h6_1 : zc_1 4 = 2 → zc_1 6 = nv (bM z280 (uZ (uZ g 3 f3) 4 (uI (g 4) q 1))) (zc_1 5) (zc_1 3) := h6_1
    replace h10_1 : zc_1 4 = 1 → zc_1 10 = wrv (bM z280 (uZ (uZ g 3 f3) 4 (uI (g 4) q 1))) (zc_1 5) (zc_1 3) := h10_1
    have eB_1 : (bM z280 (uZ (uZ g 3 f3) 4 (uI (g 4) q 1))) = bM z g := by unfold bM; rw [show (z280 2) = z 2 by omega]; try rfl
    rw [eB_1] at ht_1 h6_1 h10_1
    rw [show (z280 2) = z 2 by omega] at ht_1
    replace q2_1 : zc_1 2 = z 2 := by omega
    have hb_1 := isTok_b ht_1
    have hn_1 : zc_1 4 = 2 → 0 ≤ nv (bM z g) (zc_1 5) (zc_1 3) ∧ nv (bM z g) (zc_1 5) (zc_1 3) ≤ 9999 := fun h => have d := tk_dg ht_1 h; nv_i (Int.le_of_lt d.1) (Int.le_refl _) d.2.1 d.2.2
    have bm4_1 := mZ4 hzc_1
    have bm5_1 := mZ5 hzc_1
    have bm3_1 := mZ3 hzc_1
    have bm6_1 := mZ6 hzc_1
    replace w : wd D A s.heap (mw cy a zc_1 (uZ (uZ g 3 f3) 4 (uI (g 4) q 1))) H locs := w
    have ht3 := ht_1
    have hfb3 := hfb_1
    refine lv_aload_n hx hb dX10_rule_291 rfl (lv_at hl 0 rfl) ?_
    refine r_get C w 0 (v := vI (zc_1 4)) rfl rfl 8 (by decide) inX10 kf_X10_121 rfl dX10_rule_292 ?_
    have qz2 := mZ4 hzc_1
    refine r_iconst hx hb dX10_rule_295 ?_
    refine r_icmp_eq (tgt := 304) hx hb dX10_rule_296 (by decide) (by omega) (by omega) (fun c296 => ?_) (fun c296 => ?_)
    · skip
      refine lv_aload_n hx hb dX10_rule_304 rfl (lv_at hl 0 rfl) ?_
      refine cVV C w hA (ct_X10_next0 l D cy a zc_1 (uZ (uZ g 3 f3) 4 (uI (g 4) q 1))  hzc_1 (mBg_u (mBg_u hg 3 bf3) 4 bg1) (by show (zc_1 3) ≤ (zc_1 2); omega)) ok_X10_next0 km_X10_151 ⟨rfl, rfl⟩ ⟨by decide, by decide⟩ ⟨by decide, by decide⟩ rfl 0 rfl rfl hl.1 rfl (Nat.le_of_ble_eq_true rfl) dX10_rule_305 (fun uv_2 H locs w hp_2 => ?_)
      obtain ⟨zc_2, gc_2⟩ := uv_2
      obtain ⟨⟨s_2, e_2, k_2, ht_2, eg_2, e5_2, e3_2, e4_2, h6_2, h10_2, hfb_2⟩, hzc_2, -⟩ := hp_2
      replace eg_2 : (uZ (uZ g 3 f3) 4 (uI (g 4) q 1)) = gc_2 := eg_2.symm
      subst eg_2
      replace e5_2 : zc_2 5 = s_2 := e5_2
      replace e3_2 : zc_2 3 = e_2 := e3_2
      replace e4_2 : zc_2 4 = k_2 := e4_2
      subst e5_2
      subst e3_2
      subst e4_2
      replace hfb_2 : frB zc_2 zc_1 := hfb_2
      replace hzc_2 : mBz zc_2 := hzc_2
      have q2_2 : zc_2 2 = (zc_1 2) := hfb_2 2 (by omega)
      replace ht_2 : isTok (bM zc_1 (uZ (uZ g 3 f3) 4 (uI (g 4) q 1))) (zc_1 2) (zc_1 3) (zc_2 5) (zc_2 3) (zc_2 4) := ht_2
      replace h6_2 : zc_2 4 = 2 → zc_2 6 = nv (bM zc_1 (uZ (uZ g 3 f3) 4 (uI (g 4) q 1))) (zc_2 5) (zc_2 3) := h6_2
      replace h10_2 : zc_2 4 = 1 → zc_2 10 = wrv (bM zc_1 (uZ (uZ g 3 f3) 4 (uI (g 4) q 1))) (zc_2 5) (zc_2 3) := h10_2
      have eB_2 : (bM zc_1 (uZ (uZ g 3 f3) 4 (uI (g 4) q 1))) = bM z g := by unfold bM; rw [show (zc_1 2) = z 2 by omega]; try rfl
      rw [eB_2] at ht_2 h6_2 h10_2
      rw [show (zc_1 2) = z 2 by omega] at ht_2
      replace q2_2 : zc_2 2 = z 2 := by omega
      have hb_2 := isTok_b ht_2
      have hn_2 : zc_2 4 = 2 → 0 ≤ nv (bM z g) (zc_2 5) (zc_2 3) ∧ nv (bM z g) (zc_2 5) (zc_2 3) ≤ 9999 := fun h => have d := tk_dg ht_2 h; nv_i (Int.le_of_lt d.1) (Int.le_refl _) d.2.1 d.2.2
      have bm4_2 := mZ4 hzc_2
      have bm5_2 := mZ5 hzc_2
      have bm3_2 := mZ3 hzc_2
      have bm6_2 := mZ6 hzc_2
      replace w : wd D A s.heap (mw cy a zc_2 (uZ (uZ g 3 f3) 4 (uI (g 4) q 1))) H locs := w
      have ht4 := ht_2
      have h104 := h10_2
      have hfb4 := hfb_2
      refine r_iconst hx hb dX10_rule_308 ?_
      exact hend 1 (zc_2, (uZ (uZ g 3 f3) 4 (uI (g 4) q 1))) _ _ _ _ dX10_rule_309 w ⟨(by have fr := frR_t (frB_R hfb4) (frR_t (frB_R hfb3) hfr); refine ⟨fr, (by repeat (first | assumption | exact frH_0 _ | refine frH_u ?_ (by decide))), Or.inl ⟨rfl, _, (hF.trans (finF_1 ht3 c296)).trans ?_, ?_, ht4, h104, ?_⟩⟩; (show okR _ _ _ = okR (CN f3) (CN (uI (g 4) q 1)) _; rw [hf3, CN_u hq]); omega; exact ((hfb4 7 (by omega)).trans (hfb3 7 (by omega))).trans h77), hzc_2, (mBg_u (mBg_u hg 3 bf3) 4 bg1)⟩
    · skip
      refine lv_aload_n hx hb dX10_rule_299 rfl (lv_at hl 0 rfl) ?_
      refine cVI C w hA (ct_X10_cant l D cy a zc_1 (uZ (uZ g 3 f3) 4 (uI (g 4) q 1))  hzc_1 (mBg_u (mBg_u hg 3 bf3) 4 bg1)) ok_X10_cant km_X10_173 ⟨rfl, rfl⟩ ⟨by decide, by decide⟩ ⟨by decide, by decide⟩ rfl 0 rfl rfl hl.1 rfl (Nat.le_of_ble_eq_true rfl) dX10_rule_300 (fun rv_3 uv_3 H locs w hp_3 => ?_)
      obtain ⟨zc_3, gc_3⟩ := uv_3
      have hzr_3 := hp_3.2.1
      obtain ⟨⟨hv_3, hp_3⟩, -, -⟩ := hp_3
      obtain ⟨ea_3, eb_3⟩ := Prod.mk.inj hp_3
      subst ea_3
      replace eb_3 := eb_3.symm
      subst eb_3
      subst hv_3
      have bz3 : (0 : Int) ≤ (ct (zc_1 4)) ∧ ((ct (zc_1 4)) : Int) ≤ 4 := hzr_3 7 (by decide)
      have bz4 : (0 : Int) ≤ (zc_1 5) ∧ ((zc_1 5) : Int) ≤ 200 := hzr_3 8 (by decide)
      replace w : wd D A s.heap (mw cy a (uZ (uZ zc_1 7 (ct (zc_1 4))) 8 (zc_1 5)) (uZ (uZ g 3 f3) 4 (uI (g 4) q 1))) H locs := w
      exact hend 0 ((uZ (uZ zc_1 7 (ct (zc_1 4))) 8 (zc_1 5)), (uZ (uZ g 3 f3) 4 (uI (g 4) q 1))) _ _ _ _ dX10_rule_303 w ⟨(by have fr := frR_t (frB_R hfb3) hfr; have hX := hF.trans (finF_2 ht3 c296); exact ⟨(by repeat (first | assumption | exact frR_0 _ | refine frR_u ?_ (by decide))), (by repeat (first | assumption | exact frH_0 _ | refine frH_u ?_ (by decide))), Or.inr ⟨rfl, hX, (ct_b _).1⟩⟩), (mBz_u (mBz_u hzc_1 7 bz3) 8 bz4), (mBg_u (mBg_u hg 3 bf3) 4 bg1)⟩
  have J239 : ∀ (q : Int) (mo : Int) (pp : Int) (z239 : Nat → Int), (mBz z239) → (0 ≤ q ∧ q ≤ 8) → (0 ≤ mo ∧ mo ≤ 9999) → (rulF (bM z g) (z 2) (CN (g 3)) (CN (g 4)) (z 5) (z 3) (z 4) = amtF (bM z g) (z 2) (CN (g 3)) (CN (g 4)) q mo pp) → (isTok (bM z g) (z 2) pp (z239 5) (z239 3) (z239 4)) → (z239 4 = 2 → z239 6 = nv (bM z g) (z239 5) (z239 3)) → (frR z239 z) → (z239 7 = z 7) → (z 3 ≤ pp) → ∀ (H : Heap) (locs : List Loc) (ls : Array Slot), wd D A s.heap (mw cy a z239 g) H locs → lv_has ls 4 [(0, .ref (a 0)), (1, vI q), (2, vI mo)] → W p l e (rm_X10_rule) s m args below meth c H locs 0 0 Q (F0 m 239 ls []) := by
    intro q mo pp z239 hz239 hq hmo hAm ht2 h62 hfr h77 hpp H locs ls w hl
    have hb2 := isTok_b ht2
    have q22 : z239 2 = z 2 := hfr 2 (by omega)
    have bb4 := mZ4 hz239
    have bb5 := mZ5 hz239
    have bb3 := mZ3 hz239
    have bb6 := mZ6 hz239
    have hn2 : z239 4 = 2 → 0 ≤ nv (bM z g) (z239 5) (z239 3) ∧ nv (bM z g) (z239 5) (z239 3) ≤ 9999 := fun h => have d := tk_dg ht2 h; nv_i (Int.le_of_lt d.1) (Int.le_refl _) d.2.1 d.2.2
    refine lv_aload_n hx hb dX10_rule_239 rfl (lv_at hl 0 rfl) ?_
    refine r_get C w 0 (v := vI (z239 4)) rfl rfl 8 (by decide) inX10 kf_X10_121 rfl dX10_rule_240 ?_
    have qz5 := mZ4 hz239
    refine r_iconst hx hb dX10_rule_243 ?_
    refine r_icmp_eq (tgt := 252) hx hb dX10_rule_244 (by decide) (by omega) (by omega) (fun c244 => ?_) (fun c244 => ?_)
    · skip
      refine lv_aload_n hx hb dX10_rule_252 rfl (lv_at hl 0 rfl) ?_
      refine r_get C w 0 (v := vI (z239 6)) rfl rfl 10 (by decide) inX10 kf_X10_135 rfl dX10_rule_253 ?_
      have qz6 := mZ6 hz239
      refine lv_iload_n hx hb dX10_rule_256 rfl (lv_at hl 2 rfl) ?_
      refine r_icmp_le (tgt := 270) hx hb dX10_rule_257 (by decide) (by omega) (by omega) (fun c257 => ?_) (fun c257 => ?_)
      · skip
        refine lv_aload_n hx hb dX10_rule_270 rfl (lv_at hl 0 rfl) ?_
        refine r_get C w 0 (v := .ref (a 3)) rfl rfl 6 (by decide) inX10 kf_X10_17 rfl dX10_rule_271 ?_
        refine lv_iload_n hx hb dX10_rule_274 rfl (lv_at hl 1 rfl) ?_
        refine lv_aload_n hx hb dX10_rule_275 rfl (lv_at hl 0 rfl) ?_
        refine r_get C w 0 (v := vI (z239 6)) rfl rfl 10 (by decide) inX10 kf_X10_135 rfl dX10_rule_276 ?_
        have qz7 := mZ6 hz239
        refine r_iast C w 3 (f := (g 3)) rfl (by omega) (by omega) (by decide) (ws' := mw cy a z239 (uZ g 3 (uI (g 3) q (z239 6)))) (mw_g3 cy a z239 g (uI (g 3) q (z239 6))) dX10_rule_279 (fun H locs w => ?_)
        have bg8 : ∀ j : Int, (0 : Int) ≤ (uI (g 3) q (z239 6)) j ∧ (uI (g 3) q (z239 6)) j ≤ 9999 := uI_b (mB3 hg) (by have := h62 c244; have := hn2 c244; exact ⟨by omega, by omega⟩)
        exact J280 q (z239 6) z239 (uI (g 3) q (z239 6)) hz239 bg8 (by omega) (by rw [h62 c244]; exact hAm.trans (amtF_3 ht2 c244 (by have := h62 c244; omega))) (by exact CN_u ⟨by omega, by omega⟩) (by exact hfr) (by exact h77) (by omega) _ _ _ w (lv_sub hl [0, 1] rfl)
      · skip
        refine lv_aload_n hx hb dX10_rule_260 rfl (lv_at hl 0 rfl) ?_
        refine r_iconst hx hb dX10_rule_261 ?_
        refine lv_aload_n hx hb dX10_rule_262 rfl (lv_at hl 0 rfl) ?_
        refine r_get C w 0 (v := vI (z239 5)) rfl rfl 9 (by decide) inX10 kf_X10_118 rfl dX10_rule_263 ?_
        have qz9 := mZ5 hz239
        refine cVI C w hA (ct_X10_wrong l D cy a z239 g 3 (z239 5) hz239 hg (by show 1 ≤ 3 ∧ 3 ≤ 4; omega) (by show 0 ≤ (z239 5) ∧ (z239 5) ≤ 200; omega)) ok_X10_wrong km_X10_144 ⟨rfl, rfl⟩ ⟨by decide, by decide⟩ ⟨by decide, by decide⟩ rfl 0 rfl rfl hl.1 rfl (Nat.le_of_ble_eq_true rfl) dX10_rule_266 (fun rv_4 uv_4 H locs w hp_4 => ?_)
        obtain ⟨zc_4, gc_4⟩ := uv_4
        have hzr_4 := hp_4.2.1
        obtain ⟨⟨hv_4, hp_4⟩, -, -⟩ := hp_4
        obtain ⟨ea_4, eb_4⟩ := Prod.mk.inj hp_4
        subst ea_4
        replace eb_4 := eb_4.symm
        subst eb_4
        subst hv_4
        have bz10 : (0 : Int) ≤ 3 ∧ (3 : Int) ≤ 4 := hzr_4 7 (by decide)
        have bz11 : (0 : Int) ≤ (z239 5) ∧ ((z239 5) : Int) ≤ 200 := hzr_4 8 (by decide)
        replace w : wd D A s.heap (mw cy a (uZ (uZ z239 7 3) 8 (z239 5)) g) H locs := w
        exact hend 0 ((uZ (uZ z239 7 3) 8 (z239 5)), g) _ _ _ _ dX10_rule_269 w ⟨(by have h6w := h62 c244; have hX := hAm.trans (amtF_2 ht2 c244 (by omega)); exact ⟨(by repeat (first | assumption | exact frR_0 _ | refine frR_u ?_ (by decide))), (by repeat (first | assumption | exact frH_0 _ | refine frH_u ?_ (by decide))), Or.inr ⟨rfl, hX, (by decide : (1 : Int) ≤ 3)⟩⟩), (mBz_u (mBz_u hz239 7 bz10) 8 bz11), hg⟩
    · skip
      refine lv_aload_n hx hb dX10_rule_247 rfl (lv_at hl 0 rfl) ?_
      refine cVI C w hA (ct_X10_cant l D cy a z239 g  hz239 hg) ok_X10_cant km_X10_173 ⟨rfl, rfl⟩ ⟨by decide, by decide⟩ ⟨by decide, by decide⟩ rfl 0 rfl rfl hl.1 rfl (Nat.le_of_ble_eq_true rfl) dX10_rule_248 (fun rv_5 uv_5 H locs w hp_5 => ?_)
      obtain ⟨zc_5, gc_5⟩ := uv_5
      have hzr_5 := hp_5.2.1
      obtain ⟨⟨hv_5, hp_5⟩, -, -⟩ := hp_5
      obtain ⟨ea_5, eb_5⟩ := Prod.mk.inj hp_5
      subst ea_5
      replace eb_5 := eb_5.symm
      subst eb_5
      subst hv_5
      have bz12 : (0 : Int) ≤ (ct (z239 4)) ∧ ((ct (z239 4)) : Int) ≤ 4 := hzr_5 7 (by decide)
      have bz13 : (0 : Int) ≤ (z239 5) ∧ ((z239 5) : Int) ≤ 200 := hzr_5 8 (by decide)
      replace w : wd D A s.heap (mw cy a (uZ (uZ z239 7 (ct (z239 4))) 8 (z239 5)) g) H locs := w
      exact hend 0 ((uZ (uZ z239 7 (ct (z239 4))) 8 (z239 5)), g) _ _ _ _ dX10_rule_251 w ⟨(by have hX := hAm.trans (amtF_1 ht2 c244); exact ⟨(by repeat (first | assumption | exact frR_0 _ | refine frR_u ?_ (by decide))), (by repeat (first | assumption | exact frH_0 _ | refine frH_u ?_ (by decide))), Or.inr ⟨rfl, hX, (ct_b _).1⟩⟩), (mBz_u (mBz_u hz239 7 bz12) 8 bz13), hg⟩
  replace hl : lv_has ls 4 [(0, .ref (a 0))] := hl
  refine lv_aload_n hx hb dX10_rule_0 rfl (lv_at hl 0 rfl) ?_
  refine r_ldc2 (z := 32199693642659429) hx hb C.2.2.2.1 (C.2.2.2.2.1 _ kk_X10_161) dX10_rule_1 (by decide) ?_
  refine cVI C w hA (ct_X10_isWord l D cy a z g 32199693642659429 hz hg (by exact ⟨by decide, by decide⟩)) ok_X10_isWord km_X10_163 ⟨rfl, rfl⟩ ⟨by decide, by decide⟩ ⟨by decide, by decide⟩ rfl 0 rfl rfl hl.1 rfl (Nat.le_of_ble_eq_true rfl) dX10_rule_4 (fun rv_6 uv_6 H locs w hp_6 => ?_)
  replace hp_6 : (rv_6 = 1 ∧ (z 4) = 1 ∧ (z 10) = 32199693642659429) ∨ (rv_6 = 0 ∧ ¬ ((z 4) = 1 ∧ (z 10) = 32199693642659429)) := hp_6
  replace w : wd D A s.heap (mw cy a z g) H locs := w
  have hw0 := hp_6
  have hv0 : rv_6 = 0 ∨ rv_6 = 1 := hp_6.elim (fun h => Or.inr h.1) (fun h => Or.inl h.1)
  refine r_if_eq (tgt := 14) hx hb dX10_rule_7 (by decide) (by omega) (fun c7 => ?_) (fun c7 => ?_)
  · skip
    refine lv_aload_n hx hb dX10_rule_14 rfl (lv_at hl 0 rfl) ?_
    refine r_ldc2 (z := 1885434484) hx hb C.2.2.2.1 (C.2.2.2.2.1 _ kk_X10_167) dX10_rule_15 (by decide) ?_
    refine cVI C w hA (ct_X10_isWord l D cy a z g 1885434484 hz hg (by exact ⟨by decide, by decide⟩)) ok_X10_isWord km_X10_163 ⟨rfl, rfl⟩ ⟨by decide, by decide⟩ ⟨by decide, by decide⟩ rfl 0 rfl rfl hl.1 rfl (Nat.le_of_ble_eq_true rfl) dX10_rule_18 (fun rv_7 uv_7 H locs w hp_7 => ?_)
    replace hp_7 : (rv_7 = 1 ∧ (z 4) = 1 ∧ (z 10) = 1885434484) ∨ (rv_7 = 0 ∧ ¬ ((z 4) = 1 ∧ (z 10) = 1885434484)) := hp_7
    replace w : wd D A s.heap (mw cy a z g) H locs := w
    have hw1 := hp_7
    have hv1 : rv_7 = 0 ∨ rv_7 = 1 := hp_7.elim (fun h => Or.inr h.1) (fun h => Or.inl h.1)
    refine r_if_eq (tgt := 28) hx hb dX10_rule_21 (by decide) (by omega) (fun c21 => ?_) (fun c21 => ?_)
    · skip
      refine lv_aload_n hx hb dX10_rule_28 rfl (lv_at hl 0 rfl) ?_
      refine r_ldc2 (z := 7499636) hx hb C.2.2.2.1 (C.2.2.2.2.1 _ kk_X10_169) dX10_rule_29 (by decide) ?_
      refine cVI C w hA (ct_X10_isWord l D cy a z g 7499636 hz hg (by exact ⟨by decide, by decide⟩)) ok_X10_isWord km_X10_163 ⟨rfl, rfl⟩ ⟨by decide, by decide⟩ ⟨by decide, by decide⟩ rfl 0 rfl rfl hl.1 rfl (Nat.le_of_ble_eq_true rfl) dX10_rule_32 (fun rv_8 uv_8 H locs w hp_8 => ?_)
      replace hp_8 : (rv_8 = 1 ∧ (z 4) = 1 ∧ (z 10) = 7499636) ∨ (rv_8 = 0 ∧ ¬ ((z 4) = 1 ∧ (z 10) = 7499636)) := hp_8
      replace w : wd D A s.heap (mw cy a z g) H locs := w
      have hw2 := hp_8
      have hv2 : rv_8 = 0 ∨ rv_8 = 1 := hp_8.elim (fun h => Or.inr h.1) (fun h => Or.inl h.1)
      refine r_if_eq (tgt := 43) hx hb dX10_rule_35 (by decide) (by omega) (fun c35 => ?_) (fun c35 => ?_)
      · skip
        refine lv_aload_n hx hb dX10_rule_43 rfl (lv_at hl 0 rfl) ?_
        refine r_ldc2 (z := 1819243379) hx hb C.2.2.2.1 (C.2.2.2.2.1 _ kk_X10_171) dX10_rule_44 (by decide) ?_
        refine cVI C w hA (ct_X10_isWord l D cy a z g 1819243379 hz hg (by exact ⟨by decide, by decide⟩)) ok_X10_isWord km_X10_163 ⟨rfl, rfl⟩ ⟨by decide, by decide⟩ ⟨by decide, by decide⟩ rfl 0 rfl rfl hl.1 rfl (Nat.le_of_ble_eq_true rfl) dX10_rule_47 (fun rv_9 uv_9 H locs w hp_9 => ?_)
        replace hp_9 : (rv_9 = 1 ∧ (z 4) = 1 ∧ (z 10) = 1819243379) ∨ (rv_9 = 0 ∧ ¬ ((z 4) = 1 ∧ (z 10) = 1819243379)) := hp_9
        replace w : wd D A s.heap (mw cy a z g) H locs := w
        have hw3 := hp_9
        have hv3 : rv_9 = 0 ∨ rv_9 = 1 := hp_9.elim (fun h => Or.inr h.1) (fun h => Or.inl h.1)
        refine r_if_eq (tgt := 58) hx hb dX10_rule_50 (by decide) (by omega) (fun c50 => ?_) (fun c50 => ?_)
        · skip
          have hR : rulF (bM z g) (z 2) (CN (g 3)) (CN (g 4)) (z 5) (z 3) (z 4) = bad (ct (z 4)) (z 5) := rulF_4 (fun q => (hw0.elim (fun h => absurd h.1 (by omega)) (fun h => h.2)) ((mw_0 ht hw).mpr q)) (fun q => (hw1.elim (fun h => absurd h.1 (by omega)) (fun h => h.2)) ((mw_1 ht hw).mpr q)) (fun q => (hw2.elim (fun h => absurd h.1 (by omega)) (fun h => h.2)) ((mw_2 ht hw).mpr q)) (fun q => (hw3.elim (fun h => absurd h.1 (by omega)) (fun h => h.2)) ((mw_3 ht hw).mpr q))
          refine r_iconst hx hb dX10_rule_58 ?_
          refine lv_istore_n (lv' := [(1, vI (-1)), (0, .ref (a 0))]) hx hb dX10_rule_59 rfl hl (by decide) rfl (fun ls hl => ?_)
          refine lv_iload_n hx hb dX10_rule_60 rfl (lv_at hl 0 rfl) ?_
          refine r_if_ge (tgt := 69) hx hb dX10_rule_61 (by decide) (by omega) (fun c61 => ?_) (fun c61 => ?_)
          · skip
            exact absurd c61 (by omega)
          · skip
            refine lv_aload_n hx hb dX10_rule_64 rfl (lv_at hl 1 rfl) ?_
            refine cVI C w hA (ct_X10_cant l D cy a z g  hz hg) ok_X10_cant km_X10_173 ⟨rfl, rfl⟩ ⟨by decide, by decide⟩ ⟨by decide, by decide⟩ rfl 0 rfl rfl hl.1 rfl (Nat.le_of_ble_eq_true rfl) dX10_rule_65 (fun rv_10 uv_10 H locs w hp_10 => ?_)
            obtain ⟨zc_10, gc_10⟩ := uv_10
            have hzr_10 := hp_10.2.1
            obtain ⟨⟨hv_10, hp_10⟩, -, -⟩ := hp_10
            obtain ⟨ea_10, eb_10⟩ := Prod.mk.inj hp_10
            subst ea_10
            replace eb_10 := eb_10.symm
            subst eb_10
            subst hv_10
            have bz14 : (0 : Int) ≤ (ct (z 4)) ∧ ((ct (z 4)) : Int) ≤ 4 := hzr_10 7 (by decide)
            have bz15 : (0 : Int) ≤ (z 5) ∧ ((z 5) : Int) ≤ 200 := hzr_10 8 (by decide)
            replace w : wd D A s.heap (mw cy a (uZ (uZ z 7 (ct (z 4))) 8 (z 5)) g) H locs := w
            exact hend 0 ((uZ (uZ z 7 (ct (z 4))) 8 (z 5)), g) _ _ _ _ dX10_rule_68 w ⟨(by exact ⟨(by repeat (first | assumption | exact frR_0 _ | refine frR_u ?_ (by decide))), (by repeat (first | assumption | exact frH_0 _ | refine frH_u ?_ (by decide))), Or.inr ⟨rfl, hR, (ct_b _).1⟩⟩), (mBz_u (mBz_u hz 7 bz14) 8 bz15), hg⟩
        · skip
          have hR : rulF (bM z g) (z 2) (CN (g 3)) (CN (g 4)) (z 5) (z 3) (z 4) = losF (bM z g) (z 2) (CN (g 3)) (CN (g 4)) (z 5) (z 3) := rulF_3 (fun q => (hw0.elim (fun h => absurd h.1 (by omega)) (fun h => h.2)) ((mw_0 ht hw).mpr q)) (fun q => (hw1.elim (fun h => absurd h.1 (by omega)) (fun h => h.2)) ((mw_1 ht hw).mpr q)) (fun q => (hw2.elim (fun h => absurd h.1 (by omega)) (fun h => h.2)) ((mw_2 ht hw).mpr q)) ((mw_3 ht hw).mp (hw3.elim (fun h => h.2) (fun h => absurd h.1 (by omega))))
          refine r_bipush hx hb dX10_rule_53 (by decide) ?_
          refine lv_goto (tgt := 59) hx hb dX10_rule_55 (by decide) ?_
          refine lv_istore_n (lv' := [(1, vI 9), (0, .ref (a 0))]) hx hb dX10_rule_59 rfl hl (by decide) rfl (fun ls hl => ?_)
          refine lv_iload_n hx hb dX10_rule_60 rfl (lv_at hl 0 rfl) ?_
          refine r_if_ge (tgt := 69) hx hb dX10_rule_61 (by decide) (by omega) (fun c61 => ?_) (fun c61 => ?_)
          · skip
            refine lv_iload_n hx hb dX10_rule_69 rfl (lv_at hl 0 rfl) ?_
            refine r_bipush hx hb dX10_rule_70 (by decide) ?_
            refine r_icmp_lt (tgt := 94) hx hb dX10_rule_72 (by decide) (by omega) (by omega) (fun c72 => ?_) (fun c72 => ?_)
            · skip
              exact absurd c72 (by omega)
            · skip
              refine lv_aload_n hx hb dX10_rule_75 rfl (lv_at hl 1 rfl) ?_
              refine r_get C w 0 (v := .ref (a 4)) rfl rfl 7 (by decide) inX10 kf_X10_20 rfl dX10_rule_76 ?_
              refine lv_iload_n hx hb dX10_rule_79 rfl (lv_at hl 0 rfl) ?_
              refine r_zald C w 4 (f := (g 4)) rfl (by omega) (by omega) (by decide) dX10_rule_80 ?_
              have qg16 := mB4 hg 9
              refine r_if_eq (tgt := 94) hx hb dX10_rule_81 (by decide) (by omega) (fun c81 => ?_) (fun c81 => ?_)
              · skip
                refine lv_aload_n hx hb dX10_rule_94 rfl (lv_at hl 1 rfl) ?_
                refine cVV C w hA (ct_X10_next0 l D cy a z g  hz hg (by show (z 3) ≤ (z 2); omega)) ok_X10_next0 km_X10_151 ⟨rfl, rfl⟩ ⟨by decide, by decide⟩ ⟨by decide, by decide⟩ rfl 0 rfl rfl hl.1 rfl (Nat.le_of_ble_eq_true rfl) dX10_rule_95 (fun uv_11 H locs w hp_11 => ?_)
                obtain ⟨zc_11, gc_11⟩ := uv_11
                obtain ⟨⟨s_11, e_11, k_11, ht_11, eg_11, e5_11, e3_11, e4_11, h6_11, h10_11, hfb_11⟩, hzc_11, -⟩ := hp_11
                replace eg_11 : g = gc_11 := eg_11.symm
                subst eg_11
                replace e5_11 : zc_11 5 = s_11 := e5_11
                replace e3_11 : zc_11 3 = e_11 := e3_11
                replace e4_11 : zc_11 4 = k_11 := e4_11
                subst e5_11
                subst e3_11
                subst e4_11
                replace hfb_11 : frB zc_11 z := hfb_11
                replace hzc_11 : mBz zc_11 := hzc_11
                have q2_11 : zc_11 2 = (z 2) := hfb_11 2 (by omega)
                replace ht_11 : isTok (bM z g) (z 2) (z 3) (zc_11 5) (zc_11 3) (zc_11 4) := ht_11
                replace h6_11 : zc_11 4 = 2 → zc_11 6 = nv (bM z g) (zc_11 5) (zc_11 3) := h6_11
                replace h10_11 : zc_11 4 = 1 → zc_11 10 = wrv (bM z g) (zc_11 5) (zc_11 3) := h10_11
                replace ht_11 : isTok (bM z g) (z 2) (z 3) (zc_11 5) (zc_11 3) (zc_11 4) := ht_11
                replace h6_11 : zc_11 4 = 2 → zc_11 6 = nv (bM z g) (zc_11 5) (zc_11 3) := h6_11
                replace h10_11 : zc_11 4 = 1 → zc_11 10 = wrv (bM z g) (zc_11 5) (zc_11 3) := h10_11
                have hb_11 := isTok_b ht_11
                have hn_11 : zc_11 4 = 2 → 0 ≤ nv (bM z g) (zc_11 5) (zc_11 3) ∧ nv (bM z g) (zc_11 5) (zc_11 3) ≤ 9999 := fun h => have d := tk_dg ht_11 h; nv_i (Int.le_of_lt d.1) (Int.le_refl _) d.2.1 d.2.2
                have bm4_11 := mZ4 hzc_11
                have bm5_11 := mZ5 hzc_11
                have bm3_11 := mZ3 hzc_11
                have bm6_11 := mZ6 hzc_11
                replace w : wd D A s.heap (mw cy a zc_11 g) H locs := w
                have ht1 := ht_11
                have h61 := h6_11
                have h101 := h10_11
                have hfb1 := hfb_11
                have hn1 := hn_11
                refine lv_iload_n hx hb dX10_rule_98 rfl (lv_at hl 0 rfl) ?_
                refine r_if_ne (tgt := 108) hx hb dX10_rule_99 (by decide) (by omega) (fun c99 => ?_) (fun c99 => ?_)
                · skip
                  refine lv_iload_n hx hb dX10_rule_108 rfl (lv_at hl 0 rfl) ?_
                  refine r_iconst hx hb dX10_rule_109 ?_
                  refine r_icmp_ne (tgt := 118) hx hb dX10_rule_110 (by decide) (by omega) (by omega) (fun c110 => ?_) (fun c110 => ?_)
                  · skip
                    refine r_bipush hx hb dX10_rule_118 (by decide) ?_
                    refine lv_istore_n (lv' := [(2, vI 50), (1, vI 9), (0, .ref (a 0))]) hx hb dX10_rule_120 rfl hl (by decide) rfl (fun ls hl => ?_)
                    refine lv_iload_n hx hb dX10_rule_121 rfl (lv_at hl 1 rfl) ?_
                    refine r_bipush hx hb dX10_rule_122 (by decide) ?_
                    refine r_icmp_ge (tgt := 188) hx hb dX10_rule_124 (by decide) (by omega) (by omega) (fun c124 => ?_) (fun c124 => ?_)
                    · skip
                      refine lv_iload_n hx hb dX10_rule_188 rfl (lv_at hl 1 rfl) ?_
                      refine r_bipush hx hb dX10_rule_189 (by decide) ?_
                      refine r_icmp_ne (tgt := 239) hx hb dX10_rule_191 (by decide) (by omega) (by omega) (fun c191 => ?_) (fun c191 => ?_)
                      · skip
                        exact absurd c191 (by omega)
                      · skip
                        refine lv_aload_n hx hb dX10_rule_194 rfl (lv_at hl 2 rfl) ?_
                        refine r_ldc2 (z := 422877685106) hx hb C.2.2.2.1 (C.2.2.2.2.1 _ kk_X10_176) dX10_rule_195 (by decide) ?_
                        refine cVI C w hA (ct_X10_isWord l D cy a zc_11 g 422877685106 hzc_11 hg (by exact ⟨by decide, by decide⟩)) ok_X10_isWord km_X10_163 ⟨rfl, rfl⟩ ⟨by decide, by decide⟩ ⟨by decide, by decide⟩ rfl 0 rfl rfl hl.1 rfl (Nat.le_of_ble_eq_true rfl) dX10_rule_198 (fun rv_12 uv_12 H locs w hp_12 => ?_)
                        replace hp_12 : (rv_12 = 1 ∧ (zc_11 4) = 1 ∧ (zc_11 10) = 422877685106) ∨ (rv_12 = 0 ∧ ¬ ((zc_11 4) = 1 ∧ (zc_11 10) = 422877685106)) := hp_12
                        replace w : wd D A s.heap (mw cy a zc_11 g) H locs := w
                        have hw4 := hp_12
                        have hv4 : rv_12 = 0 ∨ rv_12 = 1 := hp_12.elim (fun h => Or.inr h.1) (fun h => Or.inl h.1)
                        refine lv_istore_n (lv' := [(3, vI rv_12), (2, vI 50), (1, vI 9), (0, .ref (a 0))]) hx hb dX10_rule_201 rfl hl (by decide) rfl (fun ls hl => ?_)
                        refine lv_iload_n hx hb dX10_rule_202 rfl (lv_at hl 0 rfl) ?_
                        refine r_if_ne (tgt := 221) hx hb dX10_rule_203 (by decide) (by omega) (fun c203 => ?_) (fun c203 => ?_)
                        · skip
                          refine lv_aload_n hx hb dX10_rule_221 rfl (lv_at hl 3 rfl) ?_
                          refine r_get C w 0 (v := .ref (a 3)) rfl rfl 6 (by decide) inX10 kf_X10_17 rfl dX10_rule_222 ?_
                          refine lv_iload_n hx hb dX10_rule_225 rfl (lv_at hl 2 rfl) ?_
                          refine lv_iload_n hx hb dX10_rule_226 rfl (lv_at hl 0 rfl) ?_
                          refine r_if_eq (tgt := 234) hx hb dX10_rule_227 (by decide) (by omega) (fun c227 => ?_) (fun c227 => ?_)
                          · skip
                            refine r_iconst hx hb dX10_rule_234 ?_
                            refine r_iast C w 3 (f := (g 3)) rfl (by omega) (by omega) (by decide) (ws' := mw cy a zc_11 (uZ g 3 (uI (g 3) 9 0))) (mw_g3 cy a zc_11 g (uI (g 3) 9 0)) dX10_rule_235 (fun H locs w => ?_)
                            have bg17 : ∀ j : Int, (0 : Int) ≤ (uI (g 3) 9 0) j ∧ (uI (g 3) 9 0) j ≤ 9999 := uI_b (mB3 hg) (by omega)
                            refine lv_goto (tgt := 280) hx hb dX10_rule_236 (by decide) ?_
                            exact J280 9 0 zc_11 (uI (g 3) 9 0) hzc_11 bg17 (by omega) (by first | exact absurd c227 (by omega) | exact hR.trans (losF_2 ht1 ((CN_a (by decide)).trans c81) ((mw_4 ht1 h101).mp (hw4.elim (fun h => h.2) (fun h => absurd h.1 (by omega))))) | exact hR.trans (losF_3 ht1 ((CN_a (by decide)).trans c81) (fun q => (hw4.elim (fun h => absurd h.1 (by omega)) (fun h => h.2)) ((mw_4 ht1 h101).mpr q)) ((mw_5 ht1 h101).mp (hw5.elim (fun h => h.2) (fun h => absurd h.1 (by omega)))))) (by exact CN_u ⟨by decide, by decide⟩) (by exact frB_R hfb1) (by exact hfb1 7 (by omega)) (by omega) _ _ _ w (lv_sub hl [3, 2] rfl)
                          · skip
                            refine r_iconst hx hb dX10_rule_230 ?_
                            refine lv_goto (tgt := 235) hx hb dX10_rule_231 (by decide) ?_
                            refine r_iast C w 3 (f := (g 3)) rfl (by omega) (by omega) (by decide) (ws' := mw cy a zc_11 (uZ g 3 (uI (g 3) 9 1))) (mw_g3 cy a zc_11 g (uI (g 3) 9 1)) dX10_rule_235 (fun H locs w => ?_)
                            have bg18 : ∀ j : Int, (0 : Int) ≤ (uI (g 3) 9 1) j ∧ (uI (g 3) 9 1) j ≤ 9999 := uI_b (mB3 hg) (by omega)
                            refine lv_goto (tgt := 280) hx hb dX10_rule_236 (by decide) ?_
                            exact J280 9 1 zc_11 (uI (g 3) 9 1) hzc_11 bg18 (by omega) (by first | exact absurd c227 (by omega) | exact hR.trans (losF_2 ht1 ((CN_a (by decide)).trans c81) ((mw_4 ht1 h101).mp (hw4.elim (fun h => h.2) (fun h => absurd h.1 (by omega))))) | exact hR.trans (losF_3 ht1 ((CN_a (by decide)).trans c81) (fun q => (hw4.elim (fun h => absurd h.1 (by omega)) (fun h => h.2)) ((mw_4 ht1 h101).mpr q)) ((mw_5 ht1 h101).mp (hw5.elim (fun h => h.2) (fun h => absurd h.1 (by omega)))))) (by exact CN_u ⟨by decide, by decide⟩) (by exact frB_R hfb1) (by exact hfb1 7 (by omega)) (by omega) _ _ _ w (lv_sub hl [3, 2] rfl)
                        · skip
                          refine lv_aload_n hx hb dX10_rule_206 rfl (lv_at hl 3 rfl) ?_
                          refine r_ldc2 (z := 1886351212) hx hb C.2.2.2.1 (C.2.2.2.2.1 _ kk_X10_178) dX10_rule_207 (by decide) ?_
                          refine cVI C w hA (ct_X10_isWord l D cy a zc_11 g 1886351212 hzc_11 hg (by exact ⟨by decide, by decide⟩)) ok_X10_isWord km_X10_163 ⟨rfl, rfl⟩ ⟨by decide, by decide⟩ ⟨by decide, by decide⟩ rfl 0 rfl rfl hl.1 rfl (Nat.le_of_ble_eq_true rfl) dX10_rule_210 (fun rv_13 uv_13 H locs w hp_13 => ?_)
                          replace hp_13 : (rv_13 = 1 ∧ (zc_11 4) = 1 ∧ (zc_11 10) = 1886351212) ∨ (rv_13 = 0 ∧ ¬ ((zc_11 4) = 1 ∧ (zc_11 10) = 1886351212)) := hp_13
                          replace w : wd D A s.heap (mw cy a zc_11 g) H locs := w
                          have hw5 := hp_13
                          have hv5 : rv_13 = 0 ∨ rv_13 = 1 := hp_13.elim (fun h => Or.inr h.1) (fun h => Or.inl h.1)
                          refine r_if_ne (tgt := 221) hx hb dX10_rule_213 (by decide) (by omega) (fun c213 => ?_) (fun c213 => ?_)
                          · skip
                            refine lv_aload_n hx hb dX10_rule_221 rfl (lv_at hl 3 rfl) ?_
                            refine r_get C w 0 (v := .ref (a 3)) rfl rfl 6 (by decide) inX10 kf_X10_17 rfl dX10_rule_222 ?_
                            refine lv_iload_n hx hb dX10_rule_225 rfl (lv_at hl 2 rfl) ?_
                            refine lv_iload_n hx hb dX10_rule_226 rfl (lv_at hl 0 rfl) ?_
                            refine r_if_eq (tgt := 234) hx hb dX10_rule_227 (by decide) (by omega) (fun c227 => ?_) (fun c227 => ?_)
                            · skip
                              refine r_iconst hx hb dX10_rule_234 ?_
                              refine r_iast C w 3 (f := (g 3)) rfl (by omega) (by omega) (by decide) (ws' := mw cy a zc_11 (uZ g 3 (uI (g 3) 9 0))) (mw_g3 cy a zc_11 g (uI (g 3) 9 0)) dX10_rule_235 (fun H locs w => ?_)
                              have bg19 : ∀ j : Int, (0 : Int) ≤ (uI (g 3) 9 0) j ∧ (uI (g 3) 9 0) j ≤ 9999 := uI_b (mB3 hg) (by omega)
                              refine lv_goto (tgt := 280) hx hb dX10_rule_236 (by decide) ?_
                              exact J280 9 0 zc_11 (uI (g 3) 9 0) hzc_11 bg19 (by omega) (by first | exact absurd c227 (by omega) | exact hR.trans (losF_2 ht1 ((CN_a (by decide)).trans c81) ((mw_4 ht1 h101).mp (hw4.elim (fun h => h.2) (fun h => absurd h.1 (by omega))))) | exact hR.trans (losF_3 ht1 ((CN_a (by decide)).trans c81) (fun q => (hw4.elim (fun h => absurd h.1 (by omega)) (fun h => h.2)) ((mw_4 ht1 h101).mpr q)) ((mw_5 ht1 h101).mp (hw5.elim (fun h => h.2) (fun h => absurd h.1 (by omega)))))) (by exact CN_u ⟨by decide, by decide⟩) (by exact frB_R hfb1) (by exact hfb1 7 (by omega)) (by omega) _ _ _ w (lv_sub hl [3, 2] rfl)
                            · skip
                              refine r_iconst hx hb dX10_rule_230 ?_
                              refine lv_goto (tgt := 235) hx hb dX10_rule_231 (by decide) ?_
                              refine r_iast C w 3 (f := (g 3)) rfl (by omega) (by omega) (by decide) (ws' := mw cy a zc_11 (uZ g 3 (uI (g 3) 9 1))) (mw_g3 cy a zc_11 g (uI (g 3) 9 1)) dX10_rule_235 (fun H locs w => ?_)
                              have bg20 : ∀ j : Int, (0 : Int) ≤ (uI (g 3) 9 1) j ∧ (uI (g 3) 9 1) j ≤ 9999 := uI_b (mB3 hg) (by omega)
                              refine lv_goto (tgt := 280) hx hb dX10_rule_236 (by decide) ?_
                              exact J280 9 1 zc_11 (uI (g 3) 9 1) hzc_11 bg20 (by omega) (by first | exact absurd c227 (by omega) | exact hR.trans (losF_2 ht1 ((CN_a (by decide)).trans c81) ((mw_4 ht1 h101).mp (hw4.elim (fun h => h.2) (fun h => absurd h.1 (by omega))))) | exact hR.trans (losF_3 ht1 ((CN_a (by decide)).trans c81) (fun q => (hw4.elim (fun h => absurd h.1 (by omega)) (fun h => h.2)) ((mw_4 ht1 h101).mpr q)) ((mw_5 ht1 h101).mp (hw5.elim (fun h => h.2) (fun h => absurd h.1 (by omega)))))) (by exact CN_u ⟨by decide, by decide⟩) (by exact frB_R hfb1) (by exact hfb1 7 (by omega)) (by omega) _ _ _ w (lv_sub hl [3, 2] rfl)
                          · skip
                            refine lv_aload_n hx hb dX10_rule_216 rfl (lv_at hl 3 rfl) ?_
                            refine cVI C w hA (ct_X10_cant l D cy a zc_11 g  hzc_11 hg) ok_X10_cant km_X10_173 ⟨rfl, rfl⟩ ⟨by decide, by decide⟩ ⟨by decide, by decide⟩ rfl 0 rfl rfl hl.1 rfl (Nat.le_of_ble_eq_true rfl) dX10_rule_217 (fun rv_14 uv_14 H locs w hp_14 => ?_)
                            obtain ⟨zc_14, gc_14⟩ := uv_14
                            have hzr_14 := hp_14.2.1
                            obtain ⟨⟨hv_14, hp_14⟩, -, -⟩ := hp_14
                            obtain ⟨ea_14, eb_14⟩ := Prod.mk.inj hp_14
                            subst ea_14
                            replace eb_14 := eb_14.symm
                            subst eb_14
                            subst hv_14
                            have bz21 : (0 : Int) ≤ (ct (zc_11 4)) ∧ ((ct (zc_11 4)) : Int) ≤ 4 := hzr_14 7 (by decide)
                            have bz22 : (0 : Int) ≤ (zc_11 5) ∧ ((zc_11 5) : Int) ≤ 200 := hzr_14 8 (by decide)
                            replace w : wd D A s.heap (mw cy a (uZ (uZ zc_11 7 (ct (zc_11 4))) 8 (zc_11 5)) g) H locs := w
                            exact hend 0 ((uZ (uZ zc_11 7 (ct (zc_11 4))) 8 (zc_11 5)), g) _ _ _ _ dX10_rule_220 w ⟨(by have fr := frB_R hfb1; have hX := hR.trans (losF_4 ht1 ((CN_a (by decide)).trans c81) (fun q => (hw4.elim (fun h => absurd h.1 (by omega)) (fun h => h.2)) ((mw_4 ht1 h101).mpr q)) (fun q => (hw5.elim (fun h => absurd h.1 (by omega)) (fun h => h.2)) ((mw_5 ht1 h101).mpr q))); exact ⟨(by repeat (first | assumption | exact frR_0 _ | refine frR_u ?_ (by decide))), (by repeat (first | assumption | exact frH_0 _ | refine frH_u ?_ (by decide))), Or.inr ⟨rfl, hX, (ct_b _).1⟩⟩), (mBz_u (mBz_u hzc_11 7 bz21) 8 bz22), hg⟩
                    · skip
                      exact absurd c124 (by omega)
                  · skip
                    exact absurd c110 (by omega)
                · skip
                  exact absurd c99 (by omega)
              · skip
                refine lv_aload_n hx hb dX10_rule_84 rfl (lv_at hl 1 rfl) ?_
                refine r_iconst hx hb dX10_rule_85 ?_
                refine lv_aload_n hx hb dX10_rule_86 rfl (lv_at hl 1 rfl) ?_
                refine r_get C w 0 (v := vI (z 5)) rfl rfl 9 (by decide) inX10 kf_X10_118 rfl dX10_rule_87 ?_
                have qz23 := mZ5 hz
                refine cVI C w hA (ct_X10_wrong l D cy a z g 4 (z 5) hz hg (by show 1 ≤ 4 ∧ 4 ≤ 4; omega) (by show 0 ≤ (z 5) ∧ (z 5) ≤ 200; omega)) ok_X10_wrong km_X10_144 ⟨rfl, rfl⟩ ⟨by decide, by decide⟩ ⟨by decide, by decide⟩ rfl 0 rfl rfl hl.1 rfl (Nat.le_of_ble_eq_true rfl) dX10_rule_90 (fun rv_15 uv_15 H locs w hp_15 => ?_)
                obtain ⟨zc_15, gc_15⟩ := uv_15
                have hzr_15 := hp_15.2.1
                obtain ⟨⟨hv_15, hp_15⟩, -, -⟩ := hp_15
                obtain ⟨ea_15, eb_15⟩ := Prod.mk.inj hp_15
                subst ea_15
                replace eb_15 := eb_15.symm
                subst eb_15
                subst hv_15
                have bz24 : (0 : Int) ≤ 4 ∧ (4 : Int) ≤ 4 := hzr_15 7 (by decide)
                have bz25 : (0 : Int) ≤ (z 5) ∧ ((z 5) : Int) ≤ 200 := hzr_15 8 (by decide)
                replace w : wd D A s.heap (mw cy a (uZ (uZ z 7 4) 8 (z 5)) g) H locs := w
                exact hend 0 ((uZ (uZ z 7 4) 8 (z 5)), g) _ _ _ _ dX10_rule_93 w ⟨(by first | exact ⟨(by repeat (first | assumption | exact frR_0 _ | refine frR_u ?_ (by decide))), (by repeat (first | assumption | exact frH_0 _ | refine frH_u ?_ (by decide))), Or.inr ⟨rfl, hR.trans (rtt_1 (by rw [CN_a (by decide)]; exact c81)), (by decide : (1 : Int) ≤ 4)⟩⟩ | exact ⟨(by repeat (first | assumption | exact frR_0 _ | refine frR_u ?_ (by decide))), (by repeat (first | assumption | exact frH_0 _ | refine frH_u ?_ (by decide))), Or.inr ⟨rfl, hR.trans (los_1 (by rw [CN_a (by decide)]; exact c81)), (by decide : (1 : Int) ≤ 4)⟩⟩), (mBz_u (mBz_u hz 7 bz24) 8 bz25), hg⟩
          · skip
            exact absurd c61 (by omega)
      · skip
        have hR : rulF (bM z g) (z 2) (CN (g 3)) (CN (g 4)) (z 5) (z 3) (z 4) = rttF (bM z g) (z 2) (CN (g 3)) (CN (g 4)) (z 5) (z 3) := rulF_2 (fun q => (hw0.elim (fun h => absurd h.1 (by omega)) (fun h => h.2)) ((mw_0 ht hw).mpr q)) (fun q => (hw1.elim (fun h => absurd h.1 (by omega)) (fun h => h.2)) ((mw_1 ht hw).mpr q)) ((mw_2 ht hw).mp (hw2.elim (fun h => h.2) (fun h => absurd h.1 (by omega))))
        refine r_bipush hx hb dX10_rule_38 (by decide) ?_
        refine lv_goto (tgt := 59) hx hb dX10_rule_40 (by decide) ?_
        refine lv_istore_n (lv' := [(1, vI 8), (0, .ref (a 0))]) hx hb dX10_rule_59 rfl hl (by decide) rfl (fun ls hl => ?_)
        refine lv_iload_n hx hb dX10_rule_60 rfl (lv_at hl 0 rfl) ?_
        refine r_if_ge (tgt := 69) hx hb dX10_rule_61 (by decide) (by omega) (fun c61 => ?_) (fun c61 => ?_)
        · skip
          refine lv_iload_n hx hb dX10_rule_69 rfl (lv_at hl 0 rfl) ?_
          refine r_bipush hx hb dX10_rule_70 (by decide) ?_
          refine r_icmp_lt (tgt := 94) hx hb dX10_rule_72 (by decide) (by omega) (by omega) (fun c72 => ?_) (fun c72 => ?_)
          · skip
            exact absurd c72 (by omega)
          · skip
            refine lv_aload_n hx hb dX10_rule_75 rfl (lv_at hl 1 rfl) ?_
            refine r_get C w 0 (v := .ref (a 4)) rfl rfl 7 (by decide) inX10 kf_X10_20 rfl dX10_rule_76 ?_
            refine lv_iload_n hx hb dX10_rule_79 rfl (lv_at hl 0 rfl) ?_
            refine r_zald C w 4 (f := (g 4)) rfl (by omega) (by omega) (by decide) dX10_rule_80 ?_
            have qg26 := mB4 hg 8
            refine r_if_eq (tgt := 94) hx hb dX10_rule_81 (by decide) (by omega) (fun c81 => ?_) (fun c81 => ?_)
            · skip
              refine lv_aload_n hx hb dX10_rule_94 rfl (lv_at hl 1 rfl) ?_
              refine cVV C w hA (ct_X10_next0 l D cy a z g  hz hg (by show (z 3) ≤ (z 2); omega)) ok_X10_next0 km_X10_151 ⟨rfl, rfl⟩ ⟨by decide, by decide⟩ ⟨by decide, by decide⟩ rfl 0 rfl rfl hl.1 rfl (Nat.le_of_ble_eq_true rfl) dX10_rule_95 (fun uv_16 H locs w hp_16 => ?_)
              obtain ⟨zc_16, gc_16⟩ := uv_16
              obtain ⟨⟨s_16, e_16, k_16, ht_16, eg_16, e5_16, e3_16, e4_16, h6_16, h10_16, hfb_16⟩, hzc_16, -⟩ := hp_16
              replace eg_16 : g = gc_16 := eg_16.symm
              subst eg_16
              replace e5_16 : zc_16 5 = s_16 := e5_16
              replace e3_16 : zc_16 3 = e_16 := e3_16
              replace e4_16 : zc_16 4 = k_16 := e4_16
              subst e5_16
              subst e3_16
              subst e4_16
              replace hfb_16 : frB zc_16 z := hfb_16
              replace hzc_16 : mBz zc_16 := hzc_16
              have q2_16 : zc_16 2 = (z 2) := hfb_16 2 (by omega)
              replace ht_16 : isTok (bM z g) (z 2) (z 3) (zc_16 5) (zc_16 3) (zc_16 4) := ht_16
              replace h6_16 : zc_16 4 = 2 → zc_16 6 = nv (bM z g) (zc_16 5) (zc_16 3) := h6_16
              replace h10_16 : zc_16 4 = 1 → zc_16 10 = wrv (bM z g) (zc_16 5) (zc_16 3) := h10_16
              replace ht_16 : isTok (bM z g) (z 2) (z 3) (zc_16 5) (zc_16 3) (zc_16 4) := ht_16
              replace h6_16 : zc_16 4 = 2 → zc_16 6 = nv (bM z g) (zc_16 5) (zc_16 3) := h6_16
              replace h10_16 : zc_16 4 = 1 → zc_16 10 = wrv (bM z g) (zc_16 5) (zc_16 3) := h10_16
              have hb_16 := isTok_b ht_16
              have hn_16 : zc_16 4 = 2 → 0 ≤ nv (bM z g) (zc_16 5) (zc_16 3) ∧ nv (bM z g) (zc_16 5) (zc_16 3) ≤ 9999 := fun h => have d := tk_dg ht_16 h; nv_i (Int.le_of_lt d.1) (Int.le_refl _) d.2.1 d.2.2
              have bm4_16 := mZ4 hzc_16
              have bm5_16 := mZ5 hzc_16
              have bm3_16 := mZ3 hzc_16
              have bm6_16 := mZ6 hzc_16
              replace w : wd D A s.heap (mw cy a zc_16 g) H locs := w
              have ht1 := ht_16
              have h61 := h6_16
              have h101 := h10_16
              have hfb1 := hfb_16
              have hn1 := hn_16
              refine lv_iload_n hx hb dX10_rule_98 rfl (lv_at hl 0 rfl) ?_
              refine r_if_ne (tgt := 108) hx hb dX10_rule_99 (by decide) (by omega) (fun c99 => ?_) (fun c99 => ?_)
              · skip
                refine lv_iload_n hx hb dX10_rule_108 rfl (lv_at hl 0 rfl) ?_
                refine r_iconst hx hb dX10_rule_109 ?_
                refine r_icmp_ne (tgt := 118) hx hb dX10_rule_110 (by decide) (by omega) (by omega) (fun c110 => ?_) (fun c110 => ?_)
                · skip
                  refine r_bipush hx hb dX10_rule_118 (by decide) ?_
                  refine lv_istore_n (lv' := [(2, vI 50), (1, vI 8), (0, .ref (a 0))]) hx hb dX10_rule_120 rfl hl (by decide) rfl (fun ls hl => ?_)
                  refine lv_iload_n hx hb dX10_rule_121 rfl (lv_at hl 1 rfl) ?_
                  refine r_bipush hx hb dX10_rule_122 (by decide) ?_
                  refine r_icmp_ge (tgt := 188) hx hb dX10_rule_124 (by decide) (by omega) (by omega) (fun c124 => ?_) (fun c124 => ?_)
                  · skip
                    refine lv_iload_n hx hb dX10_rule_188 rfl (lv_at hl 1 rfl) ?_
                    refine r_bipush hx hb dX10_rule_189 (by decide) ?_
                    refine r_icmp_ne (tgt := 239) hx hb dX10_rule_191 (by decide) (by omega) (by omega) (fun c191 => ?_) (fun c191 => ?_)
                    · skip
                      exact J239 8 50 (z 3) zc_16 hzc_16 (by omega) (by omega) (by first | (rw [h6v]; exact hR.trans (byG_4 ht1 c132 (by omega) (by rw [← h6v, CN_a ⟨by omega, by omega⟩]; exact c171))) | exact hR.trans (rtt_2 ((CN_a (by decide)).trans c81))) (by first | exact ht1b | exact ht1) (by first | exact h61b | exact h61) (by first | exact frR_t (frB_R hfb1b) (frB_R hfb1) | exact frB_R hfb1) (by first | exact (hfb1b 7 (by omega)).trans (hfb1 7 (by omega)) | exact hfb1 7 (by omega)) (by omega) _ _ _ w (lv_sub hl [2, 1, 0] rfl)
                    · skip
                      exact absurd c191 (by omega)
                  · skip
                    exact absurd c124 (by omega)
                · skip
                  exact absurd c110 (by omega)
              · skip
                exact absurd c99 (by omega)
            · skip
              refine lv_aload_n hx hb dX10_rule_84 rfl (lv_at hl 1 rfl) ?_
              refine r_iconst hx hb dX10_rule_85 ?_
              refine lv_aload_n hx hb dX10_rule_86 rfl (lv_at hl 1 rfl) ?_
              refine r_get C w 0 (v := vI (z 5)) rfl rfl 9 (by decide) inX10 kf_X10_118 rfl dX10_rule_87 ?_
              have qz27 := mZ5 hz
              refine cVI C w hA (ct_X10_wrong l D cy a z g 4 (z 5) hz hg (by show 1 ≤ 4 ∧ 4 ≤ 4; omega) (by show 0 ≤ (z 5) ∧ (z 5) ≤ 200; omega)) ok_X10_wrong km_X10_144 ⟨rfl, rfl⟩ ⟨by decide, by decide⟩ ⟨by decide, by decide⟩ rfl 0 rfl rfl hl.1 rfl (Nat.le_of_ble_eq_true rfl) dX10_rule_90 (fun rv_17 uv_17 H locs w hp_17 => ?_)
              obtain ⟨zc_17, gc_17⟩ := uv_17
              have hzr_17 := hp_17.2.1
              obtain ⟨⟨hv_17, hp_17⟩, -, -⟩ := hp_17
              obtain ⟨ea_17, eb_17⟩ := Prod.mk.inj hp_17
              subst ea_17
              replace eb_17 := eb_17.symm
              subst eb_17
              subst hv_17
              have bz28 : (0 : Int) ≤ 4 ∧ (4 : Int) ≤ 4 := hzr_17 7 (by decide)
              have bz29 : (0 : Int) ≤ (z 5) ∧ ((z 5) : Int) ≤ 200 := hzr_17 8 (by decide)
              replace w : wd D A s.heap (mw cy a (uZ (uZ z 7 4) 8 (z 5)) g) H locs := w
              exact hend 0 ((uZ (uZ z 7 4) 8 (z 5)), g) _ _ _ _ dX10_rule_93 w ⟨(by first | exact ⟨(by repeat (first | assumption | exact frR_0 _ | refine frR_u ?_ (by decide))), (by repeat (first | assumption | exact frH_0 _ | refine frH_u ?_ (by decide))), Or.inr ⟨rfl, hR.trans (rtt_1 (by rw [CN_a (by decide)]; exact c81)), (by decide : (1 : Int) ≤ 4)⟩⟩ | exact ⟨(by repeat (first | assumption | exact frR_0 _ | refine frR_u ?_ (by decide))), (by repeat (first | assumption | exact frH_0 _ | refine frH_u ?_ (by decide))), Or.inr ⟨rfl, hR.trans (los_1 (by rw [CN_a (by decide)]; exact c81)), (by decide : (1 : Int) ≤ 4)⟩⟩), (mBz_u (mBz_u hz 7 bz28) 8 bz29), hg⟩
        · skip
          exact absurd c61 (by omega)
    · skip
      have hR : rulF (bM z g) (z 2) (CN (g 3)) (CN (g 4)) (z 5) (z 3) (z 4) = byG (bM z g) (z 2) (CN (g 3)) (CN (g 4)) 4 100 (z 3) := rulF_1 (fun q => (hw0.elim (fun h => absurd h.1 (by omega)) (fun h => h.2)) ((mw_0 ht hw).mpr q)) ((mw_1 ht hw).mp (hw1.elim (fun h => h.2) (fun h => absurd h.1 (by omega))))
      refine r_iconst hx hb dX10_rule_24 ?_
      refine lv_goto (tgt := 59) hx hb dX10_rule_25 (by decide) ?_
      refine lv_istore_n (lv' := [(1, vI 4), (0, .ref (a 0))]) hx hb dX10_rule_59 rfl hl (by decide) rfl (fun ls hl => ?_)
      refine lv_iload_n hx hb dX10_rule_60 rfl (lv_at hl 0 rfl) ?_
      refine r_if_ge (tgt := 69) hx hb dX10_rule_61 (by decide) (by omega) (fun c61 => ?_) (fun c61 => ?_)
      · skip
        refine lv_iload_n hx hb dX10_rule_69 rfl (lv_at hl 0 rfl) ?_
        refine r_bipush hx hb dX10_rule_70 (by decide) ?_
        refine r_icmp_lt (tgt := 94) hx hb dX10_rule_72 (by decide) (by omega) (by omega) (fun c72 => ?_) (fun c72 => ?_)
        · skip
          refine lv_aload_n hx hb dX10_rule_94 rfl (lv_at hl 1 rfl) ?_
          refine cVV C w hA (ct_X10_next0 l D cy a z g  hz hg (by show (z 3) ≤ (z 2); omega)) ok_X10_next0 km_X10_151 ⟨rfl, rfl⟩ ⟨by decide, by decide⟩ ⟨by decide, by decide⟩ rfl 0 rfl rfl hl.1 rfl (Nat.le_of_ble_eq_true rfl) dX10_rule_95 (fun uv_18 H locs w hp_18 => ?_)
          obtain ⟨zc_18, gc_18⟩ := uv_18
          obtain ⟨⟨s_18, e_18, k_18, ht_18, eg_18, e5_18, e3_18, e4_18, h6_18, h10_18, hfb_18⟩, hzc_18, -⟩ := hp_18
          replace eg_18 : g = gc_18 := eg_18.symm
          subst eg_18
          replace e5_18 : zc_18 5 = s_18 := e5_18
          replace e3_18 : zc_18 3 = e_18 := e3_18
          replace e4_18 : zc_18 4 = k_18 := e4_18
          subst e5_18
          subst e3_18
          subst e4_18
          replace hfb_18 : frB zc_18 z := hfb_18
          replace hzc_18 : mBz zc_18 := hzc_18
          have q2_18 : zc_18 2 = (z 2) := hfb_18 2 (by omega)
          replace ht_18 : isTok (bM z g) (z 2) (z 3) (zc_18 5) (zc_18 3) (zc_18 4) := ht_18
          replace h6_18 : zc_18 4 = 2 → zc_18 6 = nv (bM z g) (zc_18 5) (zc_18 3) := h6_18
          replace h10_18 : zc_18 4 = 1 → zc_18 10 = wrv (bM z g) (zc_18 5) (zc_18 3) := h10_18
          replace ht_18 : isTok (bM z g) (z 2) (z 3) (zc_18 5) (zc_18 3) (zc_18 4) := ht_18
          replace h6_18 : zc_18 4 = 2 → zc_18 6 = nv (bM z g) (zc_18 5) (zc_18 3) := h6_18
          replace h10_18 : zc_18 4 = 1 → zc_18 10 = wrv (bM z g) (zc_18 5) (zc_18 3) := h10_18
          have hb_18 := isTok_b ht_18
          have hn_18 : zc_18 4 = 2 → 0 ≤ nv (bM z g) (zc_18 5) (zc_18 3) ∧ nv (bM z g) (zc_18 5) (zc_18 3) ≤ 9999 := fun h => have d := tk_dg ht_18 h; nv_i (Int.le_of_lt d.1) (Int.le_refl _) d.2.1 d.2.2
          have bm4_18 := mZ4 hzc_18
          have bm5_18 := mZ5 hzc_18
          have bm3_18 := mZ3 hzc_18
          have bm6_18 := mZ6 hzc_18
          replace w : wd D A s.heap (mw cy a zc_18 g) H locs := w
          have ht1 := ht_18
          have h61 := h6_18
          have h101 := h10_18
          have hfb1 := hfb_18
          have hn1 := hn_18
          refine lv_iload_n hx hb dX10_rule_98 rfl (lv_at hl 0 rfl) ?_
          refine r_if_ne (tgt := 108) hx hb dX10_rule_99 (by decide) (by omega) (fun c99 => ?_) (fun c99 => ?_)
          · skip
            refine lv_iload_n hx hb dX10_rule_108 rfl (lv_at hl 0 rfl) ?_
            refine r_iconst hx hb dX10_rule_109 ?_
            refine r_icmp_ne (tgt := 118) hx hb dX10_rule_110 (by decide) (by omega) (by omega) (fun c110 => ?_) (fun c110 => ?_)
            · skip
              exact absurd c110 (by omega)
            · skip
              refine r_bipush hx hb dX10_rule_113 (by decide) ?_
              refine lv_goto (tgt := 120) hx hb dX10_rule_115 (by decide) ?_
              refine lv_istore_n (lv' := [(2, vI 100), (1, vI 4), (0, .ref (a 0))]) hx hb dX10_rule_120 rfl hl (by decide) rfl (fun ls hl => ?_)
              refine lv_iload_n hx hb dX10_rule_121 rfl (lv_at hl 1 rfl) ?_
              refine r_bipush hx hb dX10_rule_122 (by decide) ?_
              refine r_icmp_ge (tgt := 188) hx hb dX10_rule_124 (by decide) (by omega) (by omega) (fun c124 => ?_) (fun c124 => ?_)
              · skip
                exact absurd c124 (by omega)
              · skip
                refine lv_aload_n hx hb dX10_rule_127 rfl (lv_at hl 2 rfl) ?_
                refine r_get C w 0 (v := vI (zc_18 4)) rfl rfl 8 (by decide) inX10 kf_X10_121 rfl dX10_rule_128 ?_
                have qz30 := mZ4 hzc_18
                refine r_iconst hx hb dX10_rule_131 ?_
                refine r_icmp_eq (tgt := 140) hx hb dX10_rule_132 (by decide) (by omega) (by omega) (fun c132 => ?_) (fun c132 => ?_)
                · skip
                  have h6v := h61 c132
                  have hnv1 := hn1 c132
                  refine lv_aload_n hx hb dX10_rule_140 rfl (lv_at hl 2 rfl) ?_
                  refine r_get C w 0 (v := vI (zc_18 6)) rfl rfl 10 (by decide) inX10 kf_X10_135 rfl dX10_rule_141 ?_
                  have qz31 := mZ6 hzc_18
                  refine r_iconst hx hb dX10_rule_144 ?_
                  refine r_icmp_le (tgt := 158) hx hb dX10_rule_145 (by decide) (by omega) (by omega) (fun c145 => ?_) (fun c145 => ?_)
                  · skip
                    refine lv_iload_n hx hb dX10_rule_158 rfl (lv_at hl 1 rfl) ?_
                    refine lv_aload_n hx hb dX10_rule_159 rfl (lv_at hl 2 rfl) ?_
                    refine r_get C w 0 (v := vI (zc_18 6)) rfl rfl 10 (by decide) inX10 kf_X10_135 rfl dX10_rule_160 ?_
                    have qz32 := mZ6 hzc_18
                    refine r_iadd hx hb dX10_rule_163 ?_
                    refine lv_istore_n (lv' := [(1, vI (4 + (zc_18 6))), (2, vI 100), (0, .ref (a 0))]) hx hb dX10_rule_164 rfl hl (by decide) rfl (fun ls hl => ?_)
                    refine lv_aload_n hx hb dX10_rule_165 rfl (lv_at hl 2 rfl) ?_
                    refine r_get C w 0 (v := .ref (a 4)) rfl rfl 7 (by decide) inX10 kf_X10_20 rfl dX10_rule_166 ?_
                    refine lv_iload_n hx hb dX10_rule_169 rfl (lv_at hl 0 rfl) ?_
                    refine r_zald C w 4 (f := (g 4)) rfl (by omega) (by omega) (by decide) dX10_rule_170 ?_
                    have qg33 := mB4 hg (4 + (zc_18 6))
                    refine r_if_eq (tgt := 184) hx hb dX10_rule_171 (by decide) (by omega) (fun c171 => ?_) (fun c171 => ?_)
                    · skip
                      refine lv_aload_n hx hb dX10_rule_184 rfl (lv_at hl 2 rfl) ?_
                      refine cVV C w hA (ct_X10_next0 l D cy a zc_18 g  hzc_18 hg (by show (zc_18 3) ≤ (zc_18 2); omega)) ok_X10_next0 km_X10_151 ⟨rfl, rfl⟩ ⟨by decide, by decide⟩ ⟨by decide, by decide⟩ rfl 0 rfl rfl hl.1 rfl (Nat.le_of_ble_eq_true rfl) dX10_rule_185 (fun uv_19 H locs w hp_19 => ?_)
                      obtain ⟨zc_19, gc_19⟩ := uv_19
                      obtain ⟨⟨s_19, e_19, k_19, ht_19, eg_19, e5_19, e3_19, e4_19, h6_19, h10_19, hfb_19⟩, hzc_19, -⟩ := hp_19
                      replace eg_19 : g = gc_19 := eg_19.symm
                      subst eg_19
                      replace e5_19 : zc_19 5 = s_19 := e5_19
                      replace e3_19 : zc_19 3 = e_19 := e3_19
                      replace e4_19 : zc_19 4 = k_19 := e4_19
                      subst e5_19
                      subst e3_19
                      subst e4_19
                      replace hfb_19 : frB zc_19 zc_18 := hfb_19
                      replace hzc_19 : mBz zc_19 := hzc_19
                      have q2_19 : zc_19 2 = (zc_18 2) := hfb_19 2 (by omega)
                      replace ht_19 : isTok (bM zc_18 g) (zc_18 2) (zc_18 3) (zc_19 5) (zc_19 3) (zc_19 4) := ht_19
                      replace h6_19 : zc_19 4 = 2 → zc_19 6 = nv (bM zc_18 g) (zc_19 5) (zc_19 3) := h6_19
                      replace h10_19 : zc_19 4 = 1 → zc_19 10 = wrv (bM zc_18 g) (zc_19 5) (zc_19 3) := h10_19
                      have eB_19 : (bM zc_18 g) = bM z g := by unfold bM; rw [show (zc_18 2) = z 2 by omega]; try rfl
                      rw [eB_19] at ht_19 h6_19 h10_19
                      rw [show (zc_18 2) = z 2 by omega] at ht_19
                      replace q2_19 : zc_19 2 = z 2 := by omega
                      have hb_19 := isTok_b ht_19
                      have hn_19 : zc_19 4 = 2 → 0 ≤ nv (bM z g) (zc_19 5) (zc_19 3) ∧ nv (bM z g) (zc_19 5) (zc_19 3) ≤ 9999 := fun h => have d := tk_dg ht_19 h; nv_i (Int.le_of_lt d.1) (Int.le_refl _) d.2.1 d.2.2
                      have bm4_19 := mZ4 hzc_19
                      have bm5_19 := mZ5 hzc_19
                      have bm3_19 := mZ3 hzc_19
                      have bm6_19 := mZ6 hzc_19
                      replace w : wd D A s.heap (mw cy a zc_19 g) H locs := w
                      have ht1b := ht_19
                      have h61b := h6_19
                      have hfb1b := hfb_19
                      refine lv_iload_n hx hb dX10_rule_188 rfl (lv_at hl 0 rfl) ?_
                      refine r_bipush hx hb dX10_rule_189 (by decide) ?_
                      refine r_icmp_ne (tgt := 239) hx hb dX10_rule_191 (by decide) (by omega) (by omega) (fun c191 => ?_) (fun c191 => ?_)
                      · skip
                        exact J239 (4 + (zc_18 6)) 100 (zc_18 3) zc_19 hzc_19 (by omega) (by omega) (by first | (rw [h6v]; exact hR.trans (byG_4 ht1 c132 (by omega) (by rw [← h6v, CN_a ⟨by omega, by omega⟩]; exact c171))) | exact hR.trans (rtt_2 ((CN_a (by decide)).trans c81))) (by first | exact ht1b | exact ht1) (by first | exact h61b | exact h61) (by first | exact frR_t (frB_R hfb1b) (frB_R hfb1) | exact frB_R hfb1) (by first | exact (hfb1b 7 (by omega)).trans (hfb1 7 (by omega)) | exact hfb1 7 (by omega)) (by omega) _ _ _ w (lv_sub hl [2, 0, 1] rfl)
                      · skip
                        exact absurd c191 (by omega)
                    · skip
                      refine lv_aload_n hx hb dX10_rule_174 rfl (lv_at hl 2 rfl) ?_
                      refine r_iconst hx hb dX10_rule_175 ?_
                      refine lv_aload_n hx hb dX10_rule_176 rfl (lv_at hl 2 rfl) ?_
                      refine r_get C w 0 (v := vI (zc_18 5)) rfl rfl 9 (by decide) inX10 kf_X10_118 rfl dX10_rule_177 ?_
                      have qz34 := mZ5 hzc_18
                      refine cVI C w hA (ct_X10_wrong l D cy a zc_18 g 4 (zc_18 5) hzc_18 hg (by show 1 ≤ 4 ∧ 4 ≤ 4; omega) (by show 0 ≤ (zc_18 5) ∧ (zc_18 5) ≤ 200; omega)) ok_X10_wrong km_X10_144 ⟨rfl, rfl⟩ ⟨by decide, by decide⟩ ⟨by decide, by decide⟩ rfl 0 rfl rfl hl.1 rfl (Nat.le_of_ble_eq_true rfl) dX10_rule_180 (fun rv_20 uv_20 H locs w hp_20 => ?_)
                      obtain ⟨zc_20, gc_20⟩ := uv_20
                      have hzr_20 := hp_20.2.1
                      obtain ⟨⟨hv_20, hp_20⟩, -, -⟩ := hp_20
                      obtain ⟨ea_20, eb_20⟩ := Prod.mk.inj hp_20
                      subst ea_20
                      replace eb_20 := eb_20.symm
                      subst eb_20
                      subst hv_20
                      have bz35 : (0 : Int) ≤ 4 ∧ (4 : Int) ≤ 4 := hzr_20 7 (by decide)
                      have bz36 : (0 : Int) ≤ (zc_18 5) ∧ ((zc_18 5) : Int) ≤ 200 := hzr_20 8 (by decide)
                      replace w : wd D A s.heap (mw cy a (uZ (uZ zc_18 7 4) 8 (zc_18 5)) g) H locs := w
                      exact hend 0 ((uZ (uZ zc_18 7 4) 8 (zc_18 5)), g) _ _ _ _ dX10_rule_183 w ⟨(by have fr := frB_R hfb1; have hX := hR.trans (byG_3 ht1 c132 (by omega) (by rw [← h6v, CN_a ⟨by omega, by omega⟩]; exact c171)); exact ⟨(by repeat (first | assumption | exact frR_0 _ | refine frR_u ?_ (by decide))), (by repeat (first | assumption | exact frH_0 _ | refine frH_u ?_ (by decide))), Or.inr ⟨rfl, hX, (by decide : (1 : Int) ≤ 4)⟩⟩), (mBz_u (mBz_u hzc_18 7 bz35) 8 bz36), hg⟩
                  · skip
                    refine lv_aload_n hx hb dX10_rule_148 rfl (lv_at hl 2 rfl) ?_
                    refine r_iconst hx hb dX10_rule_149 ?_
                    refine lv_aload_n hx hb dX10_rule_150 rfl (lv_at hl 2 rfl) ?_
                    refine r_get C w 0 (v := vI (zc_18 5)) rfl rfl 9 (by decide) inX10 kf_X10_118 rfl dX10_rule_151 ?_
                    have qz37 := mZ5 hzc_18
                    refine cVI C w hA (ct_X10_wrong l D cy a zc_18 g 3 (zc_18 5) hzc_18 hg (by show 1 ≤ 3 ∧ 3 ≤ 4; omega) (by show 0 ≤ (zc_18 5) ∧ (zc_18 5) ≤ 200; omega)) ok_X10_wrong km_X10_144 ⟨rfl, rfl⟩ ⟨by decide, by decide⟩ ⟨by decide, by decide⟩ rfl 0 rfl rfl hl.1 rfl (Nat.le_of_ble_eq_true rfl) dX10_rule_154 (fun rv_21 uv_21 H locs w hp_21 => ?_)
                    obtain ⟨zc_21, gc_21⟩ := uv_21
                    have hzr_21 := hp_21.2.1
                    obtain ⟨⟨hv_21, hp_21⟩, -, -⟩ := hp_21
                    obtain ⟨ea_21, eb_21⟩ := Prod.mk.inj hp_21
                    subst ea_21
                    replace eb_21 := eb_21.symm
                    subst eb_21
                    subst hv_21
                    have bz38 : (0 : Int) ≤ 3 ∧ (3 : Int) ≤ 4 := hzr_21 7 (by decide)
                    have bz39 : (0 : Int) ≤ (zc_18 5) ∧ ((zc_18 5) : Int) ≤ 200 := hzr_21 8 (by decide)
                    replace w : wd D A s.heap (mw cy a (uZ (uZ zc_18 7 3) 8 (zc_18 5)) g) H locs := w
                    exact hend 0 ((uZ (uZ zc_18 7 3) 8 (zc_18 5)), g) _ _ _ _ dX10_rule_157 w ⟨(by have fr := frB_R hfb1; have hX := hR.trans (byG_2 ht1 c132 (by omega)); exact ⟨(by repeat (first | assumption | exact frR_0 _ | refine frR_u ?_ (by decide))), (by repeat (first | assumption | exact frH_0 _ | refine frH_u ?_ (by decide))), Or.inr ⟨rfl, hX, (by decide : (1 : Int) ≤ 3)⟩⟩), (mBz_u (mBz_u hzc_18 7 bz38) 8 bz39), hg⟩
                · skip
                  refine lv_aload_n hx hb dX10_rule_135 rfl (lv_at hl 2 rfl) ?_
                  refine cVI C w hA (ct_X10_cant l D cy a zc_18 g  hzc_18 hg) ok_X10_cant km_X10_173 ⟨rfl, rfl⟩ ⟨by decide, by decide⟩ ⟨by decide, by decide⟩ rfl 0 rfl rfl hl.1 rfl (Nat.le_of_ble_eq_true rfl) dX10_rule_136 (fun rv_22 uv_22 H locs w hp_22 => ?_)
                  obtain ⟨zc_22, gc_22⟩ := uv_22
                  have hzr_22 := hp_22.2.1
                  obtain ⟨⟨hv_22, hp_22⟩, -, -⟩ := hp_22
                  obtain ⟨ea_22, eb_22⟩ := Prod.mk.inj hp_22
                  subst ea_22
                  replace eb_22 := eb_22.symm
                  subst eb_22
                  subst hv_22
                  have bz40 : (0 : Int) ≤ (ct (zc_18 4)) ∧ ((ct (zc_18 4)) : Int) ≤ 4 := hzr_22 7 (by decide)
                  have bz41 : (0 : Int) ≤ (zc_18 5) ∧ ((zc_18 5) : Int) ≤ 200 := hzr_22 8 (by decide)
                  replace w : wd D A s.heap (mw cy a (uZ (uZ zc_18 7 (ct (zc_18 4))) 8 (zc_18 5)) g) H locs := w
                  exact hend 0 ((uZ (uZ zc_18 7 (ct (zc_18 4))) 8 (zc_18 5)), g) _ _ _ _ dX10_rule_139 w ⟨(by have fr := frB_R hfb1; have hX := hR.trans (byG_1 ht1 c132); exact ⟨(by repeat (first | assumption | exact frR_0 _ | refine frR_u ?_ (by decide))), (by repeat (first | assumption | exact frH_0 _ | refine frH_u ?_ (by decide))), Or.inr ⟨rfl, hX, (ct_b _).1⟩⟩), (mBz_u (mBz_u hzc_18 7 bz40) 8 bz41), hg⟩
          · skip
            exact absurd c99 (by omega)
        · skip
          exact absurd c72 (by omega)
      · skip
        exact absurd c61 (by omega)
  · skip
    have hR : rulF (bM z g) (z 2) (CN (g 3)) (CN (g 4)) (z 5) (z 3) (z 4) = byG (bM z g) (z 2) (CN (g 3)) (CN (g 4)) 0 9999 (z 3) := rulF_0 ((mw_0 ht hw).mp (hw0.elim (fun h => h.2) (fun h => absurd h.1 (by omega))))
    refine r_iconst hx hb dX10_rule_10 ?_
    refine lv_goto (tgt := 59) hx hb dX10_rule_11 (by decide) ?_
    refine lv_istore_n (lv' := [(1, vI 0), (0, .ref (a 0))]) hx hb dX10_rule_59 rfl hl (by decide) rfl (fun ls hl => ?_)
    refine lv_iload_n hx hb dX10_rule_60 rfl (lv_at hl 0 rfl) ?_
    refine r_if_ge (tgt := 69) hx hb dX10_rule_61 (by decide) (by omega) (fun c61 => ?_) (fun c61 => ?_)
    · skip
      refine lv_iload_n hx hb dX10_rule_69 rfl (lv_at hl 0 rfl) ?_
      refine r_bipush hx hb dX10_rule_70 (by decide) ?_
      refine r_icmp_lt (tgt := 94) hx hb dX10_rule_72 (by decide) (by omega) (by omega) (fun c72 => ?_) (fun c72 => ?_)
      · skip
        refine lv_aload_n hx hb dX10_rule_94 rfl (lv_at hl 1 rfl) ?_
        refine cVV C w hA (ct_X10_next0 l D cy a z g  hz hg (by show (z 3) ≤ (z 2); omega)) ok_X10_next0 km_X10_151 ⟨rfl, rfl⟩ ⟨by decide, by decide⟩ ⟨by decide, by decide⟩ rfl 0 rfl rfl hl.1 rfl (Nat.le_of_ble_eq_true rfl) dX10_rule_95 (fun uv_23 H locs w hp_23 => ?_)
        obtain ⟨zc_23, gc_23⟩ := uv_23
        obtain ⟨⟨s_23, e_23, k_23, ht_23, eg_23, e5_23, e3_23, e4_23, h6_23, h10_23, hfb_23⟩, hzc_23, -⟩ := hp_23
        replace eg_23 : g = gc_23 := eg_23.symm
        subst eg_23
        replace e5_23 : zc_23 5 = s_23 := e5_23
        replace e3_23 : zc_23 3 = e_23 := e3_23
        replace e4_23 : zc_23 4 = k_23 := e4_23
        subst e5_23
        subst e3_23
        subst e4_23
        replace hfb_23 : frB zc_23 z := hfb_23
        replace hzc_23 : mBz zc_23 := hzc_23
        have q2_23 : zc_23 2 = (z 2) := hfb_23 2 (by omega)
        replace ht_23 : isTok (bM z g) (z 2) (z 3) (zc_23 5) (zc_23 3) (zc_23 4) := ht_23
        replace h6_23 : zc_23 4 = 2 → zc_23 6 = nv (bM z g) (zc_23 5) (zc_23 3) := h6_23
        replace h10_23 : zc_23 4 = 1 → zc_23 10 = wrv (bM z g) (zc_23 5) (zc_23 3) := h10_23
        replace ht_23 : isTok (bM z g) (z 2) (z 3) (zc_23 5) (zc_23 3) (zc_23 4) := ht_23
        replace h6_23 : zc_23 4 = 2 → zc_23 6 = nv (bM z g) (zc_23 5) (zc_23 3) := h6_23
        replace h10_23 : zc_23 4 = 1 → zc_23 10 = wrv (bM z g) (zc_23 5) (zc_23 3) := h10_23
        have hb_23 := isTok_b ht_23
        have hn_23 : zc_23 4 = 2 → 0 ≤ nv (bM z g) (zc_23 5) (zc_23 3) ∧ nv (bM z g) (zc_23 5) (zc_23 3) ≤ 9999 := fun h => have d := tk_dg ht_23 h; nv_i (Int.le_of_lt d.1) (Int.le_refl _) d.2.1 d.2.2
        have bm4_23 := mZ4 hzc_23
        have bm5_23 := mZ5 hzc_23
        have bm3_23 := mZ3 hzc_23
        have bm6_23 := mZ6 hzc_23
        replace w : wd D A s.heap (mw cy a zc_23 g) H locs := w
        have ht1 := ht_23
        have h61 := h6_23
        have h101 := h10_23
        have hfb1 := hfb_23
        have hn1 := hn_23
        refine lv_iload_n hx hb dX10_rule_98 rfl (lv_at hl 0 rfl) ?_
        refine r_if_ne (tgt := 108) hx hb dX10_rule_99 (by decide) (by omega) (fun c99 => ?_) (fun c99 => ?_)
        · skip
          exact absurd c99 (by omega)
        · skip
          refine r_sipush hx hb dX10_rule_102 (by decide) ?_
          refine lv_goto (tgt := 120) hx hb dX10_rule_105 (by decide) ?_
          refine lv_istore_n (lv' := [(2, vI 9999), (1, vI 0), (0, .ref (a 0))]) hx hb dX10_rule_120 rfl hl (by decide) rfl (fun ls hl => ?_)
          refine lv_iload_n hx hb dX10_rule_121 rfl (lv_at hl 1 rfl) ?_
          refine r_bipush hx hb dX10_rule_122 (by decide) ?_
          refine r_icmp_ge (tgt := 188) hx hb dX10_rule_124 (by decide) (by omega) (by omega) (fun c124 => ?_) (fun c124 => ?_)
          · skip
            exact absurd c124 (by omega)
          · skip
            refine lv_aload_n hx hb dX10_rule_127 rfl (lv_at hl 2 rfl) ?_
            refine r_get C w 0 (v := vI (zc_23 4)) rfl rfl 8 (by decide) inX10 kf_X10_121 rfl dX10_rule_128 ?_
            have qz42 := mZ4 hzc_23
            refine r_iconst hx hb dX10_rule_131 ?_
            refine r_icmp_eq (tgt := 140) hx hb dX10_rule_132 (by decide) (by omega) (by omega) (fun c132 => ?_) (fun c132 => ?_)
            · skip
              have h6v := h61 c132
              have hnv1 := hn1 c132
              refine lv_aload_n hx hb dX10_rule_140 rfl (lv_at hl 2 rfl) ?_
              refine r_get C w 0 (v := vI (zc_23 6)) rfl rfl 10 (by decide) inX10 kf_X10_135 rfl dX10_rule_141 ?_
              have qz43 := mZ6 hzc_23
              refine r_iconst hx hb dX10_rule_144 ?_
              refine r_icmp_le (tgt := 158) hx hb dX10_rule_145 (by decide) (by omega) (by omega) (fun c145 => ?_) (fun c145 => ?_)
              · skip
                refine lv_iload_n hx hb dX10_rule_158 rfl (lv_at hl 1 rfl) ?_
                refine lv_aload_n hx hb dX10_rule_159 rfl (lv_at hl 2 rfl) ?_
                refine r_get C w 0 (v := vI (zc_23 6)) rfl rfl 10 (by decide) inX10 kf_X10_135 rfl dX10_rule_160 ?_
                have qz44 := mZ6 hzc_23
                refine r_iadd hx hb dX10_rule_163 ?_
                refine lv_istore_n (lv' := [(1, vI (0 + (zc_23 6))), (2, vI 9999), (0, .ref (a 0))]) hx hb dX10_rule_164 rfl hl (by decide) rfl (fun ls hl => ?_)
                refine lv_aload_n hx hb dX10_rule_165 rfl (lv_at hl 2 rfl) ?_
                refine r_get C w 0 (v := .ref (a 4)) rfl rfl 7 (by decide) inX10 kf_X10_20 rfl dX10_rule_166 ?_
                refine lv_iload_n hx hb dX10_rule_169 rfl (lv_at hl 0 rfl) ?_
                refine r_zald C w 4 (f := (g 4)) rfl (by omega) (by omega) (by decide) dX10_rule_170 ?_
                have qg45 := mB4 hg (0 + (zc_23 6))
                refine r_if_eq (tgt := 184) hx hb dX10_rule_171 (by decide) (by omega) (fun c171 => ?_) (fun c171 => ?_)
                · skip
                  refine lv_aload_n hx hb dX10_rule_184 rfl (lv_at hl 2 rfl) ?_
                  refine cVV C w hA (ct_X10_next0 l D cy a zc_23 g  hzc_23 hg (by show (zc_23 3) ≤ (zc_23 2); omega)) ok_X10_next0 km_X10_151 ⟨rfl, rfl⟩ ⟨by decide, by decide⟩ ⟨by decide, by decide⟩ rfl 0 rfl rfl hl.1 rfl (Nat.le_of_ble_eq_true rfl) dX10_rule_185 (fun uv_24 H locs w hp_24 => ?_)
                  obtain ⟨zc_24, gc_24⟩ := uv_24
                  obtain ⟨⟨s_24, e_24, k_24, ht_24, eg_24, e5_24, e3_24, e4_24, h6_24, h10_24, hfb_24⟩, hzc_24, -⟩ := hp_24
                  replace eg_24 : g = gc_24 := eg_24.symm
                  subst eg_24
                  replace e5_24 : zc_24 5 = s_24 := e5_24
                  replace e3_24 : zc_24 3 = e_24 := e3_24
                  replace e4_24 : zc_24 4 = k_24 := e4_24
                  subst e5_24
                  subst e3_24
                  subst e4_24
                  replace hfb_24 : frB zc_24 zc_23 := hfb_24
                  replace hzc_24 : mBz zc_24 := hzc_24
                  have q2_24 : zc_24 2 = (zc_23 2) := hfb_24 2 (by omega)
                  replace ht_24 : isTok (bM zc_23 g) (zc_23 2) (zc_23 3) (zc_24 5) (zc_24 3) (zc_24 4) := ht_24
                  replace h6_24 : zc_24 4 = 2 → zc_24 6 = nv (bM zc_23 g) (zc_24 5) (zc_24 3) := h6_24
                  replace h10_24 : zc_24 4 = 1 → zc_24 10 = wrv (bM zc_23 g) (zc_24 5) (zc_24 3) := h10_24
                  have eB_24 : (bM zc_23 g) = bM z g := by unfold bM; rw [show (zc_23 2) = z 2 by omega]; try rfl
                  rw [eB_24] at ht_24 h6_24 h10_24
                  rw [show (zc_23 2) = z 2 by omega] at ht_24
                  replace q2_24 : zc_24 2 = z 2 := by omega
                  have hb_24 := isTok_b ht_24
                  have hn_24 : zc_24 4 = 2 → 0 ≤ nv (bM z g) (zc_24 5) (zc_24 3) ∧ nv (bM z g) (zc_24 5) (zc_24 3) ≤ 9999 := fun h => have d := tk_dg ht_24 h; nv_i (Int.le_of_lt d.1) (Int.le_refl _) d.2.1 d.2.2
                  have bm4_24 := mZ4 hzc_24
                  have bm5_24 := mZ5 hzc_24
                  have bm3_24 := mZ3 hzc_24
                  have bm6_24 := mZ6 hzc_24
                  replace w : wd D A s.heap (mw cy a zc_24 g) H locs := w
                  have ht1b := ht_24
                  have h61b := h6_24
                  have hfb1b := hfb_24
                  refine lv_iload_n hx hb dX10_rule_188 rfl (lv_at hl 0 rfl) ?_
                  refine r_bipush hx hb dX10_rule_189 (by decide) ?_
                  refine r_icmp_ne (tgt := 239) hx hb dX10_rule_191 (by decide) (by omega) (by omega) (fun c191 => ?_) (fun c191 => ?_)
                  · skip
                    exact J239 (0 + (zc_23 6)) 9999 (zc_23 3) zc_24 hzc_24 (by omega) (by omega) (by first | (rw [h6v]; exact hR.trans (byG_4 ht1 c132 (by omega) (by rw [← h6v, CN_a ⟨by omega, by omega⟩]; exact c171))) | exact hR.trans (rtt_2 ((CN_a (by decide)).trans c81))) (by first | exact ht1b | exact ht1) (by first | exact h61b | exact h61) (by first | exact frR_t (frB_R hfb1b) (frB_R hfb1) | exact frB_R hfb1) (by first | exact (hfb1b 7 (by omega)).trans (hfb1 7 (by omega)) | exact hfb1 7 (by omega)) (by omega) _ _ _ w (lv_sub hl [2, 0, 1] rfl)
                  · skip
                    exact absurd c191 (by omega)
                · skip
                  refine lv_aload_n hx hb dX10_rule_174 rfl (lv_at hl 2 rfl) ?_
                  refine r_iconst hx hb dX10_rule_175 ?_
                  refine lv_aload_n hx hb dX10_rule_176 rfl (lv_at hl 2 rfl) ?_
                  refine r_get C w 0 (v := vI (zc_23 5)) rfl rfl 9 (by decide) inX10 kf_X10_118 rfl dX10_rule_177 ?_
                  have qz46 := mZ5 hzc_23
                  refine cVI C w hA (ct_X10_wrong l D cy a zc_23 g 4 (zc_23 5) hzc_23 hg (by show 1 ≤ 4 ∧ 4 ≤ 4; omega) (by show 0 ≤ (zc_23 5) ∧ (zc_23 5) ≤ 200; omega)) ok_X10_wrong km_X10_144 ⟨rfl, rfl⟩ ⟨by decide, by decide⟩ ⟨by decide, by decide⟩ rfl 0 rfl rfl hl.1 rfl (Nat.le_of_ble_eq_true rfl) dX10_rule_180 (fun rv_25 uv_25 H locs w hp_25 => ?_)
                  obtain ⟨zc_25, gc_25⟩ := uv_25
                  have hzr_25 := hp_25.2.1
                  obtain ⟨⟨hv_25, hp_25⟩, -, -⟩ := hp_25
                  obtain ⟨ea_25, eb_25⟩ := Prod.mk.inj hp_25
                  subst ea_25
                  replace eb_25 := eb_25.symm
                  subst eb_25
                  subst hv_25
                  have bz47 : (0 : Int) ≤ 4 ∧ (4 : Int) ≤ 4 := hzr_25 7 (by decide)
                  have bz48 : (0 : Int) ≤ (zc_23 5) ∧ ((zc_23 5) : Int) ≤ 200 := hzr_25 8 (by decide)
                  replace w : wd D A s.heap (mw cy a (uZ (uZ zc_23 7 4) 8 (zc_23 5)) g) H locs := w
                  exact hend 0 ((uZ (uZ zc_23 7 4) 8 (zc_23 5)), g) _ _ _ _ dX10_rule_183 w ⟨(by have fr := frB_R hfb1; have hX := hR.trans (byG_3 ht1 c132 (by omega) (by rw [← h6v, CN_a ⟨by omega, by omega⟩]; exact c171)); exact ⟨(by repeat (first | assumption | exact frR_0 _ | refine frR_u ?_ (by decide))), (by repeat (first | assumption | exact frH_0 _ | refine frH_u ?_ (by decide))), Or.inr ⟨rfl, hX, (by decide : (1 : Int) ≤ 4)⟩⟩), (mBz_u (mBz_u hzc_23 7 bz47) 8 bz48), hg⟩
              · skip
                refine lv_aload_n hx hb dX10_rule_148 rfl (lv_at hl 2 rfl) ?_
                refine r_iconst hx hb dX10_rule_149 ?_
                refine lv_aload_n hx hb dX10_rule_150 rfl (lv_at hl 2 rfl) ?_
                refine r_get C w 0 (v := vI (zc_23 5)) rfl rfl 9 (by decide) inX10 kf_X10_118 rfl dX10_rule_151 ?_
                have qz49 := mZ5 hzc_23
                refine cVI C w hA (ct_X10_wrong l D cy a zc_23 g 3 (zc_23 5) hzc_23 hg (by show 1 ≤ 3 ∧ 3 ≤ 4; omega) (by show 0 ≤ (zc_23 5) ∧ (zc_23 5) ≤ 200; omega)) ok_X10_wrong km_X10_144 ⟨rfl, rfl⟩ ⟨by decide, by decide⟩ ⟨by decide, by decide⟩ rfl 0 rfl rfl hl.1 rfl (Nat.le_of_ble_eq_true rfl) dX10_rule_154 (fun rv_26 uv_26 H locs w hp_26 => ?_)
                obtain ⟨zc_26, gc_26⟩ := uv_26
                have hzr_26 := hp_26.2.1
                obtain ⟨⟨hv_26, hp_26⟩, -, -⟩ := hp_26
                obtain ⟨ea_26, eb_26⟩ := Prod.mk.inj hp_26
                subst ea_26
                replace eb_26 := eb_26.symm
                subst eb_26
                subst hv_26
                have bz50 : (0 : Int) ≤ 3 ∧ (3 : Int) ≤ 4 := hzr_26 7 (by decide)
                have bz51 : (0 : Int) ≤ (zc_23 5) ∧ ((zc_23 5) : Int) ≤ 200 := hzr_26 8 (by decide)
                replace w : wd D A s.heap (mw cy a (uZ (uZ zc_23 7 3) 8 (zc_23 5)) g) H locs := w
                exact hend 0 ((uZ (uZ zc_23 7 3) 8 (zc_23 5)), g) _ _ _ _ dX10_rule_157 w ⟨(by have fr := frB_R hfb1; have hX := hR.trans (byG_2 ht1 c132 (by omega)); exact ⟨(by repeat (first | assumption | exact frR_0 _ | refine frR_u ?_ (by decide))), (by repeat (first | assumption | exact frH_0 _ | refine frH_u ?_ (by decide))), Or.inr ⟨rfl, hX, (by decide : (1 : Int) ≤ 3)⟩⟩), (mBz_u (mBz_u hzc_23 7 bz50) 8 bz51), hg⟩
            · skip
              refine lv_aload_n hx hb dX10_rule_135 rfl (lv_at hl 2 rfl) ?_
              refine cVI C w hA (ct_X10_cant l D cy a zc_23 g  hzc_23 hg) ok_X10_cant km_X10_173 ⟨rfl, rfl⟩ ⟨by decide, by decide⟩ ⟨by decide, by decide⟩ rfl 0 rfl rfl hl.1 rfl (Nat.le_of_ble_eq_true rfl) dX10_rule_136 (fun rv_27 uv_27 H locs w hp_27 => ?_)
              obtain ⟨zc_27, gc_27⟩ := uv_27
              have hzr_27 := hp_27.2.1
              obtain ⟨⟨hv_27, hp_27⟩, -, -⟩ := hp_27
              obtain ⟨ea_27, eb_27⟩ := Prod.mk.inj hp_27
              subst ea_27
              replace eb_27 := eb_27.symm
              subst eb_27
              subst hv_27
              have bz52 : (0 : Int) ≤ (ct (zc_23 4)) ∧ ((ct (zc_23 4)) : Int) ≤ 4 := hzr_27 7 (by decide)
              have bz53 : (0 : Int) ≤ (zc_23 5) ∧ ((zc_23 5) : Int) ≤ 200 := hzr_27 8 (by decide)
              replace w : wd D A s.heap (mw cy a (uZ (uZ zc_23 7 (ct (zc_23 4))) 8 (zc_23 5)) g) H locs := w
              exact hend 0 ((uZ (uZ zc_23 7 (ct (zc_23 4))) 8 (zc_23 5)), g) _ _ _ _ dX10_rule_139 w ⟨(by have fr := frB_R hfb1; have hX := hR.trans (byG_1 ht1 c132); exact ⟨(by repeat (first | assumption | exact frR_0 _ | refine frR_u ?_ (by decide))), (by repeat (first | assumption | exact frH_0 _ | refine frH_u ?_ (by decide))), Or.inr ⟨rfl, hX, (ct_b _).1⟩⟩), (mBz_u (mBz_u hzc_23 7 bz52) 8 bz53), hg⟩
      · skip
        exact absurd c72 (by omega)
    · skip
      exact absurd c61 (by omega)

