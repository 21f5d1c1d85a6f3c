/-! the law, case by case -/
abbrev LW (cy : Nat → ClassId) (a a2 : Nat → Nat) (q : Nat) (z : Nat → Int) (g : Nat → Int → Int) (f : Int → Int) (y : Nat → Int) (k : Nat → Int → Int) : va_W := xw cy a z g ++ (ow cy q f ++ mw cy a2 y k)
def lcx (p : Program) (l : Launch) (s : State) (m : MethodId) (args : Array Value) (meth : Method) (c : Code) (D : va_G) (cy : Nat → ClassId) (ad : Nat → Nat) (A : Nat → Prop) (b L : Nat) (xs : Nat → Int32) : Prop :=
  cx p s m args meth c code 8 RL D cy ∧ l.stackTraces = false ∧ va_X b L xs s s.heap ∧ b < s.heap.size ∧ ¬ A b ∧ (∀ q, s.heap.size ≤ q → A q) ∧ xE ad A s s.heap ∧ xT A s s.heap ∧ L ≤ 3072
abbrev lvL (b q : Nat) (a a2 : Nat → Nat) (i : Int) : List (Nat × Value) := [(0, .ref b), (1, .ref (a 0)), (2, .ref (a2 0)), (3, .ref q), (4, vI i)]
def K9 (p : Program) (l : Launch) (e : Env) (s : State) (m : MethodId) (args : Array Value) (below : List Frame) (meth : Method) (c : Code) (Q : State → Prop) (D : va_G) (cy : Nat → ClassId) (A : Nat → Prop) (b q : Nat) (a a2 : Nat → Nat) (i : Int) (t : Nat) : Prop :=
  ∀ (z : Nat → Int) (g : Nat → Int → Int) (f : Int → Int) (y : Nat → Int) (k : Nat → Int → Int) (H : Heap) (locs : List Loc) (ls : Array Slot), RelA z g y k → wd D A s.heap (LW cy a a2 q z g f y k) H locs → lv_has ls 8 (lvL b q a a2 i) → W p l e room_1 s m args below meth c H locs (75 + t + 1) (8289 + 6 * t + 6) Q (F0 m 997 ls [])
section LC
variable {p : Program} {l : Launch} {e : Env} {s : State} {m : MethodId} {args : Array Value} {below : List Frame} {meth : Method} {c : Code} {H : Heap} {locs : List Loc} {Q : State → Prop}
variable {ls : Array Slot} {D : va_G} {cy : Nat → ClassId} {ad : Nat → Nat} {A : Nat → Prop} {b L q t : Nat} {xs : Nat → Int32} {a a2 : Nat → Nat} {i : Int} {z y : Nat → Int} {g k : Nat → Int → Int} {f : Int → Int}
set_option maxHeartbeats 4000000 in
set_option maxRecDepth 100000 in
theorem lc_feed (hC : lcx p l s m args meth c D cy ad A b L xs) (hK : K9 p l e s m args below meth c Q D cy A b q a a2 i t) (ht : t < 512) (hi : 0 ≤ i) (hiL : i + 6 ≤ L) (h : RelA z g y k) (w : wd D A s.heap (LW cy a a2 q z g f y k) H locs) (hl : lv_has ls 8 (lvL b q a a2 i)) : W p l e room_1 s m args below meth c H locs (75 + t) (8289 + 6 * t) Q (F0 m 140 ls []) := by
  obtain ⟨C, hst9, hX, hbl, hbA, hA, hE, hT, hL⟩ := hC
  have hx := C.1
  have hb := C.2.1
  have hB := h.1
  obtain ⟨hz, hg, hzm, hgm⟩ := hB
  refine lv_aload_n hx hb dL_law_140 rfl (lv_at hl 1 rfl) ?_
  refine lv_aload_n hx hb dL_law_141 rfl (lv_at hl 0 rfl) ?_
  refine lv_iload hx hb dL_law_142 (lv_at hl 4 rfl) ?_
  refine r_iconst hx hb dL_law_144 ?_
  refine r_iadd hx hb dL_law_145 ?_
  refine r_sld C hX hbl hbA w hL (by omega) (by omega) dL_law_146 ?_
  refine lv_aload_n hx hb dL_law_147 rfl (lv_at hl 0 rfl) ?_
  refine lv_iload hx hb dL_law_148 (lv_at hl 4 rfl) ?_
  refine r_iconst hx hb dL_law_150 ?_
  refine r_iadd hx hb dL_law_151 ?_
  refine r_sld C hX hbl hbA w hL (by omega) (by omega) dL_law_152 ?_
  refine lv_aload_n hx hb dL_law_153 rfl (lv_at hl 0 rfl) ?_
  refine lv_iload hx hb dL_law_154 (lv_at hl 4 rfl) ?_
  refine r_iconst hx hb dL_law_156 ?_
  refine r_iadd hx hb dL_law_157 ?_
  refine r_sld C hX hbl hbA w hL (by omega) (by omega) dL_law_158 ?_
  refine lv_aload_n hx hb dL_law_159 rfl (lv_at hl 0 rfl) ?_
  refine lv_iload hx hb dL_law_160 (lv_at hl 4 rfl) ?_
  refine r_iconst hx hb dL_law_162 ?_
  refine r_iadd hx hb dL_law_163 ?_
  refine r_sld C hX hbl hbA w hL (by omega) (by omega) dL_law_164 ?_
  refine lv_aload_n hx hb dL_law_165 rfl (lv_at hl 0 rfl) ?_
  refine lv_iload hx hb dL_law_166 (lv_at hl 4 rfl) ?_
  refine r_iconst hx hb dL_law_168 ?_
  refine r_iadd hx hb dL_law_169 ?_
  refine r_sld C hX hbl hbA w hL (by omega) (by omega) dL_law_170 ?_
  refine dVI (X := []) (ws := xw cy a z g) (Z := ow cy q f ++ mw cy a2 y k) C w hA (ct_X9_feed l D cy a z g (sc xs (i + 1)) (sc xs (i + 2)) (sc xs (i + 3)) (sc xs (i + 4)) (sc xs (i + 5)) hz hg (sc_R xs (i + 1)) (sc_R xs (i + 2)) (sc_R xs (i + 3)) (sc_R xs (i + 4)) (sc_R xs (i + 5))) ok_X9_feed km_L_26 ⟨rfl, rfl⟩ ⟨by decide, by decide⟩ ⟨by show 75 + t + 0 ≤ 1106; omega, by show 8289 + 6 * t + 0 ≤ 16523; omega⟩ rfl 0 rfl rfl hl.1 rfl (Nat.le_of_ble_eq_true rfl) dL_law_171 (fun rv_1 uv_1 H locs w hp_1 => ?_)
  replace w : wd D A s.heap (LW cy a a2 q uv_1.1 uv_1.2 f y k) H locs := w
  refine lv_aload_n hx hb dL_law_174 rfl (lv_at hl 2 rfl) ?_
  refine lv_aload_n hx hb dL_law_175 rfl (lv_at hl 0 rfl) ?_
  refine lv_iload hx hb dL_law_176 (lv_at hl 4 rfl) ?_
  refine r_iconst hx hb dL_law_178 ?_
  refine r_iadd hx hb dL_law_179 ?_
  refine r_sld C hX hbl hbA w hL (by omega) (by omega) dL_law_180 ?_
  refine lv_aload_n hx hb dL_law_181 rfl (lv_at hl 0 rfl) ?_
  refine lv_iload hx hb dL_law_182 (lv_at hl 4 rfl) ?_
  refine r_iconst hx hb dL_law_184 ?_
  refine r_iadd hx hb dL_law_185 ?_
  refine r_sld C hX hbl hbA w hL (by omega) (by omega) dL_law_186 ?_
  refine lv_aload_n hx hb dL_law_187 rfl (lv_at hl 0 rfl) ?_
  refine lv_iload hx hb dL_law_188 (lv_at hl 4 rfl) ?_
  refine r_iconst hx hb dL_law_190 ?_
  refine r_iadd hx hb dL_law_191 ?_
  refine r_sld C hX hbl hbA w hL (by omega) (by omega) dL_law_192 ?_
  refine lv_aload_n hx hb dL_law_193 rfl (lv_at hl 0 rfl) ?_
  refine lv_iload hx hb dL_law_194 (lv_at hl 4 rfl) ?_
  refine r_iconst hx hb dL_law_196 ?_
  refine r_iadd hx hb dL_law_197 ?_
  refine r_sld C hX hbl hbA w hL (by omega) (by omega) dL_law_198 ?_
  refine lv_aload_n hx hb dL_law_199 rfl (lv_at hl 0 rfl) ?_
  refine lv_iload hx hb dL_law_200 (lv_at hl 4 rfl) ?_
  refine r_iconst hx hb dL_law_202 ?_
  refine r_iadd hx hb dL_law_203 ?_
  refine r_sld C hX hbl hbA w hL (by omega) (by omega) dL_law_204 ?_
  refine mVI (X := xw cy a uv_1.1 uv_1.2) (Y := ow cy q f) (ws := mw cy a2 y k) C w hA (ct_X10_feed l D cy a2 y k (sc xs (i + 1)) (sc xs (i + 2)) (sc xs (i + 3)) (sc xs (i + 4)) (sc xs (i + 5)) hzm hgm (sc_R xs (i + 1)) (sc_R xs (i + 2)) (sc_R xs (i + 3)) (sc_R xs (i + 4)) (sc_R xs (i + 5))) ok_X10_feed km_L_30 ⟨rfl, rfl⟩ ⟨by decide, by decide⟩ ⟨by show 75 + t + 0 + 0 ≤ 1106; omega, by show 8289 + 6 * t + 0 + 0 ≤ 16523; omega⟩ rfl 0 rfl rfl hl.1 rfl (Nat.le_of_ble_eq_true rfl) dL_law_205 (fun rv_2 uv_2 H locs w hp_2 => ?_)
  replace w : wd D A s.heap (LW cy a a2 q uv_1.1 uv_1.2 f uv_2.1 uv_2.2) H locs := w
  obtain ⟨hv, hrel⟩ := st_feed (sc xs (i + 1)) (sc xs (i + 2)) (sc xs (i + 3)) (sc xs (i + 4)) (sc xs (i + 5)) h rv_1 uv_1 rv_2 uv_2 hp_1 hp_2
  refine r_icmp_same (tgt := 997) hx hb hv dL_law_208 (by decide) ?_
  refine W.widen (k := 75 + t + 1) (n := 8289 + 6 * t + 6) (by omega) (by omega) ?_
  exact hK uv_1.1 uv_1.2 _ uv_2.1 uv_2.2 _ _ _ hrel w hl
set_option maxHeartbeats 4000000 in
set_option maxRecDepth 100000 in
theorem lc_end (hC : lcx p l s m args meth c D cy ad A b L xs) (hK : K9 p l e s m args below meth c Q D cy A b q a a2 i t) (ht : t < 512) (hi : 0 ≤ i) (hiL : i + 6 ≤ L) (h : RelA z g y k) (w : wd D A s.heap (LW cy a a2 q z g f y k) H locs) (hl : lv_has ls 8 (lvL b q a a2 i)) : W p l e room_1 s m args below meth c H locs (75 + t) (8289 + 6 * t) Q (F0 m 213 ls []) := by
  obtain ⟨C, hst9, hX, hbl, hbA, hA, hE, hT, hL⟩ := hC
  have hx := C.1
  have hb := C.2.1
  have hB := h.1
  obtain ⟨hz, hg, hzm, hgm⟩ := hB
  refine lv_aload_n hx hb dL_law_213 rfl (lv_at hl 1 rfl) ?_
  refine lv_aload_n hx hb dL_law_214 rfl (lv_at hl 0 rfl) ?_
  refine lv_iload hx hb dL_law_215 (lv_at hl 4 rfl) ?_
  refine r_iconst hx hb dL_law_217 ?_
  refine r_iadd hx hb dL_law_218 ?_
  refine r_sld C hX hbl hbA w hL (by omega) (by omega) dL_law_219 ?_
  refine dVI (X := []) (ws := xw cy a z g) (Z := ow cy q f ++ mw cy a2 y k) C w hA (ct_X9_end l D cy a z g (sc xs (i + 1)) hz hg (sc_R xs (i + 1))) ok_X9_end km_L_31 ⟨rfl, rfl⟩ ⟨by decide, by decide⟩ ⟨by show 75 + t + 0 ≤ 1106; omega, by show 8289 + 6 * t + 0 ≤ 16523; omega⟩ rfl 0 rfl rfl hl.1 rfl (Nat.le_of_ble_eq_true rfl) dL_law_220 (fun rv_1 uv_1 H locs w hp_1 => ?_)
  replace w : wd D A s.heap (LW cy a a2 q uv_1.1 uv_1.2 f y k) H locs := w
  refine lv_aload_n hx hb dL_law_223 rfl (lv_at hl 2 rfl) ?_
  refine lv_aload_n hx hb dL_law_224 rfl (lv_at hl 0 rfl) ?_
  refine lv_iload hx hb dL_law_225 (lv_at hl 4 rfl) ?_
  refine r_iconst hx hb dL_law_227 ?_
  refine r_iadd hx hb dL_law_228 ?_
  refine r_sld C hX hbl hbA w hL (by omega) (by omega) dL_law_229 ?_
  refine mVI (X := xw cy a uv_1.1 uv_1.2) (Y := ow cy q f) (ws := mw cy a2 y k) C w hA (ct_X10_end l D cy a2 y k (sc xs (i + 1)) hzm hgm (sc_R xs (i + 1))) ok_X10_end km_L_35 ⟨rfl, rfl⟩ ⟨by decide, by decide⟩ ⟨by show 75 + t + 0 + 0 ≤ 1106; omega, by show 8289 + 6 * t + 0 + 0 ≤ 16523; omega⟩ rfl 0 rfl rfl hl.1 rfl (Nat.le_of_ble_eq_true rfl) dL_law_230 (fun rv_2 uv_2 H locs w hp_2 => ?_)
  replace w : wd D A s.heap (LW cy a a2 q uv_1.1 uv_1.2 f uv_2.1 uv_2.2) H locs := w
  obtain ⟨hv, hrel⟩ := st_end (sc xs (i + 1)) h rv_1 uv_1 rv_2 uv_2 hp_1 hp_2
  refine r_icmp_same (tgt := 997) hx hb hv dL_law_233 (by decide) ?_
  refine W.widen (k := 75 + t + 1) (n := 8289 + 6 * t + 6) (by omega) (by omega) ?_
  exact hK uv_1.1 uv_1.2 _ uv_2.1 uv_2.2 _ _ _ hrel w hl
set_option maxHeartbeats 4000000 in
set_option maxRecDepth 100000 in
theorem lc_rules (hC : lcx p l s m args meth c D cy ad A b L xs) (hK : K9 p l e s m args below meth c Q D cy A b q a a2 i t) (ht : t < 512) (hi : 0 ≤ i) (hiL : i + 6 ≤ L) (h : RelA z g y k) (w : wd D A s.heap (LW cy a a2 q z g f y k) H locs) (hl : lv_has ls 8 (lvL b q a a2 i)) : W p l e room_1 s m args below meth c H locs (75 + t) (8289 + 6 * t) Q (F0 m 238 ls []) := by
  obtain ⟨C, hst9, hX, hbl, hbA, hA, hE, hT, hL⟩ := hC
  have hx := C.1
  have hb := C.2.1
  have hB := h.1
  obtain ⟨hz, hg, hzm, hgm⟩ := hB
  refine lv_aload_n hx hb dL_law_238 rfl (lv_at hl 1 rfl) ?_
  refine dVIE (X := []) (ws := xw cy a z g) (Z := ow cy q f ++ mw cy a2 y k) C w hA hE (ct_X9_rules l D cy a z g ad hz hg) ok_X9_rules km_L_36 ⟨rfl, rfl⟩ ⟨by decide, by decide⟩ ⟨by show 75 + t + 0 ≤ 1106; omega, by show 8289 + 6 * t + 0 ≤ 16523; omega⟩ rfl 0 rfl rfl hl.1 rfl (Nat.le_of_ble_eq_true rfl) dL_law_239 (fun rv_1 uv_1 H locs w hp_1 => ?_)
  replace w : wd D A s.heap (LW cy a a2 q uv_1.1 uv_1.2 f y k) H locs := w
  refine lv_aload_n hx hb dL_law_242 rfl (lv_at hl 2 rfl) ?_
  refine mVI (X := xw cy a uv_1.1 uv_1.2) (Y := ow cy q f) (ws := mw cy a2 y k) C w hA (ct_X10_rules l D cy a2 y k  hzm hgm ) ok_X10_rules km_L_40 ⟨rfl, rfl⟩ ⟨by decide, by decide⟩ ⟨by show 75 + t + 0 + 0 ≤ 1106; omega, by show 8289 + 6 * t + 0 + 0 ≤ 16523; omega⟩ rfl 0 rfl rfl hl.1 rfl (Nat.le_of_ble_eq_true rfl) dL_law_243 (fun rv_2 uv_2 H locs w hp_2 => ?_)
  replace w : wd D A s.heap (LW cy a a2 q uv_1.1 uv_1.2 f uv_2.1 uv_2.2) H locs := w
  obtain ⟨hv, hrel⟩ := st_rules  h rv_1 uv_1 rv_2 uv_2 hp_1 hp_2
  refine r_icmp_same (tgt := 997) hx hb hv dL_law_246 (by decide) ?_
  refine W.widen (k := 75 + t + 1) (n := 8289 + 6 * t + 6) (by omega) (by omega) ?_
  exact hK uv_1.1 uv_1.2 _ uv_2.1 uv_2.2 _ _ _ hrel w hl
set_option maxHeartbeats 4000000 in
set_option maxRecDepth 100000 in
theorem lc_fault (hC : lcx p l s m args meth c D cy ad A b L xs) (hK : K9 p l e s m args below meth c Q D cy A b q a a2 i t) (ht : t < 512) (hi : 0 ≤ i) (hiL : i + 6 ≤ L) (h : RelA z g y k) (w : wd D A s.heap (LW cy a a2 q z g f y k) H locs) (hl : lv_has ls 8 (lvL b q a a2 i)) : W p l e room_1 s m args below meth c H locs (75 + t) (8289 + 6 * t) Q (F0 m 251 ls []) := by
  obtain ⟨C, hst9, hX, hbl, hbA, hA, hE, hT, hL⟩ := hC
  have hx := C.1
  have hb := C.2.1
  have hB := h.1
  obtain ⟨hz, hg, hzm, hgm⟩ := hB
  refine lv_aload_n hx hb dL_law_251 rfl (lv_at hl 1 rfl) ?_
  refine dVI (X := []) (ws := xw cy a z g) (Z := ow cy q f ++ mw cy a2 y k) C w hA (ct_X9_fault l D cy a z g  hz hg ) ok_X9_fault km_L_41 ⟨rfl, rfl⟩ ⟨by decide, by decide⟩ ⟨by show 75 + t + 0 ≤ 1106; omega, by show 8289 + 6 * t + 0 ≤ 16523; omega⟩ rfl 0 rfl rfl hl.1 rfl (Nat.le_of_ble_eq_true rfl) dL_law_252 (fun rv_1 uv_1 H locs w hp_1 => ?_)
  replace w : wd D A s.heap (LW cy a a2 q z g f y k) H locs := w
  refine lv_aload_n hx hb dL_law_255 rfl (lv_at hl 2 rfl) ?_
  refine mVI (X := xw cy a z g) (Y := ow cy q f) (ws := mw cy a2 y k) C w hA (ct_X10_fault l D cy a2 y k  hzm hgm ) ok_X10_fault km_L_44 ⟨rfl, rfl⟩ ⟨by decide, by decide⟩ ⟨by show 75 + t + 0 + 0 ≤ 1106; omega, by show 8289 + 6 * t + 0 + 0 ≤ 16523; omega⟩ rfl 0 rfl rfl hl.1 rfl (Nat.le_of_ble_eq_true rfl) dL_law_256 (fun rv_2 uv_2 H locs w hp_2 => ?_)
  replace w : wd D A s.heap (LW cy a a2 q z g f uv_2.1 uv_2.2) H locs := w
  obtain ⟨hv, hrel⟩ := st_fault  h rv_1 rv_2 uv_2 hp_1 hp_2
  refine r_icmp_same (tgt := 997) hx hb hv dL_law_259 (by decide) ?_
  refine W.widen (k := 75 + t + 1) (n := 8289 + 6 * t + 6) (by omega) (by omega) ?_
  exact hK z g _ uv_2.1 uv_2.2 _ _ _ hrel w hl
set_option maxHeartbeats 4000000 in
set_option maxRecDepth 100000 in
theorem lc_lot (hC : lcx p l s m args meth c D cy ad A b L xs) (hK : K9 p l e s m args below meth c Q D cy A b q a a2 i t) (ht : t < 512) (hi : 0 ≤ i) (hiL : i + 6 ≤ L) (h : RelA z g y k) (w : wd D A s.heap (LW cy a a2 q z g f y k) H locs) (hl : lv_has ls 8 (lvL b q a a2 i)) : W p l e room_1 s m args below meth c H locs (75 + t) (8289 + 6 * t) Q (F0 m 264 ls []) := by
  obtain ⟨C, hst9, hX, hbl, hbA, hA, hE, hT, hL⟩ := hC
  have hx := C.1
  have hb := C.2.1
  have hB := h.1
  obtain ⟨hz, hg, hzm, hgm⟩ := hB
  refine lv_aload_n hx hb dL_law_264 rfl (lv_at hl 1 rfl) ?_
  refine lv_aload_n hx hb dL_law_265 rfl (lv_at hl 0 rfl) ?_
  refine lv_iload hx hb dL_law_266 (lv_at hl 4 rfl) ?_
  refine r_iconst hx hb dL_law_268 ?_
  refine r_iadd hx hb dL_law_269 ?_
  refine r_sld C hX hbl hbA w hL (by omega) (by omega) dL_law_270 ?_
  refine lv_aload_n hx hb dL_law_271 rfl (lv_at hl 0 rfl) ?_
  refine lv_iload hx hb dL_law_272 (lv_at hl 4 rfl) ?_
  refine r_iconst hx hb dL_law_274 ?_
  refine r_iadd hx hb dL_law_275 ?_
  refine r_sld C hX hbl hbA w hL (by omega) (by omega) dL_law_276 ?_
  refine lv_aload_n hx hb dL_law_277 rfl (lv_at hl 0 rfl) ?_
  refine lv_iload hx hb dL_law_278 (lv_at hl 4 rfl) ?_
  refine r_iconst hx hb dL_law_280 ?_
  refine r_iadd hx hb dL_law_281 ?_
  refine r_sld C hX hbl hbA w hL (by omega) (by omega) dL_law_282 ?_
  refine lv_aload_n hx hb dL_law_283 rfl (lv_at hl 0 rfl) ?_
  refine lv_iload hx hb dL_law_284 (lv_at hl 4 rfl) ?_
  refine r_iconst hx hb dL_law_286 ?_
  refine r_iadd hx hb dL_law_287 ?_
  refine r_sld C hX hbl hbA w hL (by omega) (by omega) dL_law_288 ?_
  refine lv_aload_n hx hb dL_law_289 rfl (lv_at hl 0 rfl) ?_
  refine lv_iload hx hb dL_law_290 (lv_at hl 4 rfl) ?_
  refine r_iconst hx hb dL_law_292 ?_
  refine r_iadd hx hb dL_law_293 ?_
  refine r_sld C hX hbl hbA w hL (by omega) (by omega) dL_law_294 ?_
  refine dVI (X := []) (ws := xw cy a z g) (Z := ow cy q f ++ mw cy a2 y k) C w hA (ct_X9_lot l D cy a z g (sc xs (i + 1)) (sc xs (i + 2)) (sc xs (i + 3)) (sc xs (i + 4)) (sc xs (i + 5)) hz hg (sc_R xs (i + 1)) (sc_R xs (i + 2)) (sc_R xs (i + 3)) (sc_R xs (i + 4)) (sc_R xs (i + 5))) ok_X9_lot km_L_45 ⟨rfl, rfl⟩ ⟨by decide, by decide⟩ ⟨by show 75 + t + 0 ≤ 1106; omega, by show 8289 + 6 * t + 0 ≤ 16523; omega⟩ rfl 0 rfl rfl hl.1 rfl (Nat.le_of_ble_eq_true rfl) dL_law_295 (fun rv_1 uv_1 H locs w hp_1 => ?_)
  replace w : wd D A s.heap (LW cy a a2 q uv_1.1 uv_1.2 f y k) H locs := w
  refine lv_aload_n hx hb dL_law_298 rfl (lv_at hl 2 rfl) ?_
  refine lv_aload_n hx hb dL_law_299 rfl (lv_at hl 0 rfl) ?_
  refine lv_iload hx hb dL_law_300 (lv_at hl 4 rfl) ?_
  refine r_iconst hx hb dL_law_302 ?_
  refine r_iadd hx hb dL_law_303 ?_
  refine r_sld C hX hbl hbA w hL (by omega) (by omega) dL_law_304 ?_
  refine lv_aload_n hx hb dL_law_305 rfl (lv_at hl 0 rfl) ?_
  refine lv_iload hx hb dL_law_306 (lv_at hl 4 rfl) ?_
  refine r_iconst hx hb dL_law_308 ?_
  refine r_iadd hx hb dL_law_309 ?_
  refine r_sld C hX hbl hbA w hL (by omega) (by omega) dL_law_310 ?_
  refine lv_aload_n hx hb dL_law_311 rfl (lv_at hl 0 rfl) ?_
  refine lv_iload hx hb dL_law_312 (lv_at hl 4 rfl) ?_
  refine r_iconst hx hb dL_law_314 ?_
  refine r_iadd hx hb dL_law_315 ?_
  refine r_sld C hX hbl hbA w hL (by omega) (by omega) dL_law_316 ?_
  refine lv_aload_n hx hb dL_law_317 rfl (lv_at hl 0 rfl) ?_
  refine lv_iload hx hb dL_law_318 (lv_at hl 4 rfl) ?_
  refine r_iconst hx hb dL_law_320 ?_
  refine r_iadd hx hb dL_law_321 ?_
  refine r_sld C hX hbl hbA w hL (by omega) (by omega) dL_law_322 ?_
  refine lv_aload_n hx hb dL_law_323 rfl (lv_at hl 0 rfl) ?_
  refine lv_iload hx hb dL_law_324 (lv_at hl 4 rfl) ?_
  refine r_iconst hx hb dL_law_326 ?_
  refine r_iadd hx hb dL_law_327 ?_
  refine r_sld C hX hbl hbA w hL (by omega) (by omega) dL_law_328 ?_
  refine mVI (X := xw cy a uv_1.1 uv_1.2) (Y := ow cy q f) (ws := mw cy a2 y k) C w hA (ct_X10_lot l D cy a2 y k (sc xs (i + 1)) (sc xs (i + 2)) (sc xs (i + 3)) (sc xs (i + 4)) (sc xs (i + 5)) hzm hgm (sc_R xs (i + 1)) (sc_R xs (i + 2)) (sc_R xs (i + 3)) (sc_R xs (i + 4)) (sc_R xs (i + 5))) ok_X10_lot km_L_48 ⟨rfl, rfl⟩ ⟨by decide, by decide⟩ ⟨by show 75 + t + 0 + 0 ≤ 1106; omega, by show 8289 + 6 * t + 0 + 0 ≤ 16523; omega⟩ rfl 0 rfl rfl hl.1 rfl (Nat.le_of_ble_eq_true rfl) dL_law_329 (fun rv_2 uv_2 H locs w hp_2 => ?_)
  replace w : wd D A s.heap (LW cy a a2 q uv_1.1 uv_1.2 f uv_2.1 uv_2.2) H locs := w
  obtain ⟨hv, hrel⟩ := st_lot (sc xs (i + 1)) (sc xs (i + 2)) (sc xs (i + 3)) (sc xs (i + 4)) (sc xs (i + 5)) h rv_1 uv_1 rv_2 uv_2 hp_1 hp_2
  refine r_icmp_same (tgt := 997) hx hb hv dL_law_332 (by decide) ?_
  refine W.widen (k := 75 + t + 1) (n := 8289 + 6 * t + 6) (by omega) (by omega) ?_
  exact hK uv_1.1 uv_1.2 _ uv_2.1 uv_2.2 _ _ _ hrel w hl
set_option maxHeartbeats 4000000 in
set_option maxRecDepth 100000 in
theorem lc_money (hC : lcx p l s m args meth c D cy ad A b L xs) (hK : K9 p l e s m args below meth c Q D cy A b q a a2 i t) (ht : t < 512) (hi : 0 ≤ i) (hiL : i + 6 ≤ L) (h : RelA z g y k) (w : wd D A s.heap (LW cy a a2 q z g f y k) H locs) (hl : lv_has ls 8 (lvL b q a a2 i)) : W p l e room_1 s m args below meth c H locs (75 + t) (8289 + 6 * t) Q (F0 m 337 ls []) := by
  obtain ⟨C, hst9, hX, hbl, hbA, hA, hE, hT, hL⟩ := hC
  have hx := C.1
  have hb := C.2.1
  have hB := h.1
  obtain ⟨hz, hg, hzm, hgm⟩ := hB
  refine lv_aload_n hx hb dL_law_337 rfl (lv_at hl 1 rfl) ?_
  refine lv_aload_n hx hb dL_law_338 rfl (lv_at hl 0 rfl) ?_
  refine lv_iload hx hb dL_law_339 (lv_at hl 4 rfl) ?_
  refine r_iconst hx hb dL_law_341 ?_
  refine r_iadd hx hb dL_law_342 ?_
  refine r_sld C hX hbl hbA w hL (by omega) (by omega) dL_law_343 ?_
  refine lv_aload_n hx hb dL_law_344 rfl (lv_at hl 0 rfl) ?_
  refine lv_iload hx hb dL_law_345 (lv_at hl 4 rfl) ?_
  refine r_iconst hx hb dL_law_347 ?_
  refine r_iadd hx hb dL_law_348 ?_
  refine r_sld C hX hbl hbA w hL (by omega) (by omega) dL_law_349 ?_
  refine dVI (X := []) (ws := xw cy a z g) (Z := ow cy q f ++ mw cy a2 y k) C w hA (ct_X9_money l D cy a z g (sc xs (i + 1)) (sc xs (i + 2)) hz hg (sc_R xs (i + 1)) (sc_R xs (i + 2))) ok_X9_money km_L_49 ⟨rfl, rfl⟩ ⟨by decide, by decide⟩ ⟨by show 75 + t + 0 ≤ 1106; omega, by show 8289 + 6 * t + 0 ≤ 16523; omega⟩ rfl 0 rfl rfl hl.1 rfl (Nat.le_of_ble_eq_true rfl) dL_law_350 (fun rv_1 uv_1 H locs w hp_1 => ?_)
  replace w : wd D A s.heap (LW cy a a2 q uv_1.1 uv_1.2 f y k) H locs := w
  refine lv_aload_n hx hb dL_law_353 rfl (lv_at hl 2 rfl) ?_
  refine lv_aload_n hx hb dL_law_354 rfl (lv_at hl 0 rfl) ?_
  refine lv_iload hx hb dL_law_355 (lv_at hl 4 rfl) ?_
  refine r_iconst hx hb dL_law_357 ?_
  refine r_iadd hx hb dL_law_358 ?_
  refine r_sld C hX hbl hbA w hL (by omega) (by omega) dL_law_359 ?_
  refine lv_aload_n hx hb dL_law_360 rfl (lv_at hl 0 rfl) ?_
  refine lv_iload hx hb dL_law_361 (lv_at hl 4 rfl) ?_
  refine r_iconst hx hb dL_law_363 ?_
  refine r_iadd hx hb dL_law_364 ?_
  refine r_sld C hX hbl hbA w hL (by omega) (by omega) dL_law_365 ?_
  refine mVI (X := xw cy a uv_1.1 uv_1.2) (Y := ow cy q f) (ws := mw cy a2 y k) C w hA (ct_X10_money l D cy a2 y k (sc xs (i + 1)) (sc xs (i + 2)) hzm hgm (sc_R xs (i + 1)) (sc_R xs (i + 2))) ok_X10_money km_L_53 ⟨rfl, rfl⟩ ⟨by decide, by decide⟩ ⟨by show 75 + t + 0 + 0 ≤ 1106; omega, by show 8289 + 6 * t + 0 + 0 ≤ 16523; omega⟩ rfl 0 rfl rfl hl.1 rfl (Nat.le_of_ble_eq_true rfl) dL_law_366 (fun rv_2 uv_2 H locs w hp_2 => ?_)
  replace w : wd D A s.heap (LW cy a a2 q uv_1.1 uv_1.2 f uv_2.1 uv_2.2) H locs := w
  obtain ⟨hv, hrel⟩ := st_money (sc xs (i + 1)) (sc xs (i + 2)) h rv_1 uv_1 rv_2 uv_2 hp_1 hp_2
  refine r_icmp_same (tgt := 997) hx hb hv dL_law_369 (by decide) ?_
  refine W.widen (k := 75 + t + 1) (n := 8289 + 6 * t + 6) (by omega) (by omega) ?_
  exact hK uv_1.1 uv_1.2 _ uv_2.1 uv_2.2 _ _ _ hrel w hl
set_option maxHeartbeats 4000000 in
set_option maxRecDepth 100000 in
theorem lc_want (hC : lcx p l s m args meth c D cy ad A b L xs) (hK : K9 p l e s m args below meth c Q D cy A b q a a2 i t) (ht : t < 512) (hi : 0 ≤ i) (hiL : i + 6 ≤ L) (h : RelA z g y k) (w : wd D A s.heap (LW cy a a2 q z g f y k) H locs) (hl : lv_has ls 8 (lvL b q a a2 i)) : W p l e room_1 s m args below meth c H locs (75 + t) (8289 + 6 * t) Q (F0 m 374 ls []) := by
  obtain ⟨C, hst9, hX, hbl, hbA, hA, hE, hT, hL⟩ := hC
  have hx := C.1
  have hb := C.2.1
  have hB := h.1
  obtain ⟨hz, hg, hzm, hgm⟩ := hB
  refine lv_aload_n hx hb dL_law_374 rfl (lv_at hl 1 rfl) ?_
  refine lv_aload_n hx hb dL_law_375 rfl (lv_at hl 0 rfl) ?_
  refine lv_iload hx hb dL_law_376 (lv_at hl 4 rfl) ?_
  refine r_iconst hx hb dL_law_378 ?_
  refine r_iadd hx hb dL_law_379 ?_
  refine r_sld C hX hbl hbA w hL (by omega) (by omega) dL_law_380 ?_
  refine lv_aload_n hx hb dL_law_381 rfl (lv_at hl 0 rfl) ?_
  refine lv_iload hx hb dL_law_382 (lv_at hl 4 rfl) ?_
  refine r_iconst hx hb dL_law_384 ?_
  refine r_iadd hx hb dL_law_385 ?_
  refine r_sld C hX hbl hbA w hL (by omega) (by omega) dL_law_386 ?_
  refine lv_aload_n hx hb dL_law_387 rfl (lv_at hl 0 rfl) ?_
  refine lv_iload hx hb dL_law_388 (lv_at hl 4 rfl) ?_
  refine r_iconst hx hb dL_law_390 ?_
  refine r_iadd hx hb dL_law_391 ?_
  refine r_sld C hX hbl hbA w hL (by omega) (by omega) dL_law_392 ?_
  refine lv_aload_n hx hb dL_law_393 rfl (lv_at hl 0 rfl) ?_
  refine lv_iload hx hb dL_law_394 (lv_at hl 4 rfl) ?_
  refine r_iconst hx hb dL_law_396 ?_
  refine r_iadd hx hb dL_law_397 ?_
  refine r_sld C hX hbl hbA w hL (by omega) (by omega) dL_law_398 ?_
  refine lv_aload_n hx hb dL_law_399 rfl (lv_at hl 0 rfl) ?_
  refine lv_iload hx hb dL_law_400 (lv_at hl 4 rfl) ?_
  refine r_iconst hx hb dL_law_402 ?_
  refine r_iadd hx hb dL_law_403 ?_
  refine r_sld C hX hbl hbA w hL (by omega) (by omega) dL_law_404 ?_
  refine dVI (X := []) (ws := xw cy a z g) (Z := ow cy q f ++ mw cy a2 y k) C w hA (ct_X9_want l D cy a z g (sc xs (i + 1)) (sc xs (i + 2)) (sc xs (i + 3)) (sc xs (i + 4)) (sc xs (i + 5)) hz hg (sc_R xs (i + 1)) (sc_R xs (i + 2)) (sc_R xs (i + 3)) (sc_R xs (i + 4)) (sc_R xs (i + 5))) ok_X9_want km_L_54 ⟨rfl, rfl⟩ ⟨by decide, by decide⟩ ⟨by show 75 + t + 0 ≤ 1106; omega, by show 8289 + 6 * t + 0 ≤ 16523; omega⟩ rfl 0 rfl rfl hl.1 rfl (Nat.le_of_ble_eq_true rfl) dL_law_405 (fun rv_1 uv_1 H locs w hp_1 => ?_)
  replace w : wd D A s.heap (LW cy a a2 q uv_1.1 uv_1.2 f y k) H locs := w
  refine lv_aload_n hx hb dL_law_408 rfl (lv_at hl 2 rfl) ?_
  refine lv_aload_n hx hb dL_law_409 rfl (lv_at hl 0 rfl) ?_
  refine lv_iload hx hb dL_law_410 (lv_at hl 4 rfl) ?_
  refine r_iconst hx hb dL_law_412 ?_
  refine r_iadd hx hb dL_law_413 ?_
  refine r_sld C hX hbl hbA w hL (by omega) (by omega) dL_law_414 ?_
  refine lv_aload_n hx hb dL_law_415 rfl (lv_at hl 0 rfl) ?_
  refine lv_iload hx hb dL_law_416 (lv_at hl 4 rfl) ?_
  refine r_iconst hx hb dL_law_418 ?_
  refine r_iadd hx hb dL_law_419 ?_
  refine r_sld C hX hbl hbA w hL (by omega) (by omega) dL_law_420 ?_
  refine lv_aload_n hx hb dL_law_421 rfl (lv_at hl 0 rfl) ?_
  refine lv_iload hx hb dL_law_422 (lv_at hl 4 rfl) ?_
  refine r_iconst hx hb dL_law_424 ?_
  refine r_iadd hx hb dL_law_425 ?_
  refine r_sld C hX hbl hbA w hL (by omega) (by omega) dL_law_426 ?_
  refine lv_aload_n hx hb dL_law_427 rfl (lv_at hl 0 rfl) ?_
  refine lv_iload hx hb dL_law_428 (lv_at hl 4 rfl) ?_
  refine r_iconst hx hb dL_law_430 ?_
  refine r_iadd hx hb dL_law_431 ?_
  refine r_sld C hX hbl hbA w hL (by omega) (by omega) dL_law_432 ?_
  refine lv_aload_n hx hb dL_law_433 rfl (lv_at hl 0 rfl) ?_
  refine lv_iload hx hb dL_law_434 (lv_at hl 4 rfl) ?_
  refine r_iconst hx hb dL_law_436 ?_
  refine r_iadd hx hb dL_law_437 ?_
  refine r_sld C hX hbl hbA w hL (by omega) (by omega) dL_law_438 ?_
  refine mVI (X := xw cy a uv_1.1 uv_1.2) (Y := ow cy q f) (ws := mw cy a2 y k) C w hA (ct_X10_want l D cy a2 y k (sc xs (i + 1)) (sc xs (i + 2)) (sc xs (i + 3)) (sc xs (i + 4)) (sc xs (i + 5)) hzm hgm (sc_R xs (i + 1)) (sc_R xs (i + 2)) (sc_R xs (i + 3)) (sc_R xs (i + 4)) (sc_R xs (i + 5))) ok_X10_want km_L_58 ⟨rfl, rfl⟩ ⟨by decide, by decide⟩ ⟨by show 75 + t + 0 + 0 ≤ 1106; omega, by show 8289 + 6 * t + 0 + 0 ≤ 16523; omega⟩ rfl 0 rfl rfl hl.1 rfl (Nat.le_of_ble_eq_true rfl) dL_law_439 (fun rv_2 uv_2 H locs w hp_2 => ?_)
  replace w : wd D A s.heap (LW cy a a2 q uv_1.1 uv_1.2 f uv_2.1 uv_2.2) H locs := w
  obtain ⟨hv, hrel⟩ := st_want (sc xs (i + 1)) (sc xs (i + 2)) (sc xs (i + 3)) (sc xs (i + 4)) (sc xs (i + 5)) h rv_1 uv_1 rv_2 uv_2 hp_1 hp_2
  refine r_icmp_same (tgt := 997) hx hb hv dL_law_442 (by decide) ?_
  refine W.widen (k := 75 + t + 1) (n := 8289 + 6 * t + 6) (by omega) (by omega) ?_
  exact hK uv_1.1 uv_1.2 _ uv_2.1 uv_2.2 _ _ _ hrel w hl
set_option maxHeartbeats 4000000 in
set_option maxRecDepth 100000 in
theorem lc_auction (hC : lcx p l s m args meth c D cy ad A b L xs) (hK : K9 p l e s m args below meth c Q D cy A b q a a2 i t) (ht : t < 512) (hi : 0 ≤ i) (hiL : i + 6 ≤ L) (h : RelA z g y k) (w : wd D A s.heap (LW cy a a2 q z g f y k) H locs) (hl : lv_has ls 8 (lvL b q a a2 i)) : W p l e room_1 s m args below meth c H locs (75 + t) (8289 + 6 * t) Q (F0 m 447 ls []) := by
  obtain ⟨C, hst9, hX, hbl, hbA, hA, hE, hT, hL⟩ := hC
  have hx := C.1
  have hb := C.2.1
  have hB := h.1
  obtain ⟨hz, hg, hzm, hgm⟩ := hB
  refine lv_aload_n hx hb dL_law_447 rfl (lv_at hl 1 rfl) ?_
  refine lv_aload_n hx hb dL_law_448 rfl (lv_at hl 0 rfl) ?_
  refine lv_iload hx hb dL_law_449 (lv_at hl 4 rfl) ?_
  refine r_iconst hx hb dL_law_451 ?_
  refine r_iadd hx hb dL_law_452 ?_
  refine r_sld C hX hbl hbA w hL (by omega) (by omega) dL_law_453 ?_
  refine dVI (X := []) (ws := xw cy a z g) (Z := ow cy q f ++ mw cy a2 y k) C w hA (ct_X9_auction l D cy a z g (sc xs (i + 1)) hz hg (sc_R xs (i + 1))) ok_X9_auction km_L_59 ⟨rfl, rfl⟩ ⟨by decide, by decide⟩ ⟨by show 75 + t + 0 ≤ 1106; omega, by show 8289 + 6 * t + 0 ≤ 16523; omega⟩ rfl 0 rfl rfl hl.1 rfl (Nat.le_of_ble_eq_true rfl) dL_law_454 (fun rv_1 uv_1 H locs w hp_1 => ?_)
  replace w : wd D A s.heap (LW cy a a2 q uv_1.1 uv_1.2 f y k) H locs := w
  refine lv_aload_n hx hb dL_law_457 rfl (lv_at hl 2 rfl) ?_
  refine lv_aload_n hx hb dL_law_458 rfl (lv_at hl 0 rfl) ?_
  refine lv_iload hx hb dL_law_459 (lv_at hl 4 rfl) ?_
  refine r_iconst hx hb dL_law_461 ?_
  refine r_iadd hx hb dL_law_462 ?_
  refine r_sld C hX hbl hbA w hL (by omega) (by omega) dL_law_463 ?_
  refine mVI (X := xw cy a uv_1.1 uv_1.2) (Y := ow cy q f) (ws := mw cy a2 y k) C w hA (ct_X10_auction l D cy a2 y k (sc xs (i + 1)) hzm hgm (sc_R xs (i + 1))) ok_X10_auction km_L_63 ⟨rfl, rfl⟩ ⟨by decide, by decide⟩ ⟨by show 75 + t + 0 + 0 ≤ 1106; omega, by show 8289 + 6 * t + 0 + 0 ≤ 16523; omega⟩ rfl 0 rfl rfl hl.1 rfl (Nat.le_of_ble_eq_true rfl) dL_law_464 (fun rv_2 uv_2 H locs w hp_2 => ?_)
  replace w : wd D A s.heap (LW cy a a2 q uv_1.1 uv_1.2 f uv_2.1 uv_2.2) H locs := w
  obtain ⟨hv, hrel⟩ := st_auction (sc xs (i + 1)) h rv_1 uv_1 rv_2 uv_2 hp_1 hp_2
  refine r_icmp_same (tgt := 997) hx hb hv dL_law_467 (by decide) ?_
  refine W.widen (k := 75 + t + 1) (n := 8289 + 6 * t + 6) (by omega) (by omega) ?_
  exact hK uv_1.1 uv_1.2 _ uv_2.1 uv_2.2 _ _ _ hrel w hl
set_option maxHeartbeats 4000000 in
set_option maxRecDepth 100000 in
theorem lc_reject (hC : lcx p l s m args meth c D cy ad A b L xs) (hK : K9 p l e s m args below meth c Q D cy A b q a a2 i t) (ht : t < 512) (hi : 0 ≤ i) (hiL : i + 6 ≤ L) (h : RelA z g y k) (w : wd D A s.heap (LW cy a a2 q z g f y k) H locs) (hl : lv_has ls 8 (lvL b q a a2 i)) : W p l e room_1 s m args below meth c H locs (75 + t) (8289 + 6 * t) Q (F0 m 472 ls []) := by
  obtain ⟨C, hst9, hX, hbl, hbA, hA, hE, hT, hL⟩ := hC
  have hx := C.1
  have hb := C.2.1
  have hB := h.1
  obtain ⟨hz, hg, hzm, hgm⟩ := hB
  refine lv_aload_n hx hb dL_law_472 rfl (lv_at hl 1 rfl) ?_
  refine lv_aload_n hx hb dL_law_473 rfl (lv_at hl 0 rfl) ?_
  refine lv_iload hx hb dL_law_474 (lv_at hl 4 rfl) ?_
  refine r_iconst hx hb dL_law_476 ?_
  refine r_iadd hx hb dL_law_477 ?_
  refine r_sld C hX hbl hbA w hL (by omega) (by omega) dL_law_478 ?_
  refine dVI (X := []) (ws := xw cy a z g) (Z := ow cy q f ++ mw cy a2 y k) C w hA (ct_X9_reject l D cy a z g (sc xs (i + 1)) hz hg (sc_R xs (i + 1))) ok_X9_reject km_L_64 ⟨rfl, rfl⟩ ⟨by decide, by decide⟩ ⟨by show 75 + t + 0 ≤ 1106; omega, by show 8289 + 6 * t + 0 ≤ 16523; omega⟩ rfl 0 rfl rfl hl.1 rfl (Nat.le_of_ble_eq_true rfl) dL_law_479 (fun rv_1 uv_1 H locs w hp_1 => ?_)
  replace w : wd D A s.heap (LW cy a a2 q uv_1.1 uv_1.2 f y k) H locs := w
  refine lv_aload_n hx hb dL_law_482 rfl (lv_at hl 2 rfl) ?_
  refine lv_aload_n hx hb dL_law_483 rfl (lv_at hl 0 rfl) ?_
  refine lv_iload hx hb dL_law_484 (lv_at hl 4 rfl) ?_
  refine r_iconst hx hb dL_law_486 ?_
  refine r_iadd hx hb dL_law_487 ?_
  refine r_sld C hX hbl hbA w hL (by omega) (by omega) dL_law_488 ?_
  refine mVI (X := xw cy a uv_1.1 uv_1.2) (Y := ow cy q f) (ws := mw cy a2 y k) C w hA (ct_X10_reject l D cy a2 y k (sc xs (i + 1)) hzm hgm (sc_R xs (i + 1))) ok_X10_reject km_L_67 ⟨rfl, rfl⟩ ⟨by decide, by decide⟩ ⟨by show 75 + t + 0 + 0 ≤ 1106; omega, by show 8289 + 6 * t + 0 + 0 ≤ 16523; omega⟩ rfl 0 rfl rfl hl.1 rfl (Nat.le_of_ble_eq_true rfl) dL_law_489 (fun rv_2 uv_2 H locs w hp_2 => ?_)
  replace w : wd D A s.heap (LW cy a a2 q uv_1.1 uv_1.2 f uv_2.1 uv_2.2) H locs := w
  obtain ⟨hv, hrel⟩ := st_reject (sc xs (i + 1)) h rv_1 uv_1 rv_2 uv_2 hp_1 hp_2
  refine r_icmp_same (tgt := 997) hx hb hv dL_law_492 (by decide) ?_
  refine W.widen (k := 75 + t + 1) (n := 8289 + 6 * t + 6) (by omega) (by omega) ?_
  exact hK uv_1.1 uv_1.2 _ uv_2.1 uv_2.2 _ _ _ hrel w hl
set_option maxHeartbeats 4000000 in
set_option maxRecDepth 100000 in
theorem lc_next (hC : lcx p l s m args meth c D cy ad A b L xs) (hK : K9 p l e s m args below meth c Q D cy A b q a a2 i t) (ht : t < 512) (hi : 0 ≤ i) (hiL : i + 6 ≤ L) (h : RelA z g y k) (w : wd D A s.heap (LW cy a a2 q z g f y k) H locs) (hl : lv_has ls 8 (lvL b q a a2 i)) : W p l e room_1 s m args below meth c H locs (75 + t) (8289 + 6 * t) Q (F0 m 497 ls []) := by
  obtain ⟨C, hst9, hX, hbl, hbA, hA, hE, hT, hL⟩ := hC
  have hx := C.1
  have hb := C.2.1
  have hB := h.1
  obtain ⟨hz, hg, hzm, hgm⟩ := hB
  refine lv_aload_n hx hb dL_law_497 rfl (lv_at hl 1 rfl) ?_
  refine dVI (X := []) (ws := xw cy a z g) (Z := ow cy q f ++ mw cy a2 y k) C w hA (ct_X9_next l D cy a z g  hz hg ) ok_X9_next km_L_68 ⟨rfl, rfl⟩ ⟨by decide, by decide⟩ ⟨by show 75 + t + 0 ≤ 1106; omega, by show 8289 + 6 * t + 0 ≤ 16523; omega⟩ rfl 0 rfl rfl hl.1 rfl (Nat.le_of_ble_eq_true rfl) dL_law_498 (fun rv_1 uv_1 H locs w hp_1 => ?_)
  replace w : wd D A s.heap (LW cy a a2 q uv_1.1 uv_1.2 f y k) H locs := w
  refine lv_aload_n hx hb dL_law_501 rfl (lv_at hl 2 rfl) ?_
  have h8 : 0 ≤ k 2 8 ∧ k 2 8 ≤ 50 := by have q3 : z 3 = k 2 8 := h.2.1.2.2.2.2.2.2.2.1; have b3 := xZ3 hz; omega
  refine mVI (X := xw cy a uv_1.1 uv_1.2) (Y := ow cy q f) (ws := mw cy a2 y k) C w hA (ct_X10_next l D cy a2 y k  hzm hgm  h8) ok_X10_next km_L_71 ⟨rfl, rfl⟩ ⟨by decide, by decide⟩ ⟨by show 75 + t + 0 + 0 ≤ 1106; omega, by show 8289 + 6 * t + 0 + 0 ≤ 16523; omega⟩ rfl 0 rfl rfl hl.1 rfl (Nat.le_of_ble_eq_true rfl) dL_law_502 (fun rv_2 uv_2 H locs w hp_2 => ?_)
  replace w : wd D A s.heap (LW cy a a2 q uv_1.1 uv_1.2 f uv_2.1 uv_2.2) H locs := w
  obtain ⟨hv, hrel⟩ := st_next  h rv_1 uv_1 rv_2 uv_2 hp_1 hp_2
  refine r_icmp_same (tgt := 997) hx hb hv dL_law_505 (by decide) ?_
  refine W.widen (k := 75 + t + 1) (n := 8289 + 6 * t + 6) (by omega) (by omega) ?_
  exact hK uv_1.1 uv_1.2 _ uv_2.1 uv_2.2 _ _ _ hrel w hl
set_option maxHeartbeats 4000000 in
set_option maxRecDepth 100000 in
theorem lc_about (hC : lcx p l s m args meth c D cy ad A b L xs) (hK : K9 p l e s m args below meth c Q D cy A b q a a2 i t) (ht : t < 512) (hi : 0 ≤ i) (hiL : i + 6 ≤ L) (h : RelA z g y k) (w : wd D A s.heap (LW cy a a2 q z g f y k) H locs) (hl : lv_has ls 8 (lvL b q a a2 i)) : W p l e room_1 s m args below meth c H locs (75 + t) (8289 + 6 * t) Q (F0 m 510 ls []) := by
  obtain ⟨C, hst9, hX, hbl, hbA, hA, hE, hT, hL⟩ := hC
  have hx := C.1
  have hb := C.2.1
  have hB := h.1
  obtain ⟨hz, hg, hzm, hgm⟩ := hB
  refine lv_aload_n hx hb dL_law_510 rfl (lv_at hl 1 rfl) ?_
  refine lv_aload_n hx hb dL_law_511 rfl (lv_at hl 0 rfl) ?_
  refine lv_iload hx hb dL_law_512 (lv_at hl 4 rfl) ?_
  refine r_iconst hx hb dL_law_514 ?_
  refine r_iadd hx hb dL_law_515 ?_
  refine r_sld C hX hbl hbA w hL (by omega) (by omega) dL_law_516 ?_
  refine lv_aload_n hx hb dL_law_517 rfl (lv_at hl 0 rfl) ?_
  refine lv_iload hx hb dL_law_518 (lv_at hl 4 rfl) ?_
  refine r_iconst hx hb dL_law_520 ?_
  refine r_iadd hx hb dL_law_521 ?_
  refine r_sld C hX hbl hbA w hL (by omega) (by omega) dL_law_522 ?_
  refine lv_aload_n hx hb dL_law_523 rfl (lv_at hl 3 rfl) ?_
  have w2 : wd D A s.heap ([] ++ ((xw cy a z g ++ ow cy q f) ++ mw cy a2 y k)) H locs := by rw [List.nil_append, List.append_assoc]; exact w
  refine dSW (X := []) (ws := xw cy a z g ++ ow cy q f) (Z := mw cy a2 y k) C w2 hA hE hT (ct_L_about l D cy a z g ad hst9 q f (sc xs (i + 1)) (sc xs (i + 2)) hz hg (sc_R xs (i + 1)) (sc_R xs (i + 2))) ok_L_about km_L_72 ⟨rfl, rfl⟩ ⟨by decide, by decide⟩ ⟨by show 75 + t + 1 ≤ 1106; omega, by show 8289 + 6 * t + 6 ≤ 16523; omega⟩ rfl hl.1 rfl (Nat.le_of_ble_eq_true rfl) dL_law_524 (fun rv_1 uv_1 H locs w9 hp_1 => ?_)
  clear w w2
  obtain ⟨⟨zc_1, gc_1⟩, fc_1⟩ := uv_1
  have w : wd D A s.heap (LW cy a a2 q zc_1 gc_1 fc_1 y k) H locs := by have w8 : wd D A s.heap ([] ++ ((xw cy a zc_1 gc_1 ++ ow cy q fc_1) ++ mw cy a2 y k)) H locs := w9; rw [List.nil_append, List.append_assoc] at w8; exact w8
  have hzg : zc_1 = z ∧ gc_1 = g := by rcases hp_1 with ⟨-, q1, -⟩ | ⟨-, q1, -⟩ <;> exact Prod.mk.inj q1
  obtain ⟨hz1, hg1⟩ := hzg
  replace hz1 := hz1.symm
  replace hg1 := hg1.symm
  subst hz1
  subst hg1
  refine lv_istore (lv' := (5, vI rv_1) :: lvL b q a a2 i) hx hb dL_law_527 hl (by decide) rfl (fun ls hl => ?_)
  refine lv_aload_n hx hb dL_law_529 rfl (lv_at hl 3 rfl) ?_
  refine lv_aload_n hx hb dL_law_530 rfl (lv_at hl 1 rfl) ?_
  refine lv_iload hx hb dL_law_531 (lv_at hl 5 rfl) ?_
  refine r_iconst hx hb dL_law_533 ?_
  refine r_iadd hx hb dL_law_534 ?_
  refine r_sld C hX hbl hbA w hL (by omega) (by omega) dL_law_535 ?_
  refine lv_aload_n hx hb dL_law_536 rfl (lv_at hl 1 rfl) ?_
  refine lv_iload hx hb dL_law_537 (lv_at hl 5 rfl) ?_
  refine r_iconst hx hb dL_law_539 ?_
  refine r_iadd hx hb dL_law_540 ?_
  refine r_sld C hX hbl hbA w hL (by omega) (by omega) dL_law_541 ?_
  refine mVI (X := xw cy a z g) (Y := ow cy q fc_1) (ws := mw cy a2 y k) C w hA (ct_X10_about l D cy a2 y k (sc xs (i + 1)) (sc xs (i + 2)) hzm hgm (sc_R xs (i + 1)) (sc_R xs (i + 2))) ok_X10_about km_L_77 ⟨rfl, rfl⟩ ⟨by decide, by decide⟩ ⟨by show 75 + t + 1 + 0 ≤ 1106; omega, by show 8289 + 6 * t + 6 + 0 ≤ 16523; omega⟩ rfl 0 rfl rfl hl.1 rfl (Nat.le_of_ble_eq_true rfl) dL_law_542 (fun rv_2 uv_2 H locs w hp_2 => ?_)
  refine lv_istore (lv' := (6, vI rv_2) :: (5, vI rv_1) :: lvL b q a a2 i) hx hb dL_law_545 hl (by decide) rfl (fun ls hl => ?_)
  have hf : (rv_1 = 0 ∧ ∃ r9 : Int, fc_1 = uI f 0 r9 ∧ iR r9 ∧ r9 = rv_2 ∧ uv_2.1 0 = 0 ∧ RelA z g uv_2.1 uv_2.2) ∨ (rv_1 = 1 ∧ uv_2.1 0 = 1 ∧ RelA z g uv_2.1 uv_2.2) := by
    rcases hp_1 with ⟨q1, -, r9, q2, q4, q3⟩ | ⟨q1, -, q3⟩
    · exact Or.inl ⟨q1, r9, q2, q4, st_about (sc xs (i + 1)) (sc xs (i + 2)) h r9 rv_2 uv_2 q3 hp_2⟩
    · exact Or.inr ⟨q1, st_aboutX (sc xs (i + 1)) (sc xs (i + 2)) h rv_2 uv_2 q3 hp_2⟩
  have hbm : mBz uv_2.1 ∧ mBg uv_2.2 := hp_2.2
  refine lv_aload_n hx hb dL_law_547 rfl (lv_at hl 4 rfl) ?_
  refine mVI (X := xw cy a z g) (Y := ow cy q fc_1) (ws := mw cy a2 uv_2.1 uv_2.2) C w hA (ct_X10_thrown l D cy a2 uv_2.1 uv_2.2 hbm.1 hbm.2) ok_X10_thrown km_L_78 ⟨rfl, rfl⟩ ⟨by decide, by decide⟩ ⟨by show 75 + t + 1 + 0 ≤ 1106; omega, by show 8289 + 6 * t + 6 + 0 ≤ 16523; omega⟩ rfl 0 rfl rfl hl.1 rfl (Nat.le_of_ble_eq_true rfl) dL_law_548 (fun rv_3 uv_3 H locs w hp_3 => ?_)
  replace w : wd D A s.heap (LW cy a a2 q z g fc_1 uv_2.1 uv_2.2) H locs := w
  replace hp_3 : rv_3 = uv_2.1 0 := hp_3
  refine lv_iload hx hb dL_law_551 (lv_at hl 1 rfl) ?_
  have hrt : rv_3 = rv_1 := by
    rcases hf with ⟨q1, r9, -, -, -, q2, -⟩ | ⟨q1, q2, -⟩ <;> omega
  refine r_icmp_same (tgt := 558) hx hb hrt dL_law_553 (by decide) ?_
  refine lv_iload hx hb dL_law_558 (lv_at hl 1 rfl) ?_
  rcases hf with ⟨q1, r9, q2, q5, q4, -, hrel⟩ | ⟨q1, -, hrel⟩
  · subst q1
    refine r_if_ne (tgt := 575) hx hb dL_law_560 (by decide) ⟨by decide, by decide⟩ (fun c9 => absurd rfl c9) (fun _ => ?_)
    subst q2
    refine lv_aload_n hx hb dL_law_563 rfl (lv_at hl 5 rfl) ?_
    refine r_iconst hx hb dL_law_564 ?_
    refine r_lald C w 45 (f := uI f 0 r9) rfl (by decide) (by decide) (by decide) dL_law_565 ?_
    refine lv_iload hx hb dL_law_566 (lv_at hl 0 rfl) ?_
    refine r_i2l hx hb dL_law_568 (by rw [← q4]; exact q5) ?_
    refine r_lc_same (tgt := 575) hx hb (by rw [uI_s]; exact q4) dL_law_569 dL_law_570 (by decide) ?_
    refine lv_goto (tgt := 997) hx hb dL_law_575 (by decide) ?_
    refine W.widen (k := 75 + t + 1) (n := 8289 + 6 * t + 6) (by omega) (by omega) ?_
    exact hK z g _ uv_2.1 uv_2.2 _ _ _ hrel w (lv_sub hl [2, 3, 4, 5, 6] rfl)
  · subst q1
    refine r_if_ne (tgt := 575) hx hb dL_law_560 (by decide) ⟨by decide, by decide⟩ (fun _ => ?_) (fun c9 => absurd c9 (by decide))
    refine lv_goto (tgt := 997) hx hb dL_law_575 (by decide) ?_
    refine W.widen (k := 75 + t + 1) (n := 8289 + 6 * t + 6) (by omega) (by omega) ?_
    exact hK z g _ uv_2.1 uv_2.2 _ _ _ hrel w (lv_sub hl [2, 3, 4, 5, 6] rfl)
set_option maxHeartbeats 4000000 in
set_option maxRecDepth 100000 in
theorem lc_sale (hC : lcx p l s m args meth c D cy ad A b L xs) (hK : K9 p l e s m args below meth c Q D cy A b q a a2 i t) (ht : t < 512) (hi : 0 ≤ i) (hiL : i + 6 ≤ L) (h : RelA z g y k) (w : wd D A s.heap (LW cy a a2 q z g f y k) H locs) (hl : lv_has ls 8 (lvL b q a a2 i)) : W p l e room_1 s m args below meth c H locs (75 + t) (8289 + 6 * t) Q (F0 m 578 ls []) := by
  obtain ⟨C, hst9, hX, hbl, hbA, hA, hE, hT, hL⟩ := hC
  have hx := C.1
  have hb := C.2.1
  have hB := h.1
  obtain ⟨hz, hg, hzm, hgm⟩ := hB
  refine lv_aload_n hx hb dL_law_578 rfl (lv_at hl 1 rfl) ?_
  refine lv_aload_n hx hb dL_law_579 rfl (lv_at hl 0 rfl) ?_
  refine lv_iload hx hb dL_law_580 (lv_at hl 4 rfl) ?_
  refine r_iconst hx hb dL_law_582 ?_
  refine r_iadd hx hb dL_law_583 ?_
  refine r_sld C hX hbl hbA w hL (by omega) (by omega) dL_law_584 ?_
  refine lv_aload_n hx hb dL_law_585 rfl (lv_at hl 0 rfl) ?_
  refine lv_iload hx hb dL_law_586 (lv_at hl 4 rfl) ?_
  refine r_iconst hx hb dL_law_588 ?_
  refine r_iadd hx hb dL_law_589 ?_
  refine r_sld C hX hbl hbA w hL (by omega) (by omega) dL_law_590 ?_
  refine lv_aload_n hx hb dL_law_591 rfl (lv_at hl 3 rfl) ?_
  have w2 : wd D A s.heap ([] ++ ((xw cy a z g ++ ow cy q f) ++ mw cy a2 y k)) H locs := by rw [List.nil_append, List.append_assoc]; exact w
  refine dSW (X := []) (ws := xw cy a z g ++ ow cy q f) (Z := mw cy a2 y k) C w2 hA hE hT (ct_L_sale l D cy a z g ad hst9 q f (sc xs (i + 1)) (sc xs (i + 2)) hz hg (sc_R xs (i + 1)) (sc_R xs (i + 2))) ok_L_sale km_L_81 ⟨rfl, rfl⟩ ⟨by decide, by decide⟩ ⟨by show 75 + t + 1 ≤ 1106; omega, by show 8289 + 6 * t + 6 ≤ 16523; omega⟩ rfl hl.1 rfl (Nat.le_of_ble_eq_true rfl) dL_law_592 (fun rv_1 uv_1 H locs w9 hp_1 => ?_)
  clear w w2
  obtain ⟨⟨zc_1, gc_1⟩, fc_1⟩ := uv_1
  have w : wd D A s.heap (LW cy a a2 q zc_1 gc_1 fc_1 y k) H locs := by have w8 : wd D A s.heap ([] ++ ((xw cy a zc_1 gc_1 ++ ow cy q fc_1) ++ mw cy a2 y k)) H locs := w9; rw [List.nil_append, List.append_assoc] at w8; exact w8
  have hzg : zc_1 = z ∧ gc_1 = g := by rcases hp_1 with ⟨-, q1, -⟩ | ⟨-, q1, -⟩ <;> exact Prod.mk.inj q1
  obtain ⟨hz1, hg1⟩ := hzg
  replace hz1 := hz1.symm
  replace hg1 := hg1.symm
  subst hz1
  subst hg1
  refine lv_istore (lv' := (5, vI rv_1) :: lvL b q a a2 i) hx hb dL_law_595 hl (by decide) rfl (fun ls hl => ?_)
  refine lv_aload_n hx hb dL_law_597 rfl (lv_at hl 3 rfl) ?_
  refine lv_aload_n hx hb dL_law_598 rfl (lv_at hl 1 rfl) ?_
  refine lv_iload hx hb dL_law_599 (lv_at hl 5 rfl) ?_
  refine r_iconst hx hb dL_law_601 ?_
  refine r_iadd hx hb dL_law_602 ?_
  refine r_sld C hX hbl hbA w hL (by omega) (by omega) dL_law_603 ?_
  refine lv_aload_n hx hb dL_law_604 rfl (lv_at hl 1 rfl) ?_
  refine lv_iload hx hb dL_law_605 (lv_at hl 5 rfl) ?_
  refine r_iconst hx hb dL_law_607 ?_
  refine r_iadd hx hb dL_law_608 ?_
  refine r_sld C hX hbl hbA w hL (by omega) (by omega) dL_law_609 ?_
  refine mVI (X := xw cy a z g) (Y := ow cy q fc_1) (ws := mw cy a2 y k) C w hA (ct_X10_sale l D cy a2 y k (sc xs (i + 1)) (sc xs (i + 2)) hzm hgm (sc_R xs (i + 1)) (sc_R xs (i + 2))) ok_X10_sale km_L_83 ⟨rfl, rfl⟩ ⟨by decide, by decide⟩ ⟨by show 75 + t + 1 + 0 ≤ 1106; omega, by show 8289 + 6 * t + 6 + 0 ≤ 16523; omega⟩ rfl 0 rfl rfl hl.1 rfl (Nat.le_of_ble_eq_true rfl) dL_law_610 (fun rv_2 uv_2 H locs w hp_2 => ?_)
  refine lv_istore (lv' := (6, vI rv_2) :: (5, vI rv_1) :: lvL b q a a2 i) hx hb dL_law_613 hl (by decide) rfl (fun ls hl => ?_)
  have hf : (rv_1 = 0 ∧ ∃ r9 : Int, fc_1 = uI f 0 r9 ∧ iR r9 ∧ r9 = rv_2 ∧ uv_2.1 0 = 0 ∧ RelA z g uv_2.1 uv_2.2) ∨ (rv_1 = 1 ∧ uv_2.1 0 = 1 ∧ RelA z g uv_2.1 uv_2.2) := by
    rcases hp_1 with ⟨q1, -, r9, q2, q4, q3⟩ | ⟨q1, -, q3⟩
    · exact Or.inl ⟨q1, r9, q2, q4, st_sale (sc xs (i + 1)) (sc xs (i + 2)) h r9 rv_2 uv_2 q3 hp_2⟩
    · exact Or.inr ⟨q1, st_saleX (sc xs (i + 1)) (sc xs (i + 2)) h rv_2 uv_2 q3 hp_2⟩
  have hbm : mBz uv_2.1 ∧ mBg uv_2.2 := hp_2.2
  refine lv_aload_n hx hb dL_law_615 rfl (lv_at hl 4 rfl) ?_
  refine mVI (X := xw cy a z g) (Y := ow cy q fc_1) (ws := mw cy a2 uv_2.1 uv_2.2) C w hA (ct_X10_thrown l D cy a2 uv_2.1 uv_2.2 hbm.1 hbm.2) ok_X10_thrown km_L_78 ⟨rfl, rfl⟩ ⟨by decide, by decide⟩ ⟨by show 75 + t + 1 + 0 ≤ 1106; omega, by show 8289 + 6 * t + 6 + 0 ≤ 16523; omega⟩ rfl 0 rfl rfl hl.1 rfl (Nat.le_of_ble_eq_true rfl) dL_law_616 (fun rv_3 uv_3 H locs w hp_3 => ?_)
  replace w : wd D A s.heap (LW cy a a2 q z g fc_1 uv_2.1 uv_2.2) H locs := w
  replace hp_3 : rv_3 = uv_2.1 0 := hp_3
  refine lv_iload hx hb dL_law_619 (lv_at hl 1 rfl) ?_
  have hrt : rv_3 = rv_1 := by
    rcases hf with ⟨q1, r9, -, -, -, q2, -⟩ | ⟨q1, q2, -⟩ <;> omega
  refine r_icmp_same (tgt := 626) hx hb hrt dL_law_621 (by decide) ?_
  refine lv_iload hx hb dL_law_626 (lv_at hl 1 rfl) ?_
  rcases hf with ⟨q1, r9, q2, q5, q4, -, hrel⟩ | ⟨q1, -, hrel⟩
  · subst q1
    refine r_if_ne (tgt := 643) hx hb dL_law_628 (by decide) ⟨by decide, by decide⟩ (fun c9 => absurd rfl c9) (fun _ => ?_)
    subst q2
    refine lv_aload_n hx hb dL_law_631 rfl (lv_at hl 5 rfl) ?_
    refine r_iconst hx hb dL_law_632 ?_
    refine r_lald C w 45 (f := uI f 0 r9) rfl (by decide) (by decide) (by decide) dL_law_633 ?_
    refine lv_iload hx hb dL_law_634 (lv_at hl 0 rfl) ?_
    refine r_i2l hx hb dL_law_636 (by rw [← q4]; exact q5) ?_
    refine r_lc_same (tgt := 643) hx hb (by rw [uI_s]; exact q4) dL_law_637 dL_law_638 (by decide) ?_
    refine lv_goto (tgt := 997) hx hb dL_law_643 (by decide) ?_
    refine W.widen (k := 75 + t + 1) (n := 8289 + 6 * t + 6) (by omega) (by omega) ?_
    exact hK z g _ uv_2.1 uv_2.2 _ _ _ hrel w (lv_sub hl [2, 3, 4, 5, 6] rfl)
  · subst q1
    refine r_if_ne (tgt := 643) hx hb dL_law_628 (by decide) ⟨by decide, by decide⟩ (fun _ => ?_) (fun c9 => absurd c9 (by decide))
    refine lv_goto (tgt := 997) hx hb dL_law_643 (by decide) ?_
    refine W.widen (k := 75 + t + 1) (n := 8289 + 6 * t + 6) (by omega) (by omega) ?_
    exact hK z g _ uv_2.1 uv_2.2 _ _ _ hrel w (lv_sub hl [2, 3, 4, 5, 6] rfl)
set_option maxHeartbeats 4000000 in
set_option maxRecDepth 100000 in
theorem lc_left (hC : lcx p l s m args meth c D cy ad A b L xs) (hK : K9 p l e s m args below meth c Q D cy A b q a a2 i t) (ht : t < 512) (hi : 0 ≤ i) (hiL : i + 6 ≤ L) (h : RelA z g y k) (w : wd D A s.heap (LW cy a a2 q z g f y k) H locs) (hl : lv_has ls 8 (lvL b q a a2 i)) : W p l e room_1 s m args below meth c H locs (75 + t) (8289 + 6 * t) Q (F0 m 646 ls []) := by
  obtain ⟨C, hst9, hX, hbl, hbA, hA, hE, hT, hL⟩ := hC
  have hx := C.1
  have hb := C.2.1
  have hB := h.1
  obtain ⟨hz, hg, hzm, hgm⟩ := hB
  refine lv_aload_n hx hb dL_law_646 rfl (lv_at hl 1 rfl) ?_
  refine lv_aload_n hx hb dL_law_647 rfl (lv_at hl 0 rfl) ?_
  refine lv_iload hx hb dL_law_648 (lv_at hl 4 rfl) ?_
  refine r_iconst hx hb dL_law_650 ?_
  refine r_iadd hx hb dL_law_651 ?_
  refine r_sld C hX hbl hbA w hL (by omega) (by omega) dL_law_652 ?_
  refine dVI (X := []) (ws := xw cy a z g) (Z := ow cy q f ++ mw cy a2 y k) C w hA (ct_X9_left l D cy a z g (sc xs (i + 1)) hz hg (sc_R xs (i + 1))) ok_X9_left km_L_84 ⟨rfl, rfl⟩ ⟨by decide, by decide⟩ ⟨by show 75 + t + 0 ≤ 1106; omega, by show 8289 + 6 * t + 0 ≤ 16523; omega⟩ rfl 0 rfl rfl hl.1 rfl (Nat.le_of_ble_eq_true rfl) dL_law_653 (fun rv_1 uv_1 H locs w hp_1 => ?_)
  replace w : wd D A s.heap (LW cy a a2 q z g f y k) H locs := w
  refine lv_aload_n hx hb dL_law_656 rfl (lv_at hl 2 rfl) ?_
  refine lv_aload_n hx hb dL_law_657 rfl (lv_at hl 0 rfl) ?_
  refine lv_iload hx hb dL_law_658 (lv_at hl 4 rfl) ?_
  refine r_iconst hx hb dL_law_660 ?_
  refine r_iadd hx hb dL_law_661 ?_
  refine r_sld C hX hbl hbA w hL (by omega) (by omega) dL_law_662 ?_
  refine mVI (X := xw cy a z g) (Y := ow cy q f) (ws := mw cy a2 y k) C w hA (ct_X10_left l D cy a2 y k (sc xs (i + 1)) hzm hgm (sc_R xs (i + 1))) ok_X10_left km_L_87 ⟨rfl, rfl⟩ ⟨by decide, by decide⟩ ⟨by show 75 + t + 0 + 0 ≤ 1106; omega, by show 8289 + 6 * t + 0 + 0 ≤ 16523; omega⟩ rfl 0 rfl rfl hl.1 rfl (Nat.le_of_ble_eq_true rfl) dL_law_663 (fun rv_2 uv_2 H locs w hp_2 => ?_)
  replace w : wd D A s.heap (LW cy a a2 q z g f uv_2.1 uv_2.2) H locs := w
  obtain ⟨hv, hrel⟩ := st_left (sc xs (i + 1)) h rv_1 rv_2 uv_2 hp_1 hp_2
  refine r_icmp_same (tgt := 997) hx hb hv dL_law_666 (by decide) ?_
  refine W.widen (k := 75 + t + 1) (n := 8289 + 6 * t + 6) (by omega) (by omega) ?_
  exact hK z g _ uv_2.1 uv_2.2 _ _ _ hrel w hl
set_option maxHeartbeats 4000000 in
set_option maxRecDepth 100000 in
theorem lc_wanted (hC : lcx p l s m args meth c D cy ad A b L xs) (hK : K9 p l e s m args below meth c Q D cy A b q a a2 i t) (ht : t < 512) (hi : 0 ≤ i) (hiL : i + 6 ≤ L) (h : RelA z g y k) (w : wd D A s.heap (LW cy a a2 q z g f y k) H locs) (hl : lv_has ls 8 (lvL b q a a2 i)) : W p l e room_1 s m args below meth c H locs (75 + t) (8289 + 6 * t) Q (F0 m 671 ls []) := by
  obtain ⟨C, hst9, hX, hbl, hbA, hA, hE, hT, hL⟩ := hC
  have hx := C.1
  have hb := C.2.1
  have hB := h.1
  obtain ⟨hz, hg, hzm, hgm⟩ := hB
  refine lv_aload_n hx hb dL_law_671 rfl (lv_at hl 1 rfl) ?_
  refine lv_aload_n hx hb dL_law_672 rfl (lv_at hl 0 rfl) ?_
  refine lv_iload hx hb dL_law_673 (lv_at hl 4 rfl) ?_
  refine r_iconst hx hb dL_law_675 ?_
  refine r_iadd hx hb dL_law_676 ?_
  refine r_sld C hX hbl hbA w hL (by omega) (by omega) dL_law_677 ?_
  refine lv_aload_n hx hb dL_law_678 rfl (lv_at hl 0 rfl) ?_
  refine lv_iload hx hb dL_law_679 (lv_at hl 4 rfl) ?_
  refine r_iconst hx hb dL_law_681 ?_
  refine r_iadd hx hb dL_law_682 ?_
  refine r_sld C hX hbl hbA w hL (by omega) (by omega) dL_law_683 ?_
  refine lv_aload_n hx hb dL_law_684 rfl (lv_at hl 0 rfl) ?_
  refine lv_iload hx hb dL_law_685 (lv_at hl 4 rfl) ?_
  refine r_iconst hx hb dL_law_687 ?_
  refine r_iadd hx hb dL_law_688 ?_
  refine r_sld C hX hbl hbA w hL (by omega) (by omega) dL_law_689 ?_
  refine dVI (X := []) (ws := xw cy a z g) (Z := ow cy q f ++ mw cy a2 y k) C w hA (ct_X9_wanted l D cy a z g (sc xs (i + 1)) (sc xs (i + 2)) (sc xs (i + 3)) hz hg (sc_R xs (i + 1)) (sc_R xs (i + 2)) (sc_R xs (i + 3))) ok_X9_wanted km_L_88 ⟨rfl, rfl⟩ ⟨by decide, by decide⟩ ⟨by show 75 + t + 0 ≤ 1106; omega, by show 8289 + 6 * t + 0 ≤ 16523; omega⟩ rfl 0 rfl rfl hl.1 rfl (Nat.le_of_ble_eq_true rfl) dL_law_690 (fun rv_1 uv_1 H locs w hp_1 => ?_)
  replace w : wd D A s.heap (LW cy a a2 q z g f y k) H locs := w
  refine lv_aload_n hx hb dL_law_693 rfl (lv_at hl 2 rfl) ?_
  refine lv_aload_n hx hb dL_law_694 rfl (lv_at hl 0 rfl) ?_
  refine lv_iload hx hb dL_law_695 (lv_at hl 4 rfl) ?_
  refine r_iconst hx hb dL_law_697 ?_
  refine r_iadd hx hb dL_law_698 ?_
  refine r_sld C hX hbl hbA w hL (by omega) (by omega) dL_law_699 ?_
  refine lv_aload_n hx hb dL_law_700 rfl (lv_at hl 0 rfl) ?_
  refine lv_iload hx hb dL_law_701 (lv_at hl 4 rfl) ?_
  refine r_iconst hx hb dL_law_703 ?_
  refine r_iadd hx hb dL_law_704 ?_
  refine r_sld C hX hbl hbA w hL (by omega) (by omega) dL_law_705 ?_
  refine lv_aload_n hx hb dL_law_706 rfl (lv_at hl 0 rfl) ?_
  refine lv_iload hx hb dL_law_707 (lv_at hl 4 rfl) ?_
  refine r_iconst hx hb dL_law_709 ?_
  refine r_iadd hx hb dL_law_710 ?_
  refine r_sld C hX hbl hbA w hL (by omega) (by omega) dL_law_711 ?_
  refine mVI (X := xw cy a z g) (Y := ow cy q f) (ws := mw cy a2 y k) C w hA (ct_X10_wanted l D cy a2 y k (sc xs (i + 1)) (sc xs (i + 2)) (sc xs (i + 3)) hzm hgm (sc_R xs (i + 1)) (sc_R xs (i + 2)) (sc_R xs (i + 3))) ok_X10_wanted km_L_92 ⟨rfl, rfl⟩ ⟨by decide, by decide⟩ ⟨by show 75 + t + 0 + 0 ≤ 1106; omega, by show 8289 + 6 * t + 0 + 0 ≤ 16523; omega⟩ rfl 0 rfl rfl hl.1 rfl (Nat.le_of_ble_eq_true rfl) dL_law_712 (fun rv_2 uv_2 H locs w hp_2 => ?_)
  replace w : wd D A s.heap (LW cy a a2 q z g f uv_2.1 uv_2.2) H locs := w
  obtain ⟨hv, hrel⟩ := st_wanted (sc xs (i + 1)) (sc xs (i + 2)) (sc xs (i + 3)) h rv_1 rv_2 uv_2 hp_1 hp_2
  refine r_icmp_same (tgt := 997) hx hb hv dL_law_715 (by decide) ?_
  refine W.widen (k := 75 + t + 1) (n := 8289 + 6 * t + 6) (by omega) (by omega) ?_
  exact hK z g _ uv_2.1 uv_2.2 _ _ _ hrel w hl
set_option maxHeartbeats 4000000 in
set_option maxRecDepth 100000 in
theorem lc_pool (hC : lcx p l s m args meth c D cy ad A b L xs) (hK : K9 p l e s m args below meth c Q D cy A b q a a2 i t) (ht : t < 512) (hi : 0 ≤ i) (hiL : i + 6 ≤ L) (h : RelA z g y k) (w : wd D A s.heap (LW cy a a2 q z g f y k) H locs) (hl : lv_has ls 8 (lvL b q a a2 i)) : W p l e room_1 s m args below meth c H locs (75 + t) (8289 + 6 * t) Q (F0 m 720 ls []) := by
  obtain ⟨C, hst9, hX, hbl, hbA, hA, hE, hT, hL⟩ := hC
  have hx := C.1
  have hb := C.2.1
  have hB := h.1
  obtain ⟨hz, hg, hzm, hgm⟩ := hB
  refine lv_aload_n hx hb dL_law_720 rfl (lv_at hl 1 rfl) ?_
  refine lv_aload_n hx hb dL_law_721 rfl (lv_at hl 0 rfl) ?_
  refine lv_iload hx hb dL_law_722 (lv_at hl 4 rfl) ?_
  refine r_iconst hx hb dL_law_724 ?_
  refine r_iadd hx hb dL_law_725 ?_
  refine r_sld C hX hbl hbA w hL (by omega) (by omega) dL_law_726 ?_
  refine dVI (X := []) (ws := xw cy a z g) (Z := ow cy q f ++ mw cy a2 y k) C w hA (ct_X9_pool l D cy a z g (sc xs (i + 1)) hz hg (sc_R xs (i + 1))) ok_X9_pool km_L_93 ⟨rfl, rfl⟩ ⟨by decide, by decide⟩ ⟨by show 75 + t + 0 ≤ 1106; omega, by show 8289 + 6 * t + 0 ≤ 16523; omega⟩ rfl 0 rfl rfl hl.1 rfl (Nat.le_of_ble_eq_true rfl) dL_law_727 (fun rv_1 uv_1 H locs w hp_1 => ?_)
  replace w : wd D A s.heap (LW cy a a2 q z g f y k) H locs := w
  refine lv_aload_n hx hb dL_law_730 rfl (lv_at hl 2 rfl) ?_
  refine lv_aload_n hx hb dL_law_731 rfl (lv_at hl 0 rfl) ?_
  refine lv_iload hx hb dL_law_732 (lv_at hl 4 rfl) ?_
  refine r_iconst hx hb dL_law_734 ?_
  refine r_iadd hx hb dL_law_735 ?_
  refine r_sld C hX hbl hbA w hL (by omega) (by omega) dL_law_736 ?_
  refine mVI (X := xw cy a z g) (Y := ow cy q f) (ws := mw cy a2 y k) C w hA (ct_X10_pool l D cy a2 y k (sc xs (i + 1)) hzm hgm (sc_R xs (i + 1))) ok_X10_pool km_L_96 ⟨rfl, rfl⟩ ⟨by decide, by decide⟩ ⟨by show 75 + t + 0 + 0 ≤ 1106; omega, by show 8289 + 6 * t + 0 + 0 ≤ 16523; omega⟩ rfl 0 rfl rfl hl.1 rfl (Nat.le_of_ble_eq_true rfl) dL_law_737 (fun rv_2 uv_2 H locs w hp_2 => ?_)
  replace w : wd D A s.heap (LW cy a a2 q z g f uv_2.1 uv_2.2) H locs := w
  obtain ⟨hv, hrel⟩ := st_pool (sc xs (i + 1)) h rv_1 rv_2 uv_2 hp_1 hp_2
  refine r_icmp_same (tgt := 997) hx hb hv dL_law_740 (by decide) ?_
  refine W.widen (k := 75 + t + 1) (n := 8289 + 6 * t + 6) (by omega) (by omega) ?_
  exact hK z g _ uv_2.1 uv_2.2 _ _ _ hrel w hl
set_option maxHeartbeats 4000000 in
set_option maxRecDepth 100000 in
theorem lc_pay (hC : lcx p l s m args meth c D cy ad A b L xs) (hK : K9 p l e s m args below meth c Q D cy A b q a a2 i t) (ht : t < 512) (hi : 0 ≤ i) (hiL : i + 6 ≤ L) (h : RelA z g y k) (w : wd D A s.heap (LW cy a a2 q z g f y k) H locs) (hl : lv_has ls 8 (lvL b q a a2 i)) : W p l e room_1 s m args below meth c H locs (75 + t) (8289 + 6 * t) Q (F0 m 745 ls []) := by
  obtain ⟨C, hst9, hX, hbl, hbA, hA, hE, hT, hL⟩ := hC
  have hx := C.1
  have hb := C.2.1
  have hB := h.1
  obtain ⟨hz, hg, hzm, hgm⟩ := hB
  refine lv_aload_n hx hb dL_law_745 rfl (lv_at hl 1 rfl) ?_
  refine lv_aload_n hx hb dL_law_746 rfl (lv_at hl 0 rfl) ?_
  refine lv_iload hx hb dL_law_747 (lv_at hl 4 rfl) ?_
  refine r_iconst hx hb dL_law_749 ?_
  refine r_iadd hx hb dL_law_750 ?_
  refine r_sld C hX hbl hbA w hL (by omega) (by omega) dL_law_751 ?_
  refine lv_aload_n hx hb dL_law_752 rfl (lv_at hl 0 rfl) ?_
  refine lv_iload hx hb dL_law_753 (lv_at hl 4 rfl) ?_
  refine r_iconst hx hb dL_law_755 ?_
  refine r_iadd hx hb dL_law_756 ?_
  refine r_sld C hX hbl hbA w hL (by omega) (by omega) dL_law_757 ?_
  refine dVI (X := []) (ws := xw cy a z g) (Z := ow cy q f ++ mw cy a2 y k) C w hA (ct_X9_pay l D cy a z g (sc xs (i + 1)) (sc xs (i + 2)) hz hg (sc_R xs (i + 1)) (sc_R xs (i + 2))) ok_X9_pay km_L_97 ⟨rfl, rfl⟩ ⟨by decide, by decide⟩ ⟨by show 75 + t + 0 ≤ 1106; omega, by show 8289 + 6 * t + 0 ≤ 16523; omega⟩ rfl 0 rfl rfl hl.1 rfl (Nat.le_of_ble_eq_true rfl) dL_law_758 (fun rv_1 uv_1 H locs w hp_1 => ?_)
  replace w : wd D A s.heap (LW cy a a2 q uv_1.1 uv_1.2 f y k) H locs := w
  refine lv_aload_n hx hb dL_law_761 rfl (lv_at hl 2 rfl) ?_
  refine lv_aload_n hx hb dL_law_762 rfl (lv_at hl 0 rfl) ?_
  refine lv_iload hx hb dL_law_763 (lv_at hl 4 rfl) ?_
  refine r_iconst hx hb dL_law_765 ?_
  refine r_iadd hx hb dL_law_766 ?_
  refine r_sld C hX hbl hbA w hL (by omega) (by omega) dL_law_767 ?_
  refine lv_aload_n hx hb dL_law_768 rfl (lv_at hl 0 rfl) ?_
  refine lv_iload hx hb dL_law_769 (lv_at hl 4 rfl) ?_
  refine r_iconst hx hb dL_law_771 ?_
  refine r_iadd hx hb dL_law_772 ?_
  refine r_sld C hX hbl hbA w hL (by omega) (by omega) dL_law_773 ?_
  refine mVI (X := xw cy a uv_1.1 uv_1.2) (Y := ow cy q f) (ws := mw cy a2 y k) C w hA (ct_X10_pay l D cy a2 y k (sc xs (i + 1)) (sc xs (i + 2)) hzm hgm (sc_R xs (i + 1)) (sc_R xs (i + 2))) ok_X10_pay km_L_100 ⟨rfl, rfl⟩ ⟨by decide, by decide⟩ ⟨by show 75 + t + 0 + 0 ≤ 1106; omega, by show 8289 + 6 * t + 0 + 0 ≤ 16523; omega⟩ rfl 0 rfl rfl hl.1 rfl (Nat.le_of_ble_eq_true rfl) dL_law_774 (fun rv_2 uv_2 H locs w hp_2 => ?_)
  replace w : wd D A s.heap (LW cy a a2 q uv_1.1 uv_1.2 f uv_2.1 uv_2.2) H locs := w
  obtain ⟨hv, hrel⟩ := st_pay (sc xs (i + 1)) (sc xs (i + 2)) h rv_1 uv_1 rv_2 uv_2 hp_1 hp_2
  refine r_icmp_same (tgt := 997) hx hb hv dL_law_777 (by decide) ?_
  refine W.widen (k := 75 + t + 1) (n := 8289 + 6 * t + 6) (by omega) (by omega) ?_
  exact hK uv_1.1 uv_1.2 _ uv_2.1 uv_2.2 _ _ _ hrel w hl
set_option maxHeartbeats 4000000 in
set_option maxRecDepth 100000 in
theorem lc_worth (hC : lcx p l s m args meth c D cy ad A b L xs) (hK : K9 p l e s m args below meth c Q D cy A b q a a2 i t) (ht : t < 512) (hi : 0 ≤ i) (hiL : i + 6 ≤ L) (h : RelA z g y k) (w : wd D A s.heap (LW cy a a2 q z g f y k) H locs) (hl : lv_has ls 8 (lvL b q a a2 i)) : W p l e room_1 s m args below meth c H locs (75 + t) (8289 + 6 * t) Q (F0 m 782 ls []) := by
  obtain ⟨C, hst9, hX, hbl, hbA, hA, hE, hT, hL⟩ := hC
  have hx := C.1
  have hb := C.2.1
  have hB := h.1
  obtain ⟨hz, hg, hzm, hgm⟩ := hB
  refine lv_aload_n hx hb dL_law_782 rfl (lv_at hl 1 rfl) ?_
  refine lv_aload_n hx hb dL_law_783 rfl (lv_at hl 0 rfl) ?_
  refine lv_iload hx hb dL_law_784 (lv_at hl 4 rfl) ?_
  refine r_iconst hx hb dL_law_786 ?_
  refine r_iadd hx hb dL_law_787 ?_
  refine r_sld C hX hbl hbA w hL (by omega) (by omega) dL_law_788 ?_
  refine lv_aload_n hx hb dL_law_789 rfl (lv_at hl 0 rfl) ?_
  refine lv_iload hx hb dL_law_790 (lv_at hl 4 rfl) ?_
  refine r_iconst hx hb dL_law_792 ?_
  refine r_iadd hx hb dL_law_793 ?_
  refine r_sld C hX hbl hbA w hL (by omega) (by omega) dL_law_794 ?_
  refine lv_aload_n hx hb dL_law_795 rfl (lv_at hl 0 rfl) ?_
  refine lv_iload hx hb dL_law_796 (lv_at hl 4 rfl) ?_
  refine r_iconst hx hb dL_law_798 ?_
  refine r_iadd hx hb dL_law_799 ?_
  refine r_sld C hX hbl hbA w hL (by omega) (by omega) dL_law_800 ?_
  refine lv_aload_n hx hb dL_law_801 rfl (lv_at hl 3 rfl) ?_
  have w2 : wd D A s.heap ([] ++ ((xw cy a z g ++ ow cy q f) ++ mw cy a2 y k)) H locs := by rw [List.nil_append, List.append_assoc]; exact w
  refine dSW (X := []) (ws := xw cy a z g ++ ow cy q f) (Z := mw cy a2 y k) C w2 hA hE hT (ct_L_worth l D cy a z g ad hst9 q f (sc xs (i + 1)) (sc xs (i + 2)) (sc xs (i + 3)) hz hg (sc_R xs (i + 1)) (sc_R xs (i + 2)) (sc_R xs (i + 3))) ok_L_worth km_L_101 ⟨rfl, rfl⟩ ⟨by decide, by decide⟩ ⟨by show 75 + t + 1 ≤ 1106; omega, by show 8289 + 6 * t + 6 ≤ 16523; omega⟩ rfl hl.1 rfl (Nat.le_of_ble_eq_true rfl) dL_law_802 (fun rv_1 uv_1 H locs w9 hp_1 => ?_)
  clear w w2
  obtain ⟨⟨zc_1, gc_1⟩, fc_1⟩ := uv_1
  have w : wd D A s.heap (LW cy a a2 q zc_1 gc_1 fc_1 y k) H locs := by have w8 : wd D A s.heap ([] ++ ((xw cy a zc_1 gc_1 ++ ow cy q fc_1) ++ mw cy a2 y k)) H locs := w9; rw [List.nil_append, List.append_assoc] at w8; exact w8
  refine lv_istore (lv' := (5, vI rv_1) :: lvL b q a a2 i) hx hb dL_law_805 hl (by decide) rfl (fun ls hl => ?_)
  refine lv_aload_n hx hb dL_law_807 rfl (lv_at hl 3 rfl) ?_
  refine lv_aload_n hx hb dL_law_808 rfl (lv_at hl 1 rfl) ?_
  refine lv_iload hx hb dL_law_809 (lv_at hl 5 rfl) ?_
  refine r_iconst hx hb dL_law_811 ?_
  refine r_iadd hx hb dL_law_812 ?_
  refine r_sld C hX hbl hbA w hL (by omega) (by omega) dL_law_813 ?_
  refine lv_aload_n hx hb dL_law_814 rfl (lv_at hl 1 rfl) ?_
  refine lv_iload hx hb dL_law_815 (lv_at hl 5 rfl) ?_
  refine r_iconst hx hb dL_law_817 ?_
  refine r_iadd hx hb dL_law_818 ?_
  refine r_sld C hX hbl hbA w hL (by omega) (by omega) dL_law_819 ?_
  refine lv_aload_n hx hb dL_law_820 rfl (lv_at hl 1 rfl) ?_
  refine lv_iload hx hb dL_law_821 (lv_at hl 5 rfl) ?_
  refine r_iconst hx hb dL_law_823 ?_
  refine r_iadd hx hb dL_law_824 ?_
  refine r_sld C hX hbl hbA w hL (by omega) (by omega) dL_law_825 ?_
  refine mVL (X := xw cy a zc_1 gc_1) (Y := ow cy q fc_1) (ws := mw cy a2 y k) C w hA (ct_X10_worth l D cy a2 y k (sc xs (i + 1)) (sc xs (i + 2)) (sc xs (i + 3)) hzm hgm (sc_R xs (i + 1)) (sc_R xs (i + 2)) (sc_R xs (i + 3))) ok_X10_worth km_L_104 ⟨rfl, rfl⟩ ⟨by decide, by decide⟩ ⟨by show 75 + t + 1 + 0 ≤ 1106; omega, by show 8289 + 6 * t + 6 + 0 ≤ 16523; omega⟩ rfl 0 rfl rfl hl.1 rfl (Nat.le_of_ble_eq_true rfl) dL_law_826 (fun rv_2 uv_2 H locs w hp_2 => ?_)
  refine lv_lstore (lv' := (6, vL rv_2) :: (5, vI rv_1) :: lvL b q a a2 i) hx hb dL_law_829 hl (by decide) rfl (fun ls hl => ?_)
  have hf : (rv_1 = 0 ∧ ∃ r9 : Int, fc_1 = uI f 0 r9 ∧ r9 = rv_2 ∧ uv_2.1 0 = 0 ∧ RelA zc_1 gc_1 uv_2.1 uv_2.2) ∨ (rv_1 = 1 ∧ uv_2.1 0 = 1 ∧ RelA zc_1 gc_1 uv_2.1 uv_2.2) := by
    rcases hp_1 with ⟨q1, r9, q2, q3⟩ | ⟨q1, q3⟩
    · exact Or.inl ⟨q1, r9, q2, st_worth (sc xs (i + 1)) (sc xs (i + 2)) (sc xs (i + 3)) h r9 (zc_1, gc_1) rv_2 uv_2 q3 hp_2⟩
    · exact Or.inr ⟨q1, st_worthX (sc xs (i + 1)) (sc xs (i + 2)) (sc xs (i + 3)) h (zc_1, gc_1) rv_2 uv_2 q3 hp_2⟩
  have hbm : mBz uv_2.1 ∧ mBg uv_2.2 := hp_2.2
  refine lv_aload_n hx hb dL_law_831 rfl (lv_at hl 4 rfl) ?_
  refine mVI (X := xw cy a zc_1 gc_1) (Y := ow cy q fc_1) (ws := mw cy a2 uv_2.1 uv_2.2) C w hA (ct_X10_thrown l D cy a2 uv_2.1 uv_2.2 hbm.1 hbm.2) ok_X10_thrown km_L_78 ⟨rfl, rfl⟩ ⟨by decide, by decide⟩ ⟨by show 75 + t + 1 + 0 ≤ 1106; omega, by show 8289 + 6 * t + 6 + 0 ≤ 16523; omega⟩ rfl 0 rfl rfl hl.1 rfl (Nat.le_of_ble_eq_true rfl) dL_law_832 (fun rv_3 uv_3 H locs w hp_3 => ?_)
  replace w : wd D A s.heap (LW cy a a2 q zc_1 gc_1 fc_1 uv_2.1 uv_2.2) H locs := w
  replace hp_3 : rv_3 = uv_2.1 0 := hp_3
  refine lv_iload hx hb dL_law_835 (lv_at hl 1 rfl) ?_
  have hrt : rv_3 = rv_1 := by
    rcases hf with ⟨q1, r9, -, -, q2, -⟩ | ⟨q1, q2, -⟩ <;> omega
  refine r_icmp_same (tgt := 842) hx hb hrt dL_law_837 (by decide) ?_
  refine lv_iload hx hb dL_law_842 (lv_at hl 1 rfl) ?_
  rcases hf with ⟨q1, r9, q2, q4, -, hrel⟩ | ⟨q1, -, hrel⟩
  · subst q1
    refine r_if_ne (tgt := 858) hx hb dL_law_844 (by decide) ⟨by decide, by decide⟩ (fun c9 => absurd rfl c9) (fun _ => ?_)
    subst q2
    refine lv_aload_n hx hb dL_law_847 rfl (lv_at hl 5 rfl) ?_
    refine r_iconst hx hb dL_law_848 ?_
    refine r_lald C w 45 (f := uI f 0 r9) rfl (by decide) (by decide) (by decide) dL_law_849 ?_
    refine lv_lload hx hb dL_law_850 (lv_at hl 0 rfl) ?_
    refine r_lc_same (tgt := 858) hx hb (by rw [uI_s]; exact q4) dL_law_852 dL_law_853 (by decide) ?_
    refine lv_goto (tgt := 997) hx hb dL_law_858 (by decide) ?_
    refine W.widen (k := 75 + t + 1) (n := 8289 + 6 * t + 6) (by omega) (by omega) ?_
    exact hK zc_1 gc_1 _ uv_2.1 uv_2.2 _ _ _ hrel w (lv_sub hl [2, 3, 4, 5, 6] rfl)
  · subst q1
    refine r_if_ne (tgt := 858) hx hb dL_law_844 (by decide) ⟨by decide, by decide⟩ (fun _ => ?_) (fun c9 => absurd c9 (by decide))
    refine lv_goto (tgt := 997) hx hb dL_law_858 (by decide) ?_
    refine W.widen (k := 75 + t + 1) (n := 8289 + 6 * t + 6) (by omega) (by omega) ?_
    exact hK zc_1 gc_1 _ uv_2.1 uv_2.2 _ _ _ hrel w (lv_sub hl [2, 3, 4, 5, 6] rfl)
set_option maxHeartbeats 4000000 in
set_option maxRecDepth 100000 in
theorem lc_wire (hC : lcx p l s m args meth c D cy ad A b L xs) (hK : K9 p l e s m args below meth c Q D cy A b q a a2 i t) (ht : t < 512) (hi : 0 ≤ i) (hiL : i + 6 ≤ L) (h : RelA z g y k) (w : wd D A s.heap (LW cy a a2 q z g f y k) H locs) (hl : lv_has ls 8 (lvL b q a a2 i)) : W p l e room_1 s m args below meth c H locs (75 + t) (8289 + 6 * t) Q (F0 m 861 ls []) := by
  obtain ⟨C, hst9, hX, hbl, hbA, hA, hE, hT, hL⟩ := hC
  have hx := C.1
  have hb := C.2.1
  have hB := h.1
  obtain ⟨hz, hg, hzm, hgm⟩ := hB
  refine lv_aload_n hx hb dL_law_861 rfl (lv_at hl 1 rfl) ?_
  refine lv_aload_n hx hb dL_law_862 rfl (lv_at hl 0 rfl) ?_
  refine lv_iload hx hb dL_law_863 (lv_at hl 4 rfl) ?_
  refine r_iconst hx hb dL_law_865 ?_
  refine r_iadd hx hb dL_law_866 ?_
  refine r_sld C hX hbl hbA w hL (by omega) (by omega) dL_law_867 ?_
  refine lv_aload_n hx hb dL_law_868 rfl (lv_at hl 0 rfl) ?_
  refine lv_iload hx hb dL_law_869 (lv_at hl 4 rfl) ?_
  refine r_iconst hx hb dL_law_871 ?_
  refine r_iadd hx hb dL_law_872 ?_
  refine r_sld C hX hbl hbA w hL (by omega) (by omega) dL_law_873 ?_
  refine lv_aload_n hx hb dL_law_874 rfl (lv_at hl 0 rfl) ?_
  refine lv_iload hx hb dL_law_875 (lv_at hl 4 rfl) ?_
  refine r_iconst hx hb dL_law_877 ?_
  refine r_iadd hx hb dL_law_878 ?_
  refine r_sld C hX hbl hbA w hL (by omega) (by omega) dL_law_879 ?_
  refine lv_aload_n hx hb dL_law_880 rfl (lv_at hl 0 rfl) ?_
  refine lv_iload hx hb dL_law_881 (lv_at hl 4 rfl) ?_
  refine r_iconst hx hb dL_law_883 ?_
  refine r_iadd hx hb dL_law_884 ?_
  refine r_sld C hX hbl hbA w hL (by omega) (by omega) dL_law_885 ?_
  refine dVI (X := []) (ws := xw cy a z g) (Z := ow cy q f ++ mw cy a2 y k) C w hA (ct_X9_wire l D cy a z g (sc xs (i + 1)) (sc xs (i + 2)) (sc xs (i + 3)) (sc xs (i + 4)) hz hg (sc_R xs (i + 1)) (sc_R xs (i + 2)) (sc_R xs (i + 3)) (sc_R xs (i + 4))) ok_X9_wire km_L_105 ⟨rfl, rfl⟩ ⟨by decide, by decide⟩ ⟨by show 75 + t + 0 ≤ 1106; omega, by show 8289 + 6 * t + 0 ≤ 16523; omega⟩ rfl 0 rfl rfl hl.1 rfl (Nat.le_of_ble_eq_true rfl) dL_law_886 (fun rv_1 uv_1 H locs w hp_1 => ?_)
  replace w : wd D A s.heap (LW cy a a2 q z g f y k) H locs := w
  refine lv_aload_n hx hb dL_law_889 rfl (lv_at hl 2 rfl) ?_
  refine lv_aload_n hx hb dL_law_890 rfl (lv_at hl 0 rfl) ?_
  refine lv_iload hx hb dL_law_891 (lv_at hl 4 rfl) ?_
  refine r_iconst hx hb dL_law_893 ?_
  refine r_iadd hx hb dL_law_894 ?_
  refine r_sld C hX hbl hbA w hL (by omega) (by omega) dL_law_895 ?_
  refine lv_aload_n hx hb dL_law_896 rfl (lv_at hl 0 rfl) ?_
  refine lv_iload hx hb dL_law_897 (lv_at hl 4 rfl) ?_
  refine r_iconst hx hb dL_law_899 ?_
  refine r_iadd hx hb dL_law_900 ?_
  refine r_sld C hX hbl hbA w hL (by omega) (by omega) dL_law_901 ?_
  refine lv_aload_n hx hb dL_law_902 rfl (lv_at hl 0 rfl) ?_
  refine lv_iload hx hb dL_law_903 (lv_at hl 4 rfl) ?_
  refine r_iconst hx hb dL_law_905 ?_
  refine r_iadd hx hb dL_law_906 ?_
  refine r_sld C hX hbl hbA w hL (by omega) (by omega) dL_law_907 ?_
  refine lv_aload_n hx hb dL_law_908 rfl (lv_at hl 0 rfl) ?_
  refine lv_iload hx hb dL_law_909 (lv_at hl 4 rfl) ?_
  refine r_iconst hx hb dL_law_911 ?_
  refine r_iadd hx hb dL_law_912 ?_
  refine r_sld C hX hbl hbA w hL (by omega) (by omega) dL_law_913 ?_
  refine mVI (X := xw cy a z g) (Y := ow cy q f) (ws := mw cy a2 y k) C w hA (ct_X10_wire l D cy a2 y k (sc xs (i + 1)) (sc xs (i + 2)) (sc xs (i + 3)) (sc xs (i + 4)) hzm hgm (sc_R xs (i + 1)) (sc_R xs (i + 2)) (sc_R xs (i + 3)) (sc_R xs (i + 4))) ok_X10_wire km_L_109 ⟨rfl, rfl⟩ ⟨by decide, by decide⟩ ⟨by show 75 + t + 0 + 0 ≤ 1106; omega, by show 8289 + 6 * t + 0 + 0 ≤ 16523; omega⟩ rfl 0 rfl rfl hl.1 rfl (Nat.le_of_ble_eq_true rfl) dL_law_914 (fun rv_2 uv_2 H locs w hp_2 => ?_)
  replace w : wd D A s.heap (LW cy a a2 q z g f uv_2.1 uv_2.2) H locs := w
  obtain ⟨hv, hrel⟩ := st_wire (sc xs (i + 1)) (sc xs (i + 2)) (sc xs (i + 3)) (sc xs (i + 4)) h rv_1 rv_2 uv_2 hp_1 hp_2
  refine r_icmp_same (tgt := 997) hx hb hv dL_law_917 (by decide) ?_
  refine W.widen (k := 75 + t + 1) (n := 8289 + 6 * t + 6) (by omega) (by omega) ?_
  exact hK z g _ uv_2.1 uv_2.2 _ _ _ hrel w hl
set_option maxHeartbeats 4000000 in
set_option maxRecDepth 100000 in
theorem lc_cars (hC : lcx p l s m args meth c D cy ad A b L xs) (hK : K9 p l e s m args below meth c Q D cy A b q a a2 i t) (ht : t < 512) (hi : 0 ≤ i) (hiL : i + 6 ≤ L) (h : RelA z g y k) (w : wd D A s.heap (LW cy a a2 q z g f y k) H locs) (hl : lv_has ls 8 (lvL b q a a2 i)) : W p l e room_1 s m args below meth c H locs (75 + t) (8289 + 6 * t) Q (F0 m 922 ls []) := by
  obtain ⟨C, hst9, hX, hbl, hbA, hA, hE, hT, hL⟩ := hC
  have hx := C.1
  have hb := C.2.1
  have hB := h.1
  obtain ⟨hz, hg, hzm, hgm⟩ := hB
  refine lv_aload_n hx hb dL_law_922 rfl (lv_at hl 1 rfl) ?_
  refine lv_aload_n hx hb dL_law_923 rfl (lv_at hl 0 rfl) ?_
  refine lv_iload hx hb dL_law_924 (lv_at hl 4 rfl) ?_
  refine r_iconst hx hb dL_law_926 ?_
  refine r_iadd hx hb dL_law_927 ?_
  refine r_sld C hX hbl hbA w hL (by omega) (by omega) dL_law_928 ?_
  refine dVI (X := []) (ws := xw cy a z g) (Z := ow cy q f ++ mw cy a2 y k) C w hA (ct_X9_cars l D cy a z g (sc xs (i + 1)) hz hg (sc_R xs (i + 1))) ok_X9_cars km_L_110 ⟨rfl, rfl⟩ ⟨by decide, by decide⟩ ⟨by show 75 + t + 0 ≤ 1106; omega, by show 8289 + 6 * t + 0 ≤ 16523; omega⟩ rfl 0 rfl rfl hl.1 rfl (Nat.le_of_ble_eq_true rfl) dL_law_929 (fun rv_1 uv_1 H locs w hp_1 => ?_)
  replace w : wd D A s.heap (LW cy a a2 q uv_1.1 uv_1.2 f y k) H locs := w
  refine lv_aload_n hx hb dL_law_932 rfl (lv_at hl 2 rfl) ?_
  refine lv_aload_n hx hb dL_law_933 rfl (lv_at hl 0 rfl) ?_
  refine lv_iload hx hb dL_law_934 (lv_at hl 4 rfl) ?_
  refine r_iconst hx hb dL_law_936 ?_
  refine r_iadd hx hb dL_law_937 ?_
  refine r_sld C hX hbl hbA w hL (by omega) (by omega) dL_law_938 ?_
  refine mVI (X := xw cy a uv_1.1 uv_1.2) (Y := ow cy q f) (ws := mw cy a2 y k) C w hA (ct_X10_cars l D cy a2 y k (sc xs (i + 1)) hzm hgm (sc_R xs (i + 1))) ok_X10_cars km_L_113 ⟨rfl, rfl⟩ ⟨by decide, by decide⟩ ⟨by show 75 + t + 0 + 0 ≤ 1106; omega, by show 8289 + 6 * t + 0 + 0 ≤ 16523; omega⟩ rfl 0 rfl rfl hl.1 rfl (Nat.le_of_ble_eq_true rfl) dL_law_939 (fun rv_2 uv_2 H locs w hp_2 => ?_)
  replace w : wd D A s.heap (LW cy a a2 q uv_1.1 uv_1.2 f uv_2.1 uv_2.2) H locs := w
  obtain ⟨hv, hrel⟩ := st_cars (sc xs (i + 1)) h rv_1 uv_1 rv_2 uv_2 hp_1 hp_2
  refine r_icmp_same (tgt := 997) hx hb hv dL_law_942 (by decide) ?_
  refine W.widen (k := 75 + t + 1) (n := 8289 + 6 * t + 6) (by omega) (by omega) ?_
  exact hK uv_1.1 uv_1.2 _ uv_2.1 uv_2.2 _ _ _ hrel w hl
set_option maxHeartbeats 4000000 in
set_option maxRecDepth 100000 in
theorem lc_sent (hC : lcx p l s m args meth c D cy ad A b L xs) (hK : K9 p l e s m args below meth c Q D cy A b q a a2 i t) (ht : t < 512) (hi : 0 ≤ i) (hiL : i + 6 ≤ L) (h : RelA z g y k) (w : wd D A s.heap (LW cy a a2 q z g f y k) H locs) (hl : lv_has ls 8 (lvL b q a a2 i)) : W p l e room_1 s m args below meth c H locs (75 + t) (8289 + 6 * t) Q (F0 m 947 ls []) := by
  obtain ⟨C, hst9, hX, hbl, hbA, hA, hE, hT, hL⟩ := hC
  have hx := C.1
  have hb := C.2.1
  have hB := h.1
  obtain ⟨hz, hg, hzm, hgm⟩ := hB
  refine lv_aload_n hx hb dL_law_947 rfl (lv_at hl 1 rfl) ?_
  refine lv_aload_n hx hb dL_law_948 rfl (lv_at hl 0 rfl) ?_
  refine lv_iload hx hb dL_law_949 (lv_at hl 4 rfl) ?_
  refine r_iconst hx hb dL_law_951 ?_
  refine r_iadd hx hb dL_law_952 ?_
  refine r_sld C hX hbl hbA w hL (by omega) (by omega) dL_law_953 ?_
  refine dVI (X := []) (ws := xw cy a z g) (Z := ow cy q f ++ mw cy a2 y k) C w hA (ct_X9_sent l D cy a z g (sc xs (i + 1)) hz hg (sc_R xs (i + 1))) ok_X9_sent km_L_114 ⟨rfl, rfl⟩ ⟨by decide, by decide⟩ ⟨by show 75 + t + 0 ≤ 1106; omega, by show 8289 + 6 * t + 0 ≤ 16523; omega⟩ rfl 0 rfl rfl hl.1 rfl (Nat.le_of_ble_eq_true rfl) dL_law_954 (fun rv_1 uv_1 H locs w hp_1 => ?_)
  replace w : wd D A s.heap (LW cy a a2 q z g f y k) H locs := w
  refine lv_aload_n hx hb dL_law_957 rfl (lv_at hl 2 rfl) ?_
  refine lv_aload_n hx hb dL_law_958 rfl (lv_at hl 0 rfl) ?_
  refine lv_iload hx hb dL_law_959 (lv_at hl 4 rfl) ?_
  refine r_iconst hx hb dL_law_961 ?_
  refine r_iadd hx hb dL_law_962 ?_
  refine r_sld C hX hbl hbA w hL (by omega) (by omega) dL_law_963 ?_
  refine mVI (X := xw cy a z g) (Y := ow cy q f) (ws := mw cy a2 y k) C w hA (ct_X10_sent l D cy a2 y k (sc xs (i + 1)) hzm hgm (sc_R xs (i + 1))) ok_X10_sent km_L_117 ⟨rfl, rfl⟩ ⟨by decide, by decide⟩ ⟨by show 75 + t + 0 + 0 ≤ 1106; omega, by show 8289 + 6 * t + 0 + 0 ≤ 16523; omega⟩ rfl 0 rfl rfl hl.1 rfl (Nat.le_of_ble_eq_true rfl) dL_law_964 (fun rv_2 uv_2 H locs w hp_2 => ?_)
  replace w : wd D A s.heap (LW cy a a2 q z g f uv_2.1 uv_2.2) H locs := w
  obtain ⟨hv, hrel⟩ := st_sent (sc xs (i + 1)) h rv_1 rv_2 uv_2 hp_1 hp_2
  refine r_icmp_same (tgt := 997) hx hb hv dL_law_967 (by decide) ?_
  refine W.widen (k := 75 + t + 1) (n := 8289 + 6 * t + 6) (by omega) (by omega) ?_
  exact hK z g _ uv_2.1 uv_2.2 _ _ _ hrel w hl
set_option maxHeartbeats 4000000 in
set_option maxRecDepth 100000 in
theorem lc_count (hC : lcx p l s m args meth c D cy ad A b L xs) (hK : K9 p l e s m args below meth c Q D cy A b q a a2 i t) (ht : t < 512) (hi : 0 ≤ i) (hiL : i + 6 ≤ L) (h : RelA z g y k) (w : wd D A s.heap (LW cy a a2 q z g f y k) H locs) (hl : lv_has ls 8 (lvL b q a a2 i)) : W p l e room_1 s m args below meth c H locs (75 + t) (8289 + 6 * t) Q (F0 m 972 ls []) := by
  obtain ⟨C, hst9, hX, hbl, hbA, hA, hE, hT, hL⟩ := hC
  have hx := C.1
  have hb := C.2.1
  have hB := h.1
  obtain ⟨hz, hg, hzm, hgm⟩ := hB
  refine lv_aload_n hx hb dL_law_972 rfl (lv_at hl 1 rfl) ?_
  refine lv_aload_n hx hb dL_law_973 rfl (lv_at hl 0 rfl) ?_
  refine lv_iload hx hb dL_law_974 (lv_at hl 4 rfl) ?_
  refine r_iconst hx hb dL_law_976 ?_
  refine r_iadd hx hb dL_law_977 ?_
  refine r_sld C hX hbl hbA w hL (by omega) (by omega) dL_law_978 ?_
  refine dVI (X := []) (ws := xw cy a z g) (Z := ow cy q f ++ mw cy a2 y k) C w hA (ct_X9_count l D cy a z g (sc xs (i + 1)) hz hg (sc_R xs (i + 1))) ok_X9_count km_L_118 ⟨rfl, rfl⟩ ⟨by decide, by decide⟩ ⟨by show 75 + t + 0 ≤ 1106; omega, by show 8289 + 6 * t + 0 ≤ 16523; omega⟩ rfl 0 rfl rfl hl.1 rfl (Nat.le_of_ble_eq_true rfl) dL_law_979 (fun rv_1 uv_1 H locs w hp_1 => ?_)
  replace w : wd D A s.heap (LW cy a a2 q z g f y k) H locs := w
  refine lv_aload_n hx hb dL_law_982 rfl (lv_at hl 2 rfl) ?_
  refine lv_aload_n hx hb dL_law_983 rfl (lv_at hl 0 rfl) ?_
  refine lv_iload hx hb dL_law_984 (lv_at hl 4 rfl) ?_
  refine r_iconst hx hb dL_law_986 ?_
  refine r_iadd hx hb dL_law_987 ?_
  refine r_sld C hX hbl hbA w hL (by omega) (by omega) dL_law_988 ?_
  refine mVI (X := xw cy a z g) (Y := ow cy q f) (ws := mw cy a2 y k) C w hA (ct_X10_count l D cy a2 y k (sc xs (i + 1)) hzm hgm (sc_R xs (i + 1))) ok_X10_count km_L_121 ⟨rfl, rfl⟩ ⟨by decide, by decide⟩ ⟨by show 75 + t + 0 + 0 ≤ 1106; omega, by show 8289 + 6 * t + 0 + 0 ≤ 16523; omega⟩ rfl 0 rfl rfl hl.1 rfl (Nat.le_of_ble_eq_true rfl) dL_law_989 (fun rv_2 uv_2 H locs w hp_2 => ?_)
  replace w : wd D A s.heap (LW cy a a2 q z g f uv_2.1 uv_2.2) H locs := w
  obtain ⟨hv, hrel⟩ := st_count (sc xs (i + 1)) h rv_1 rv_2 uv_2 hp_1 hp_2
  refine r_icmp_same (tgt := 997) hx hb hv dL_law_992 (by decide) ?_
  refine W.widen (k := 75 + t + 1) (n := 8289 + 6 * t + 6) (by omega) (by omega) ?_
  exact hK z g _ uv_2.1 uv_2.2 _ _ _ hrel w hl
end LC
