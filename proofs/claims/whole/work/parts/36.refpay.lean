theorem r_ldc2 {p : Program} {l : Launch} {e : Env} {R : Room} {s : State} {m : MethodId} {args : Array Value} {below : List Frame} {meth : Method} {c : Code} {H : Heap} {locs : List Loc} {cells slots : Nat} {Q : State → Prop} {cc : ByteArray} {pc : Nat} {ls : Array Slot} {rest : List Value} (hx : p.tables.exec = Jvm.exec) (hb : c.code = cc) {own : String} {index : Nat} {v : Int64} {z : Int} (hown : s.vm.findClass own = some m.cls) (hconst : (Jvm.Cond.constantLong own index v).before args s = true) (hdg : decode cc pc = .ok (.ldc2_w index, 3)) (hz : v = lI z) (k : W p l e R s m args below meth c H locs cells slots Q (F0 m (pc + 3) ls (vL z :: rest))) : W p l e R s m args below meth c H locs cells slots Q (F0 m pc ls rest) := by
  subst hz
  exact lv_ldc2 hx hb hown hconst hdg k
theorem uZ_id {α : Type} (f : Nat → α) (k : Nat) : uZ f k (f k) = f := by
  funext j
  unfold uZ
  cases hk : Nat.beq j k
  · rfl
  · rw [Nat.eq_of_beq_eq_true hk]
    rfl
theorem poolM_0 (z : Nat → Int) (g : Nat → Int → Int) (t : Int) : poolM (uZ z 0 0) g t = poolM z g t := rfl
theorem tM_b {z : Nat → Int} {g : Nat → Int → Int} (hg : mBg g) (t s : Int) : 0 ≤ tM z g t s ∧ tM z g t s ≤ 9999000 := by
  have h1 := mul_b (mB19 hg s) (mB20 hg s)
  have h2 := clM_b (z := z) hg s
  unfold tM
  split <;> split <;> omega
theorem poolM_b {z : Nat → Int} {g : Nat → Int → Int} (hz : mBz z) (hg : mBg g) (t : Int) : 0 ≤ poolM z g t ∧ poolM z g t ≤ 3999600000 := by
  have h1 := mZ13 hz
  have h2 := sumI_b (f := tM z g t) (c := 9999000) h1.1 (fun j _ _ => tM_b hg t j)
  unfold poolM
  omega
def wgM (g : Nat → Int → Int) (t s : Int) : Int := if cntM g t s then g 19 s * g 2 (4 + g 7 (g 16 s)) else 0
abbrev goM (g : Nat → Int → Int) : Int → Int := fun s => g 5 (g 16 s)
theorem wgM_b {g : Nat → Int → Int} (hg : mBg g) (t s : Int) : 0 ≤ wgM g t s ∧ wgM g t s ≤ 4999500 := by
  unfold wgM
  split
  · have := mul_b (mB19 hg s) (mB2 hg (4 + g 7 (g 16 s)))
    omega
  · omega
theorem wjF_c {gr w : Int → Int} {c : Int} (hc : 0 ≤ c) (hw : ∀ s, 0 ≤ w s ∧ w s ≤ c) (q s : Int) : 0 ≤ wjF gr w q s ∧ wjF gr w q s ≤ c := by
  unfold wjF
  have := hw s
  split <;> omega
def AM (z : Nat → Int) (g : Nat → Int → Int) (t : Int) : Int := sumI (wgM g t) (z 13)
def WM (z : Nat → Int) (g : Nat → Int → Int) (t q : Int) : Int := sumI (wjF (goM g) (wgM g t) q) (z 13)
theorem AM_b {z : Nat → Int} {g : Nat → Int → Int} (hz : mBz z) (hg : mBg g) (t : Int) : 0 ≤ AM z g t ∧ AM z g t ≤ 1999800000 := by
  have h1 := mZ13 hz
  have h2 := sumI_b (f := wgM g t) (c := 4999500) h1.1 (fun j _ _ => wgM_b hg t j)
  unfold AM
  omega
theorem WM_b {z : Nat → Int} {g : Nat → Int → Int} (hz : mBz z) (hg : mBg g) (t q : Int) : 0 ≤ WM z g t q ∧ WM z g t q ≤ 1999800000 := by
  have h1 := mZ13 hz
  have h2 := sumI_b (f := wjF (goM g) (wgM g t) q) (c := 4999500) h1.1 (fun j _ _ => wjF_c (by omega) (wgM_b hg t) q j)
  unfold WM
  omega
theorem WM_A {z : Nat → Int} {g : Nat → Int → Int} (hg : mBg g) (t : Int) : sumI (WM z g t) 8 = AM z g t := wjF_tot (fun s => by have := mB5 hg (g 16 s); show 0 ≤ g 5 (g 16 s) ∧ g 5 (g 16 s) < 8; omega) (z 13)
theorem qF_b {P A : Int} {W : Int → Int} {j : Int} (h : 0 ≤ P * W j) (hA : 1 ≤ A) : 0 ≤ qF P A W j ∧ qF P A W j ≤ P * W j := ⟨Int.ediv_nonneg h (by omega), Int.ediv_le_self _ h⟩
theorem rF_b {P A : Int} {W : Int → Int} {j : Int} (hA : 1 ≤ A) : 0 ≤ rF P A W j ∧ rF P A W j < A := ⟨Int.emod_nonneg _ (by omega), Int.emod_lt_of_pos _ (by omega)⟩
theorem pdF_b {q0 r : Int → Int} {k q : Int} : q0 q ≤ pdF q0 r k q ∧ pdF q0 r k q ≤ q0 q + 1 := by
  unfold pdF
  split <;> omega
theorem pd_0 {q0 r f : Int → Int} (h : ∀ q, 0 ≤ q → q < 8 → f q = q0 q) : ∀ q, 0 ≤ q → q < 8 → f q = pdF q0 r 0 q := by
  intro q h0 h1
  unfold pdF
  have := rk_b r (q := q) ⟨h0, h1⟩
  rw [if_neg (by omega), h q h0 h1]
  omega
theorem rs_0 {r f : Int → Int} (h : ∀ q, 0 ≤ q → q < 8 → f q = r q) : ∀ q, 0 ≤ q → q < 8 → f q = rsF r 0 q := by
  intro q h0 h1
  unfold rsF
  have := rk_b r (q := q) ⟨h0, h1⟩
  rw [if_neg (by omega), h q h0 h1]

abbrev rm_X10_pay : Room := { frames := 3, cells := 0, slots := 0, locals := 69 }
set_option maxHeartbeats 4000000 in
set_option maxRecDepth 100000 in
theorem ct_X10_pay (l : Launch) (D : va_G) (cy : Nat → ClassId) (a : Nat → Nat) (z : Nat → Int) (g : Nat → Int → Int) (p0 p1 : Int) (hz : mBz z) (hg : mBg g) (h0 : iR p0) (h1 : iR p1) : MI l yX10_pay cX10_pay 11 .int (rm_X10_pay) D cy (mw cy a z g) [.ref (a 0), vI p0, vI p1] (fun (v : Int) (u : sX) => ((¬ (0 ≤ p0 ∧ p0 < 8) ∧ v = -1 ∧ u = (uZ z 0 0, g)) ∨ ((0 ≤ p0 ∧ p0 < 8) ∧ v = payF (poolM z g p1) (AM z g p1) (WM z g p1) p0 ∧ u.1 = uZ z 0 0 ∧ ∃ f1 f2 f3 : Int → Int, u.2 = uZ (uZ (uZ g 24 f1) 25 f2) 26 f3)) ∧ mBz u.1 ∧ mBg u.2) (fun u => mw cy a u.1 u.2) 0 0 := by
  refine go_i (by decide +kernel) (Nat.le_of_ble_eq_true rfl) (Or.inl rfl) ?_
  intro p e s m args below meth c Q A ls C hnm hA w hl hend
  have hx := C.1
  have hb := C.2.1
  have bz0 : (0 : Int) ≤ 0 ∧ (0 : Int) ≤ 1 := by omega
  have b13_ := mZ13 hz
  have hAb := AM_b hz hg p1
  have hPb := poolM_b hz hg p1
  have hWb := WM_b hz hg p1
  have hPW : ∀ q, 0 ≤ poolM z g p1 * WM z g p1 q ∧ poolM z g p1 * WM z g p1 q ≤ 3999600000 * 1999800000 := fun q => mul_b hPb (hWb q)
  have hWA := WM_A (z := z) hg p1
  have J217 : ∀ N : Nat, ∀ (o7 : Int) (fw : Int → Int) (fr : Int → Int) (fp : Int → Int), (∀ j : Int, (-9223372036854775808 : Int) ≤ fr j ∧ fr j ≤ 9223372036854775807) → (∀ j : Int, (-9223372036854775808 : Int) ≤ fp j ∧ fp j ≤ 9223372036854775807) → (0 ≤ p0 ∧ p0 < 8) → (1 ≤ (AM z g p1)) → (∀ j : Int, (-9223372036854775808 : Int) ≤ fw j ∧ fw j ≤ 9223372036854775807) → (0 ≤ o7 ∧ o7 ≤ ovF (poolM z g p1) (AM z g p1) (WM z g p1)) → (∀ q, 0 ≤ q → q < 8 → fr q = rsF (rF (poolM z g p1) (AM z g p1) (WM z g p1)) (ovF (poolM z g p1) (AM z g p1) (WM z g p1) - o7) q) → (∀ q, 0 ≤ q → q < 8 → fp q = pdF (qF (poolM z g p1) (AM z g p1) (WM z g p1)) (rF (poolM z g p1) (AM z g p1) (WM z g p1)) (ovF (poolM z g p1) (AM z g p1) (WM z g p1) - o7) q) → (o7.toNat) < N → ∀ (H : Heap) (locs : List Loc) (ls : Array Slot), wd D A s.heap (mw cy a (uZ z 0 0) (uZ (uZ (uZ g 24 fw) 25 fr) 26 fp)) H locs → lv_has ls 11 [(0, .ref (a 0)), (1, vI p0), (7, vL o7)] → W p l e (rm_X10_pay) s m args below meth c H locs 0 0 Q (F0 m 217 ls []) := by
    intro N
    induction N with
    | zero => intro o7 fw fr fp bfr bfp hp0 hA1 bfw ho7 hfr hfp hN9; exact absurd hN9 (Nat.not_lt_zero _)
    | succ N ih217 =>
      intro o7 fw fr fp bfr bfp hp0 hA1 bfw ho7 hfr hfp hN217 H locs ls w hl
      have hov := ovF_b (P := poolM z g p1) (W := WM z g p1) hA1 hWA
      have J230 : ∀ N : Nat, ∀ (b9 : Int) (i10 : Int), (0 < o7) → (0 ≤ b9 ∧ b9 < i10) → (1 ≤ i10 ∧ i10 ≤ 8) → (∀ j, 0 ≤ j → j < i10 → fr j ≤ fr b9 ∧ (j < b9 → fr j < fr b9)) → ((8 - i10).toNat) < N → ∀ (H : Heap) (locs : List Loc) (ls : Array Slot), wd D A s.heap (mw cy a (uZ z 0 0) (uZ (uZ (uZ g 24 fw) 25 fr) 26 fp)) H locs → lv_has ls 11 [(0, .ref (a 0)), (1, vI p0), (7, vL o7), (9, vI b9), (10, vI i10)] → W p l e (rm_X10_pay) s m args below meth c H locs 0 0 Q (F0 m 230 ls []) := by
        intro N
        induction N with
        | zero => intro b9 i10 hlt hb9 hi10 hB hN9; exact absurd hN9 (Nat.not_lt_zero _)
        | succ N ih230 =>
          intro b9 i10 hlt hb9 hi10 hB hN230 H locs ls w hl
          refine lv_iload hx hb dX10_pay_230 (lv_at hl 4 rfl) ?_
          refine r_bipush hx hb dX10_pay_232 (by decide) ?_
          refine r_icmp_ge (tgt := 265) hx hb dX10_pay_234 (by decide) (by omega) (by omega) (fun c234 => ?_) (fun c234 => ?_)
          · skip
            have hpk : rkF (rF (poolM z g p1) (AM z g p1) (WM z g p1)) b9 = ovF (poolM z g p1) (AM z g p1) (WM z g p1) - o7 := rk_pick (w := fr) (by omega) (fun q _ _ => (rF_b hA1).1) hfr ⟨hb9.1, by omega⟩ (fun j a1 a2 => hB j a1 (by omega))
            have hpq := hPW b9
            have hqb := qF_b (A := AM z g p1) (W := WM z g p1) (j := b9) hpq.1 hA1
            have hpd := pdF_b (q0 := (qF (poolM z g p1) (AM z g p1) (WM z g p1))) (r := (rF (poolM z g p1) (AM z g p1) (WM z g p1))) (k := ovF (poolM z g p1) (AM z g p1) (WM z g p1) - o7) (q := b9)
            have hfb9 := hfp b9 hb9.1 (by omega)
            refine lv_aload_n hx hb dX10_pay_265 rfl (lv_at hl 0 rfl) ?_
            refine r_get C w 0 (v := .ref (a 26)) rfl rfl 39 (by decide) inX10 kf_X10_88 rfl dX10_pay_266 ?_
            refine lv_iload hx hb dX10_pay_269 (lv_at hl 3 rfl) ?_
            refine lv_dup2_11 hx hb dX10_pay_271 rfl rfl ?_
            refine r_lald C w 26 (f := fp) rfl (by omega) (by omega) (by decide) dX10_pay_272 ?_
            refine r_lconst (z := 1) hx hb dX10_pay_273 (by decide) ?_
            refine r_ladd hx hb dX10_pay_274 ?_
            refine r_last C w 26 (f := fp) rfl (by omega) (by omega) (by decide) (ws' := mw cy a (uZ z 0 0) (uZ (uZ (uZ g 24 fw) 25 fr) 26 (uI fp b9 ((fp b9) + 1)))) rfl dX10_pay_275 (fun H locs w => ?_)
            have bg1 : ∀ j : Int, (-9223372036854775808 : Int) ≤ (uI fp b9 ((fp b9) + 1)) j ∧ (uI fp b9 ((fp b9) + 1)) j ≤ 9223372036854775807 := uI_b bfp (by rw [hfb9]; exact ⟨by omega, by omega⟩)
            refine lv_aload_n hx hb dX10_pay_276 rfl (lv_at hl 0 rfl) ?_
            refine r_get C w 0 (v := .ref (a 25)) rfl rfl 38 (by decide) inX10 kf_X10_85 rfl dX10_pay_277 ?_
            refine lv_iload hx hb dX10_pay_280 (lv_at hl 3 rfl) ?_
            refine r_ldc2 (z := -1) hx hb C.2.2.2.1 (C.2.2.2.2.1 _ kk_X10_225) dX10_pay_282 (by decide) ?_
            refine r_last C w 25 (f := fr) rfl (by omega) (by omega) (by decide) (ws' := mw cy a (uZ z 0 0) (uZ (uZ (uZ g 24 fw) 25 (uI fr b9 (-1))) 26 (uI fp b9 ((fp b9) + 1)))) rfl dX10_pay_285 (fun H locs w => ?_)
            have bg2 : ∀ j : Int, (-9223372036854775808 : Int) ≤ (uI fr b9 (-1)) j ∧ (uI fr b9 (-1)) j ≤ 9223372036854775807 := uI_b bfr (by exact ⟨by omega, by omega⟩)
            refine lv_lload hx hb dX10_pay_286 (lv_at hl 2 rfl) ?_
            refine r_lconst (z := 1) hx hb dX10_pay_288 (by decide) ?_
            refine r_lsub hx hb dX10_pay_289 ?_
            refine lv_lstore (lv' := [(7, vL (o7 - 1)), (0, .ref (a 0)), (1, vI p0), (9, vI b9), (10, vI i10)]) hx hb dX10_pay_290 hl (by decide) rfl (fun ls hl => ?_)
            refine lv_goto (tgt := 217) hx hb dX10_pay_292 (by decide) ?_
            exact ih217 (o7 - 1) fw (uI fr b9 (-1)) (uI fp b9 ((fp b9) + 1)) bg2 bg1 (by omega) (by omega) (by exact bfw) (by omega) (by rw [show ovF (poolM z g p1) (AM z g p1) (WM z g p1) - (o7 - 1) = ovF (poolM z g p1) (AM z g p1) (WM z g p1) - o7 + 1 by omega]; exact rs_up hfr ⟨hb9.1, by omega⟩ hpk) (by rw [show ovF (poolM z g p1) (AM z g p1) (WM z g p1) - (o7 - 1) = ovF (poolM z g p1) (AM z g p1) (WM z g p1) - o7 + 1 by omega]; exact pd_up hfp ⟨hb9.1, by omega⟩ hpk) (by omega) _ _ _ w (lv_sub hl [1, 2, 0] rfl)
          · skip
            refine lv_aload_n hx hb dX10_pay_237 rfl (lv_at hl 0 rfl) ?_
            refine r_get C w 0 (v := .ref (a 25)) rfl rfl 38 (by decide) inX10 kf_X10_85 rfl dX10_pay_238 ?_
            refine lv_iload hx hb dX10_pay_241 (lv_at hl 4 rfl) ?_
            refine r_lald C w 25 (f := fr) rfl (by omega) (by omega) (by decide) dX10_pay_243 ?_
            refine lv_aload_n hx hb dX10_pay_244 rfl (lv_at hl 0 rfl) ?_
            refine r_get C w 0 (v := .ref (a 25)) rfl rfl 38 (by decide) inX10 kf_X10_85 rfl dX10_pay_245 ?_
            refine lv_iload hx hb dX10_pay_248 (lv_at hl 3 rfl) ?_
            refine r_lald C w 25 (f := fr) rfl (by omega) (by omega) (by decide) dX10_pay_250 ?_
            refine r_lcif_le (tgt := 259) hx hb dX10_pay_251 dX10_pay_252 (by decide) (by exact bfr _) (by exact bfr _) (fun c251 => ?_) (fun c251 => ?_)
            · skip
              refine r_iinc (lv' := [(10, vI (i10 + 1)), (0, .ref (a 0)), (1, vI p0), (7, vL o7), (9, vI b9)]) hx hb dX10_pay_259 hl (k := 4) rfl (by decide) rfl (fun ls hl => ?_)
              refine lv_goto (tgt := 230) hx hb dX10_pay_262 (by decide) ?_
              exact ih230 b9 (i10 + 1) (by omega) (by omega) (by omega) (by first | exact fst_mx hb9 hB (Or.inl ⟨c251, rfl⟩) | exact fst_mx hb9 hB (Or.inr ⟨c251, rfl⟩)) (by omega) _ _ _ w (lv_sub hl [1, 2, 3, 4, 0] rfl)
            · skip
              refine lv_iload hx hb dX10_pay_255 (lv_at hl 4 rfl) ?_
              refine lv_istore (lv' := [(9, vI i10), (0, .ref (a 0)), (1, vI p0), (7, vL o7), (10, vI i10)]) hx hb dX10_pay_257 hl (by decide) rfl (fun ls hl => ?_)
              refine r_iinc (lv' := [(10, vI (i10 + 1)), (9, vI i10), (0, .ref (a 0)), (1, vI p0), (7, vL o7)]) hx hb dX10_pay_259 hl (k := 4) rfl (by decide) rfl (fun ls hl => ?_)
              refine lv_goto (tgt := 230) hx hb dX10_pay_262 (by decide) ?_
              exact ih230 i10 (i10 + 1) (by omega) (by omega) (by omega) (by first | exact fst_mx hb9 hB (Or.inl ⟨c251, rfl⟩) | exact fst_mx hb9 hB (Or.inr ⟨c251, rfl⟩)) (by omega) _ _ _ w (lv_sub hl [2, 3, 4, 1, 0] rfl)
      refine lv_lload hx hb dX10_pay_217 (lv_at hl 2 rfl) ?_
      refine r_lconst (z := 0) hx hb dX10_pay_219 (by decide) ?_
      refine r_lcif_le (tgt := 295) hx hb dX10_pay_220 dX10_pay_221 (by decide) (by exact ⟨by omega, by omega⟩) (by exact ⟨by omega, by omega⟩) (fun c220 => ?_) (fun c220 => ?_)
      · skip
        refine lv_aload_n hx hb dX10_pay_295 rfl (lv_at hl 0 rfl) ?_
        refine r_get C w 0 (v := .ref (a 26)) rfl rfl 39 (by decide) inX10 kf_X10_88 rfl dX10_pay_296 ?_
        refine lv_iload_n hx hb dX10_pay_299 rfl (lv_at hl 1 rfl) ?_
        refine r_lald C w 26 (f := fp) rfl (by omega) (by omega) (by decide) dX10_pay_300 ?_
        refine r_l2i hx hb dX10_pay_301 ?_
        exact hend (fp p0) ((uZ z 0 0), (uZ (uZ (uZ g 24 fw) 25 fr) 26 fp)) _ _ _ _ dX10_pay_302 w ⟨(by refine Or.inr ⟨hp0, ?_, rfl, fw, fr, fp, rfl⟩; rw [hfp p0 hp0.1 hp0.2, show o7 = 0 by omega, Int.sub_zero]; unfold payF; rw [if_neg (by omega)]), (mBz_u hz 0 bz0), (mBg_u (mBg_u (mBg_u hg 24 bfw) 25 bfr) 26 bfp)⟩
      · skip
        refine r_iconst hx hb dX10_pay_224 ?_
        refine lv_istore (lv' := [(9, vI 0), (0, .ref (a 0)), (1, vI p0), (7, vL o7)]) hx hb dX10_pay_225 hl (by decide) rfl (fun ls hl => ?_)
        refine r_iconst hx hb dX10_pay_227 ?_
        refine lv_istore (lv' := [(10, vI 1), (9, vI 0), (0, .ref (a 0)), (1, vI p0), (7, vL o7)]) hx hb dX10_pay_228 hl (by decide) rfl (fun ls hl => ?_)
        exact J230 _ 0 1 (by omega) (by omega) (by omega) (by exact bh_in _) (Nat.lt_succ_self _) _ _ _ w (lv_sub hl [2, 3, 4, 1, 0] rfl)
  have J154 : ∀ N : Nat, ∀ (o7 : Int) (i9 : Int) (fw : Int → Int) (fr : Int → Int) (fp : Int → Int), (∀ j : Int, (-9223372036854775808 : Int) ≤ fr j ∧ fr j ≤ 9223372036854775807) → (∀ j : Int, (-9223372036854775808 : Int) ≤ fp j ∧ fp j ≤ 9223372036854775807) → (0 ≤ p0 ∧ p0 < 8) → (1 ≤ (AM z g p1)) → (∀ j : Int, (-9223372036854775808 : Int) ≤ fw j ∧ fw j ≤ 9223372036854775807) → (∀ q, 0 ≤ q → q < 8 → fw q = WM z g p1 q) → (0 ≤ i9 ∧ i9 ≤ 8) → (o7 = (poolM z g p1) - sumI (qF (poolM z g p1) (AM z g p1) (WM z g p1)) i9) → (∀ q, 0 ≤ q → q < i9 → fr q = (rF (poolM z g p1) (AM z g p1) (WM z g p1)) q) → (∀ q, 0 ≤ q → q < i9 → fp q = (qF (poolM z g p1) (AM z g p1) (WM z g p1)) q) → ((8 - i9).toNat) < N → ∀ (H : Heap) (locs : List Loc) (ls : Array Slot), wd D A s.heap (mw cy a (uZ z 0 0) (uZ (uZ (uZ g 24 fw) 25 fr) 26 fp)) H locs → lv_has ls 11 [(0, .ref (a 0)), (1, vI p0), (3, vL (AM z g p1)), (5, vL (poolM z g p1)), (7, vL o7), (9, vI i9)] → W p l e (rm_X10_pay) s m args below meth c H locs 0 0 Q (F0 m 154 ls []) := by
    intro N
    induction N with
    | zero => intro o7 i9 fw fr fp bfr bfp hp0 hA1 bfw hfw hi9 ho7 hfr hfp hN9; exact absurd hN9 (Nat.not_lt_zero _)
    | succ N ih154 =>
      intro o7 i9 fw fr fp bfr bfp hp0 hA1 bfw hfw hi9 ho7 hfr hfp hN154 H locs ls w hl
      have hPi := hPW i9
      have hov := ovF_b (P := poolM z g p1) (W := WM z g p1) hA1 hWA
      have hqb := qF_b (A := AM z g p1) (W := WM z g p1) (j := i9) hPi.1 hA1
      have hrb := rF_b (P := poolM z g p1) (W := WM z g p1) (j := i9) hA1
      refine lv_iload hx hb dX10_pay_154 (lv_at hl 5 rfl) ?_
      refine r_bipush hx hb dX10_pay_156 (by decide) ?_
      refine r_icmp_ge (tgt := 217) hx hb dX10_pay_158 (by decide) (by omega) (by omega) (fun c158 => ?_) (fun c158 => ?_)
      · skip
        exact J217 _ o7 fw fr fp bfr bfp (by omega) (by omega) (by exact bfw) (by rw [ho7, show i9 = 8 by omega]; exact ⟨hov.1, Int.le_refl _⟩) (by rw [show ovF (poolM z g p1) (AM z g p1) (WM z g p1) - o7 = 0 by (rw [ho7, show i9 = 8 by omega]; unfold ovF; omega)]; rw [show i9 = 8 by omega] at hfr; exact rs_0 hfr) (by rw [show ovF (poolM z g p1) (AM z g p1) (WM z g p1) - o7 = 0 by (rw [ho7, show i9 = 8 by omega]; unfold ovF; omega)]; rw [show i9 = 8 by omega] at hfp; exact pd_0 hfp) (Nat.lt_succ_self _) _ _ _ w (lv_sub hl [0, 1, 4] rfl)
      · skip
        refine lv_aload_n hx hb dX10_pay_161 rfl (lv_at hl 0 rfl) ?_
        refine r_get C w 0 (v := .ref (a 26)) rfl rfl 39 (by decide) inX10 kf_X10_88 rfl dX10_pay_162 ?_
        refine lv_iload hx hb dX10_pay_165 (lv_at hl 5 rfl) ?_
        refine lv_lload hx hb dX10_pay_167 (lv_at hl 3 rfl) ?_
        refine lv_aload_n hx hb dX10_pay_169 rfl (lv_at hl 0 rfl) ?_
        refine r_get C w 0 (v := .ref (a 24)) rfl rfl 37 (by decide) inX10 kf_X10_81 rfl dX10_pay_170 ?_
        refine lv_iload hx hb dX10_pay_173 (lv_at hl 5 rfl) ?_
        refine r_lald C w 24 (f := fw) rfl (by omega) (by omega) (by decide) dX10_pay_175 ?_
        refine r_asL (v := (WM z g p1 i9)) (by exact hfw i9 hi9.1 (by omega)) ?_
        refine r_lmul hx hb dX10_pay_176 ?_
        refine lv_lload_n hx hb dX10_pay_177 rfl (lv_at hl 2 rfl) ?_
        refine r_ldiv hx hb dX10_pay_178 (by exact ⟨by omega, by omega⟩) (by exact ⟨by omega, by omega⟩) (by omega) ?_
        refine r_asL (v := (qF (poolM z g p1) (AM z g p1) (WM z g p1) i9)) (by exact tdv hPi.1) ?_
        refine r_last C w 26 (f := fp) rfl (by omega) (by omega) (by decide) (ws' := mw cy a (uZ z 0 0) (uZ (uZ (uZ g 24 fw) 25 fr) 26 (uI fp i9 (qF (poolM z g p1) (AM z g p1) (WM z g p1) i9)))) rfl dX10_pay_179 (fun H locs w => ?_)
        have bg3 : ∀ j : Int, (-9223372036854775808 : Int) ≤ (uI fp i9 (qF (poolM z g p1) (AM z g p1) (WM z g p1) i9)) j ∧ (uI fp i9 (qF (poolM z g p1) (AM z g p1) (WM z g p1) i9)) j ≤ 9223372036854775807 := uI_b bfp (by exact ⟨by omega, by omega⟩)
        refine lv_aload_n hx hb dX10_pay_180 rfl (lv_at hl 0 rfl) ?_
        refine r_get C w 0 (v := .ref (a 25)) rfl rfl 38 (by decide) inX10 kf_X10_85 rfl dX10_pay_181 ?_
        refine lv_iload hx hb dX10_pay_184 (lv_at hl 5 rfl) ?_
        refine lv_lload hx hb dX10_pay_186 (lv_at hl 3 rfl) ?_
        refine lv_aload_n hx hb dX10_pay_188 rfl (lv_at hl 0 rfl) ?_
        refine r_get C w 0 (v := .ref (a 24)) rfl rfl 37 (by decide) inX10 kf_X10_81 rfl dX10_pay_189 ?_
        refine lv_iload hx hb dX10_pay_192 (lv_at hl 5 rfl) ?_
        refine r_lald C w 24 (f := fw) rfl (by omega) (by omega) (by decide) dX10_pay_194 ?_
        refine r_asL (v := (WM z g p1 i9)) (by exact hfw i9 hi9.1 (by omega)) ?_
        refine r_lmul hx hb dX10_pay_195 ?_
        refine lv_lload_n hx hb dX10_pay_196 rfl (lv_at hl 2 rfl) ?_
        refine r_lrem hx hb dX10_pay_197 (by exact ⟨by omega, by omega⟩) (by exact ⟨by omega, by omega⟩) (by omega) ?_
        refine r_asL (v := (rF (poolM z g p1) (AM z g p1) (WM z g p1) i9)) (by exact tmd hPi.1) ?_
        refine r_last C w 25 (f := fr) rfl (by omega) (by omega) (by decide) (ws' := mw cy a (uZ z 0 0) (uZ (uZ (uZ g 24 fw) 25 (uI fr i9 (rF (poolM z g p1) (AM z g p1) (WM z g p1) i9))) 26 (uI fp i9 (qF (poolM z g p1) (AM z g p1) (WM z g p1) i9)))) rfl dX10_pay_198 (fun H locs w => ?_)
        have bg4 : ∀ j : Int, (-9223372036854775808 : Int) ≤ (uI fr i9 (rF (poolM z g p1) (AM z g p1) (WM z g p1) i9)) j ∧ (uI fr i9 (rF (poolM z g p1) (AM z g p1) (WM z g p1) i9)) j ≤ 9223372036854775807 := uI_b bfr (by exact ⟨by omega, by omega⟩)
        refine lv_lload hx hb dX10_pay_199 (lv_at hl 4 rfl) ?_
        refine lv_aload_n hx hb dX10_pay_201 rfl (lv_at hl 0 rfl) ?_
        refine r_get C w 0 (v := .ref (a 26)) rfl rfl 39 (by decide) inX10 kf_X10_88 rfl dX10_pay_202 ?_
        refine lv_iload hx hb dX10_pay_205 (lv_at hl 5 rfl) ?_
        refine r_lald C w 26 (f := (uI fp i9 (qF (poolM z g p1) (AM z g p1) (WM z g p1) i9))) rfl (by omega) (by omega) (by decide) dX10_pay_207 ?_
        refine r_asL (v := (qF (poolM z g p1) (AM z g p1) (WM z g p1) i9)) (by exact uI_s _ _ _) ?_
        refine r_lsub hx hb dX10_pay_208 ?_
        refine lv_lstore (lv' := [(7, vL (o7 - (qF (poolM z g p1) (AM z g p1) (WM z g p1) i9))), (0, .ref (a 0)), (1, vI p0), (3, vL (AM z g p1)), (5, vL (poolM z g p1)), (9, vI i9)]) hx hb dX10_pay_209 hl (by decide) rfl (fun ls hl => ?_)
        refine r_iinc (lv' := [(9, vI (i9 + 1)), (7, vL (o7 - (qF (poolM z g p1) (AM z g p1) (WM z g p1) i9))), (0, .ref (a 0)), (1, vI p0), (3, vL (AM z g p1)), (5, vL (poolM z g p1))]) hx hb dX10_pay_211 hl (k := 5) rfl (by decide) rfl (fun ls hl => ?_)
        refine lv_goto (tgt := 154) hx hb dX10_pay_214 (by decide) ?_
        exact ih154 (o7 - (qF (poolM z g p1) (AM z g p1) (WM z g p1) i9)) (i9 + 1) fw (uI fr i9 (rF (poolM z g p1) (AM z g p1) (WM z g p1) i9)) (uI fp i9 (qF (poolM z g p1) (AM z g p1) (WM z g p1) i9)) bg4 bg3 (by omega) (by omega) (by exact bfw) (by exact hfw) (by omega) (by rw [sumI_s _ hi9.1, ho7]; omega) (by exact ini_st hfr _ rfl) (by exact ini_st hfp _ rfl) (by omega) _ _ _ w (lv_sub hl [2, 3, 4, 5, 1, 0] rfl)
  have J46 : ∀ N : Nat, ∀ (t3 : Int) (i5 : Int) (f : Int → Int), (∀ j : Int, (-9223372036854775808 : Int) ≤ f j ∧ f j ≤ 9223372036854775807) → (0 ≤ p0 ∧ p0 < 8) → (0 ≤ i5 ∧ i5 ≤ z 13) → (t3 = sumI (wgM g p1) i5) → (∀ q, 0 ≤ q → q < 8 → f q = sumI (wjF (goM g) (wgM g p1) q) i5) → ((z 13 - i5).toNat) < N → ∀ (H : Heap) (locs : List Loc) (ls : Array Slot), wd D A s.heap (mw cy a (uZ z 0 0) (uZ g 24 f)) H locs → lv_has ls 11 [(0, .ref (a 0)), (1, vI p0), (2, vI p1), (3, vL t3), (5, vI i5)] → W p l e (rm_X10_pay) s m args below meth c H locs 0 0 Q (F0 m 46 ls []) := by
    intro N
    induction N with
    | zero => intro t3 i5 f bf hp0 hi5 ht hf hN9; exact absurd hN9 (Nat.not_lt_zero _)
    | succ N ih46 =>
      intro t3 i5 f bf hp0 hi5 ht hf hN46 H locs ls w hl
      refine lv_iload hx hb dX10_pay_46 (lv_at hl 4 rfl) ?_
      refine lv_aload_n hx hb dX10_pay_48 rfl (lv_at hl 0 rfl) ?_
      refine r_get C w 0 (v := vI (z 13)) rfl rfl 34 (by decide) inX10 kf_X10_198 rfl dX10_pay_49 ?_
      have qz5 := mZ13 hz
      refine r_icmp_ge (tgt := 132) hx hb dX10_pay_52 (by decide) (by omega) (by omega) (fun c52 => ?_) (fun c52 => ?_)
      · skip
        refine lv_lload_n hx hb dX10_pay_132 rfl (lv_at hl 3 rfl) ?_
        refine r_lconst (z := 0) hx hb dX10_pay_133 (by decide) ?_
        refine r_lcif_ne (tgt := 140) hx hb dX10_pay_134 dX10_pay_135 (by decide) (by rw [ht, show i5 = z 13 by omega]; show lR (AM z g p1); exact ⟨by omega, by omega⟩) (by exact ⟨by omega, by omega⟩) (fun c134 => ?_) (fun c134 => ?_)
        · skip
          refine lv_aload_n hx hb dX10_pay_140 rfl (lv_at hl 0 rfl) ?_
          refine lv_iload_n hx hb dX10_pay_141 rfl (lv_at hl 2 rfl) ?_
          refine cVL C w hA (ct_X10_poolOf l D cy a (uZ z 0 0) (uZ g 24 f) p1 (mBz_u hz 0 bz0) (mBg_u hg 24 bf) (by show iR p1; omega)) ok_X10_poolOf km_X10_221 ⟨rfl, rfl⟩ ⟨by decide, by decide⟩ ⟨by decide, by decide⟩ rfl 0 rfl rfl hl.1 rfl (Nat.le_of_ble_eq_true rfl) dX10_pay_142 (fun rv_1 uv_1 H locs w hp_1 => ?_)
          replace w : wd D A s.heap (mw cy a (uZ z 0 0) (uZ g 24 f)) H locs := w
          replace hp_1 : rv_1 = poolM z g p1 := hp_1
          refine r_asL (v := (poolM z g p1)) (by assumption) ?_
          refine lv_lstore (lv' := [(5, vL (poolM z g p1)), (0, .ref (a 0)), (1, vI p0), (2, vI p1), (3, vL t3)]) hx hb dX10_pay_145 hl (by decide) rfl (fun ls hl => ?_)
          refine lv_lload hx hb dX10_pay_147 (lv_at hl 0 rfl) ?_
          refine lv_lstore (lv' := [(7, vL (poolM z g p1)), (5, vL (poolM z g p1)), (0, .ref (a 0)), (1, vI p0), (2, vI p1), (3, vL t3)]) hx hb dX10_pay_149 hl (by decide) rfl (fun ls hl => ?_)
          refine r_iconst hx hb dX10_pay_151 ?_
          refine lv_istore (lv' := [(9, vI 0), (7, vL (poolM z g p1)), (5, vL (poolM z g p1)), (0, .ref (a 0)), (1, vI p0), (2, vI p1), (3, vL t3)]) hx hb dX10_pay_152 hl (by decide) rfl (fun ls hl => ?_)
          have ht2 : t3 = AM z g p1 := by rw [ht, show i5 = z 13 by omega]; rfl
          rw [ht2] at hl
          exact J154 _ (poolM z g p1) 0 f (g 25) (g 26) (mB25 hg) (mB26 hg) (by omega) (by omega) (by exact bf) (by rw [show i5 = z 13 by omega] at hf; exact hf) (by omega) (by show _ = _ - 0; omega) (by intro q h1 h2; omega) (by intro q h1 h2; omega) (Nat.lt_succ_self _) _ _ _ w (lv_sub hl [3, 4, 6, 2, 1, 0] rfl)
        · skip
          refine r_iconst hx hb dX10_pay_138 ?_
          exact hend 0 ((uZ z 0 0), (uZ g 24 f)) _ _ _ _ dX10_pay_139 w ⟨(by refine Or.inr ⟨hp0, ?_, rfl, f, g 25, g 26, ?_⟩; exact (if_pos (by have q : AM z g p1 = sumI (wgM g p1) i5 := (by rw [show i5 = z 13 by omega]; rfl); omega)).symm; rw [show uZ (uZ (uZ g 24 f) 25 (g 25)) 26 (g 26) = uZ g 24 f from (by rw [show uZ (uZ g 24 f) 25 (g 25) = uZ g 24 f from uZ_id (uZ g 24 f) 25]; exact uZ_id (uZ g 24 f) 26)]), (mBz_u hz 0 bz0), (mBg_u hg 24 bf)⟩
      · skip
        refine lv_aload_n hx hb dX10_pay_55 rfl (lv_at hl 0 rfl) ?_
        refine lv_iload hx hb dX10_pay_56 (lv_at hl 4 rfl) ?_
        refine lv_iload_n hx hb dX10_pay_58 rfl (lv_at hl 2 rfl) ?_
        refine cVI C w hA (ct_X10_counts l D cy a (uZ z 0 0) (uZ g 24 f) i5 p1 (mBz_u hz 0 bz0) (mBg_u hg 24 bf) (by show 0 ≤ i5 ∧ i5 < 400; omega) (by show iR p1; omega)) ok_X10_counts km_X10_218 ⟨rfl, rfl⟩ ⟨by decide, by decide⟩ ⟨by decide, by decide⟩ rfl 0 rfl rfl hl.1 rfl (Nat.le_of_ble_eq_true rfl) dX10_pay_59 (fun rv_2 uv_2 H locs w hp_2 => ?_)
        replace hp_2 : (rv_2 = 1 ∧ (g 18) i5 ≤ p1 ∧ ((g 21) i5 = -1 ∨ p1 < (g 21) i5)) ∨ (rv_2 = 0 ∧ ¬ ((g 18) i5 ≤ p1 ∧ ((g 21) i5 = -1 ∨ p1 < (g 21) i5))) := hp_2
        replace w : wd D A s.heap (mw cy a (uZ z 0 0) (uZ g 24 f)) H locs := w
        refine r_if_ne (tgt := 68) hx hb dX10_pay_62 (by decide) (by omega) (fun c62 => ?_) (fun c62 => ?_)
        · skip
          refine lv_aload_n hx hb dX10_pay_68 rfl (lv_at hl 0 rfl) ?_
          refine r_get C w 0 (v := .ref (a 19)) rfl rfl 31 (by decide) inX10 kf_X10_66 rfl dX10_pay_69 ?_
          refine lv_iload hx hb dX10_pay_72 (lv_at hl 4 rfl) ?_
          refine r_iald C w 19 (f := (g 19)) rfl (by omega) (by omega) (by decide) dX10_pay_74 ?_
          have qg6 := mB19 hg i5
          refine r_i2l hx hb dX10_pay_75 (by omega) ?_
          refine lv_aload_n hx hb dX10_pay_76 rfl (lv_at hl 0 rfl) ?_
          refine r_get C w 0 (v := .ref (a 2)) rfl rfl 5 (by decide) inX10 kf_X10_13 rfl dX10_pay_77 ?_
          refine r_iconst hx hb dX10_pay_80 ?_
          refine lv_aload_n hx hb dX10_pay_81 rfl (lv_at hl 0 rfl) ?_
          refine r_get C w 0 (v := .ref (a 7)) rfl rfl 17 (by decide) inX10 kf_X10_30 rfl dX10_pay_82 ?_
          refine lv_aload_n hx hb dX10_pay_85 rfl (lv_at hl 0 rfl) ?_
          refine r_get C w 0 (v := .ref (a 16)) rfl rfl 28 (by decide) inX10 kf_X10_57 rfl dX10_pay_86 ?_
          refine lv_iload hx hb dX10_pay_89 (lv_at hl 4 rfl) ?_
          refine r_iald C w 16 (f := (g 16)) rfl (by omega) (by omega) (by decide) dX10_pay_91 ?_
          have qg7 := mB16 hg i5
          refine r_iald C w 7 (f := (g 7)) rfl (by omega) (by omega) (by decide) dX10_pay_92 ?_
          have qg8 := mB7 hg ((g 16) i5)
          refine r_iadd hx hb dX10_pay_93 ?_
          refine r_iald C w 2 (f := (g 2)) rfl (by omega) (by omega) (by decide) dX10_pay_94 ?_
          have qg9 := mB2 hg (4 + ((g 7) ((g 16) i5)))
          refine r_i2l hx hb dX10_pay_95 (by omega) ?_
          refine r_lmul hx hb dX10_pay_96 ?_
          refine lv_lstore (lv' := [(6, vL (((g 19) i5) * ((g 2) (4 + ((g 7) ((g 16) i5)))))), (0, .ref (a 0)), (1, vI p0), (2, vI p1), (3, vL t3), (5, vI i5)]) hx hb dX10_pay_97 hl (by decide) rfl (fun ls hl => ?_)
          refine lv_aload_n hx hb dX10_pay_99 rfl (lv_at hl 1 rfl) ?_
          refine r_get C w 0 (v := .ref (a 24)) rfl rfl 37 (by decide) inX10 kf_X10_81 rfl dX10_pay_100 ?_
          refine lv_aload_n hx hb dX10_pay_103 rfl (lv_at hl 1 rfl) ?_
          refine r_get C w 0 (v := .ref (a 5)) rfl rfl 15 (by decide) inX10 kf_X10_24 rfl dX10_pay_104 ?_
          refine lv_aload_n hx hb dX10_pay_107 rfl (lv_at hl 1 rfl) ?_
          refine r_get C w 0 (v := .ref (a 16)) rfl rfl 28 (by decide) inX10 kf_X10_57 rfl dX10_pay_108 ?_
          refine lv_iload hx hb dX10_pay_111 (lv_at hl 5 rfl) ?_
          refine r_iald C w 16 (f := (g 16)) rfl (by omega) (by omega) (by decide) dX10_pay_113 ?_
          have qg10 := mB16 hg i5
          refine r_iald C w 5 (f := (g 5)) rfl (by omega) (by omega) (by decide) dX10_pay_114 ?_
          have qg11 := mB5 hg ((g 16) i5)
          have hgr := mB5 hg (g 16 i5)
          have hfg := hf (g 5 (g 16 i5)) (by omega) (by omega)
          have hfb := sumI_b (f := wjF (goM g) (wgM g p1) (g 5 (g 16 i5))) (c := 4999500) hi5.1 (fun j _ _ => wjF_c (by omega) (wgM_b hg p1) _ j)
          have hwi : g 19 i5 * g 2 (4 + g 7 (g 16 i5)) = wgM g p1 i5 := (if_pos (by omega)).symm
          have hwb := wgM_b hg p1 i5
          refine lv_dup2_11 hx hb dX10_pay_115 rfl rfl ?_
          refine r_lald C w 24 (f := f) rfl (by omega) (by omega) (by decide) dX10_pay_116 ?_
          refine lv_lload hx hb dX10_pay_117 (lv_at hl 0 rfl) ?_
          refine r_ladd hx hb dX10_pay_119 ?_
          refine r_last C w 24 (f := f) rfl (by omega) (by omega) (by decide) (ws' := mw cy a (uZ z 0 0) (uZ g 24 (uI f ((g 5) ((g 16) i5)) ((f ((g 5) ((g 16) i5))) + (((g 19) i5) * ((g 2) (4 + ((g 7) ((g 16) i5))))))))) rfl dX10_pay_120 (fun H locs w => ?_)
          have bg12 : ∀ j : Int, (-9223372036854775808 : Int) ≤ (uI f ((g 5) ((g 16) i5)) ((f ((g 5) ((g 16) i5))) + (((g 19) i5) * ((g 2) (4 + ((g 7) ((g 16) i5))))))) j ∧ (uI f ((g 5) ((g 16) i5)) ((f ((g 5) ((g 16) i5))) + (((g 19) i5) * ((g 2) (4 + ((g 7) ((g 16) i5))))))) j ≤ 9223372036854775807 := uI_b bf (by rw [hwi, hfg]; exact ⟨by omega, by omega⟩)
          refine lv_lload_n hx hb dX10_pay_121 rfl (lv_at hl 4 rfl) ?_
          refine lv_lload hx hb dX10_pay_122 (lv_at hl 0 rfl) ?_
          refine r_ladd hx hb dX10_pay_124 ?_
          refine lv_lstore_n (lv' := [(3, vL (t3 + (((g 19) i5) * ((g 2) (4 + ((g 7) ((g 16) i5))))))), (6, vL (((g 19) i5) * ((g 2) (4 + ((g 7) ((g 16) i5)))))), (0, .ref (a 0)), (1, vI p0), (2, vI p1), (5, vI i5)]) hx hb dX10_pay_125 rfl hl (by decide) rfl (fun ls hl => ?_)
          refine r_iinc (lv' := [(5, vI (i5 + 1)), (3, vL (t3 + (((g 19) i5) * ((g 2) (4 + ((g 7) ((g 16) i5))))))), (6, vL (((g 19) i5) * ((g 2) (4 + ((g 7) ((g 16) i5)))))), (0, .ref (a 0)), (1, vI p0), (2, vI p1)]) hx hb dX10_pay_126 hl (k := 5) rfl (by decide) rfl (fun ls hl => ?_)
          refine lv_goto (tgt := 46) hx hb dX10_pay_129 (by decide) ?_
          exact ih46 (t3 + (((g 19) i5) * ((g 2) (4 + ((g 7) ((g 16) i5)))))) (i5 + 1) (uI f ((g 5) ((g 16) i5)) ((f ((g 5) ((g 16) i5))) + (((g 19) i5) * ((g 2) (4 + ((g 7) ((g 16) i5))))))) bg12 (by omega) (by omega) (by rw [sumI_s _ hi5.1, ← ht]; first | rw [hwi] | (rw [show wgM g p1 i5 = 0 from if_neg (by omega)]; omega)) (by first | exact wj_up (gr := goM g) hi5.1 hf hwi | exact wj_kp hi5.1 hf (if_neg (by omega))) (by omega) _ _ _ w (lv_sub hl [3, 4, 5, 1, 0] rfl)
        · skip
          refine lv_goto (tgt := 126) hx hb dX10_pay_65 (by decide) ?_
          refine r_iinc (lv' := [(5, vI (i5 + 1)), (0, .ref (a 0)), (1, vI p0), (2, vI p1), (3, vL t3)]) hx hb dX10_pay_126 hl (k := 4) rfl (by decide) rfl (fun ls hl => ?_)
          refine lv_goto (tgt := 46) hx hb dX10_pay_129 (by decide) ?_
          exact ih46 t3 (i5 + 1) f bf (by omega) (by omega) (by rw [sumI_s _ hi5.1, ← ht]; first | rw [hwi] | (rw [show wgM g p1 i5 = 0 from if_neg (by omega)]; omega)) (by first | exact wj_up (gr := goM g) hi5.1 hf hwi | exact wj_kp hi5.1 hf (if_neg (by omega))) (by omega) _ _ _ w (lv_sub hl [1, 2, 3, 4, 0] rfl)
  have J22 : ∀ N : Nat, ∀ (i5 : Int) (f : Int → Int), (∀ j : Int, (-9223372036854775808 : Int) ≤ f j ∧ f j ≤ 9223372036854775807) → (0 ≤ p0 ∧ p0 < 8) → (0 ≤ i5 ∧ i5 ≤ 8) → (∀ q, 0 ≤ q → q < i5 → f q = 0) → ((8 - i5).toNat) < N → ∀ (H : Heap) (locs : List Loc) (ls : Array Slot), wd D A s.heap (mw cy a (uZ z 0 0) (uZ g 24 f)) H locs → lv_has ls 11 [(0, .ref (a 0)), (1, vI p0), (2, vI p1), (3, vL 0), (5, vI i5)] → W p l e (rm_X10_pay) s m args below meth c H locs 0 0 Q (F0 m 22 ls []) := by
    intro N
    induction N with
    | zero => intro i5 f bf hp0 hi5 hf hN9; exact absurd hN9 (Nat.not_lt_zero _)
    | succ N ih22 =>
      intro i5 f bf hp0 hi5 hf hN22 H locs ls w hl
      refine lv_iload hx hb dX10_pay_22 (lv_at hl 4 rfl) ?_
      refine r_bipush hx hb dX10_pay_24 (by decide) ?_
      refine r_icmp_ge (tgt := 43) hx hb dX10_pay_26 (by decide) (by omega) (by omega) (fun c26 => ?_) (fun c26 => ?_)
      · skip
        refine r_iconst hx hb dX10_pay_43 ?_
        refine lv_istore (lv' := [(5, vI 0), (0, .ref (a 0)), (1, vI p0), (2, vI p1), (3, vL 0)]) hx hb dX10_pay_44 hl (by decide) rfl (fun ls hl => ?_)
        exact J46 _ 0 0 f bf (by omega) (by omega) (by rfl) (by intro q h1 h2; rw [hf q h1 (by omega)]; rfl) (Nat.lt_succ_self _) _ _ _ w (lv_sub hl [1, 2, 3, 4, 0] rfl)
      · skip
        refine lv_aload_n hx hb dX10_pay_29 rfl (lv_at hl 0 rfl) ?_
        refine r_get C w 0 (v := .ref (a 24)) rfl rfl 37 (by decide) inX10 kf_X10_81 rfl dX10_pay_30 ?_
        refine lv_iload hx hb dX10_pay_33 (lv_at hl 4 rfl) ?_
        refine r_lconst (z := 0) hx hb dX10_pay_35 (by decide) ?_
        refine r_last C w 24 (f := f) rfl (by omega) (by omega) (by decide) (ws' := mw cy a (uZ z 0 0) (uZ g 24 (uI f i5 0))) rfl dX10_pay_36 (fun H locs w => ?_)
        have bg13 : ∀ j : Int, (-9223372036854775808 : Int) ≤ (uI f i5 0) j ∧ (uI f i5 0) j ≤ 9223372036854775807 := uI_b bf (by omega)
        refine r_iinc (lv' := [(5, vI (i5 + 1)), (0, .ref (a 0)), (1, vI p0), (2, vI p1), (3, vL 0)]) hx hb dX10_pay_37 hl (k := 4) rfl (by decide) rfl (fun ls hl => ?_)
        refine lv_goto (tgt := 22) hx hb dX10_pay_40 (by decide) ?_
        exact ih22 (i5 + 1) (uI f i5 0) bg13 (by omega) (by omega) (by exact zeros_st hf) (by omega) _ _ _ w (lv_sub hl [1, 2, 3, 4, 0] rfl)
  replace hl : lv_has ls 11 [(0, .ref (a 0)), (1, vI p0), (2, vI p1)] := hl
  refine lv_aload_n hx hb dX10_pay_0 rfl (lv_at hl 0 rfl) ?_
  refine r_iconst hx hb dX10_pay_1 ?_
  refine r_put C w 0 tyX10 tyX10_ok nmX10 rfl rfl 0 (by decide) inX10 kf_X10_97 rfl rfl rfl (Nat.le_of_ble_eq_true rfl) (ws' := mw cy a (uZ z 0 0) g) (mw_z0 cy a z g 0) dX10_pay_2 (fun H locs w => ?_)
  have bz14 : (0 : Int) ≤ 0 ∧ (0 : Int) ≤ 1 := (by omega)
  refine lv_iload_n hx hb dX10_pay_5 rfl (lv_at hl 1 rfl) ?_
  refine r_iconst hx hb dX10_pay_6 ?_
  refine r_bipush hx hb dX10_pay_7 (by decide) ?_
  refine cSI C w hA (ct_X10_isIn l D cy a (uZ z 0 0) g p0 0 7 (by show iR p0; omega) (by show iR 0; omega) (by show iR 7; omega)) ok_X10_isIn km_X10_183 ⟨rfl, rfl⟩ ⟨by decide, by decide⟩ ⟨by decide, by decide⟩ rfl hl.1 rfl (Nat.le_of_ble_eq_true rfl) dX10_pay_9 (fun rv_3 uv_3 H locs w hp_3 => ?_)
  replace hp_3 : (rv_3 = 1 ∧ 0 ≤ p0 ∧ p0 ≤ 7) ∨ (rv_3 = 0 ∧ ¬ (0 ≤ p0 ∧ p0 ≤ 7)) := hp_3
  replace w : wd D A s.heap (mw cy a (uZ z 0 0) g) H locs := w
  refine r_if_ne (tgt := 17) hx hb dX10_pay_12 (by decide) (by omega) (fun c12 => ?_) (fun c12 => ?_)
  · skip
    refine r_lconst (z := 0) hx hb dX10_pay_17 (by decide) ?_
    refine lv_lstore_n (lv' := [(3, vL 0), (0, .ref (a 0)), (1, vI p0), (2, vI p1)]) hx hb dX10_pay_18 rfl hl (by decide) rfl (fun ls hl => ?_)
    refine r_iconst hx hb dX10_pay_19 ?_
    refine lv_istore (lv' := [(5, vI 0), (3, vL 0), (0, .ref (a 0)), (1, vI p0), (2, vI p1)]) hx hb dX10_pay_20 hl (by decide) rfl (fun ls hl => ?_)
    exact J22 _ 0 (g 24) (mB24 hg) (by omega) (by omega) (by intro q h1 h2; omega) (Nat.lt_succ_self _) _ _ _ w (lv_sub hl [2, 3, 4, 1, 0] rfl)
  · skip
    refine r_iconst hx hb dX10_pay_15 ?_
    exact hend (-1) ((uZ z 0 0), g) _ _ _ _ dX10_pay_16 w ⟨(by exact Or.inl ⟨by omega, rfl, rfl⟩), (mBz_u hz 0 bz14), hg⟩
