/-! rules: what a rule asks, as a function of its tokens; the methods of the class that read one -/
abbrev RO : Type := Sum (Int × Int) ((Int → Int) × (Int → Int) × Int)
abbrev bad (f p : Int) : RO := .inl (f, p)
abbrev okR (fr tl : Int → Int) (e : Int) : RO := .inr (fr, tl, e)
def ct (k : Int) : Int := if k = 4 then 1 else 2
theorem ct_b (k : Int) : 1 ≤ ct k ∧ ct k ≤ 2 := by unfold ct; split <;> omega
noncomputable def finF (b : Int → Int) (n : Int) (fr tl : Int → Int) (p : Int) : RO := if tK b n p = 3 then okR fr tl (tE b n p) else bad (ct (tK b n p)) (tS b n p)
noncomputable def amtF (b : Int → Int) (n : Int) (fr tl : Int → Int) (q most p : Int) : RO := if tK b n p ≠ 2 then bad (ct (tK b n p)) (tS b n p) else if most < nv b (tS b n p) (tE b n p) then bad 3 (tS b n p) else finF b n (uI fr q (nv b (tS b n p) (tE b n p))) (uI tl q 1) (tE b n p)
noncomputable def byG (b : Int → Int) (n : Int) (fr tl : Int → Int) (base most p : Int) : RO := if tK b n p ≠ 2 then bad (ct (tK b n p)) (tS b n p) else if 3 < nv b (tS b n p) (tE b n p) then bad 3 (tS b n p) else if tl (base + nv b (tS b n p) (tE b n p)) ≠ 0 then bad 4 (tS b n p) else amtF b n fr tl (base + nv b (tS b n p) (tE b n p)) most (tE b n p)
noncomputable def rttF (b : Int → Int) (n : Int) (fr tl : Int → Int) (s e : Int) : RO := if tl 8 ≠ 0 then bad 4 s else amtF b n fr tl 8 50 e
noncomputable def losF (b : Int → Int) (n : Int) (fr tl : Int → Int) (s e : Int) : RO := if tl 9 ≠ 0 then bad 4 s else if tK b n e = 1 ∧ isW b (tS b n e) (tE b n e) 4 then finF b n (uI fr 9 1) (uI tl 9 1) (tE b n e) else if tK b n e = 1 ∧ isW b (tS b n e) (tE b n e) 5 then finF b n (uI fr 9 0) (uI tl 9 1) (tE b n e) else bad (ct (tK b n e)) (tS b n e)
noncomputable def rulF (b : Int → Int) (n : Int) (fr tl : Int → Int) (s e k : Int) : RO := if k = 1 ∧ isW b s e 0 then byG b n fr tl 0 9999 e else if k = 1 ∧ isW b s e 1 then byG b n fr tl 4 100 e else if k = 1 ∧ isW b s e 2 then rttF b n fr tl s e else if k = 1 ∧ isW b s e 3 then losF b n fr tl s e else bad (ct k) s
section SP
variable {b : Int → Int} {n p s e k : Int} {fr tl : Int → Int}
theorem finF_1 (h : isTok b n p s e k) (hk : k = 3) : finF b n fr tl p = okR fr tl e := by
  obtain ⟨h1, h2, h3⟩ := tok_of h
  unfold finF
  rw [← h1, ← h2, ← h3, if_pos hk]
theorem finF_2 (h : isTok b n p s e k) (hk : k ≠ 3) : finF b n fr tl p = bad (ct k) s := by
  obtain ⟨h1, h2, h3⟩ := tok_of h
  unfold finF
  rw [← h1, ← h2, ← h3, if_neg hk]
variable {q most : Int}
theorem amtF_1 (h : isTok b n p s e k) (hk : k ≠ 2) : amtF b n fr tl q most p = bad (ct k) s := by
  obtain ⟨h1, h2, h3⟩ := tok_of h
  unfold amtF
  rw [← h1, ← h2, ← h3, if_pos hk]
theorem amtF_2 (h : isTok b n p s e k) (hk : k = 2) (hv : most < nv b s e) : amtF b n fr tl q most p = bad 3 s := by
  obtain ⟨h1, h2, h3⟩ := tok_of h
  unfold amtF
  rw [← h1, ← h2, ← h3, if_neg (by omega), if_pos hv]
theorem amtF_3 (h : isTok b n p s e k) (hk : k = 2) (hv : nv b s e ≤ most) : amtF b n fr tl q most p = finF b n (uI fr q (nv b s e)) (uI tl q 1) e := by
  obtain ⟨h1, h2, h3⟩ := tok_of h
  unfold amtF
  rw [← h1, ← h2, ← h3, if_neg (by omega), if_neg (by omega)]
theorem byG_1 (h : isTok b n p s e k) (hk : k ≠ 2) : byG b n fr tl q most p = bad (ct k) s := by
  obtain ⟨h1, h2, h3⟩ := tok_of h
  unfold byG
  rw [← h1, ← h2, ← h3, if_pos hk]
theorem byG_2 (h : isTok b n p s e k) (hk : k = 2) (hv : 3 < nv b s e) : byG b n fr tl q most p = bad 3 s := by
  obtain ⟨h1, h2, h3⟩ := tok_of h
  unfold byG
  rw [← h1, ← h2, ← h3, if_neg (by omega), if_pos hv]
theorem byG_3 (h : isTok b n p s e k) (hk : k = 2) (hv : nv b s e ≤ 3) (ht : tl (q + nv b s e) ≠ 0) : byG b n fr tl q most p = bad 4 s := by
  obtain ⟨h1, h2, h3⟩ := tok_of h
  unfold byG
  rw [← h1, ← h2, ← h3, if_neg (by omega), if_neg (by omega), if_pos ht]
theorem byG_4 (h : isTok b n p s e k) (hk : k = 2) (hv : nv b s e ≤ 3) (ht : tl (q + nv b s e) = 0) : byG b n fr tl q most p = amtF b n fr tl (q + nv b s e) most e := by
  obtain ⟨h1, h2, h3⟩ := tok_of h
  unfold byG
  rw [← h1, ← h2, ← h3, if_neg (by omega), if_neg (by omega), if_neg (fun z => z ht)]
theorem losF_2 (h : isTok b n p s e k) {s0 : Int} (ht : tl 9 = 0) (hw : k = 1 ∧ isW b s e 4) : losF b n fr tl s0 p = finF b n (uI fr 9 1) (uI tl 9 1) e := by
  obtain ⟨h1, h2, h3⟩ := tok_of h
  unfold losF
  rw [← h1, ← h2, ← h3, if_neg (fun z => z ht), if_pos hw]
theorem losF_3 (h : isTok b n p s e k) {s0 : Int} (ht : tl 9 = 0) (hw : ¬ (k = 1 ∧ isW b s e 4)) (hw2 : k = 1 ∧ isW b s e 5) : losF b n fr tl s0 p = finF b n (uI fr 9 0) (uI tl 9 1) e := by
  obtain ⟨h1, h2, h3⟩ := tok_of h
  unfold losF
  rw [← h1, ← h2, ← h3, if_neg (fun z => z ht), if_neg hw, if_pos hw2]
theorem losF_4 (h : isTok b n p s e k) {s0 : Int} (ht : tl 9 = 0) (hw : ¬ (k = 1 ∧ isW b s e 4)) (hw2 : ¬ (k = 1 ∧ isW b s e 5)) : losF b n fr tl s0 p = bad (ct k) s := by
  obtain ⟨h1, h2, h3⟩ := tok_of h
  unfold losF
  rw [← h1, ← h2, ← h3, if_neg (fun z => z ht), if_neg hw, if_neg hw2]
theorem rulF_0 (h0 : k = 1 ∧ isW b s e 0) : rulF b n fr tl s e k = byG b n fr tl 0 9999 e := if_pos h0
theorem rulF_1 (h0 : ¬ (k = 1 ∧ isW b s e 0)) (h1 : k = 1 ∧ isW b s e 1) : rulF b n fr tl s e k = byG b n fr tl 4 100 e := by unfold rulF; rw [if_neg h0, if_pos h1]
theorem rulF_2 (h0 : ¬ (k = 1 ∧ isW b s e 0)) (h1 : ¬ (k = 1 ∧ isW b s e 1)) (h2 : k = 1 ∧ isW b s e 2) : rulF b n fr tl s e k = rttF b n fr tl s e := by unfold rulF; rw [if_neg h0, if_neg h1, if_pos h2]
theorem rulF_3 (h0 : ¬ (k = 1 ∧ isW b s e 0)) (h1 : ¬ (k = 1 ∧ isW b s e 1)) (h2 : ¬ (k = 1 ∧ isW b s e 2)) (h3 : k = 1 ∧ isW b s e 3) : rulF b n fr tl s e k = losF b n fr tl s e := by unfold rulF; rw [if_neg h0, if_neg h1, if_neg h2, if_pos h3]
theorem rulF_4 (h0 : ¬ (k = 1 ∧ isW b s e 0)) (h1 : ¬ (k = 1 ∧ isW b s e 1)) (h2 : ¬ (k = 1 ∧ isW b s e 2)) (h3 : ¬ (k = 1 ∧ isW b s e 3)) : rulF b n fr tl s e k = bad (ct k) s := by unfold rulF; rw [if_neg h0, if_neg h1, if_neg h2, if_neg h3]
end SP
def FRX (f1 f2 : Int → Int) (a b : Int) : Int → Int := fun q => if q < 0 then 0 else if q < 4 then f1 q else if q < 8 then f2 (q - 4) else if q = 8 then a else if q = 9 then b else 0
theorem FRX_1 {f1 f2 : Int → Int} {a b q v : Int} (h : 0 ≤ q ∧ q < 4) : FRX (uI f1 q v) f2 a b = uI (FRX f1 f2 a b) q v := by
  funext j
  unfold FRX uI
  by_cases e : j = q
  · subst e; rw [if_neg (by omega), if_pos (by omega), if_pos rfl, if_pos rfl]
  · rw [if_neg e, if_neg e]
theorem FRX_2 {f1 f2 : Int → Int} {a b q v : Int} (h : 0 ≤ q ∧ q < 4) : FRX f1 (uI f2 q v) a b = uI (FRX f1 f2 a b) (4 + q) v := by
  funext j
  unfold FRX uI
  by_cases e : j = 4 + q
  · subst e; rw [if_neg (by omega), if_neg (by omega), if_pos (by omega), if_pos (by omega), if_pos rfl]
  · rw [if_neg (show ¬ j = 4 + q from e), if_neg (show ¬ j - 4 = q by omega)]
theorem FRX_8 {f1 f2 : Int → Int} {a b v : Int} : FRX f1 f2 v b = uI (FRX f1 f2 a b) 8 v := by
  funext j
  show FRX f1 f2 v b j = (if j = 8 then v else FRX f1 f2 a b j)
  by_cases e : j = 8
  · subst e; rfl
  · rw [if_neg e]
    unfold FRX
    rw [if_neg e, if_neg e]
theorem FRX_9 {f1 f2 : Int → Int} {a b v : Int} : FRX f1 f2 a v = uI (FRX f1 f2 a b) 9 v := by
  funext j
  show FRX f1 f2 a v j = (if j = 9 then v else FRX f1 f2 a b j)
  by_cases e : j = 9
  · subst e; rfl
  · rw [if_neg e]
    unfold FRX
    rw [if_neg e, if_neg e]
theorem FRX_a1 {f1 f2 : Int → Int} {a b q : Int} (h : 0 ≤ q ∧ q < 4) : FRX f1 f2 a b q = f1 q := by
  unfold FRX
  rw [if_neg (by omega), if_pos (by omega)]
theorem FRX_a2 {f1 f2 : Int → Int} {a b q : Int} (h : 0 ≤ q ∧ q < 4) : FRX f1 f2 a b (4 + q) = f2 q := by
  unfold FRX
  rw [if_neg (by omega), if_neg (by omega), if_pos (by omega), show 4 + q - 4 = q by omega]
abbrev fdX (z : Nat → Int) (g : Nat → Int → Int) : Int → Int := FRX (g 8) (g 9) (z 13) (z 14)
abbrev tlX (z : Nat → Int) (g : Nat → Int → Int) : Int → Int := FRX (g 10) (g 11) (z 6) (z 7)
def frA (f z : Nat → Int) : Prop := ∀ k, k < 6 ∨ 15 < k → f k = z k
theorem frA_0 (z : Nat → Int) : frA z z := fun _ _ => rfl
theorem frA_u {f z : Nat → Int} (h : frA f z) {j : Nat} {v : Int} (h1 : 6 ≤ j) (h2 : j ≤ 15) : frA (uZ f j v) z := fun k hk => by rw [uZ_n _ _ (by omega)]; exact h k hk
theorem frA_t {f z y : Nat → Int} (h : frA f z) (h2 : frA z y) : frA f y := fun k hk => (h k hk).trans (h2 k hk)
def frG (f g : Nat → Int → Int) : Prop := ∀ k, k < 8 ∨ 11 < k → f k = g k
theorem frG_0 (z : Nat → Int → Int) : frG z z := fun _ _ => rfl
theorem frG_u {f z : Nat → Int → Int} (h : frG f z) {j : Nat} {v : Int → Int} (h1 : 8 ≤ j) (h2 : j ≤ 11) : frG (uZ f j v) z := fun k hk => by rw [uZ_n _ _ (by omega)]; exact h k hk
theorem frG_t {f z y : Nat → Int → Int} (h : frG f z) (h2 : frG z y) : frG f y := fun k hk => (h k hk).trans (h2 k hk)
def frmX (z : Nat → Int) (g : Nat → Int → Int) (u : sX) : Prop := frA u.1 z ∧ frG u.2 g ∧ z 10 ≤ u.1 10 ∧ u.1 10 ≤ z 2
def resX (z : Nat → Int) (u : sX) : RO → Prop := Sum.elim (fun q => u.1 11 = q.1 ∧ u.1 12 = q.2 ∧ 1 ≤ q.1) (fun q => u.1 11 = 0 ∧ fdX u.1 u.2 = q.1 ∧ tlX u.1 u.2 = q.2.1 ∧ u.1 10 = q.2.2 ∧ u.1 15 = z 15 + 1)
theorem resX_t {z z1 : Nat → Int} {u : sX} {r : RO} (h : resX z1 u r) (he : z1 15 = z 15) : resX z u r := by
  cases r with
  | inl q => exact h
  | inr q =>
    obtain ⟨h1, h2, h3, h4, h5⟩ := h
    exact ⟨h1, h2, h3, h4, by rw [h5, he]⟩
theorem frmX_t {z z1 : Nat → Int} {g g1 : Nat → Int → Int} {u : sX} (h : frmX z1 g1 u) (ha : frA z1 z) (hg : frG g1 g) (h10 : z 10 ≤ z1 10) : frmX z g u := ⟨frA_t h.1 ha, frG_t h.2.1 hg, Int.le_trans h10 h.2.2.1, by rw [← ha 2 (by omega)]; exact h.2.2.2⟩
def kpX (z f : Nat → Int) : Prop := frA f z ∧ f 6 = z 6 ∧ f 7 = z 7 ∧ f 13 = z 13 ∧ f 14 = z 14 ∧ f 15 = z 15 ∧ z 10 ≤ f 10 ∧ f 10 ≤ z 2

abbrev rm_X5_refuse : Room := { frames := 0, cells := 0, slots := 0, locals := 0 }
set_option maxHeartbeats 4000000 in
set_option maxRecDepth 100000 in
theorem ct_X5_refuse (l : Launch) (D : va_G) (cy : Nat → ClassId) (a : Nat → Nat) (z : Nat → Int) (g : Nat → Int → Int) (p0 : Int) (hz : xBz z) (hg : xBg g) (h0 : 1 ≤ p0 ∧ p0 ≤ 4) : MV l yX5_refuse cX5_refuse 2 (rm_X5_refuse) D cy (xw cy a z g) [.ref (a 6), vI p0] (fun (u : sX) => (u = (uZ (uZ z 11 p0) 12 (z 9), g)) ∧ xBz u.1 ∧ xBg u.2) (fun u => xw cy a u.1 u.2) 0 0 := by
  refine go_v (by decide +kernel) (Nat.le_of_ble_eq_true rfl) ?_
  intro p e s m args below meth c Q A ls C hnm hA w hl hend
  have hx := C.1
  have hb := C.2.1
  replace hl : lv_has ls 2 [(0, .ref (a 6)), (1, vI p0)] := hl
  refine lv_aload_n hx hb dX5_refuse_0 rfl (lv_at hl 0 rfl) ?_
  refine lv_iload_n hx hb dX5_refuse_1 rfl (lv_at hl 1 rfl) ?_
  refine r_put C w 6 tyX5 tyX5_ok nmX5 rfl rfl 9 (by decide) inX5 kf_X5_39 rfl rfl rfl (Nat.le_of_ble_eq_true rfl) (ws' := xw cy a (uZ z 11 p0) g) (xw_z11 cy a z g p0) dX5_refuse_2 (fun H locs w => ?_)
  have bz1 : (0 : Int) ≤ p0 ∧ (p0 : Int) ≤ 4 := (by omega)
  refine lv_aload_n hx hb dX5_refuse_5 rfl (lv_at hl 0 rfl) ?_
  refine lv_aload_n hx hb dX5_refuse_6 rfl (lv_at hl 0 rfl) ?_
  refine r_get C w 6 (v := vI (z 9)) rfl rfl 7 (by decide) inX5 kf_X5_114 rfl dX5_refuse_7 ?_
  have qz2 := xZ9 hz
  refine r_put C w 6 tyX5 tyX5_ok nmX5 rfl rfl 10 (by decide) inX5 kf_X5_58 rfl rfl rfl (Nat.le_of_ble_eq_true rfl) (ws' := xw cy a (uZ (uZ z 11 p0) 12 (z 9)) g) (xw_z12 cy a (uZ z 11 p0) g (z 9)) dX5_refuse_10 (fun H locs w => ?_)
  have bz3 : (0 : Int) ≤ (z 9) ∧ ((z 9) : Int) ≤ 200 := (by omega)
  exact hend ((uZ (uZ z 11 p0) 12 (z 9)), g) _ _ _ _ dX5_refuse_13 w ⟨(by rfl), (xBz_u (xBz_u hz 11 bz1) 12 bz3), hg⟩

abbrev rm_X5_refuseToken : Room := { frames := 1, cells := 0, slots := 0, locals := 21 }
set_option maxHeartbeats 4000000 in
set_option maxRecDepth 100000 in
theorem ct_X5_refuseToken (l : Launch) (D : va_G) (cy : Nat → ClassId) (a : Nat → Nat) (z : Nat → Int) (g : Nat → Int → Int)  (hz : xBz z) (hg : xBg g) : MV l yX5_refuseToken cX5_refuseToken 1 (rm_X5_refuseToken) D cy (xw cy a z g) [.ref (a 6)] (fun (u : sX) => (u = (uZ (uZ z 11 (ct (z 8))) 12 (z 9), g)) ∧ xBz u.1 ∧ xBg u.2) (fun u => xw cy a u.1 u.2) 0 0 := by
  refine go_v (by decide +kernel) (Nat.le_of_ble_eq_true rfl) ?_
  intro p e s m args below meth c Q A ls C hnm hA w hl hend
  have hx := C.1
  have hb := C.2.1
  have b8_ := xZ8 hz
  replace hl : lv_has ls 1 [(0, .ref (a 6))] := hl
  refine lv_aload_n hx hb dX5_refuseToken_0 rfl (lv_at hl 0 rfl) ?_
  refine lv_aload_n hx hb dX5_refuseToken_1 rfl (lv_at hl 0 rfl) ?_
  refine r_get C w 6 (v := vI (z 8)) rfl rfl 6 (by decide) inX5 kf_X5_35 rfl dX5_refuseToken_2 ?_
  have qz1 := xZ8 hz
  refine r_iconst hx hb dX5_refuseToken_5 ?_
  refine r_icmp_ne (tgt := 13) hx hb dX5_refuseToken_6 (by decide) (by omega) (by omega) (fun c6 => ?_) (fun c6 => ?_)
  · skip
    refine r_iconst hx hb dX5_refuseToken_13 ?_
    refine cVV C w hA (ct_X5_refuse l D cy a z g 2 hz hg (by show 1 ≤ 2 ∧ 2 ≤ 4; omega)) ok_X5_refuse km_X5_95 ⟨rfl, rfl⟩ ⟨by decide, by decide⟩ ⟨by decide, by decide⟩ rfl 6 rfl rfl hl.1 rfl (Nat.le_of_ble_eq_true rfl) dX5_refuseToken_14 (fun uv_1 H locs w hp_1 => ?_)
    obtain ⟨zc_1, gc_1⟩ := uv_1
    have hzr_1 := hp_1.2.1
    obtain ⟨hp_1, -, -⟩ := hp_1
    obtain ⟨ea_1, eb_1⟩ := Prod.mk.inj hp_1
    subst ea_1
    replace eb_1 := eb_1.symm
    subst eb_1
    have bz2 : (0 : Int) ≤ 2 ∧ (2 : Int) ≤ 4 := hzr_1 11 (by decide)
    have bz3 : (0 : Int) ≤ (z 9) ∧ ((z 9) : Int) ≤ 200 := hzr_1 12 (by decide)
    replace w : wd D A s.heap (xw cy a (uZ (uZ z 11 2) 12 (z 9)) g) H locs := w
    exact hend ((uZ (uZ z 11 2) 12 (z 9)), g) _ _ _ _ dX5_refuseToken_17 w ⟨(by unfold ct; first | rw [if_pos c6] | rw [if_neg c6]), (xBz_u (xBz_u hz 11 bz2) 12 bz3), hg⟩
  · skip
    refine r_iconst hx hb dX5_refuseToken_9 ?_
    refine lv_goto (tgt := 14) hx hb dX5_refuseToken_10 (by decide) ?_
    refine cVV C w hA (ct_X5_refuse l D cy a z g 1 hz hg (by show 1 ≤ 1 ∧ 1 ≤ 4; omega)) ok_X5_refuse km_X5_95 ⟨rfl, rfl⟩ ⟨by decide, by decide⟩ ⟨by decide, by decide⟩ rfl 6 rfl rfl hl.1 rfl (Nat.le_of_ble_eq_true rfl) dX5_refuseToken_14 (fun uv_2 H locs w hp_2 => ?_)
    obtain ⟨zc_2, gc_2⟩ := uv_2
    have hzr_2 := hp_2.2.1
    obtain ⟨hp_2, -, -⟩ := hp_2
    obtain ⟨ea_2, eb_2⟩ := Prod.mk.inj hp_2
    subst ea_2
    replace eb_2 := eb_2.symm
    subst eb_2
    have bz4 : (0 : Int) ≤ 1 ∧ (1 : Int) ≤ 4 := hzr_2 11 (by decide)
    have bz5 : (0 : Int) ≤ (z 9) ∧ ((z 9) : Int) ≤ 200 := hzr_2 12 (by decide)
    replace w : wd D A s.heap (xw cy a (uZ (uZ z 11 1) 12 (z 9)) g) H locs := w
    exact hend ((uZ (uZ z 11 1) 12 (z 9)), g) _ _ _ _ dX5_refuseToken_17 w ⟨(by unfold ct; first | rw [if_pos c6] | rw [if_neg c6]), (xBz_u (xBz_u hz 11 bz4) 12 bz5), hg⟩

theorem tk_dg {b : Int → Int} {n p s e k : Int} (h : isTok b n p s e k) (hk : k = 2) : s < e ∧ e - s ≤ 4 ∧ ∀ j, s ≤ j → j < e → isDg (b j) := by
  obtain ⟨h1, h2, h3, h4 | h4 | ⟨h5, h6, h7, h8, h9, h10, h11 | h11 | h11⟩⟩ := h
  · omega
  · omega
  · omega
  · exact ⟨h7, h11.2.2, h11.2.1⟩
  · omega
theorem nv_i {b : Int → Int} {s e i : Int} (h0 : s ≤ i) (h1 : i ≤ e) (h2 : e - s ≤ 4) (h : ∀ j, s ≤ j → j < e → isDg (b j)) : 0 ≤ nv b s i ∧ nv b s i ≤ 9999 := nv_b h0 (by omega) (fun j a1 a2 => h j a1 (by omega))
abbrev rm_X5_takeNumber : Room := { frames := 3, cells := 0, slots := 0, locals := 64 }
set_option maxHeartbeats 4000000 in
set_option maxRecDepth 100000 in
theorem ct_X5_takeNumber (l : Launch) (D : va_G) (cy : Nat → ClassId) (a : Nat → Nat) (z : Nat → Int) (g : Nat → Int → Int) (p0 : Int) (hz : xBz z) (hg : xBg g) (h10 : z 10 ≤ z 2) (h0 : 0 ≤ p0 ∧ p0 ≤ 9999) : MI l yX5_takeNumber cX5_takeNumber 4 .int (rm_X5_takeNumber) D cy (xw cy a z g) [.ref (a 6), vI p0] (fun (v : Int) (u : sX) => (∃ s e k : Int, isTok (bt (g 2) (z 2)) (z 2) (z 10) s e k ∧ u.2 = g ∧ kpX z u.1 ∧ ((k ≠ 2 ∧ v = -1 ∧ u.1 11 = ct k ∧ u.1 12 = s) ∨ (k = 2 ∧ p0 < nv (bt (g 2) (z 2)) s e ∧ v = -1 ∧ u.1 11 = 3 ∧ u.1 12 = s) ∨ (k = 2 ∧ nv (bt (g 2) (z 2)) s e ≤ p0 ∧ 0 ≤ v ∧ v = nv (bt (g 2) (z 2)) s e ∧ u.1 11 = z 11 ∧ u.1 10 = e ∧ u.1 9 = s))) ∧ xBz u.1 ∧ xBg u.2) (fun u => xw cy a u.1 u.2) 0 0 := by
  refine go_i (by decide +kernel) (Nat.le_of_ble_eq_true rfl) (Or.inl rfl) ?_
  intro p e s m args below meth c Q A ls C hnm hA w hl hend
  have hx := C.1
  have hb := C.2.1
  have b2_ := xZ2 hz
  have b10_ := xZ10 hz
  have J25 : ∀ N : Nat, ∀ (v2 : Int) (i3 : Int) (s1 : Int) (e1 : Int) (k1 : Int), ((0 : Int) ≤ s1 ∧ s1 ≤ 200) → ((0 : Int) ≤ e1 ∧ e1 ≤ 200) → ((0 : Int) ≤ k1 ∧ k1 ≤ 4) → (isTok (bt (g 2) (z 2)) (z 2) (z 10) s1 e1 k1) → (k1 = 2) → (s1 ≤ i3 ∧ i3 ≤ e1) → (v2 = nv (bt (g 2) (z 2)) s1 i3) → ((e1 - i3).toNat) < N → ∀ (H : Heap) (locs : List Loc) (ls : Array Slot), wd D A s.heap (xw cy a (uZ (uZ (uZ z 9 s1) 10 e1) 8 k1) g) H locs → lv_has ls 4 [(0, .ref (a 6)), (1, vI p0), (2, vI v2), (3, vI i3)] → W p l e (rm_X5_takeNumber) s m args below meth c H locs 0 0 Q (F0 m 25 ls []) := by
    intro N
    induction N with
    | zero => intro v2 i3 s1 e1 k1 bs1 be1 bk1 ht1 hk2 hi3 hv2 hN9; exact absurd hN9 (Nat.not_lt_zero _)
    | succ N ih25 =>
      intro v2 i3 s1 e1 k1 bs1 be1 bk1 ht1 hk2 hi3 hv2 hN25 H locs ls w hl
      have hd := tk_dg ht1 hk2
      have hb1 := isTok_b ht1
      have hni := nv_i hi3.1 hi3.2 hd.2.1 hd.2.2
      have hne := nv_i (Int.le_of_lt hd.1) (Int.le_refl _) hd.2.1 hd.2.2
      refine lv_iload_n hx hb dX5_takeNumber_25 rfl (lv_at hl 3 rfl) ?_
      refine lv_aload_n hx hb dX5_takeNumber_26 rfl (lv_at hl 0 rfl) ?_
      refine r_get C w 6 (v := vI e1) rfl rfl 8 (by decide) inX5 kf_X5_55 rfl dX5_takeNumber_27 ?_
      refine r_icmp_ge (tgt := 56) hx hb dX5_takeNumber_30 (by decide) (by omega) (by omega) (fun c30 => ?_) (fun c30 => ?_)
      · skip
        have hie : i3 = e1 := by omega
        refine lv_iload_n hx hb dX5_takeNumber_56 rfl (lv_at hl 2 rfl) ?_
        refine lv_iload_n hx hb dX5_takeNumber_57 rfl (lv_at hl 1 rfl) ?_
        refine r_icmp_le (tgt := 68) hx hb dX5_takeNumber_58 (by decide) (by omega) (by omega) (fun c58 => ?_) (fun c58 => ?_)
        · skip
          refine lv_iload_n hx hb dX5_takeNumber_68 rfl (lv_at hl 2 rfl) ?_
          exact hend v2 ((uZ (uZ (uZ z 9 s1) 10 e1) 8 k1), g) _ _ _ _ dX5_takeNumber_69 w ⟨(by exact ⟨_, _, _, ht1, rfl, ⟨(by repeat (first | assumption | exact frA_0 _ | refine frA_u ?_ (by decide) (by decide))), rfl, rfl, rfl, rfl, rfl, by show z 10 ≤ e1; omega, by show e1 ≤ z 2; omega⟩, Or.inr (Or.inr ⟨hk2, by rw [← hie, ← hv2]; omega, by omega, by rw [hv2, hie], rfl, rfl, rfl⟩)⟩), (xBz_u (xBz_u (xBz_u hz 9 bs1) 10 be1) 8 bk1), hg⟩
        · skip
          refine lv_aload_n hx hb dX5_takeNumber_61 rfl (lv_at hl 0 rfl) ?_
          refine r_iconst hx hb dX5_takeNumber_62 ?_
          refine cVV C w hA (ct_X5_refuse l D cy a (uZ (uZ (uZ z 9 s1) 10 e1) 8 k1) g 3 (xBz_u (xBz_u (xBz_u hz 9 bs1) 10 be1) 8 bk1) hg (by show 1 ≤ 3 ∧ 3 ≤ 4; omega)) ok_X5_refuse km_X5_95 ⟨rfl, rfl⟩ ⟨by decide, by decide⟩ ⟨by decide, by decide⟩ rfl 6 rfl rfl hl.1 rfl (Nat.le_of_ble_eq_true rfl) dX5_takeNumber_63 (fun uv_1 H locs w hp_1 => ?_)
          obtain ⟨zc_1, gc_1⟩ := uv_1
          have hzr_1 := hp_1.2.1
          obtain ⟨hp_1, -, -⟩ := hp_1
          obtain ⟨ea_1, eb_1⟩ := Prod.mk.inj hp_1
          subst ea_1
          replace eb_1 := eb_1.symm
          subst eb_1
          have bz1 : (0 : Int) ≤ 3 ∧ (3 : Int) ≤ 4 := hzr_1 11 (by decide)
          have bz2 : (0 : Int) ≤ s1 ∧ (s1 : Int) ≤ 200 := hzr_1 12 (by decide)
          replace w : wd D A s.heap (xw cy a (uZ (uZ (uZ (uZ (uZ z 9 s1) 10 e1) 8 k1) 11 3) 12 s1) g) H locs := w
          refine r_iconst hx hb dX5_takeNumber_66 ?_
          exact hend (-1) ((uZ (uZ (uZ (uZ (uZ z 9 s1) 10 e1) 8 k1) 11 3) 12 s1), g) _ _ _ _ dX5_takeNumber_67 w ⟨(by exact ⟨_, _, _, ht1, rfl, ⟨(by repeat (first | assumption | exact frA_0 _ | refine frA_u ?_ (by decide) (by decide))), rfl, rfl, rfl, rfl, rfl, by show z 10 ≤ e1; omega, by show e1 ≤ z 2; omega⟩, Or.inr (Or.inl ⟨hk2, by rw [← hie, ← hv2]; omega, rfl, rfl, rfl⟩)⟩), (xBz_u (xBz_u (xBz_u (xBz_u (xBz_u hz 9 bs1) 10 be1) 8 bk1) 11 bz1) 12 bz2), hg⟩
      · skip
        refine lv_iload_n hx hb dX5_takeNumber_33 rfl (lv_at hl 2 rfl) ?_
        refine r_bipush hx hb dX5_takeNumber_34 (by decide) ?_
        refine r_imul hx hb dX5_takeNumber_36 ?_
        refine lv_aload_n hx hb dX5_takeNumber_37 rfl (lv_at hl 0 rfl) ?_
        refine r_get C w 6 (v := .ref (a 1)) rfl rfl 0 (by decide) inX5 kf_X5_25 rfl dX5_takeNumber_38 ?_
        refine lv_iload_n hx hb dX5_takeNumber_41 rfl (lv_at hl 3 rfl) ?_
        refine cVI C w hA (ct_X8_byteAt l D cy a (uZ (uZ (uZ z 9 s1) 10 e1) 8 k1) g i3 (xBz_u (xBz_u (xBz_u hz 9 bs1) 10 be1) 8 bk1) hg (by show iR i3; omega)) ok_X8_byteAt km_X5_117 ⟨rfl, rfl⟩ ⟨by decide, by decide⟩ ⟨by decide, by decide⟩ rfl 1 rfl rfl hl.1 rfl (Nat.le_of_ble_eq_true rfl) dX5_takeNumber_42 (fun rv_2 uv_2 H locs w hp_2 => ?_)
        replace hp_2 : (0 ≤ i3 ∧ i3 < (z 2) ∧ rv_2 = (g 2) i3) ∨ (¬ (0 ≤ i3 ∧ i3 < (z 2)) ∧ rv_2 = 0) := hp_2
        replace w : wd D A s.heap (xw cy a (uZ (uZ (uZ z 9 s1) 10 e1) 8 k1) g) H locs := w
        have hB2 := bt_v hp_2; have hBb2 := btv_b (z := z) hg hB2
        refine r_iadd hx hb dX5_takeNumber_45 ?_
        refine r_bipush hx hb dX5_takeNumber_46 (by decide) ?_
        refine r_isub hx hb dX5_takeNumber_48 ?_
        refine lv_istore_n (lv' := [(2, vI (((v2 * 10) + rv_2) - 48)), (0, .ref (a 6)), (1, vI p0), (3, vI i3)]) hx hb dX5_takeNumber_49 rfl hl (by decide) rfl (fun ls hl => ?_)
        refine r_iinc (lv' := [(3, vI (i3 + 1)), (2, vI (((v2 * 10) + rv_2) - 48)), (0, .ref (a 6)), (1, vI p0)]) hx hb dX5_takeNumber_50 hl (k := 3) rfl (by decide) rfl (fun ls hl => ?_)
        refine lv_goto (tgt := 25) hx hb dX5_takeNumber_53 (by decide) ?_
        exact ih25 (((v2 * 10) + rv_2) - 48) (i3 + 1) s1 e1 k1 (by exact bs1) (by exact be1) (by exact bk1) (by exact ht1) (by omega) (by omega) (by rw [nv_s _ hi3.1, hv2]; omega) (by omega) _ _ _ w (lv_sub hl [2, 3, 1, 0] rfl)
  replace hl : lv_has ls 4 [(0, .ref (a 6)), (1, vI p0)] := hl
  refine lv_aload_n hx hb dX5_takeNumber_0 rfl (lv_at hl 0 rfl) ?_
  refine cVV C w hA (ct_X5_step l D cy a z g  hz hg (by show (z 10) ≤ (z 2); omega)) ok_X5_step km_X5_32 ⟨rfl, rfl⟩ ⟨by decide, by decide⟩ ⟨by decide, by decide⟩ rfl 6 rfl rfl hl.1 rfl (Nat.le_of_ble_eq_true rfl) dX5_takeNumber_1 (fun uv_3 H locs w hp_3 => ?_)
  obtain ⟨zc_3, gc_3⟩ := uv_3
  obtain ⟨⟨s_3, e_3, k_3, hu_3, ht_3⟩, hzc_3, -⟩ := hp_3
  obtain ⟨ea_3, eb_3⟩ := Prod.mk.inj hu_3
  replace eb_3 := eb_3.symm
  subst ea_3
  subst eb_3
  replace ht_3 : isTok (bt (g 2) (z 2)) (z 2) (z 10) s_3 e_3 k_3 := ht_3
  have hb_3 := isTok_b ht_3
  have bs_3 : (0 : Int) ≤ s_3 ∧ s_3 ≤ 200 := hzc_3 9 (by decide)
  have be_3 : (0 : Int) ≤ e_3 ∧ e_3 ≤ 200 := hzc_3 10 (by decide)
  have bk_3 : (0 : Int) ≤ k_3 ∧ k_3 ≤ 4 := hzc_3 8 (by decide)
  replace w : wd D A s.heap (xw cy a (uZ (uZ (uZ z 9 s_3) 10 e_3) 8 k_3) g) H locs := w
  refine lv_aload_n hx hb dX5_takeNumber_4 rfl (lv_at hl 0 rfl) ?_
  refine r_get C w 6 (v := vI k_3) rfl rfl 6 (by decide) inX5 kf_X5_35 rfl dX5_takeNumber_5 ?_
  refine r_iconst hx hb dX5_takeNumber_8 ?_
  refine r_icmp_eq (tgt := 18) hx hb dX5_takeNumber_9 (by decide) (by omega) (by omega) (fun c9 => ?_) (fun c9 => ?_)
  · skip
    refine r_iconst hx hb dX5_takeNumber_18 ?_
    refine lv_istore_n (lv' := [(2, vI 0), (0, .ref (a 6)), (1, vI p0)]) hx hb dX5_takeNumber_19 rfl hl (by decide) rfl (fun ls hl => ?_)
    refine lv_aload_n hx hb dX5_takeNumber_20 rfl (lv_at hl 1 rfl) ?_
    refine r_get C w 6 (v := vI s_3) rfl rfl 7 (by decide) inX5 kf_X5_114 rfl dX5_takeNumber_21 ?_
    refine lv_istore_n (lv' := [(3, vI s_3), (2, vI 0), (0, .ref (a 6)), (1, vI p0)]) hx hb dX5_takeNumber_24 rfl hl (by decide) rfl (fun ls hl => ?_)
    exact J25 _ 0 s_3 s_3 e_3 k_3 (by exact bs_3) (by exact be_3) (by exact bk_3) (by exact ht_3) (by omega) (by omega) (by rw [nv_0]) (Nat.lt_succ_self _) _ _ _ w (lv_sub hl [2, 3, 1, 0] rfl)
  · skip
    refine lv_aload_n hx hb dX5_takeNumber_12 rfl (lv_at hl 0 rfl) ?_
    refine cVV C w hA (ct_X5_refuseToken l D cy a (uZ (uZ (uZ z 9 s_3) 10 e_3) 8 k_3) g  (xBz_u (xBz_u (xBz_u hz 9 bs_3) 10 be_3) 8 bk_3) hg) ok_X5_refuseToken km_X5_88 ⟨rfl, rfl⟩ ⟨by decide, by decide⟩ ⟨by decide, by decide⟩ rfl 6 rfl rfl hl.1 rfl (Nat.le_of_ble_eq_true rfl) dX5_takeNumber_13 (fun uv_4 H locs w hp_4 => ?_)
    obtain ⟨zc_4, gc_4⟩ := uv_4
    have hzr_4 := hp_4.2.1
    obtain ⟨hp_4, -, -⟩ := hp_4
    obtain ⟨ea_4, eb_4⟩ := Prod.mk.inj hp_4
    subst ea_4
    replace eb_4 := eb_4.symm
    subst eb_4
    have bz3 : (0 : Int) ≤ (ct k_3) ∧ ((ct k_3) : Int) ≤ 4 := hzr_4 11 (by decide)
    have bz4 : (0 : Int) ≤ s_3 ∧ (s_3 : Int) ≤ 200 := hzr_4 12 (by decide)
    replace w : wd D A s.heap (xw cy a (uZ (uZ (uZ (uZ (uZ z 9 s_3) 10 e_3) 8 k_3) 11 (ct k_3)) 12 s_3) g) H locs := w
    refine r_iconst hx hb dX5_takeNumber_16 ?_
    exact hend (-1) ((uZ (uZ (uZ (uZ (uZ z 9 s_3) 10 e_3) 8 k_3) 11 (ct k_3)) 12 s_3), g) _ _ _ _ dX5_takeNumber_17 w ⟨(by exact ⟨_, _, _, ht_3, rfl, ⟨(by repeat (first | assumption | exact frA_0 _ | refine frA_u ?_ (by decide) (by decide))), rfl, rfl, rfl, rfl, rfl, by show z 10 ≤ e_3; omega, by show e_3 ≤ z 2; omega⟩, Or.inl ⟨by omega, rfl, rfl, rfl⟩⟩), (xBz_u (xBz_u (xBz_u (xBz_u (xBz_u hz 9 bs_3) 10 be_3) 8 bk_3) 11 bz3) 12 bz4), hg⟩

abbrev rm_X5_finishRule : Room := { frames := 3, cells := 0, slots := 0, locals := 64 }
set_option maxHeartbeats 4000000 in
set_option maxRecDepth 100000 in
theorem ct_X5_finishRule (l : Launch) (D : va_G) (cy : Nat → ClassId) (a : Nat → Nat) (z : Nat → Int) (g : Nat → Int → Int)  (hz : xBz z) (hg : xBg g) (h10 : z 15 < z 10 ∧ z 10 ≤ z 2) (h11 : z 11 = 0) : MV l yX5_finishRule cX5_finishRule 1 (rm_X5_finishRule) D cy (xw cy a z g) [.ref (a 6)] (fun (u : sX) => (frmX z g u ∧ resX z u (finF (bt (g 2) (z 2)) (z 2) (fdX z g) (tlX z g) (z 10))) ∧ xBz u.1 ∧ xBg u.2) (fun u => xw cy a u.1 u.2) 0 0 := by
  refine go_v (by decide +kernel) (Nat.le_of_ble_eq_true rfl) ?_
  intro p e s m args below meth c Q A ls C hnm hA w hl hend
  have hx := C.1
  have hb := C.2.1
  have b2_ := xZ2 hz
  have b10_ := xZ10 hz
  replace hl : lv_has ls 1 [(0, .ref (a 6))] := hl
  refine lv_aload_n hx hb dX5_finishRule_0 rfl (lv_at hl 0 rfl) ?_
  refine cVV C w hA (ct_X5_step l D cy a z g  hz hg (by exact h10.2)) ok_X5_step km_X5_32 ⟨rfl, rfl⟩ ⟨by decide, by decide⟩ ⟨by decide, by decide⟩ rfl 6 rfl rfl hl.1 rfl (Nat.le_of_ble_eq_true rfl) dX5_finishRule_1 (fun uv_1 H locs w hp_1 => ?_)
  obtain ⟨zc_1, gc_1⟩ := uv_1
  obtain ⟨⟨s_1, e_1, k_1, hu_1, ht_1⟩, hzc_1, -⟩ := hp_1
  obtain ⟨ea_1, eb_1⟩ := Prod.mk.inj hu_1
  replace eb_1 := eb_1.symm
  subst ea_1
  subst eb_1
  replace ht_1 : isTok (bt (g 2) (z 2)) (z 2) (z 10) s_1 e_1 k_1 := ht_1
  have hb_1 := isTok_b ht_1
  have bs_1 : (0 : Int) ≤ s_1 ∧ s_1 ≤ 200 := hzc_1 9 (by decide)
  have be_1 : (0 : Int) ≤ e_1 ∧ e_1 ≤ 200 := hzc_1 10 (by decide)
  have bk_1 : (0 : Int) ≤ k_1 ∧ k_1 ≤ 4 := hzc_1 8 (by decide)
  replace w : wd D A s.heap (xw cy a (uZ (uZ (uZ z 9 s_1) 10 e_1) 8 k_1) g) H locs := w
  refine lv_aload_n hx hb dX5_finishRule_4 rfl (lv_at hl 0 rfl) ?_
  refine r_get C w 6 (v := vI k_1) rfl rfl 6 (by decide) inX5 kf_X5_35 rfl dX5_finishRule_5 ?_
  refine r_iconst hx hb dX5_finishRule_8 ?_
  refine r_icmp_ne (tgt := 28) hx hb dX5_finishRule_9 (by decide) (by omega) (by omega) (fun c9 => ?_) (fun c9 => ?_)
  · skip
    refine lv_aload_n hx hb dX5_finishRule_28 rfl (lv_at hl 0 rfl) ?_
    refine cVV C w hA (ct_X5_refuseToken l D cy a (uZ (uZ (uZ z 9 s_1) 10 e_1) 8 k_1) g  (xBz_u (xBz_u (xBz_u hz 9 bs_1) 10 be_1) 8 bk_1) hg) ok_X5_refuseToken km_X5_88 ⟨rfl, rfl⟩ ⟨by decide, by decide⟩ ⟨by decide, by decide⟩ rfl 6 rfl rfl hl.1 rfl (Nat.le_of_ble_eq_true rfl) dX5_finishRule_29 (fun uv_2 H locs w hp_2 => ?_)
    obtain ⟨zc_2, gc_2⟩ := uv_2
    have hzr_2 := hp_2.2.1
    obtain ⟨hp_2, -, -⟩ := hp_2
    obtain ⟨ea_2, eb_2⟩ := Prod.mk.inj hp_2
    subst ea_2
    replace eb_2 := eb_2.symm
    subst eb_2
    have bz1 : (0 : Int) ≤ (ct k_1) ∧ ((ct k_1) : Int) ≤ 4 := hzr_2 11 (by decide)
    have bz2 : (0 : Int) ≤ s_1 ∧ (s_1 : Int) ≤ 200 := hzr_2 12 (by decide)
    replace w : wd D A s.heap (xw cy a (uZ (uZ (uZ (uZ (uZ z 9 s_1) 10 e_1) 8 k_1) 11 (ct k_1)) 12 s_1) g) H locs := w
    exact hend ((uZ (uZ (uZ (uZ (uZ z 9 s_1) 10 e_1) 8 k_1) 11 (ct k_1)) 12 s_1), g) _ _ _ _ dX5_finishRule_32 w ⟨(by first | (rw [finF_1 ht_1 (by omega)]; exact ⟨⟨(by repeat (first | assumption | exact frA_0 _ | refine frA_u ?_ (by decide) (by decide))), frG_0 _, by show z 10 ≤ e_1; omega, by show e_1 ≤ z 2; omega⟩, h11, rfl, rfl, rfl, rfl⟩) | (rw [finF_2 ht_1 (by omega)]; exact ⟨⟨(by repeat (first | assumption | exact frA_0 _ | refine frA_u ?_ (by decide) (by decide))), frG_0 _, by show z 10 ≤ e_1; omega, by show e_1 ≤ z 2; omega⟩, rfl, rfl, (ct_b _).1⟩)), (xBz_u (xBz_u (xBz_u (xBz_u (xBz_u hz 9 bs_1) 10 be_1) 8 bk_1) 11 bz1) 12 bz2), hg⟩
  · skip
    refine lv_aload_n hx hb dX5_finishRule_12 rfl (lv_at hl 0 rfl) ?_
    refine r_get C w 6 (v := .ref (a 7)) rfl rfl 1 (by decide) inX5 kf_X5_12 rfl dX5_finishRule_13 ?_
    refine lv_dup hx hb dX5_finishRule_16 rfl ?_
    refine r_getN C w 7 (v := vI (z 15)) rfl rfl 4 (by decide) inX6 kt_X5_111 rfl dX5_finishRule_17 ?_
    have qz3 := xZ15 hz
    refine r_iconst hx hb dX5_finishRule_20 ?_
    refine r_iadd hx hb dX5_finishRule_21 ?_
    refine r_putN C w 7 tyX6 tyX6_ok nmX6 rfl rfl 4 (by decide) inX6 kt_X5_111 rfl rfl rfl (Nat.le_of_ble_eq_true rfl) (ws' := xw cy a (uZ (uZ (uZ (uZ z 9 s_1) 10 e_1) 8 k_1) 15 ((z 15) + 1)) g) (xw_z15 cy a (uZ (uZ (uZ z 9 s_1) 10 e_1) 8 k_1) g ((z 15) + 1)) dX5_finishRule_22 (fun H locs w => ?_)
    have bz4 : (0 : Int) ≤ ((z 15) + 1) ∧ (((z 15) + 1) : Int) ≤ 200 := (by omega)
    refine lv_goto (tgt := 32) hx hb dX5_finishRule_25 (by decide) ?_
    exact hend ((uZ (uZ (uZ (uZ z 9 s_1) 10 e_1) 8 k_1) 15 ((z 15) + 1)), g) _ _ _ _ dX5_finishRule_32 w ⟨(by first | (rw [finF_1 ht_1 (by omega)]; exact ⟨⟨(by repeat (first | assumption | exact frA_0 _ | refine frA_u ?_ (by decide) (by decide))), frG_0 _, by show z 10 ≤ e_1; omega, by show e_1 ≤ z 2; omega⟩, h11, rfl, rfl, rfl, rfl⟩) | (rw [finF_2 ht_1 (by omega)]; exact ⟨⟨(by repeat (first | assumption | exact frA_0 _ | refine frA_u ?_ (by decide) (by decide))), frG_0 _, by show z 10 ≤ e_1; omega, by show e_1 ≤ z 2; omega⟩, rfl, rfl, (ct_b _).1⟩)), (xBz_u (xBz_u (xBz_u (xBz_u hz 9 bs_1) 10 be_1) 8 bk_1) 15 bz4), hg⟩

