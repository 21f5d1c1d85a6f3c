/-! wire -/
def wst (t : Int × Int × Int × Int) (p b : Int) : Int × Int × Int × Int := (t.1 + 1, t.2.1 + b, (if t.1 = 0 ∨ p < t.2.2.1 then p else t.2.2.1), mx t.2.2.2 p)
def wrN (s p b : Int → Int) : Nat → Int × Int × Int × Int
  | 0 => (0, 0, 0, 0)
  | n + 1 => if s n = 1 then wst (wrN s p b n) (p n) (b n) else wrN s p b n
def wI (s p b : Int → Int) (i : Int) : Int × Int × Int × Int := wrN s p b i.toNat
theorem wI_s (s p b : Int → Int) {i : Int} (h : 0 ≤ i) : wI s p b (i + 1) = if s i = 1 then wst (wI s p b i) (p i) (b i) else wI s p b i := by
  unfold wI
  rw [show (i + 1).toNat = i.toNat + 1 by omega]
  show (if s (i.toNat : Int) = 1 then _ else _) = _
  rw [Int.toNat_of_nonneg h]
theorem wrN_cg {s p b s2 p2 b2 : Int → Int} : ∀ {n : Nat}, (∀ j : Int, 0 ≤ j → j < n → s j = s2 j ∧ p j = p2 j ∧ b j = b2 j) → wrN s p b n = wrN s2 p2 b2 n
  | 0, _ => rfl
  | n + 1, h => by
    obtain ⟨h1, h2, h3⟩ := h n (by omega) (by omega)
    show (if s n = 1 then _ else _) = (if s2 n = 1 then _ else _)
    rw [wrN_cg (n := n) (fun j a1 a2 => h j a1 (by omega)), h1, h2, h3]
theorem wI_cg {s p b s2 p2 b2 : Int → Int} {n : Int} (h : ∀ j : Int, 0 ≤ j → j < n → s j = s2 j ∧ p j = p2 j ∧ b j = b2 j) : wI s p b n = wI s2 p2 b2 n := wrN_cg (fun j h0 h1 => h j h0 (by omega))
theorem wrN_b {s p b : Int → Int} (hp : ∀ j, 0 ≤ p j ∧ p j ≤ 9999) (hb : ∀ j, 0 ≤ b j ∧ b j ≤ 500) : ∀ n : Nat, 0 ≤ (wrN s p b n).1 ∧ (wrN s p b n).1 ≤ n ∧ 0 ≤ (wrN s p b n).2.1 ∧ (wrN s p b n).2.1 ≤ n * 500 ∧ 0 ≤ (wrN s p b n).2.2.1 ∧ (wrN s p b n).2.2.1 ≤ 9999 ∧ 0 ≤ (wrN s p b n).2.2.2 ∧ (wrN s p b n).2.2.2 ≤ 9999
  | 0 => ⟨Int.le_refl 0, Int.le_refl 0, Int.le_refl 0, Int.le_refl 0, Int.le_refl 0, by show (0 : Int) ≤ 9999; decide, Int.le_refl 0, by show (0 : Int) ≤ 9999; decide⟩
  | n + 1 => by
    obtain ⟨a1, a2, a3, a4, a5, a6, a7, a8⟩ := wrN_b (s := s) hp hb n
    unfold wrN
    have h1 := hp n
    have h2 := hb n
    have h3 := mx_b (wrN s p b n).2.2.2 (p n)
    split
    · show 0 ≤ (wrN s p b n).1 + 1 ∧ (wrN s p b n).1 + 1 ≤ ((n + 1 : Nat) : Int) ∧ 0 ≤ (wrN s p b n).2.1 + b n ∧ (wrN s p b n).2.1 + b n ≤ ((n + 1 : Nat) : Int) * 500 ∧ 0 ≤ (if (wrN s p b n).1 = 0 ∨ p n < (wrN s p b n).2.2.1 then p n else (wrN s p b n).2.2.1) ∧ (if (wrN s p b n).1 = 0 ∨ p n < (wrN s p b n).2.2.1 then p n else (wrN s p b n).2.2.1) ≤ 9999 ∧ 0 ≤ mx (wrN s p b n).2.2.2 (p n) ∧ mx (wrN s p b n).2.2.2 (p n) ≤ 9999
      split <;> omega
    · omega
theorem wI_b {s p b : Int → Int} (hp : ∀ j, 0 ≤ p j ∧ p j ≤ 9999) (hb : ∀ j, 0 ≤ b j ∧ b j ≤ 500) {i t1 t2 t3 t4 : Int} (h0 : 0 ≤ i) (hT : (t1, t2, t3, t4) = wI s p b i) : 0 ≤ t1 ∧ t1 ≤ i ∧ 0 ≤ t2 ∧ t2 ≤ i * 500 ∧ 0 ≤ t3 ∧ t3 ≤ 9999 ∧ 0 ≤ t4 ∧ t4 ≤ 9999 := by
  have := wrN_b (s := s) hp hb i.toNat
  rw [show wrN s p b i.toNat = (t1, t2, t3, t4) from hT.symm, Int.toNat_of_nonneg h0] at this
  exact this
theorem wI_st {s p b : Int → Int} {i t1 t2 t3 t4 l h : Int} (h0 : 0 ≤ i) (hT : (t1, t2, t3, t4) = wI s p b i) (hs : s i = 1) (hl : (t1 = 0 ∧ l = p i) ∨ (t1 ≠ 0 ∧ (l = t3 ∨ l = p i) ∧ l ≤ t3 ∧ l ≤ p i)) (hh : (h = t4 ∨ h = p i) ∧ t4 ≤ h ∧ p i ≤ h) : (t1 + 1, t2 + b i, l, h) = wI s p b (i + 1) := by
  rw [wI_s s p b h0, if_pos hs, ← hT]
  show _ = (t1 + 1, t2 + b i, (if t1 = 0 ∨ p i < t3 then p i else t3), mx t4 (p i))
  rw [show mx t4 (p i) = h from (mx_of hh).symm, show (if t1 = 0 ∨ p i < t3 then p i else t3) = l from by split <;> omega]
theorem wI_kp {s p b : Int → Int} {i t1 t2 t3 t4 : Int} (h0 : 0 ≤ i) (hT : (t1, t2, t3, t4) = wI s p b i) (hs : s i ≠ 1) : (t1, t2, t3, t4) = wI s p b (i + 1) := by
  rw [wI_s s p b h0, if_neg hs]
  exact hT
def wsl (t : Int × Int × Int × Int) (w : Int) : Int := if w = 0 then t.1 else if w = 1 then t.2.1 else if w = 2 then t.2.2.1 else t.2.2.2
theorem wsl_0 {t1 t2 t3 t4 w : Int} {t : Int × Int × Int × Int} (hT : (t1, t2, t3, t4) = t) (h : w = 0) : t1 = wsl t w := by rw [← hT, h]; rfl
theorem wsl_1 {t1 t2 t3 t4 w : Int} {t : Int × Int × Int × Int} (hT : (t1, t2, t3, t4) = t) (h : w = 1) : t2 = wsl t w := by rw [← hT, h]; rfl
theorem wsl_2 {t1 t2 t3 t4 w : Int} {t : Int × Int × Int × Int} (hT : (t1, t2, t3, t4) = t) (h : w = 2) : t3 = wsl t w := by rw [← hT, h]; rfl
theorem wsl_3 {t1 t2 t3 t4 w : Int} {t : Int × Int × Int × Int} (hT : (t1, t2, t3, t4) = t) (h : w ≠ 0 ∧ w ≠ 1 ∧ w ≠ 2) : t4 = wsl t w := by
  rw [← hT]
  unfold wsl
  rw [if_neg h.1, if_neg h.2.1, if_neg h.2.2]
def siX (g : Nat → Int → Int) (h q t : Int) : Int → Int := fun k => if g 23 k = t ∧ g 17 (g 21 k) = h ∧ g 15 (g 21 k) = q ∧ cntX g t k then 1 else 0
def siM (g : Nat → Int → Int) (h q t : Int) : Int → Int := fun k => if cntM g t k ∧ g 18 k = t ∧ g 9 (g 16 k) = h ∧ g 7 (g 16 k) = q then 1 else 0
theorem siM_n {g : Nat → Int → Int} {h q t k : Int} (hn : ¬ (cntM g t k ∧ g 18 k = t ∧ g 9 (g 16 k) = h ∧ g 7 (g 16 k) = q)) : siM g h q t k ≠ 1 := by
  unfold siM
  rw [if_neg hn]
  decide

abbrev rm_X9_isWired : Room := { frames := 1, cells := 0, slots := 0, locals := 22 }
set_option maxHeartbeats 4000000 in
set_option maxRecDepth 100000 in
theorem ct_X9_isWired (l : Launch) (D : va_G) (cy : Nat → ClassId) (a : Nat → Nat) (z : Nat → Int) (g : Nat → Int → Int) (p0 p1 p2 p3 : Int) (hz : xBz z) (hg : xBg g) (h0 : 0 ≤ p0 ∧ p0 < 400) (h1 : iR p1) (h2 : iR p2) (h3 : iR p3) : MI l yX9_isWired cX9_isWired 6 .boolean (rm_X9_isWired) D cy (xw cy a z g) [.ref (a 0), vI p0, vI p1, vI p2, vI p3] (fun (v : Int) (u : Unit) => v = siX g p1 p2 p3 p0) (fun _ => xw cy a z g) 0 0 := by
  refine go_i (by decide +kernel) (Nat.le_of_ble_eq_true rfl) (Or.inr (fun v u h => nb01 (by rw [h]; unfold siX; split <;> omega))) ?_
  intro p e s m args below meth c Q A ls C hnm hA w hl hend
  have hx := C.1
  have hb := C.2.1
  replace hl : lv_has ls 6 [(0, .ref (a 0)), (1, vI p0), (2, vI p1), (3, vI p2), (4, vI p3)] := hl
  refine lv_aload_n hx hb dX9_isWired_0 rfl (lv_at hl 0 rfl) ?_
  refine r_get C w 0 (v := .ref (a 20)) rfl rfl 4 (by decide) inX9 kf_X9_42 rfl dX9_isWired_1 ?_
  refine r_getN C w 20 (v := .ref (a 21)) rfl rfl 0 (by decide) inX7 kt_X9_153 rfl dX9_isWired_4 ?_
  refine lv_iload_n hx hb dX9_isWired_7 rfl (lv_at hl 1 rfl) ?_
  refine r_iald C w 21 (f := (g 21)) rfl (by omega) (by omega) (by decide) dX9_isWired_8 ?_
  have qg1 := xB21 hg p0
  refine lv_istore (lv' := [(5, vI ((g 21) p0)), (0, .ref (a 0)), (1, vI p0), (2, vI p1), (3, vI p2), (4, vI p3)]) hx hb dX9_isWired_9 hl (by decide) rfl (fun ls hl => ?_)
  refine lv_aload_n hx hb dX9_isWired_11 rfl (lv_at hl 1 rfl) ?_
  refine r_get C w 0 (v := .ref (a 20)) rfl rfl 4 (by decide) inX9 kf_X9_42 rfl dX9_isWired_12 ?_
  refine r_getN C w 20 (v := .ref (a 23)) rfl rfl 2 (by decide) inX7 kt_X9_201 rfl dX9_isWired_15 ?_
  refine lv_iload_n hx hb dX9_isWired_18 rfl (lv_at hl 2 rfl) ?_
  refine r_iald C w 23 (f := (g 23)) rfl (by omega) (by omega) (by decide) dX9_isWired_19 ?_
  have qg2 := xB23 hg p0
  refine lv_iload hx hb dX9_isWired_20 (lv_at hl 5 rfl) ?_
  refine r_icmp_ne (tgt := 70) hx hb dX9_isWired_22 (by decide) (by omega) (by omega) (fun c22 => ?_) (fun c22 => ?_)
  · skip
    refine r_iconst hx hb dX9_isWired_70 ?_
    exact hend 0 () _ _ _ _ dX9_isWired_71 w (by unfold siX; first | (rw [if_pos (by omega)]) | (rw [if_neg (by omega)]))
  · skip
    refine lv_aload_n hx hb dX9_isWired_25 rfl (lv_at hl 1 rfl) ?_
    refine r_get C w 0 (v := .ref (a 12)) rfl rfl 3 (by decide) inX9 kf_X9_35 rfl dX9_isWired_26 ?_
    refine r_getN C w 12 (v := .ref (a 17)) rfl rfl 4 (by decide) inX2 kt_X9_191 rfl dX9_isWired_29 ?_
    refine lv_iload hx hb dX9_isWired_32 (lv_at hl 0 rfl) ?_
    refine r_iald C w 17 (f := (g 17)) rfl (by omega) (by omega) (by decide) dX9_isWired_34 ?_
    have qg3 := xB17 hg ((g 21) p0)
    refine lv_iload_n hx hb dX9_isWired_35 rfl (lv_at hl 3 rfl) ?_
    refine r_icmp_ne (tgt := 70) hx hb dX9_isWired_36 (by decide) (by omega) (by omega) (fun c36 => ?_) (fun c36 => ?_)
    · skip
      refine r_iconst hx hb dX9_isWired_70 ?_
      exact hend 0 () _ _ _ _ dX9_isWired_71 w (by unfold siX; first | (rw [if_pos (by omega)]) | (rw [if_neg (by omega)]))
    · skip
      refine lv_aload_n hx hb dX9_isWired_39 rfl (lv_at hl 1 rfl) ?_
      refine r_get C w 0 (v := .ref (a 12)) rfl rfl 3 (by decide) inX9 kf_X9_35 rfl dX9_isWired_40 ?_
      refine r_getN C w 12 (v := .ref (a 15)) rfl rfl 2 (by decide) inX2 kt_X9_185 rfl dX9_isWired_43 ?_
      refine lv_iload hx hb dX9_isWired_46 (lv_at hl 0 rfl) ?_
      refine r_iald C w 15 (f := (g 15)) rfl (by omega) (by omega) (by decide) dX9_isWired_48 ?_
      have qg4 := xB15 hg ((g 21) p0)
      refine lv_iload_n hx hb dX9_isWired_49 rfl (lv_at hl 4 rfl) ?_
      refine r_icmp_ne (tgt := 70) hx hb dX9_isWired_50 (by decide) (by omega) (by omega) (fun c50 => ?_) (fun c50 => ?_)
      · skip
        refine r_iconst hx hb dX9_isWired_70 ?_
        exact hend 0 () _ _ _ _ dX9_isWired_71 w (by unfold siX; first | (rw [if_pos (by omega)]) | (rw [if_neg (by omega)]))
      · skip
        refine lv_aload_n hx hb dX9_isWired_53 rfl (lv_at hl 1 rfl) ?_
        refine r_get C w 0 (v := .ref (a 20)) rfl rfl 4 (by decide) inX9 kf_X9_42 rfl dX9_isWired_54 ?_
        refine lv_iload_n hx hb dX9_isWired_57 rfl (lv_at hl 2 rfl) ?_
        refine lv_iload hx hb dX9_isWired_58 (lv_at hl 5 rfl) ?_
        refine cVI C w hA (ct_X7_countsAsOf l D cy a z g p0 p3 hz hg (by show 0 ≤ p0 ∧ p0 < 400; omega) (by show iR p3; omega)) ok_X7_countsAsOf km_X9_286 ⟨rfl, rfl⟩ ⟨by decide, by decide⟩ ⟨by decide, by decide⟩ rfl 20 rfl rfl hl.1 rfl (Nat.le_of_ble_eq_true rfl) dX9_isWired_60 (fun rv_1 uv_1 H locs w hp_1 => ?_)
        replace hp_1 : (rv_1 = 1 ∧ (g 23) p0 ≤ p3 ∧ ((g 26) p0 = -1 ∨ p3 < (g 26) p0)) ∨ (rv_1 = 0 ∧ ¬ ((g 23) p0 ≤ p3 ∧ ((g 26) p0 = -1 ∨ p3 < (g 26) p0))) := hp_1
        replace w : wd D A s.heap (xw cy a z g) H locs := w
        refine r_if_eq (tgt := 70) hx hb dX9_isWired_63 (by decide) (by omega) (fun c63 => ?_) (fun c63 => ?_)
        · skip
          refine r_iconst hx hb dX9_isWired_70 ?_
          exact hend 0 () _ _ _ _ dX9_isWired_71 w (by unfold siX; first | (rw [if_pos (by omega)]) | (rw [if_neg (by omega)]))
        · skip
          refine r_iconst hx hb dX9_isWired_66 ?_
          refine lv_goto (tgt := 71) hx hb dX9_isWired_67 (by decide) ?_
          exact hend 1 () _ _ _ _ dX9_isWired_71 w (by unfold siX; first | (rw [if_pos (by omega)]) | (rw [if_neg (by omega)]))

abbrev rm_X9_wire : Room := { frames := 2, cells := 0, slots := 0, locals := 47 }
set_option maxHeartbeats 4000000 in
set_option maxRecDepth 100000 in
theorem ct_X9_wire (l : Launch) (D : va_G) (cy : Nat → ClassId) (a : Nat → Nat) (z : Nat → Int) (g : Nat → Int → Int) (p0 p1 p2 p3 : Int) (hz : xBz z) (hg : xBg g) (h0 : iR p0) (h1 : iR p1) (h2 : iR p2) (h3 : iR p3) : MI l yX9_wire cX9_wire 12 .int (rm_X9_wire) D cy (xw cy a z g) [.ref (a 0), vI p0, vI p1, vI p2, vI p3] (fun (v : Int) (u : Unit) => (¬ ((0 ≤ p0 ∧ p0 < 4) ∧ (0 ≤ p1 ∧ p1 < 4) ∧ (0 ≤ p2 ∧ p2 ≤ 999) ∧ (0 ≤ p3 ∧ p3 ≤ 3)) ∧ v = -1) ∨ (((0 ≤ p0 ∧ p0 < 4) ∧ (0 ≤ p1 ∧ p1 < 4) ∧ (0 ≤ p2 ∧ p2 ≤ 999) ∧ (0 ≤ p3 ∧ p3 ≤ 3)) ∧ v = wsl (wI (siX g p0 p1 p2) (g 25) (g 24) (z 17)) p3)) (fun _ => xw cy a z g) 0 0 := by
  refine go_i (by decide +kernel) (Nat.le_of_ble_eq_true rfl) (Or.inl rfl) ?_
  intro p e s m args below meth c Q A ls C hnm hA w hl hend
  have hx := C.1
  have hb := C.2.1
  have b17_ := xZ17 hz
  have J67 : ∀ N : Nat, ∀ (o6 : Int) (o7 : Int) (o8 : Int) (o9 : Int) (i : Int), ((0 ≤ p0 ∧ p0 < 4) ∧ (0 ≤ p1 ∧ p1 < 4) ∧ (0 ≤ p2 ∧ p2 ≤ 999) ∧ (0 ≤ p3 ∧ p3 ≤ 3)) → (0 ≤ i ∧ i ≤ z 17) → ((o6, o7, o8, o9) = wI (siX g p0 p1 p2) (g 25) (g 24) i) → ((z 17 - i).toNat) < N → ∀ (H : Heap) (locs : List Loc) (ls : Array Slot), wd D A s.heap (xw cy a z g) H locs → lv_has ls 12 [(0, .ref (a 0)), (1, vI p0), (2, vI p1), (3, vI p2), (4, vI p3), (6, vI o6), (7, vI o7), (8, vI o8), (9, vI o9), (10, vI i)] → W p l e (rm_X9_wire) s m args below meth c H locs 0 0 Q (F0 m 67 ls []) := by
    intro N
    induction N with
    | zero => intro o6 o7 o8 o9 i hwc hi hT hN9; exact absurd hN9 (Nat.not_lt_zero _)
    | succ N ih67 =>
      intro o6 o7 o8 o9 i hwc hi hT hN67 H locs ls w hl
      have hTb := wI_b (xB25 hg) (xB24 hg) hi.1 hT
      refine lv_iload hx hb dX9_wire_67 (lv_at hl 9 rfl) ?_
      refine lv_aload_n hx hb dX9_wire_69 rfl (lv_at hl 0 rfl) ?_
      refine r_get C w 0 (v := .ref (a 20)) rfl rfl 4 (by decide) inX9 kf_X9_42 rfl dX9_wire_70 ?_
      refine r_getN C w 20 (v := vI (z 17)) rfl rfl 7 (by decide) inX7 kt_X9_145 rfl dX9_wire_73 ?_
      have qz1 := xZ17 hz
      refine r_icmp_ge (tgt := 155) hx hb dX9_wire_76 (by decide) (by omega) (by omega) (fun c76 => ?_) (fun c76 => ?_)
      · skip
        refine lv_iload hx hb dX9_wire_155 (lv_at hl 4 rfl) ?_
        by_cases c157_0 : p3 = 0
        · refine r_tsI (k := 0) (tgt := 184) hx hb dX9_wire_157 (by omega) c157_0 (by decide) rfl (by decide) ?_
          refine lv_iload hx hb dX9_wire_184 (lv_at hl 5 rfl) ?_
          exact hend o6 () _ _ _ _ dX9_wire_186 w (by exact Or.inr ⟨hwc, by rw [← show i = z 17 by omega]; exact wsl_0 hT c157_0⟩)
        by_cases c157_1 : p3 = 1
        · refine r_tsI (k := 1) (tgt := 187) hx hb dX9_wire_157 (by omega) c157_1 (by decide) rfl (by decide) ?_
          refine lv_iload hx hb dX9_wire_187 (lv_at hl 6 rfl) ?_
          exact hend o7 () _ _ _ _ dX9_wire_189 w (by exact Or.inr ⟨hwc, by rw [← show i = z 17 by omega]; exact wsl_1 hT c157_1⟩)
        by_cases c157_2 : p3 = 2
        · refine r_tsI (k := 2) (tgt := 190) hx hb dX9_wire_157 (by omega) c157_2 (by decide) rfl (by decide) ?_
          refine lv_iload hx hb dX9_wire_190 (lv_at hl 7 rfl) ?_
          exact hend o8 () _ _ _ _ dX9_wire_192 w (by exact Or.inr ⟨hwc, by rw [← show i = z 17 by omega]; exact wsl_2 hT c157_2⟩)
        refine r_tsO (tgt := 193) hx hb dX9_wire_157 (by omega) (by omega) (by decide) ?_
        refine lv_iload hx hb dX9_wire_193 (lv_at hl 8 rfl) ?_
        exact hend o9 () _ _ _ _ dX9_wire_195 w (by exact Or.inr ⟨hwc, by rw [← show i = z 17 by omega]; exact wsl_3 hT (by omega)⟩)
      · skip
        refine lv_aload_n hx hb dX9_wire_79 rfl (lv_at hl 0 rfl) ?_
        refine lv_iload hx hb dX9_wire_80 (lv_at hl 9 rfl) ?_
        refine lv_iload_n hx hb dX9_wire_82 rfl (lv_at hl 1 rfl) ?_
        refine lv_iload_n hx hb dX9_wire_83 rfl (lv_at hl 2 rfl) ?_
        refine lv_iload_n hx hb dX9_wire_84 rfl (lv_at hl 3 rfl) ?_
        refine cVI C w hA (ct_X9_isWired l D cy a z g i p0 p1 p2 hz hg (by show 0 ≤ i ∧ i < 400; omega) (by show iR p0; omega) (by show iR p1; omega) (by show iR p2; omega)) ok_X9_isWired km_X9_238 ⟨rfl, rfl⟩ ⟨by decide, by decide⟩ ⟨by decide, by decide⟩ rfl 0 rfl rfl hl.1 rfl (Nat.le_of_ble_eq_true rfl) dX9_wire_85 (fun rv_1 uv_1 H locs w hp_1 => ?_)
        replace w : wd D A s.heap (xw cy a z g) H locs := w
        have hsel : rv_1 = siX g p0 p1 p2 i := hp_1
        have hsl2 : rv_1 = 0 ∨ rv_1 = 1 := by rw [hsel]; unfold siX; split <;> omega
        refine r_if_eq (tgt := 149) hx hb dX9_wire_88 (by decide) (by omega) (fun c88 => ?_) (fun c88 => ?_)
        · skip
          refine r_iinc (lv' := [(10, vI (i + 1)), (0, .ref (a 0)), (1, vI p0), (2, vI p1), (3, vI p2), (4, vI p3), (6, vI o6), (7, vI o7), (8, vI o8), (9, vI o9)]) hx hb dX9_wire_149 hl (k := 9) rfl (by decide) rfl (fun ls hl => ?_)
          refine lv_goto (tgt := 67) hx hb dX9_wire_152 (by decide) ?_
          exact ih67 o6 o7 o8 o9 (i + 1) (by omega) (by omega) (by first | exact wI_kp hi.1 hT (by omega) | exact wI_st hi.1 hT (by omega) (by omega) hmax) (by omega) _ _ _ w (lv_sub hl [1, 2, 3, 4, 5, 6, 7, 8, 9, 0] rfl)
        · skip
          refine lv_aload_n hx hb dX9_wire_91 rfl (lv_at hl 0 rfl) ?_
          refine r_get C w 0 (v := .ref (a 20)) rfl rfl 4 (by decide) inX9 kf_X9_42 rfl dX9_wire_92 ?_
          refine r_getN C w 20 (v := .ref (a 25)) rfl rfl 4 (by decide) inX7 kt_X9_205 rfl dX9_wire_95 ?_
          refine lv_iload hx hb dX9_wire_98 (lv_at hl 9 rfl) ?_
          refine r_iald C w 25 (f := (g 25)) rfl (by omega) (by omega) (by decide) dX9_wire_100 ?_
          have qg2 := xB25 hg i
          refine lv_istore (lv' := [(11, vI ((g 25) i)), (0, .ref (a 0)), (1, vI p0), (2, vI p1), (3, vI p2), (4, vI p3), (6, vI o6), (7, vI o7), (8, vI o8), (9, vI o9), (10, vI i)]) hx hb dX9_wire_101 hl (by decide) rfl (fun ls hl => ?_)
          refine lv_iload hx hb dX9_wire_103 (lv_at hl 6 rfl) ?_
          refine r_if_ne (tgt := 113) hx hb dX9_wire_105 (by decide) (by omega) (fun c105 => ?_) (fun c105 => ?_)
          · skip
            refine lv_iload hx hb dX9_wire_113 (lv_at hl 8 rfl) ?_
            refine lv_iload hx hb dX9_wire_115 (lv_at hl 0 rfl) ?_
            refine r_mmin C km_X9_242 hl.1 (by decide) (Nat.le_of_ble_eq_true rfl) ⟨by decide, by decide⟩ (by omega) (by omega) dX9_wire_117 (fun rv_2 hp_2 => ?_)
            have hmin := hp_2
            refine lv_istore (lv' := [(8, vI rv_2), (11, vI ((g 25) i)), (0, .ref (a 0)), (1, vI p0), (2, vI p1), (3, vI p2), (4, vI p3), (6, vI o6), (7, vI o7), (9, vI o9), (10, vI i)]) hx hb dX9_wire_120 hl (by decide) rfl (fun ls hl => ?_)
            refine lv_iload hx hb dX9_wire_122 (lv_at hl 9 rfl) ?_
            refine lv_iload hx hb dX9_wire_124 (lv_at hl 1 rfl) ?_
            refine r_mmax C km_X9_248 hl.1 (by decide) (Nat.le_of_ble_eq_true rfl) ⟨by decide, by decide⟩ (by omega) (by omega) dX9_wire_126 (fun rv_3 hp_3 => ?_)
            have hmax := hp_3
            refine lv_istore (lv' := [(9, vI rv_3), (8, vI rv_2), (11, vI ((g 25) i)), (0, .ref (a 0)), (1, vI p0), (2, vI p1), (3, vI p2), (4, vI p3), (6, vI o6), (7, vI o7), (10, vI i)]) hx hb dX9_wire_129 hl (by decide) rfl (fun ls hl => ?_)
            refine lv_iload hx hb dX9_wire_131 (lv_at hl 9 rfl) ?_
            refine lv_aload_n hx hb dX9_wire_133 rfl (lv_at hl 3 rfl) ?_
            refine r_get C w 0 (v := .ref (a 20)) rfl rfl 4 (by decide) inX9 kf_X9_42 rfl dX9_wire_134 ?_
            refine r_getN C w 20 (v := .ref (a 24)) rfl rfl 3 (by decide) inX7 kt_X9_204 rfl dX9_wire_137 ?_
            refine lv_iload hx hb dX9_wire_140 (lv_at hl 10 rfl) ?_
            refine r_iald C w 24 (f := (g 24)) rfl (by omega) (by omega) (by decide) dX9_wire_142 ?_
            have qg3 := xB24 hg i
            refine r_iadd hx hb dX9_wire_143 ?_
            refine lv_istore (lv' := [(7, vI (o7 + ((g 24) i))), (9, vI rv_3), (8, vI rv_2), (11, vI ((g 25) i)), (0, .ref (a 0)), (1, vI p0), (2, vI p1), (3, vI p2), (4, vI p3), (6, vI o6), (10, vI i)]) hx hb dX9_wire_144 hl (by decide) rfl (fun ls hl => ?_)
            refine r_iinc (lv' := [(6, vI (o6 + 1)), (7, vI (o7 + ((g 24) i))), (9, vI rv_3), (8, vI rv_2), (11, vI ((g 25) i)), (0, .ref (a 0)), (1, vI p0), (2, vI p1), (3, vI p2), (4, vI p3), (10, vI i)]) hx hb dX9_wire_146 hl (k := 9) rfl (by decide) rfl (fun ls hl => ?_)
            refine r_iinc (lv' := [(10, vI (i + 1)), (6, vI (o6 + 1)), (7, vI (o7 + ((g 24) i))), (9, vI rv_3), (8, vI rv_2), (11, vI ((g 25) i)), (0, .ref (a 0)), (1, vI p0), (2, vI p1), (3, vI p2), (4, vI p3)]) hx hb dX9_wire_149 hl (k := 10) rfl (by decide) rfl (fun ls hl => ?_)
            refine lv_goto (tgt := 67) hx hb dX9_wire_152 (by decide) ?_
            exact ih67 (o6 + 1) (o7 + ((g 24) i)) rv_2 rv_3 (i + 1) (by omega) (by omega) (by first | exact wI_kp hi.1 hT (by omega) | exact wI_st hi.1 hT (by omega) (by omega) hmax) (by omega) _ _ _ w (lv_sub hl [6, 7, 8, 9, 10, 1, 2, 4, 3, 0] rfl)
          · skip
            refine lv_iload hx hb dX9_wire_108 (lv_at hl 0 rfl) ?_
            refine lv_goto (tgt := 120) hx hb dX9_wire_110 (by decide) ?_
            refine lv_istore (lv' := [(8, vI ((g 25) i)), (11, vI ((g 25) i)), (0, .ref (a 0)), (1, vI p0), (2, vI p1), (3, vI p2), (4, vI p3), (6, vI o6), (7, vI o7), (9, vI o9), (10, vI i)]) hx hb dX9_wire_120 hl (by decide) rfl (fun ls hl => ?_)
            refine lv_iload hx hb dX9_wire_122 (lv_at hl 9 rfl) ?_
            refine lv_iload hx hb dX9_wire_124 (lv_at hl 1 rfl) ?_
            refine r_mmax C km_X9_248 hl.1 (by decide) (Nat.le_of_ble_eq_true rfl) ⟨by decide, by decide⟩ (by omega) (by omega) dX9_wire_126 (fun rv_4 hp_4 => ?_)
            have hmax := hp_4
            refine lv_istore (lv' := [(9, vI rv_4), (8, vI ((g 25) i)), (11, vI ((g 25) i)), (0, .ref (a 0)), (1, vI p0), (2, vI p1), (3, vI p2), (4, vI p3), (6, vI o6), (7, vI o7), (10, vI i)]) hx hb dX9_wire_129 hl (by decide) rfl (fun ls hl => ?_)
            refine lv_iload hx hb dX9_wire_131 (lv_at hl 9 rfl) ?_
            refine lv_aload_n hx hb dX9_wire_133 rfl (lv_at hl 3 rfl) ?_
            refine r_get C w 0 (v := .ref (a 20)) rfl rfl 4 (by decide) inX9 kf_X9_42 rfl dX9_wire_134 ?_
            refine r_getN C w 20 (v := .ref (a 24)) rfl rfl 3 (by decide) inX7 kt_X9_204 rfl dX9_wire_137 ?_
            refine lv_iload hx hb dX9_wire_140 (lv_at hl 10 rfl) ?_
            refine r_iald C w 24 (f := (g 24)) rfl (by omega) (by omega) (by decide) dX9_wire_142 ?_
            have qg4 := xB24 hg i
            refine r_iadd hx hb dX9_wire_143 ?_
            refine lv_istore (lv' := [(7, vI (o7 + ((g 24) i))), (9, vI rv_4), (8, vI ((g 25) i)), (11, vI ((g 25) i)), (0, .ref (a 0)), (1, vI p0), (2, vI p1), (3, vI p2), (4, vI p3), (6, vI o6), (10, vI i)]) hx hb dX9_wire_144 hl (by decide) rfl (fun ls hl => ?_)
            refine r_iinc (lv' := [(6, vI (o6 + 1)), (7, vI (o7 + ((g 24) i))), (9, vI rv_4), (8, vI ((g 25) i)), (11, vI ((g 25) i)), (0, .ref (a 0)), (1, vI p0), (2, vI p1), (3, vI p2), (4, vI p3), (10, vI i)]) hx hb dX9_wire_146 hl (k := 9) rfl (by decide) rfl (fun ls hl => ?_)
            refine r_iinc (lv' := [(10, vI (i + 1)), (6, vI (o6 + 1)), (7, vI (o7 + ((g 24) i))), (9, vI rv_4), (8, vI ((g 25) i)), (11, vI ((g 25) i)), (0, .ref (a 0)), (1, vI p0), (2, vI p1), (3, vI p2), (4, vI p3)]) hx hb dX9_wire_149 hl (k := 10) rfl (by decide) rfl (fun ls hl => ?_)
            refine lv_goto (tgt := 67) hx hb dX9_wire_152 (by decide) ?_
            exact ih67 (o6 + 1) (o7 + ((g 24) i)) ((g 25) i) rv_4 (i + 1) (by omega) (by omega) (by first | exact wI_kp hi.1 hT (by omega) | exact wI_st hi.1 hT (by omega) (by omega) hmax) (by omega) _ _ _ w (lv_sub hl [6, 7, 8, 9, 10, 1, 2, 4, 3, 0] rfl)
  have J43 : ∀ (b : Int), ((b = 1 ∧ (0 ≤ p0 ∧ p0 < 4) ∧ (0 ≤ p1 ∧ p1 < 4) ∧ (0 ≤ p2 ∧ p2 ≤ 999) ∧ (0 ≤ p3 ∧ p3 ≤ 3)) ∨ (b = 0 ∧ ¬ ((0 ≤ p0 ∧ p0 < 4) ∧ (0 ≤ p1 ∧ p1 < 4) ∧ (0 ≤ p2 ∧ p2 ≤ 999) ∧ (0 ≤ p3 ∧ p3 ≤ 3)))) → ∀ (H : Heap) (locs : List Loc) (ls : Array Slot), wd D A s.heap (xw cy a z g) H locs → lv_has ls 12 [(0, .ref (a 0)), (1, vI p0), (2, vI p1), (3, vI p2), (4, vI p3)] → W p l e (rm_X9_wire) s m args below meth c H locs 0 0 Q (F0 m 43 ls [vI b]) := by
    intro b hb1 H locs ls w hl
    refine lv_istore (lv' := [(5, vI b), (0, .ref (a 0)), (1, vI p0), (2, vI p1), (3, vI p2), (4, vI p3)]) hx hb dX9_wire_43 hl (by decide) rfl (fun ls hl => ?_)
    refine lv_iload hx hb dX9_wire_45 (lv_at hl 0 rfl) ?_
    refine r_if_ne (tgt := 52) hx hb dX9_wire_47 (by decide) (by omega) (fun c47 => ?_) (fun c47 => ?_)
    · skip
      refine r_iconst hx hb dX9_wire_52 ?_
      refine lv_istore (lv' := [(6, vI 0), (5, vI b), (0, .ref (a 0)), (1, vI p0), (2, vI p1), (3, vI p2), (4, vI p3)]) hx hb dX9_wire_53 hl (by decide) rfl (fun ls hl => ?_)
      refine r_iconst hx hb dX9_wire_55 ?_
      refine lv_istore (lv' := [(7, vI 0), (6, vI 0), (5, vI b), (0, .ref (a 0)), (1, vI p0), (2, vI p1), (3, vI p2), (4, vI p3)]) hx hb dX9_wire_56 hl (by decide) rfl (fun ls hl => ?_)
      refine r_iconst hx hb dX9_wire_58 ?_
      refine lv_istore (lv' := [(8, vI 0), (7, vI 0), (6, vI 0), (5, vI b), (0, .ref (a 0)), (1, vI p0), (2, vI p1), (3, vI p2), (4, vI p3)]) hx hb dX9_wire_59 hl (by decide) rfl (fun ls hl => ?_)
      refine r_iconst hx hb dX9_wire_61 ?_
      refine lv_istore (lv' := [(9, vI 0), (8, vI 0), (7, vI 0), (6, vI 0), (5, vI b), (0, .ref (a 0)), (1, vI p0), (2, vI p1), (3, vI p2), (4, vI p3)]) hx hb dX9_wire_62 hl (by decide) rfl (fun ls hl => ?_)
      refine r_iconst hx hb dX9_wire_64 ?_
      refine lv_istore (lv' := [(10, vI 0), (9, vI 0), (8, vI 0), (7, vI 0), (6, vI 0), (5, vI b), (0, .ref (a 0)), (1, vI p0), (2, vI p1), (3, vI p2), (4, vI p3)]) hx hb dX9_wire_65 hl (by decide) rfl (fun ls hl => ?_)
      exact J67 _ 0 0 0 0 0 (by omega) (by omega) (by rfl) (Nat.lt_succ_self _) _ _ _ w (lv_sub hl [6, 7, 8, 9, 10, 4, 3, 2, 1, 0] rfl)
    · skip
      refine r_iconst hx hb dX9_wire_50 ?_
      exact hend (-1) () _ _ _ _ dX9_wire_51 w (by exact Or.inl ⟨by omega, rfl⟩)
  replace hl : lv_has ls 12 [(0, .ref (a 0)), (1, vI p0), (2, vI p1), (3, vI p2), (4, vI p3)] := hl
  refine lv_iload_n hx hb dX9_wire_0 rfl (lv_at hl 1 rfl) ?_
  refine r_iconst hx hb dX9_wire_1 ?_
  refine cSI C w hA (ct_X9_isBelow l D cy a z g p0 4 (by show iR p0; omega) (by show iR 4; omega)) ok_X9_isBelow km_X9_115 ⟨rfl, rfl⟩ ⟨by decide, by decide⟩ ⟨by decide, by decide⟩ rfl hl.1 rfl (Nat.le_of_ble_eq_true rfl) dX9_wire_2 (fun rv_5 uv_5 H locs w hp_5 => ?_)
  replace hp_5 : (rv_5 = 1 ∧ 0 ≤ p0 ∧ p0 < 4) ∨ (rv_5 = 0 ∧ ¬ (0 ≤ p0 ∧ p0 < 4)) := hp_5
  replace w : wd D A s.heap (xw cy a z g) H locs := w
  refine r_if_eq (tgt := 42) hx hb dX9_wire_5 (by decide) (by omega) (fun c5 => ?_) (fun c5 => ?_)
  · skip
    refine r_iconst hx hb dX9_wire_42 ?_
    exact J43 0 (by omega) _ _ _ w (lv_sub hl [0, 1, 2, 3, 4] rfl)
  · skip
    refine lv_iload_n hx hb dX9_wire_8 rfl (lv_at hl 2 rfl) ?_
    refine r_iconst hx hb dX9_wire_9 ?_
    refine cSI C w hA (ct_X9_isBelow l D cy a z g p1 4 (by show iR p1; omega) (by show iR 4; omega)) ok_X9_isBelow km_X9_115 ⟨rfl, rfl⟩ ⟨by decide, by decide⟩ ⟨by decide, by decide⟩ rfl hl.1 rfl (Nat.le_of_ble_eq_true rfl) dX9_wire_10 (fun rv_6 uv_6 H locs w hp_6 => ?_)
    replace hp_6 : (rv_6 = 1 ∧ 0 ≤ p1 ∧ p1 < 4) ∨ (rv_6 = 0 ∧ ¬ (0 ≤ p1 ∧ p1 < 4)) := hp_6
    replace w : wd D A s.heap (xw cy a z g) H locs := w
    refine r_if_eq (tgt := 42) hx hb dX9_wire_13 (by decide) (by omega) (fun c13 => ?_) (fun c13 => ?_)
    · skip
      refine r_iconst hx hb dX9_wire_42 ?_
      exact J43 0 (by omega) _ _ _ w (lv_sub hl [0, 1, 2, 3, 4] rfl)
    · skip
      refine lv_iload_n hx hb dX9_wire_16 rfl (lv_at hl 3 rfl) ?_
      refine r_if_lt (tgt := 42) hx hb dX9_wire_17 (by decide) (by omega) (fun c17 => ?_) (fun c17 => ?_)
      · skip
        refine r_iconst hx hb dX9_wire_42 ?_
        exact J43 0 (by omega) _ _ _ w (lv_sub hl [0, 1, 2, 3, 4] rfl)
      · skip
        refine lv_iload_n hx hb dX9_wire_20 rfl (lv_at hl 3 rfl) ?_
        refine r_sipush hx hb dX9_wire_21 (by decide) ?_
        refine r_icmp_gt (tgt := 42) hx hb dX9_wire_24 (by decide) (by omega) (by omega) (fun c24 => ?_) (fun c24 => ?_)
        · skip
          refine r_iconst hx hb dX9_wire_42 ?_
          exact J43 0 (by omega) _ _ _ w (lv_sub hl [0, 1, 2, 3, 4] rfl)
        · skip
          refine lv_iload hx hb dX9_wire_27 (lv_at hl 4 rfl) ?_
          refine r_if_lt (tgt := 42) hx hb dX9_wire_29 (by decide) (by omega) (fun c29 => ?_) (fun c29 => ?_)
          · skip
            refine r_iconst hx hb dX9_wire_42 ?_
            exact J43 0 (by omega) _ _ _ w (lv_sub hl [0, 1, 2, 3, 4] rfl)
          · skip
            refine lv_iload hx hb dX9_wire_32 (lv_at hl 4 rfl) ?_
            refine r_iconst hx hb dX9_wire_34 ?_
            refine r_icmp_gt (tgt := 42) hx hb dX9_wire_35 (by decide) (by omega) (by omega) (fun c35 => ?_) (fun c35 => ?_)
            · skip
              refine r_iconst hx hb dX9_wire_42 ?_
              exact J43 0 (by omega) _ _ _ w (lv_sub hl [0, 1, 2, 3, 4] rfl)
            · skip
              refine r_iconst hx hb dX9_wire_38 ?_
              refine lv_goto (tgt := 43) hx hb dX9_wire_39 (by decide) ?_
              exact J43 1 (by omega) _ _ _ w (lv_sub hl [0, 1, 2, 3, 4] rfl)

abbrev rm_X10_wire : Room := { frames := 1, cells := 0, slots := 0, locals := 22 }
set_option maxHeartbeats 4000000 in
set_option maxRecDepth 100000 in
theorem ct_X10_wire (l : Launch) (D : va_G) (cy : Nat → ClassId) (a : Nat → Nat) (z : Nat → Int) (g : Nat → Int → Int) (p0 p1 p2 p3 : Int) (hz : mBz z) (hg : mBg g) (h0 : iR p0) (h1 : iR p1) (h2 : iR p2) (h3 : iR p3) : MI l yX10_wire cX10_wire 10 .int (rm_X10_wire) D cy (mw cy a z g) [.ref (a 0), vI p0, vI p1, vI p2, vI p3] (fun (v : Int) (u : sX) => ((¬ ((0 ≤ p0 ∧ p0 < 4) ∧ (0 ≤ p1 ∧ p1 < 4) ∧ (0 ≤ p2 ∧ p2 ≤ 999) ∧ (0 ≤ p3 ∧ p3 ≤ 3)) ∧ v = -1 ∧ u = (uZ z 0 0, g)) ∨ (((0 ≤ p0 ∧ p0 < 4) ∧ (0 ≤ p1 ∧ p1 < 4) ∧ (0 ≤ p2 ∧ p2 ≤ 999) ∧ (0 ≤ p3 ∧ p3 ≤ 3)) ∧ v = wsl (wI (siM g p0 p1 p2) (g 20) (g 19) (z 13)) p3 ∧ u = (uZ z 0 0, g))) ∧ mBz u.1 ∧ mBg u.2) (fun u => mw cy a u.1 u.2) 0 0 := by
  refine go_i (by decide +kernel) (Nat.le_of_ble_eq_true rfl) (Or.inl rfl) ?_
  intro p e s m args below meth c Q A ls C hnm hA w hl hend
  have hx := C.1
  have hb := C.2.1
  have bz0 : (0 : Int) ≤ 0 ∧ (0 : Int) ≤ 1 := by omega
  have b13_ := mZ13 hz
  have J61 : ∀ N : Nat, ∀ (o5 : Int) (o6 : Int) (o7 : Int) (o8 : Int) (i : Int), ((0 ≤ p0 ∧ p0 < 4) ∧ (0 ≤ p1 ∧ p1 < 4) ∧ (0 ≤ p2 ∧ p2 ≤ 999) ∧ (0 ≤ p3 ∧ p3 ≤ 3)) → (0 ≤ i ∧ i ≤ z 13) → ((o5, o6, o7, o8) = wI (siM g p0 p1 p2) (g 20) (g 19) i) → ((z 13 - i).toNat) < N → ∀ (H : Heap) (locs : List Loc) (ls : Array Slot), wd D A s.heap (mw cy a (uZ z 0 0) g) H locs → lv_has ls 10 [(0, .ref (a 0)), (1, vI p0), (2, vI p1), (3, vI p2), (4, vI p3), (5, vI o5), (6, vI o6), (7, vI o7), (8, vI o8), (9, vI i)] → W p l e (rm_X10_wire) s m args below meth c H locs 0 0 Q (F0 m 61 ls []) := by
    intro N
    induction N with
    | zero => intro o5 o6 o7 o8 i hwc hi hT hN9; exact absurd hN9 (Nat.not_lt_zero _)
    | succ N ih61 =>
      intro o5 o6 o7 o8 i hwc hi hT hN61 H locs ls w hl
      have hTb := wI_b (mB20 hg) (mB19 hg) hi.1 hT
      refine lv_iload hx hb dX10_wire_61 (lv_at hl 9 rfl) ?_
      refine lv_aload_n hx hb dX10_wire_63 rfl (lv_at hl 0 rfl) ?_
      refine r_get C w 0 (v := vI (z 13)) rfl rfl 34 (by decide) inX10 kf_X10_198 rfl dX10_wire_64 ?_
      have qz1 := mZ13 hz
      refine r_icmp_ge (tgt := 204) hx hb dX10_wire_67 (by decide) (by omega) (by omega) (fun c67 => ?_) (fun c67 => ?_)
      · skip
        refine lv_iload hx hb dX10_wire_204 (lv_at hl 4 rfl) ?_
        refine r_if_ne (tgt := 214) hx hb dX10_wire_206 (by decide) (by omega) (fun c206 => ?_) (fun c206 => ?_)
        · skip
          refine lv_iload hx hb dX10_wire_214 (lv_at hl 4 rfl) ?_
          refine r_iconst hx hb dX10_wire_216 ?_
          refine r_icmp_ne (tgt := 225) hx hb dX10_wire_217 (by decide) (by omega) (by omega) (fun c217 => ?_) (fun c217 => ?_)
          · skip
            refine lv_iload hx hb dX10_wire_225 (lv_at hl 4 rfl) ?_
            refine r_iconst hx hb dX10_wire_227 ?_
            refine r_icmp_ne (tgt := 236) hx hb dX10_wire_228 (by decide) (by omega) (by omega) (fun c228 => ?_) (fun c228 => ?_)
            · skip
              refine lv_iload hx hb dX10_wire_236 (lv_at hl 8 rfl) ?_
              exact hend o8 ((uZ z 0 0), g) _ _ _ _ dX10_wire_238 w ⟨(by refine Or.inr ⟨hwc, ?_, rfl⟩; rw [← show i = z 13 by omega]; first | exact wsl_0 hT (by omega) | exact wsl_1 hT (by omega) | exact wsl_2 hT (by omega) | exact wsl_3 hT (by omega)), (mBz_u hz 0 bz0), hg⟩
            · skip
              refine lv_iload hx hb dX10_wire_231 (lv_at hl 7 rfl) ?_
              refine lv_goto (tgt := 238) hx hb dX10_wire_233 (by decide) ?_
              exact hend o7 ((uZ z 0 0), g) _ _ _ _ dX10_wire_238 w ⟨(by refine Or.inr ⟨hwc, ?_, rfl⟩; rw [← show i = z 13 by omega]; first | exact wsl_0 hT (by omega) | exact wsl_1 hT (by omega) | exact wsl_2 hT (by omega) | exact wsl_3 hT (by omega)), (mBz_u hz 0 bz0), hg⟩
          · skip
            refine lv_iload hx hb dX10_wire_220 (lv_at hl 6 rfl) ?_
            refine lv_goto (tgt := 238) hx hb dX10_wire_222 (by decide) ?_
            exact hend o6 ((uZ z 0 0), g) _ _ _ _ dX10_wire_238 w ⟨(by refine Or.inr ⟨hwc, ?_, rfl⟩; rw [← show i = z 13 by omega]; first | exact wsl_0 hT (by omega) | exact wsl_1 hT (by omega) | exact wsl_2 hT (by omega) | exact wsl_3 hT (by omega)), (mBz_u hz 0 bz0), hg⟩
        · skip
          refine lv_iload hx hb dX10_wire_209 (lv_at hl 5 rfl) ?_
          refine lv_goto (tgt := 238) hx hb dX10_wire_211 (by decide) ?_
          exact hend o5 ((uZ z 0 0), g) _ _ _ _ dX10_wire_238 w ⟨(by refine Or.inr ⟨hwc, ?_, rfl⟩; rw [← show i = z 13 by omega]; first | exact wsl_0 hT (by omega) | exact wsl_1 hT (by omega) | exact wsl_2 hT (by omega) | exact wsl_3 hT (by omega)), (mBz_u hz 0 bz0), hg⟩
      · skip
        refine lv_aload_n hx hb dX10_wire_70 rfl (lv_at hl 0 rfl) ?_
        refine lv_iload hx hb dX10_wire_71 (lv_at hl 9 rfl) ?_
        refine lv_iload_n hx hb dX10_wire_73 rfl (lv_at hl 3 rfl) ?_
        refine cVI C w hA (ct_X10_counts l D cy a (uZ z 0 0) g i p2 (mBz_u hz 0 bz0) hg (by show 0 ≤ i ∧ i < 400; omega) (by show iR p2; omega)) ok_X10_counts km_X10_218 ⟨rfl, rfl⟩ ⟨by decide, by decide⟩ ⟨by decide, by decide⟩ rfl 0 rfl rfl hl.1 rfl (Nat.le_of_ble_eq_true rfl) dX10_wire_74 (fun rv_1 uv_1 H locs w hp_1 => ?_)
        replace hp_1 : (rv_1 = 1 ∧ (g 18) i ≤ p2 ∧ ((g 21) i = -1 ∨ p2 < (g 21) i)) ∨ (rv_1 = 0 ∧ ¬ ((g 18) i ≤ p2 ∧ ((g 21) i = -1 ∨ p2 < (g 21) i))) := hp_1
        replace w : wd D A s.heap (mw cy a (uZ z 0 0) g) H locs := w
        refine r_if_eq (tgt := 198) hx hb dX10_wire_77 (by decide) (by omega) (fun c77 => ?_) (fun c77 => ?_)
        · skip
          refine r_iinc (lv' := [(9, vI (i + 1)), (0, .ref (a 0)), (1, vI p0), (2, vI p1), (3, vI p2), (4, vI p3), (5, vI o5), (6, vI o6), (7, vI o7), (8, vI o8)]) hx hb dX10_wire_198 hl (k := 9) rfl (by decide) rfl (fun ls hl => ?_)
          refine lv_goto (tgt := 61) hx hb dX10_wire_201 (by decide) ?_
          exact ih61 o5 o6 o7 o8 (i + 1) (by omega) (by omega) (by first | exact wI_kp hi.1 hT (siM_n (by omega)) | exact wI_st hi.1 hT (if_pos (by omega)) (by omega) (by omega)) (by omega) _ _ _ w (lv_sub hl [1, 2, 3, 4, 5, 6, 7, 8, 9, 0] rfl)
        · skip
          refine lv_aload_n hx hb dX10_wire_80 rfl (lv_at hl 0 rfl) ?_
          refine r_get C w 0 (v := .ref (a 18)) rfl rfl 30 (by decide) inX10 kf_X10_63 rfl dX10_wire_81 ?_
          refine lv_iload hx hb dX10_wire_84 (lv_at hl 9 rfl) ?_
          refine r_iald C w 18 (f := (g 18)) rfl (by omega) (by omega) (by decide) dX10_wire_86 ?_
          have qg2 := mB18 hg i
          refine lv_iload_n hx hb dX10_wire_87 rfl (lv_at hl 3 rfl) ?_
          refine r_icmp_ne (tgt := 198) hx hb dX10_wire_88 (by decide) (by omega) (by omega) (fun c88 => ?_) (fun c88 => ?_)
          · skip
            refine r_iinc (lv' := [(9, vI (i + 1)), (0, .ref (a 0)), (1, vI p0), (2, vI p1), (3, vI p2), (4, vI p3), (5, vI o5), (6, vI o6), (7, vI o7), (8, vI o8)]) hx hb dX10_wire_198 hl (k := 9) rfl (by decide) rfl (fun ls hl => ?_)
            refine lv_goto (tgt := 61) hx hb dX10_wire_201 (by decide) ?_
            exact ih61 o5 o6 o7 o8 (i + 1) (by omega) (by omega) (by first | exact wI_kp hi.1 hT (siM_n (by omega)) | exact wI_st hi.1 hT (if_pos (by omega)) (by omega) (by omega)) (by omega) _ _ _ w (lv_sub hl [1, 2, 3, 4, 5, 6, 7, 8, 9, 0] rfl)
          · skip
            refine lv_aload_n hx hb dX10_wire_91 rfl (lv_at hl 0 rfl) ?_
            refine r_get C w 0 (v := .ref (a 9)) rfl rfl 19 (by decide) inX10 kf_X10_36 rfl dX10_wire_92 ?_
            refine lv_aload_n hx hb dX10_wire_95 rfl (lv_at hl 0 rfl) ?_
            refine r_get C w 0 (v := .ref (a 16)) rfl rfl 28 (by decide) inX10 kf_X10_57 rfl dX10_wire_96 ?_
            refine lv_iload hx hb dX10_wire_99 (lv_at hl 9 rfl) ?_
            refine r_iald C w 16 (f := (g 16)) rfl (by omega) (by omega) (by decide) dX10_wire_101 ?_
            have qg3 := mB16 hg i
            refine r_iald C w 9 (f := (g 9)) rfl (by omega) (by omega) (by decide) dX10_wire_102 ?_
            have qg4 := mB9 hg ((g 16) i)
            refine lv_iload_n hx hb dX10_wire_103 rfl (lv_at hl 1 rfl) ?_
            refine r_icmp_ne (tgt := 198) hx hb dX10_wire_104 (by decide) (by omega) (by omega) (fun c104 => ?_) (fun c104 => ?_)
            · skip
              refine r_iinc (lv' := [(9, vI (i + 1)), (0, .ref (a 0)), (1, vI p0), (2, vI p1), (3, vI p2), (4, vI p3), (5, vI o5), (6, vI o6), (7, vI o7), (8, vI o8)]) hx hb dX10_wire_198 hl (k := 9) rfl (by decide) rfl (fun ls hl => ?_)
              refine lv_goto (tgt := 61) hx hb dX10_wire_201 (by decide) ?_
              exact ih61 o5 o6 o7 o8 (i + 1) (by omega) (by omega) (by first | exact wI_kp hi.1 hT (siM_n (by omega)) | exact wI_st hi.1 hT (if_pos (by omega)) (by omega) (by omega)) (by omega) _ _ _ w (lv_sub hl [1, 2, 3, 4, 5, 6, 7, 8, 9, 0] rfl)
            · skip
              refine lv_aload_n hx hb dX10_wire_107 rfl (lv_at hl 0 rfl) ?_
              refine r_get C w 0 (v := .ref (a 7)) rfl rfl 17 (by decide) inX10 kf_X10_30 rfl dX10_wire_108 ?_
              refine lv_aload_n hx hb dX10_wire_111 rfl (lv_at hl 0 rfl) ?_
              refine r_get C w 0 (v := .ref (a 16)) rfl rfl 28 (by decide) inX10 kf_X10_57 rfl dX10_wire_112 ?_
              refine lv_iload hx hb dX10_wire_115 (lv_at hl 9 rfl) ?_
              refine r_iald C w 16 (f := (g 16)) rfl (by omega) (by omega) (by decide) dX10_wire_117 ?_
              have qg5 := mB16 hg i
              refine r_iald C w 7 (f := (g 7)) rfl (by omega) (by omega) (by decide) dX10_wire_118 ?_
              have qg6 := mB7 hg ((g 16) i)
              refine lv_iload_n hx hb dX10_wire_119 rfl (lv_at hl 2 rfl) ?_
              refine r_icmp_eq (tgt := 126) hx hb dX10_wire_120 (by decide) (by omega) (by omega) (fun c120 => ?_) (fun c120 => ?_)
              · skip
                refine lv_iload hx hb dX10_wire_126 (lv_at hl 5 rfl) ?_
                refine r_if_eq (tgt := 143) hx hb dX10_wire_128 (by decide) (by omega) (fun c128 => ?_) (fun c128 => ?_)
                · skip
                  refine lv_aload_n hx hb dX10_wire_143 rfl (lv_at hl 0 rfl) ?_
                  refine r_get C w 0 (v := .ref (a 20)) rfl rfl 32 (by decide) inX10 kf_X10_69 rfl dX10_wire_144 ?_
                  refine lv_iload hx hb dX10_wire_147 (lv_at hl 9 rfl) ?_
                  refine r_iald C w 20 (f := (g 20)) rfl (by omega) (by omega) (by decide) dX10_wire_149 ?_
                  have qg7 := mB20 hg i
                  refine lv_goto (tgt := 155) hx hb dX10_wire_150 (by decide) ?_
                  refine lv_istore (lv' := [(7, vI ((g 20) i)), (0, .ref (a 0)), (1, vI p0), (2, vI p1), (3, vI p2), (4, vI p3), (5, vI o5), (6, vI o6), (8, vI o8), (9, vI i)]) hx hb dX10_wire_155 hl (by decide) rfl (fun ls hl => ?_)
                  refine lv_aload_n hx hb dX10_wire_157 rfl (lv_at hl 1 rfl) ?_
                  refine r_get C w 0 (v := .ref (a 20)) rfl rfl 32 (by decide) inX10 kf_X10_69 rfl dX10_wire_158 ?_
                  refine lv_iload hx hb dX10_wire_161 (lv_at hl 9 rfl) ?_
                  refine r_iald C w 20 (f := (g 20)) rfl (by omega) (by omega) (by decide) dX10_wire_163 ?_
                  have qg8 := mB20 hg i
                  refine lv_iload hx hb dX10_wire_164 (lv_at hl 8 rfl) ?_
                  refine r_icmp_le (tgt := 179) hx hb dX10_wire_166 (by decide) (by omega) (by omega) (fun c166 => ?_) (fun c166 => ?_)
                  · skip
                    refine lv_iload hx hb dX10_wire_179 (lv_at hl 8 rfl) ?_
                    refine lv_istore (lv' := [(8, vI o8), (7, vI ((g 20) i)), (0, .ref (a 0)), (1, vI p0), (2, vI p1), (3, vI p2), (4, vI p3), (5, vI o5), (6, vI o6), (9, vI i)]) hx hb dX10_wire_181 hl (by decide) rfl (fun ls hl => ?_)
                    refine r_iinc (lv' := [(5, vI (o5 + 1)), (8, vI o8), (7, vI ((g 20) i)), (0, .ref (a 0)), (1, vI p0), (2, vI p1), (3, vI p2), (4, vI p3), (6, vI o6), (9, vI i)]) hx hb dX10_wire_183 hl (k := 7) rfl (by decide) rfl (fun ls hl => ?_)
                    refine lv_iload hx hb dX10_wire_186 (lv_at hl 8 rfl) ?_
                    refine lv_aload_n hx hb dX10_wire_188 rfl (lv_at hl 3 rfl) ?_
                    refine r_get C w 0 (v := .ref (a 19)) rfl rfl 31 (by decide) inX10 kf_X10_66 rfl dX10_wire_189 ?_
                    refine lv_iload hx hb dX10_wire_192 (lv_at hl 9 rfl) ?_
                    refine r_iald C w 19 (f := (g 19)) rfl (by omega) (by omega) (by decide) dX10_wire_194 ?_
                    have qg9 := mB19 hg i
                    refine r_iadd hx hb dX10_wire_195 ?_
                    refine lv_istore (lv' := [(6, vI (o6 + ((g 19) i))), (5, vI (o5 + 1)), (8, vI o8), (7, vI ((g 20) i)), (0, .ref (a 0)), (1, vI p0), (2, vI p1), (3, vI p2), (4, vI p3), (9, vI i)]) hx hb dX10_wire_196 hl (by decide) rfl (fun ls hl => ?_)
                    refine r_iinc (lv' := [(9, vI (i + 1)), (6, vI (o6 + ((g 19) i))), (5, vI (o5 + 1)), (8, vI o8), (7, vI ((g 20) i)), (0, .ref (a 0)), (1, vI p0), (2, vI p1), (3, vI p2), (4, vI p3)]) hx hb dX10_wire_198 hl (k := 9) rfl (by decide) rfl (fun ls hl => ?_)
                    refine lv_goto (tgt := 61) hx hb dX10_wire_201 (by decide) ?_
                    exact ih61 (o5 + 1) (o6 + ((g 19) i)) ((g 20) i) o8 (i + 1) (by omega) (by omega) (by first | exact wI_kp hi.1 hT (siM_n (by omega)) | exact wI_st hi.1 hT (if_pos (by omega)) (by omega) (by omega)) (by omega) _ _ _ w (lv_sub hl [5, 6, 7, 8, 9, 2, 1, 4, 3, 0] rfl)
                  · skip
                    refine lv_aload_n hx hb dX10_wire_169 rfl (lv_at hl 1 rfl) ?_
                    refine r_get C w 0 (v := .ref (a 20)) rfl rfl 32 (by decide) inX10 kf_X10_69 rfl dX10_wire_170 ?_
                    refine lv_iload hx hb dX10_wire_173 (lv_at hl 9 rfl) ?_
                    refine r_iald C w 20 (f := (g 20)) rfl (by omega) (by omega) (by decide) dX10_wire_175 ?_
                    have qg10 := mB20 hg i
                    refine lv_goto (tgt := 181) hx hb dX10_wire_176 (by decide) ?_
                    refine lv_istore (lv' := [(8, vI ((g 20) i)), (7, vI ((g 20) i)), (0, .ref (a 0)), (1, vI p0), (2, vI p1), (3, vI p2), (4, vI p3), (5, vI o5), (6, vI o6), (9, vI i)]) hx hb dX10_wire_181 hl (by decide) rfl (fun ls hl => ?_)
                    refine r_iinc (lv' := [(5, vI (o5 + 1)), (8, vI ((g 20) i)), (7, vI ((g 20) i)), (0, .ref (a 0)), (1, vI p0), (2, vI p1), (3, vI p2), (4, vI p3), (6, vI o6), (9, vI i)]) hx hb dX10_wire_183 hl (k := 7) rfl (by decide) rfl (fun ls hl => ?_)
                    refine lv_iload hx hb dX10_wire_186 (lv_at hl 8 rfl) ?_
                    refine lv_aload_n hx hb dX10_wire_188 rfl (lv_at hl 3 rfl) ?_
                    refine r_get C w 0 (v := .ref (a 19)) rfl rfl 31 (by decide) inX10 kf_X10_66 rfl dX10_wire_189 ?_
                    refine lv_iload hx hb dX10_wire_192 (lv_at hl 9 rfl) ?_
                    refine r_iald C w 19 (f := (g 19)) rfl (by omega) (by omega) (by decide) dX10_wire_194 ?_
                    have qg11 := mB19 hg i
                    refine r_iadd hx hb dX10_wire_195 ?_
                    refine lv_istore (lv' := [(6, vI (o6 + ((g 19) i))), (5, vI (o5 + 1)), (8, vI ((g 20) i)), (7, vI ((g 20) i)), (0, .ref (a 0)), (1, vI p0), (2, vI p1), (3, vI p2), (4, vI p3), (9, vI i)]) hx hb dX10_wire_196 hl (by decide) rfl (fun ls hl => ?_)
                    refine r_iinc (lv' := [(9, vI (i + 1)), (6, vI (o6 + ((g 19) i))), (5, vI (o5 + 1)), (8, vI ((g 20) i)), (7, vI ((g 20) i)), (0, .ref (a 0)), (1, vI p0), (2, vI p1), (3, vI p2), (4, vI p3)]) hx hb dX10_wire_198 hl (k := 9) rfl (by decide) rfl (fun ls hl => ?_)
                    refine lv_goto (tgt := 61) hx hb dX10_wire_201 (by decide) ?_
                    exact ih61 (o5 + 1) (o6 + ((g 19) i)) ((g 20) i) ((g 20) i) (i + 1) (by omega) (by omega) (by first | exact wI_kp hi.1 hT (siM_n (by omega)) | exact wI_st hi.1 hT (if_pos (by omega)) (by omega) (by omega)) (by omega) _ _ _ w (lv_sub hl [5, 6, 7, 8, 9, 2, 1, 4, 3, 0] rfl)
                · skip
                  refine lv_aload_n hx hb dX10_wire_131 rfl (lv_at hl 0 rfl) ?_
                  refine r_get C w 0 (v := .ref (a 20)) rfl rfl 32 (by decide) inX10 kf_X10_69 rfl dX10_wire_132 ?_
                  refine lv_iload hx hb dX10_wire_135 (lv_at hl 9 rfl) ?_
                  refine r_iald C w 20 (f := (g 20)) rfl (by omega) (by omega) (by decide) dX10_wire_137 ?_
                  have qg12 := mB20 hg i
                  refine lv_iload hx hb dX10_wire_138 (lv_at hl 7 rfl) ?_
                  refine r_icmp_ge (tgt := 153) hx hb dX10_wire_140 (by decide) (by omega) (by omega) (fun c140 => ?_) (fun c140 => ?_)
                  · skip
                    refine lv_iload hx hb dX10_wire_153 (lv_at hl 7 rfl) ?_
                    refine lv_istore (lv' := [(7, vI o7), (0, .ref (a 0)), (1, vI p0), (2, vI p1), (3, vI p2), (4, vI p3), (5, vI o5), (6, vI o6), (8, vI o8), (9, vI i)]) hx hb dX10_wire_155 hl (by decide) rfl (fun ls hl => ?_)
                    refine lv_aload_n hx hb dX10_wire_157 rfl (lv_at hl 1 rfl) ?_
                    refine r_get C w 0 (v := .ref (a 20)) rfl rfl 32 (by decide) inX10 kf_X10_69 rfl dX10_wire_158 ?_
                    refine lv_iload hx hb dX10_wire_161 (lv_at hl 9 rfl) ?_
                    refine r_iald C w 20 (f := (g 20)) rfl (by omega) (by omega) (by decide) dX10_wire_163 ?_
                    have qg13 := mB20 hg i
                    refine lv_iload hx hb dX10_wire_164 (lv_at hl 8 rfl) ?_
                    refine r_icmp_le (tgt := 179) hx hb dX10_wire_166 (by decide) (by omega) (by omega) (fun c166 => ?_) (fun c166 => ?_)
                    · skip
                      refine lv_iload hx hb dX10_wire_179 (lv_at hl 8 rfl) ?_
                      refine lv_istore (lv' := [(8, vI o8), (7, vI o7), (0, .ref (a 0)), (1, vI p0), (2, vI p1), (3, vI p2), (4, vI p3), (5, vI o5), (6, vI o6), (9, vI i)]) hx hb dX10_wire_181 hl (by decide) rfl (fun ls hl => ?_)
                      refine r_iinc (lv' := [(5, vI (o5 + 1)), (8, vI o8), (7, vI o7), (0, .ref (a 0)), (1, vI p0), (2, vI p1), (3, vI p2), (4, vI p3), (6, vI o6), (9, vI i)]) hx hb dX10_wire_183 hl (k := 7) rfl (by decide) rfl (fun ls hl => ?_)
                      refine lv_iload hx hb dX10_wire_186 (lv_at hl 8 rfl) ?_
                      refine lv_aload_n hx hb dX10_wire_188 rfl (lv_at hl 3 rfl) ?_
                      refine r_get C w 0 (v := .ref (a 19)) rfl rfl 31 (by decide) inX10 kf_X10_66 rfl dX10_wire_189 ?_
                      refine lv_iload hx hb dX10_wire_192 (lv_at hl 9 rfl) ?_
                      refine r_iald C w 19 (f := (g 19)) rfl (by omega) (by omega) (by decide) dX10_wire_194 ?_
                      have qg14 := mB19 hg i
                      refine r_iadd hx hb dX10_wire_195 ?_
                      refine lv_istore (lv' := [(6, vI (o6 + ((g 19) i))), (5, vI (o5 + 1)), (8, vI o8), (7, vI o7), (0, .ref (a 0)), (1, vI p0), (2, vI p1), (3, vI p2), (4, vI p3), (9, vI i)]) hx hb dX10_wire_196 hl (by decide) rfl (fun ls hl => ?_)
                      refine r_iinc (lv' := [(9, vI (i + 1)), (6, vI (o6 + ((g 19) i))), (5, vI (o5 + 1)), (8, vI o8), (7, vI o7), (0, .ref (a 0)), (1, vI p0), (2, vI p1), (3, vI p2), (4, vI p3)]) hx hb dX10_wire_198 hl (k := 9) rfl (by decide) rfl (fun ls hl => ?_)
                      refine lv_goto (tgt := 61) hx hb dX10_wire_201 (by decide) ?_
                      exact ih61 (o5 + 1) (o6 + ((g 19) i)) o7 o8 (i + 1) (by omega) (by omega) (by first | exact wI_kp hi.1 hT (siM_n (by omega)) | exact wI_st hi.1 hT (if_pos (by omega)) (by omega) (by omega)) (by omega) _ _ _ w (lv_sub hl [5, 6, 7, 8, 9, 2, 1, 4, 3, 0] rfl)
                    · skip
                      refine lv_aload_n hx hb dX10_wire_169 rfl (lv_at hl 1 rfl) ?_
                      refine r_get C w 0 (v := .ref (a 20)) rfl rfl 32 (by decide) inX10 kf_X10_69 rfl dX10_wire_170 ?_
                      refine lv_iload hx hb dX10_wire_173 (lv_at hl 9 rfl) ?_
                      refine r_iald C w 20 (f := (g 20)) rfl (by omega) (by omega) (by decide) dX10_wire_175 ?_
                      have qg15 := mB20 hg i
                      refine lv_goto (tgt := 181) hx hb dX10_wire_176 (by decide) ?_
                      refine lv_istore (lv' := [(8, vI ((g 20) i)), (7, vI o7), (0, .ref (a 0)), (1, vI p0), (2, vI p1), (3, vI p2), (4, vI p3), (5, vI o5), (6, vI o6), (9, vI i)]) hx hb dX10_wire_181 hl (by decide) rfl (fun ls hl => ?_)
                      refine r_iinc (lv' := [(5, vI (o5 + 1)), (8, vI ((g 20) i)), (7, vI o7), (0, .ref (a 0)), (1, vI p0), (2, vI p1), (3, vI p2), (4, vI p3), (6, vI o6), (9, vI i)]) hx hb dX10_wire_183 hl (k := 7) rfl (by decide) rfl (fun ls hl => ?_)
                      refine lv_iload hx hb dX10_wire_186 (lv_at hl 8 rfl) ?_
                      refine lv_aload_n hx hb dX10_wire_188 rfl (lv_at hl 3 rfl) ?_
                      refine r_get C w 0 (v := .ref (a 19)) rfl rfl 31 (by decide) inX10 kf_X10_66 rfl dX10_wire_189 ?_
                      refine lv_iload hx hb dX10_wire_192 (lv_at hl 9 rfl) ?_
                      refine r_iald C w 19 (f := (g 19)) rfl (by omega) (by omega) (by decide) dX10_wire_194 ?_
                      have qg16 := mB19 hg i
                      refine r_iadd hx hb dX10_wire_195 ?_
                      refine lv_istore (lv' := [(6, vI (o6 + ((g 19) i))), (5, vI (o5 + 1)), (8, vI ((g 20) i)), (7, vI o7), (0, .ref (a 0)), (1, vI p0), (2, vI p1), (3, vI p2), (4, vI p3), (9, vI i)]) hx hb dX10_wire_196 hl (by decide) rfl (fun ls hl => ?_)
                      refine r_iinc (lv' := [(9, vI (i + 1)), (6, vI (o6 + ((g 19) i))), (5, vI (o5 + 1)), (8, vI ((g 20) i)), (7, vI o7), (0, .ref (a 0)), (1, vI p0), (2, vI p1), (3, vI p2), (4, vI p3)]) hx hb dX10_wire_198 hl (k := 9) rfl (by decide) rfl (fun ls hl => ?_)
                      refine lv_goto (tgt := 61) hx hb dX10_wire_201 (by decide) ?_
                      exact ih61 (o5 + 1) (o6 + ((g 19) i)) o7 ((g 20) i) (i + 1) (by omega) (by omega) (by first | exact wI_kp hi.1 hT (siM_n (by omega)) | exact wI_st hi.1 hT (if_pos (by omega)) (by omega) (by omega)) (by omega) _ _ _ w (lv_sub hl [5, 6, 7, 8, 9, 2, 1, 4, 3, 0] rfl)
                  · skip
                    refine lv_aload_n hx hb dX10_wire_143 rfl (lv_at hl 0 rfl) ?_
                    refine r_get C w 0 (v := .ref (a 20)) rfl rfl 32 (by decide) inX10 kf_X10_69 rfl dX10_wire_144 ?_
                    refine lv_iload hx hb dX10_wire_147 (lv_at hl 9 rfl) ?_
                    refine r_iald C w 20 (f := (g 20)) rfl (by omega) (by omega) (by decide) dX10_wire_149 ?_
                    have qg17 := mB20 hg i
                    refine lv_goto (tgt := 155) hx hb dX10_wire_150 (by decide) ?_
                    refine lv_istore (lv' := [(7, vI ((g 20) i)), (0, .ref (a 0)), (1, vI p0), (2, vI p1), (3, vI p2), (4, vI p3), (5, vI o5), (6, vI o6), (8, vI o8), (9, vI i)]) hx hb dX10_wire_155 hl (by decide) rfl (fun ls hl => ?_)
                    refine lv_aload_n hx hb dX10_wire_157 rfl (lv_at hl 1 rfl) ?_
                    refine r_get C w 0 (v := .ref (a 20)) rfl rfl 32 (by decide) inX10 kf_X10_69 rfl dX10_wire_158 ?_
                    refine lv_iload hx hb dX10_wire_161 (lv_at hl 9 rfl) ?_
                    refine r_iald C w 20 (f := (g 20)) rfl (by omega) (by omega) (by decide) dX10_wire_163 ?_
                    have qg18 := mB20 hg i
                    refine lv_iload hx hb dX10_wire_164 (lv_at hl 8 rfl) ?_
                    refine r_icmp_le (tgt := 179) hx hb dX10_wire_166 (by decide) (by omega) (by omega) (fun c166 => ?_) (fun c166 => ?_)
                    · skip
                      refine lv_iload hx hb dX10_wire_179 (lv_at hl 8 rfl) ?_
                      refine lv_istore (lv' := [(8, vI o8), (7, vI ((g 20) i)), (0, .ref (a 0)), (1, vI p0), (2, vI p1), (3, vI p2), (4, vI p3), (5, vI o5), (6, vI o6), (9, vI i)]) hx hb dX10_wire_181 hl (by decide) rfl (fun ls hl => ?_)
                      refine r_iinc (lv' := [(5, vI (o5 + 1)), (8, vI o8), (7, vI ((g 20) i)), (0, .ref (a 0)), (1, vI p0), (2, vI p1), (3, vI p2), (4, vI p3), (6, vI o6), (9, vI i)]) hx hb dX10_wire_183 hl (k := 7) rfl (by decide) rfl (fun ls hl => ?_)
                      refine lv_iload hx hb dX10_wire_186 (lv_at hl 8 rfl) ?_
                      refine lv_aload_n hx hb dX10_wire_188 rfl (lv_at hl 3 rfl) ?_
                      refine r_get C w 0 (v := .ref (a 19)) rfl rfl 31 (by decide) inX10 kf_X10_66 rfl dX10_wire_189 ?_
                      refine lv_iload hx hb dX10_wire_192 (lv_at hl 9 rfl) ?_
                      refine r_iald C w 19 (f := (g 19)) rfl (by omega) (by omega) (by decide) dX10_wire_194 ?_
                      have qg19 := mB19 hg i
                      refine r_iadd hx hb dX10_wire_195 ?_
                      refine lv_istore (lv' := [(6, vI (o6 + ((g 19) i))), (5, vI (o5 + 1)), (8, vI o8), (7, vI ((g 20) i)), (0, .ref (a 0)), (1, vI p0), (2, vI p1), (3, vI p2), (4, vI p3), (9, vI i)]) hx hb dX10_wire_196 hl (by decide) rfl (fun ls hl => ?_)
                      refine r_iinc (lv' := [(9, vI (i + 1)), (6, vI (o6 + ((g 19) i))), (5, vI (o5 + 1)), (8, vI o8), (7, vI ((g 20) i)), (0, .ref (a 0)), (1, vI p0), (2, vI p1), (3, vI p2), (4, vI p3)]) hx hb dX10_wire_198 hl (k := 9) rfl (by decide) rfl (fun ls hl => ?_)
                      refine lv_goto (tgt := 61) hx hb dX10_wire_201 (by decide) ?_
                      exact ih61 (o5 + 1) (o6 + ((g 19) i)) ((g 20) i) o8 (i + 1) (by omega) (by omega) (by first | exact wI_kp hi.1 hT (siM_n (by omega)) | exact wI_st hi.1 hT (if_pos (by omega)) (by omega) (by omega)) (by omega) _ _ _ w (lv_sub hl [5, 6, 7, 8, 9, 2, 1, 4, 3, 0] rfl)
                    · skip
                      refine lv_aload_n hx hb dX10_wire_169 rfl (lv_at hl 1 rfl) ?_
                      refine r_get C w 0 (v := .ref (a 20)) rfl rfl 32 (by decide) inX10 kf_X10_69 rfl dX10_wire_170 ?_
                      refine lv_iload hx hb dX10_wire_173 (lv_at hl 9 rfl) ?_
                      refine r_iald C w 20 (f := (g 20)) rfl (by omega) (by omega) (by decide) dX10_wire_175 ?_
                      have qg20 := mB20 hg i
                      refine lv_goto (tgt := 181) hx hb dX10_wire_176 (by decide) ?_
                      refine lv_istore (lv' := [(8, vI ((g 20) i)), (7, vI ((g 20) i)), (0, .ref (a 0)), (1, vI p0), (2, vI p1), (3, vI p2), (4, vI p3), (5, vI o5), (6, vI o6), (9, vI i)]) hx hb dX10_wire_181 hl (by decide) rfl (fun ls hl => ?_)
                      refine r_iinc (lv' := [(5, vI (o5 + 1)), (8, vI ((g 20) i)), (7, vI ((g 20) i)), (0, .ref (a 0)), (1, vI p0), (2, vI p1), (3, vI p2), (4, vI p3), (6, vI o6), (9, vI i)]) hx hb dX10_wire_183 hl (k := 7) rfl (by decide) rfl (fun ls hl => ?_)
                      refine lv_iload hx hb dX10_wire_186 (lv_at hl 8 rfl) ?_
                      refine lv_aload_n hx hb dX10_wire_188 rfl (lv_at hl 3 rfl) ?_
                      refine r_get C w 0 (v := .ref (a 19)) rfl rfl 31 (by decide) inX10 kf_X10_66 rfl dX10_wire_189 ?_
                      refine lv_iload hx hb dX10_wire_192 (lv_at hl 9 rfl) ?_
                      refine r_iald C w 19 (f := (g 19)) rfl (by omega) (by omega) (by decide) dX10_wire_194 ?_
                      have qg21 := mB19 hg i
                      refine r_iadd hx hb dX10_wire_195 ?_
                      refine lv_istore (lv' := [(6, vI (o6 + ((g 19) i))), (5, vI (o5 + 1)), (8, vI ((g 20) i)), (7, vI ((g 20) i)), (0, .ref (a 0)), (1, vI p0), (2, vI p1), (3, vI p2), (4, vI p3), (9, vI i)]) hx hb dX10_wire_196 hl (by decide) rfl (fun ls hl => ?_)
                      refine r_iinc (lv' := [(9, vI (i + 1)), (6, vI (o6 + ((g 19) i))), (5, vI (o5 + 1)), (8, vI ((g 20) i)), (7, vI ((g 20) i)), (0, .ref (a 0)), (1, vI p0), (2, vI p1), (3, vI p2), (4, vI p3)]) hx hb dX10_wire_198 hl (k := 9) rfl (by decide) rfl (fun ls hl => ?_)
                      refine lv_goto (tgt := 61) hx hb dX10_wire_201 (by decide) ?_
                      exact ih61 (o5 + 1) (o6 + ((g 19) i)) ((g 20) i) ((g 20) i) (i + 1) (by omega) (by omega) (by first | exact wI_kp hi.1 hT (siM_n (by omega)) | exact wI_st hi.1 hT (if_pos (by omega)) (by omega) (by omega)) (by omega) _ _ _ w (lv_sub hl [5, 6, 7, 8, 9, 2, 1, 4, 3, 0] rfl)
              · skip
                refine lv_goto (tgt := 198) hx hb dX10_wire_123 (by decide) ?_
                refine r_iinc (lv' := [(9, vI (i + 1)), (0, .ref (a 0)), (1, vI p0), (2, vI p1), (3, vI p2), (4, vI p3), (5, vI o5), (6, vI o6), (7, vI o7), (8, vI o8)]) hx hb dX10_wire_198 hl (k := 9) rfl (by decide) rfl (fun ls hl => ?_)
                refine lv_goto (tgt := 61) hx hb dX10_wire_201 (by decide) ?_
                exact ih61 o5 o6 o7 o8 (i + 1) (by omega) (by omega) (by first | exact wI_kp hi.1 hT (siM_n (by omega)) | exact wI_st hi.1 hT (if_pos (by omega)) (by omega) (by omega)) (by omega) _ _ _ w (lv_sub hl [1, 2, 3, 4, 5, 6, 7, 8, 9, 0] rfl)
  replace hl : lv_has ls 10 [(0, .ref (a 0)), (1, vI p0), (2, vI p1), (3, vI p2), (4, vI p3)] := hl
  refine lv_aload_n hx hb dX10_wire_0 rfl (lv_at hl 0 rfl) ?_
  refine r_iconst hx hb dX10_wire_1 ?_
  refine r_put C w 0 tyX10 tyX10_ok nmX10 rfl rfl 0 (by decide) inX10 kf_X10_97 rfl rfl rfl (Nat.le_of_ble_eq_true rfl) (ws' := mw cy a (uZ z 0 0) g) (mw_z0 cy a z g 0) dX10_wire_2 (fun H locs w => ?_)
  have bz22 : (0 : Int) ≤ 0 ∧ (0 : Int) ≤ 1 := (by omega)
  refine lv_iload_n hx hb dX10_wire_5 rfl (lv_at hl 1 rfl) ?_
  refine r_iconst hx hb dX10_wire_6 ?_
  refine r_iconst hx hb dX10_wire_7 ?_
  refine cSI C w hA (ct_X10_isIn l D cy a (uZ z 0 0) g p0 0 3 (by show iR p0; omega) (by show iR 0; omega) (by show iR 3; omega)) ok_X10_isIn km_X10_183 ⟨rfl, rfl⟩ ⟨by decide, by decide⟩ ⟨by decide, by decide⟩ rfl hl.1 rfl (Nat.le_of_ble_eq_true rfl) dX10_wire_8 (fun rv_2 uv_2 H locs w hp_2 => ?_)
  replace hp_2 : (rv_2 = 1 ∧ 0 ≤ p0 ∧ p0 ≤ 3) ∨ (rv_2 = 0 ∧ ¬ (0 ≤ p0 ∧ p0 ≤ 3)) := hp_2
  replace w : wd D A s.heap (mw cy a (uZ z 0 0) g) H locs := w
  refine r_if_eq (tgt := 44) hx hb dX10_wire_11 (by decide) (by omega) (fun c11 => ?_) (fun c11 => ?_)
  · skip
    refine r_iconst hx hb dX10_wire_44 ?_
    exact hend (-1) ((uZ z 0 0), g) _ _ _ _ dX10_wire_45 w ⟨(by exact Or.inl ⟨by omega, rfl, rfl⟩), (mBz_u hz 0 bz22), hg⟩
  · skip
    refine lv_iload_n hx hb dX10_wire_14 rfl (lv_at hl 2 rfl) ?_
    refine r_iconst hx hb dX10_wire_15 ?_
    refine r_iconst hx hb dX10_wire_16 ?_
    refine cSI C w hA (ct_X10_isIn l D cy a (uZ z 0 0) g p1 0 3 (by show iR p1; omega) (by show iR 0; omega) (by show iR 3; omega)) ok_X10_isIn km_X10_183 ⟨rfl, rfl⟩ ⟨by decide, by decide⟩ ⟨by decide, by decide⟩ rfl hl.1 rfl (Nat.le_of_ble_eq_true rfl) dX10_wire_17 (fun rv_3 uv_3 H locs w hp_3 => ?_)
    replace hp_3 : (rv_3 = 1 ∧ 0 ≤ p1 ∧ p1 ≤ 3) ∨ (rv_3 = 0 ∧ ¬ (0 ≤ p1 ∧ p1 ≤ 3)) := hp_3
    replace w : wd D A s.heap (mw cy a (uZ z 0 0) g) H locs := w
    refine r_if_eq (tgt := 44) hx hb dX10_wire_20 (by decide) (by omega) (fun c20 => ?_) (fun c20 => ?_)
    · skip
      refine r_iconst hx hb dX10_wire_44 ?_
      exact hend (-1) ((uZ z 0 0), g) _ _ _ _ dX10_wire_45 w ⟨(by exact Or.inl ⟨by omega, rfl, rfl⟩), (mBz_u hz 0 bz22), hg⟩
    · skip
      refine lv_iload_n hx hb dX10_wire_23 rfl (lv_at hl 3 rfl) ?_
      refine r_iconst hx hb dX10_wire_24 ?_
      refine r_sipush hx hb dX10_wire_25 (by decide) ?_
      refine cSI C w hA (ct_X10_isIn l D cy a (uZ z 0 0) g p2 0 999 (by show iR p2; omega) (by show iR 0; omega) (by show iR 999; omega)) ok_X10_isIn km_X10_183 ⟨rfl, rfl⟩ ⟨by decide, by decide⟩ ⟨by decide, by decide⟩ rfl hl.1 rfl (Nat.le_of_ble_eq_true rfl) dX10_wire_28 (fun rv_4 uv_4 H locs w hp_4 => ?_)
      replace hp_4 : (rv_4 = 1 ∧ 0 ≤ p2 ∧ p2 ≤ 999) ∨ (rv_4 = 0 ∧ ¬ (0 ≤ p2 ∧ p2 ≤ 999)) := hp_4
      replace w : wd D A s.heap (mw cy a (uZ z 0 0) g) H locs := w
      refine r_if_eq (tgt := 44) hx hb dX10_wire_31 (by decide) (by omega) (fun c31 => ?_) (fun c31 => ?_)
      · skip
        refine r_iconst hx hb dX10_wire_44 ?_
        exact hend (-1) ((uZ z 0 0), g) _ _ _ _ dX10_wire_45 w ⟨(by exact Or.inl ⟨by omega, rfl, rfl⟩), (mBz_u hz 0 bz22), hg⟩
      · skip
        refine lv_iload hx hb dX10_wire_34 (lv_at hl 4 rfl) ?_
        refine r_iconst hx hb dX10_wire_36 ?_
        refine r_iconst hx hb dX10_wire_37 ?_
        refine cSI C w hA (ct_X10_isIn l D cy a (uZ z 0 0) g p3 0 3 (by show iR p3; omega) (by show iR 0; omega) (by show iR 3; omega)) ok_X10_isIn km_X10_183 ⟨rfl, rfl⟩ ⟨by decide, by decide⟩ ⟨by decide, by decide⟩ rfl hl.1 rfl (Nat.le_of_ble_eq_true rfl) dX10_wire_38 (fun rv_5 uv_5 H locs w hp_5 => ?_)
        replace hp_5 : (rv_5 = 1 ∧ 0 ≤ p3 ∧ p3 ≤ 3) ∨ (rv_5 = 0 ∧ ¬ (0 ≤ p3 ∧ p3 ≤ 3)) := hp_5
        replace w : wd D A s.heap (mw cy a (uZ z 0 0) g) H locs := w
        refine r_if_ne (tgt := 46) hx hb dX10_wire_41 (by decide) (by omega) (fun c41 => ?_) (fun c41 => ?_)
        · skip
          refine r_iconst hx hb dX10_wire_46 ?_
          refine lv_istore (lv' := [(5, vI 0), (0, .ref (a 0)), (1, vI p0), (2, vI p1), (3, vI p2), (4, vI p3)]) hx hb dX10_wire_47 hl (by decide) rfl (fun ls hl => ?_)
          refine r_iconst hx hb dX10_wire_49 ?_
          refine lv_istore (lv' := [(6, vI 0), (5, vI 0), (0, .ref (a 0)), (1, vI p0), (2, vI p1), (3, vI p2), (4, vI p3)]) hx hb dX10_wire_50 hl (by decide) rfl (fun ls hl => ?_)
          refine r_iconst hx hb dX10_wire_52 ?_
          refine lv_istore (lv' := [(7, vI 0), (6, vI 0), (5, vI 0), (0, .ref (a 0)), (1, vI p0), (2, vI p1), (3, vI p2), (4, vI p3)]) hx hb dX10_wire_53 hl (by decide) rfl (fun ls hl => ?_)
          refine r_iconst hx hb dX10_wire_55 ?_
          refine lv_istore (lv' := [(8, vI 0), (7, vI 0), (6, vI 0), (5, vI 0), (0, .ref (a 0)), (1, vI p0), (2, vI p1), (3, vI p2), (4, vI p3)]) hx hb dX10_wire_56 hl (by decide) rfl (fun ls hl => ?_)
          refine r_iconst hx hb dX10_wire_58 ?_
          refine lv_istore (lv' := [(9, vI 0), (8, vI 0), (7, vI 0), (6, vI 0), (5, vI 0), (0, .ref (a 0)), (1, vI p0), (2, vI p1), (3, vI p2), (4, vI p3)]) hx hb dX10_wire_59 hl (by decide) rfl (fun ls hl => ?_)
          exact J61 _ 0 0 0 0 0 (by omega) (by omega) (by rfl) (Nat.lt_succ_self _) _ _ _ w (lv_sub hl [5, 6, 7, 8, 9, 4, 3, 2, 1, 0] rfl)
        · skip
          refine r_iconst hx hb dX10_wire_44 ?_
          exact hend (-1) ((uZ z 0 0), g) _ _ _ _ dX10_wire_45 w ⟨(by exact Or.inl ⟨by omega, rfl, rfl⟩), (mBz_u hz 0 bz22), hg⟩
