/-! worth: sums by grade; the greatest divisor in common -/
def NsF (c gd : Int → Int) (q : Int) : Int → Int := fun s => if c s = 1 ∧ gd s = q then 1 else 0
def SpF (c gd pr : Int → Int) (q : Int) : Int → Int := fun s => if c s = 1 ∧ gd s = q then pr s else 0
def OsF (c gd mk : Int → Int) (m q : Int) : Int → Int := fun s => if c s = 1 ∧ gd s = q ∧ mk s = m then 1 else 0
def OpF (c gd mk pr : Int → Int) (m q : Int) : Int → Int := fun s => if c s = 1 ∧ gd s = q ∧ mk s = m then pr s else 0
def MpF (c mk pr : Int → Int) (m : Int) : Int → Int := fun s => if c s = 1 ∧ mk s = m then pr s else 0
theorem sum4 (f : Int → Int) : sumI f 4 = f 0 + f 1 + f 2 + f 3 := by
  show 0 + f 0 + f 1 + f 2 + f 3 = _
  omega
theorem OpF_all {c gd mk pr : Int → Int} {m : Int} (hg : ∀ s, 0 ≤ gd s ∧ gd s < 4) : ∀ n : Nat, sumZ (OpF c gd mk pr m 0) n + sumZ (OpF c gd mk pr m 1) n + sumZ (OpF c gd mk pr m 2) n + sumZ (OpF c gd mk pr m 3) n = sumZ (MpF c mk pr m) n
  | 0 => rfl
  | n + 1 => by
    have h1 := OpF_all (c := c) (mk := mk) (pr := pr) (m := m) hg n
    have h2 : OpF c gd mk pr m 0 n + OpF c gd mk pr m 1 n + OpF c gd mk pr m 2 n + OpF c gd mk pr m 3 n = MpF c mk pr m n := by
      unfold OpF MpF
      rcases c4 (hg n) with h | h | h | h <;> simp [h]
    show sumZ (OpF c gd mk pr m 0) n + OpF c gd mk pr m 0 n + (sumZ (OpF c gd mk pr m 1) n + OpF c gd mk pr m 1 n) + (sumZ (OpF c gd mk pr m 2) n + OpF c gd mk pr m 2 n) + (sumZ (OpF c gd mk pr m 3) n + OpF c gd mk pr m 3 n) = sumZ (MpF c mk pr m) n + MpF c mk pr m n
    omega
def ciX (g : Nat → Int → Int) (t : Int) : Int → Int := fun s => if cntX g t s then 1 else 0
abbrev gdX (g : Nat → Int → Int) : Int → Int := fun s => g 15 (g 21 s)
abbrev mkX (g : Nat → Int → Int) : Int → Int := fun s => g 14 (g 21 s)
theorem ciX_1 {g : Nat → Int → Int} {t s : Int} (h : cntX g t s) : ciX g t s = 1 := if_pos h
theorem ciX_0 {g : Nat → Int → Int} {t s : Int} (h : ¬ cntX g t s) : ciX g t s = 0 := if_neg h
theorem ciX_n {g : Nat → Int → Int} {t s : Int} (h : ¬ cntX g t s) : ciX g t s ≠ 1 := by
  rw [ciX_0 h]
  omega
theorem MpF_1 {c mk pr : Int → Int} {m s : Int} (h1 : c s = 1) (h2 : mk s = m) : MpF c mk pr m s = pr s := if_pos ⟨h1, h2⟩
theorem MpF_0 {c mk pr : Int → Int} {m s : Int} (h : c s ≠ 1 ∨ mk s ≠ m) : MpF c mk pr m s = 0 := if_neg (fun z => h.elim (fun y => y z.1) (fun y => y z.2))
theorem up_st {F : Int → Int → Int} {f : Int → Int} {i q0 v : Int} (hi : 0 ≤ i) (hf : ∀ q, 0 ≤ q → q < 4 → f q = sumI (F q) i) (hv : F q0 i = v) (h0 : ∀ q, q ≠ q0 → F q i = 0) : ∀ q, 0 ≤ q → q < 4 → uI f q0 (f q0 + v) q = sumI (F q) (i + 1) := by
  intro q h1 h2
  rw [sumI_s _ hi, ← hf q h1 h2]
  by_cases e : q = q0
  · rw [e, uI_s, hv]
  · rw [uI_n _ _ e, h0 q e]
    omega
theorem up_kp {F : Int → Int → Int} {f : Int → Int} {i : Int} (hi : 0 ≤ i) (hf : ∀ q, 0 ≤ q → q < 4 → f q = sumI (F q) i) (h0 : ∀ q, F q i = 0) : ∀ q, 0 ≤ q → q < 4 → f q = sumI (F q) (i + 1) := by
  intro q h1 h2
  rw [sumI_s _ hi, ← hf q h1 h2, h0 q]
  omega
theorem ind_b {P : Prop} [Decidable P] {v c : Int} (h : 0 ≤ v ∧ v ≤ c) : 0 ≤ (if P then v else 0) ∧ (if P then v else 0) ≤ c := by
  split <;> omega

theorem NsF_b (c gd : Int → Int) (q : Int) {i : Int} (hi : 0 ≤ i) : 0 ≤ sumI (NsF c gd q) i ∧ sumI (NsF c gd q) i ≤ i * 1 := sumI_b hi (fun j _ _ => ind_b (by omega))
theorem SpF_b {c gd pr : Int → Int} (hp : ∀ s, 0 ≤ pr s ∧ pr s ≤ 9999) (q : Int) {i : Int} (hi : 0 ≤ i) : 0 ≤ sumI (SpF c gd pr q) i ∧ sumI (SpF c gd pr q) i ≤ i * 9999 := sumI_b hi (fun j _ _ => ind_b (hp j))
theorem OsF_b (c gd mk : Int → Int) (m q : Int) {i : Int} (hi : 0 ≤ i) : 0 ≤ sumI (OsF c gd mk m q) i ∧ sumI (OsF c gd mk m q) i ≤ i * 1 := sumI_b hi (fun j _ _ => ind_b (by omega))
theorem OpF_b {c gd mk pr : Int → Int} (hp : ∀ s, 0 ≤ pr s ∧ pr s ≤ 9999) (m q : Int) {i : Int} (hi : 0 ≤ i) : 0 ≤ sumI (OpF c gd mk pr m q) i ∧ sumI (OpF c gd mk pr m q) i ≤ i * 9999 := sumI_b hi (fun j _ _ => ind_b (hp j))
theorem MpF_b {c mk pr : Int → Int} (hp : ∀ s, 0 ≤ pr s ∧ pr s ≤ 9999) (m : Int) {i : Int} (hi : 0 ≤ i) : 0 ≤ sumI (MpF c mk pr m) i ∧ sumI (MpF c mk pr m) i ≤ i * 9999 := sumI_b hi (fun j _ _ => ind_b (hp j))
abbrev rm_X4_gather : Room := { frames := 1, cells := 0, slots := 0, locals := 22 }
set_option maxHeartbeats 4000000 in
set_option maxRecDepth 100000 in
theorem ct_X4_gather (l : Launch) (D : va_G) (cy : Nat → ClassId) (a : Nat → Nat) (z : Nat → Int) (g : Nat → Int → Int) (p0 p1 : Int) (hz : xBz z) (hg : xBg g) (h0 : iR p0) (h1 : iR p1) : ML l yX4_gather cX4_gather 8 (rm_X4_gather) D cy (xw cy a z g) [.ref (a 36), vI p0, vI p1] (fun (v : Int) (u : sX) => (v = sumI (MpF (ciX g p1) (mkX g) (g 25) p0) (z 17) ∧ u.1 = z ∧ ∃ fs fp fm : Int → Int, u.2 = uZ (uZ (uZ g 37 fs) 38 fp) 39 fm ∧ (∀ q, 0 ≤ q → q < 4 → fs q = sumI (NsF (ciX g p1) (gdX g) q) (z 17)) ∧ (∀ q, 0 ≤ q → q < 4 → fp q = sumI (SpF (ciX g p1) (gdX g) (g 25) q) (z 17)) ∧ ∀ q, 0 ≤ q → q < 4 → fm q = sumI (OsF (ciX g p1) (gdX g) (mkX g) p0 q) (z 17)) ∧ xBz u.1 ∧ xBg u.2) (fun u => xw cy a u.1 u.2) 0 0 := by
  refine go_l (by decide +kernel) (Nat.le_of_ble_eq_true rfl) ?_
  intro p e s m args below meth c Q A ls C hnm hA w hl hend
  have hx := C.1
  have hb := C.2.1
  have b17_ := xZ17 hz
  have J39 : ∀ N : Nat, ∀ (t3 : Int) (i : Int) (fs : Int → Int) (fp : Int → Int) (fm : Int → Int), (∀ j : Int, (-9223372036854775808 : Int) ≤ fs j ∧ fs j ≤ 9223372036854775807) → (∀ j : Int, (-9223372036854775808 : Int) ≤ fp j ∧ fp j ≤ 9223372036854775807) → (∀ j : Int, (-9223372036854775808 : Int) ≤ fm j ∧ fm j ≤ 9223372036854775807) → (0 ≤ i ∧ i ≤ z 17) → (t3 = sumI (MpF (ciX g p1) (mkX g) (g 25) p0) i) → (∀ q, 0 ≤ q → q < 4 → fs q = sumI (NsF (ciX g p1) (gdX g) q) i) → (∀ q, 0 ≤ q → q < 4 → fp q = sumI (SpF (ciX g p1) (gdX g) (g 25) q) i) → (∀ q, 0 ≤ q → q < 4 → fm q = sumI (OsF (ciX g p1) (gdX g) (mkX g) p0 q) i) → ((z 17 - i).toNat) < N → ∀ (H : Heap) (locs : List Loc) (ls : Array Slot), wd D A s.heap (xw cy a z (uZ (uZ (uZ g 37 fs) 38 fp) 39 fm)) H locs → lv_has ls 8 [(0, .ref (a 36)), (1, vI p0), (2, vI p1), (3, vL t3), (5, vI i)] → W p l e (rm_X4_gather) s m args below meth c H locs 0 0 Q (F0 m 39 ls []) := by
    intro N
    induction N with
    | zero => intro t3 i fs fp fm bfs bfp bfm hi ht hfs hfp hfm hN9; exact absurd hN9 (Nat.not_lt_zero _)
    | succ N ih39 =>
      intro t3 i fs fp fm bfs bfp bfm hi ht hfs hfp hfm hN39 H locs ls w hl
      refine lv_iload hx hb dX4_gather_39 (lv_at hl 4 rfl) ?_
      refine lv_aload_n hx hb dX4_gather_41 rfl (lv_at hl 0 rfl) ?_
      refine r_get C w 36 (v := .ref (a 20)) rfl rfl 1 (by decide) inX4 kf_X4_25 rfl dX4_gather_42 ?_
      refine r_getN C w 20 (v := vI (z 17)) rfl rfl 7 (by decide) inX7 kt_X4_49 rfl dX4_gather_45 ?_
      have qz1 := xZ17 hz
      refine r_icmp_ge (tgt := 165) hx hb dX4_gather_48 (by decide) (by omega) (by omega) (fun c48 => ?_) (fun c48 => ?_)
      · skip
        refine lv_lload_n hx hb dX4_gather_165 rfl (lv_at hl 3 rfl) ?_
        exact hend t3 (z, (uZ (uZ (uZ g 37 fs) 38 fp) 39 fm)) _ _ _ _ dX4_gather_166 w ⟨(by have hi17 : i = z 17 := (by omega); rw [hi17] at ht hfs hfp hfm; exact ⟨ht, rfl, fs, fp, fm, rfl, hfs, hfp, hfm⟩), hz, (xBg_u (xBg_u (xBg_u hg 37 bfs) 38 bfp) 39 bfm)⟩
      · skip
        refine lv_aload_n hx hb dX4_gather_51 rfl (lv_at hl 0 rfl) ?_
        refine r_get C w 36 (v := .ref (a 20)) rfl rfl 1 (by decide) inX4 kf_X4_25 rfl dX4_gather_52 ?_
        refine lv_iload hx hb dX4_gather_55 (lv_at hl 4 rfl) ?_
        refine lv_iload_n hx hb dX4_gather_57 rfl (lv_at hl 2 rfl) ?_
        refine cVI C w hA (ct_X7_countsAsOf l D cy a z (uZ (uZ (uZ g 37 fs) 38 fp) 39 fm) i p1 hz (xBg_u (xBg_u (xBg_u hg 37 bfs) 38 bfp) 39 bfm) (by show 0 ≤ i ∧ i < 400; omega) (by show iR p1; omega)) ok_X7_countsAsOf km_X4_55 ⟨rfl, rfl⟩ ⟨by decide, by decide⟩ ⟨by decide, by decide⟩ rfl 20 rfl rfl hl.1 rfl (Nat.le_of_ble_eq_true rfl) dX4_gather_58 (fun rv_1 uv_1 H locs w hp_1 => ?_)
        replace hp_1 : (rv_1 = 1 ∧ (g 23) i ≤ p1 ∧ ((g 26) i = -1 ∨ p1 < (g 26) i)) ∨ (rv_1 = 0 ∧ ¬ ((g 23) i ≤ p1 ∧ ((g 26) i = -1 ∨ p1 < (g 26) i))) := hp_1
        replace w : wd D A s.heap (xw cy a z (uZ (uZ (uZ g 37 fs) 38 fp) 39 fm)) H locs := w
        refine r_if_eq (tgt := 159) hx hb dX4_gather_61 (by decide) (by omega) (fun c61 => ?_) (fun c61 => ?_)
        · skip
          refine r_iinc (lv' := [(5, vI (i + 1)), (0, .ref (a 36)), (1, vI p0), (2, vI p1), (3, vL t3)]) hx hb dX4_gather_159 hl (k := 4) rfl (by decide) rfl (fun ls hl => ?_)
          refine lv_goto (tgt := 39) hx hb dX4_gather_162 (by decide) ?_
          exact ih39 t3 (i + 1) fs fp fm bfs bfp bfm (by omega) (by rw [sumI_s _ hi.1, ← ht]; first | rw [MpF_1 (mk := mkX g) (pr := g 25) (s := i) hci c131] | (rw [MpF_0 (c := ciX g p1) (mk := mkX g) (pr := g 25) (s := i) (Or.inr c131)]; omega) | (rw [MpF_0 (mk := mkX g) (pr := g 25) (Or.inl (ciX_n (g := g) (t := p1) (s := i) (by omega)))]; omega)) (by first | exact up_st (F := NsF (ciX g p1) (gdX g)) hi.1 hfs (if_pos ⟨hci, rfl⟩) (fun q hq => if_neg (fun z => hq z.2.symm)) | exact up_kp (F := NsF (ciX g p1) (gdX g)) hi.1 hfs (fun q => if_neg (fun z => by have := ciX_0 (g := g) (t := p1) (s := i) (by omega); omega))) (by first | exact up_st (F := SpF (ciX g p1) (gdX g) (g 25)) hi.1 hfp (if_pos ⟨hci, rfl⟩) (fun q hq => if_neg (fun z => hq z.2.symm)) | exact up_kp (F := SpF (ciX g p1) (gdX g) (g 25)) hi.1 hfp (fun q => if_neg (fun z => by have := ciX_0 (g := g) (t := p1) (s := i) (by omega); omega))) (by first | exact up_st (F := OsF (ciX g p1) (gdX g) (mkX g) p0) hi.1 hfm (if_pos ⟨hci, rfl, c131⟩) (fun q hq => if_neg (fun z => hq z.2.1.symm)) | exact up_kp (F := OsF (ciX g p1) (gdX g) (mkX g) p0) hi.1 hfm (fun q => if_neg (fun z => c131 z.2.2)) | exact up_kp (F := OsF (ciX g p1) (gdX g) (mkX g) p0) hi.1 hfm (fun q => if_neg (fun z => by have := ciX_0 (g := g) (t := p1) (s := i) (by omega); omega))) (by omega) _ _ _ w (lv_sub hl [1, 2, 3, 4, 0] rfl)
        · skip
          refine lv_aload_n hx hb dX4_gather_64 rfl (lv_at hl 0 rfl) ?_
          refine r_get C w 36 (v := .ref (a 20)) rfl rfl 1 (by decide) inX4 kf_X4_25 rfl dX4_gather_65 ?_
          refine r_getN C w 20 (v := .ref (a 21)) rfl rfl 0 (by decide) inX7 kt_X4_59 rfl dX4_gather_68 ?_
          refine lv_iload hx hb dX4_gather_71 (lv_at hl 4 rfl) ?_
          refine r_iald C w 21 (f := (g 21)) rfl (by omega) (by omega) (by decide) dX4_gather_73 ?_
          have qg2 := xB21 hg i
          refine lv_istore (lv' := [(6, vI ((g 21) i)), (0, .ref (a 36)), (1, vI p0), (2, vI p1), (3, vL t3), (5, vI i)]) hx hb dX4_gather_74 hl (by decide) rfl (fun ls hl => ?_)
          refine lv_aload_n hx hb dX4_gather_76 rfl (lv_at hl 1 rfl) ?_
          refine r_get C w 36 (v := .ref (a 12)) rfl rfl 0 (by decide) inX4 kf_X4_21 rfl dX4_gather_77 ?_
          refine r_getN C w 12 (v := .ref (a 15)) rfl rfl 2 (by decide) inX2 kt_X4_63 rfl dX4_gather_80 ?_
          refine lv_iload hx hb dX4_gather_83 (lv_at hl 0 rfl) ?_
          refine r_iald C w 15 (f := (g 15)) rfl (by omega) (by omega) (by decide) dX4_gather_85 ?_
          have qg3 := xB15 hg ((g 21) i)
          have hgq := xB15 hg (g 21 i)
          have hs1 := hfs (g 15 (g 21 i)) (by omega) (by omega)
          have hs2 := hfp (g 15 (g 21 i)) (by omega) (by omega)
          have hs3 := hfm (g 15 (g 21 i)) (by omega) (by omega)
          have hb1 := NsF_b (ciX g p1) (gdX g) (g 15 (g 21 i)) hi.1
          have hb2 := SpF_b (c := ciX g p1) (gd := gdX g) (xB25 hg) (g 15 (g 21 i)) hi.1
          have hb3 := OsF_b (ciX g p1) (gdX g) (mkX g) p0 (g 15 (g 21 i)) hi.1
          have hci := ciX_1 (g := g) (t := p1) (s := i) (by omega)
          have hpr := xB25 hg i
          refine lv_istore (lv' := [(7, vI ((g 15) ((g 21) i))), (6, vI ((g 21) i)), (0, .ref (a 36)), (1, vI p0), (2, vI p1), (3, vL t3), (5, vI i)]) hx hb dX4_gather_86 hl (by decide) rfl (fun ls hl => ?_)
          refine lv_aload_n hx hb dX4_gather_88 rfl (lv_at hl 2 rfl) ?_
          refine r_get C w 36 (v := .ref (a 37)) rfl rfl 2 (by decide) inX4 kf_X4_9 rfl dX4_gather_89 ?_
          refine lv_iload hx hb dX4_gather_92 (lv_at hl 0 rfl) ?_
          refine lv_dup2_11 hx hb dX4_gather_94 rfl rfl ?_
          refine r_lald C w 37 (f := fs) rfl (by omega) (by omega) (by decide) dX4_gather_95 ?_
          refine r_lconst (z := 1) hx hb dX4_gather_96 (by decide) ?_
          refine r_ladd hx hb dX4_gather_97 ?_
          refine r_last C w 37 (f := fs) rfl (by omega) (by omega) (by decide) (ws' := xw cy a z (uZ (uZ (uZ g 37 (uI fs ((g 15) ((g 21) i)) ((fs ((g 15) ((g 21) i))) + 1))) 38 fp) 39 fm)) rfl dX4_gather_98 (fun H locs w => ?_)
          have bg4 : ∀ j : Int, (-9223372036854775808 : Int) ≤ (uI fs ((g 15) ((g 21) i)) ((fs ((g 15) ((g 21) i))) + 1)) j ∧ (uI fs ((g 15) ((g 21) i)) ((fs ((g 15) ((g 21) i))) + 1)) j ≤ 9223372036854775807 := uI_b bfs (by rw [hs1]; exact ⟨by omega, by omega⟩)
          refine lv_aload_n hx hb dX4_gather_99 rfl (lv_at hl 2 rfl) ?_
          refine r_get C w 36 (v := .ref (a 38)) rfl rfl 3 (by decide) inX4 kf_X4_15 rfl dX4_gather_100 ?_
          refine lv_iload hx hb dX4_gather_103 (lv_at hl 0 rfl) ?_
          refine lv_dup2_11 hx hb dX4_gather_105 rfl rfl ?_
          refine r_lald C w 38 (f := fp) rfl (by omega) (by omega) (by decide) dX4_gather_106 ?_
          refine lv_aload_n hx hb dX4_gather_107 rfl (lv_at hl 2 rfl) ?_
          refine r_get C w 36 (v := .ref (a 20)) rfl rfl 1 (by decide) inX4 kf_X4_25 rfl dX4_gather_108 ?_
          refine r_getN C w 20 (v := .ref (a 25)) rfl rfl 4 (by decide) inX7 kt_X4_68 rfl dX4_gather_111 ?_
          refine lv_iload hx hb dX4_gather_114 (lv_at hl 6 rfl) ?_
          refine r_iald C w 25 (f := (g 25)) rfl (by omega) (by omega) (by decide) dX4_gather_116 ?_
          have qg5 := xB25 hg i
          refine r_i2l hx hb dX4_gather_117 (by omega) ?_
          refine r_ladd hx hb dX4_gather_118 ?_
          refine r_last C w 38 (f := fp) rfl (by omega) (by omega) (by decide) (ws' := xw cy a z (uZ (uZ (uZ g 37 (uI fs ((g 15) ((g 21) i)) ((fs ((g 15) ((g 21) i))) + 1))) 38 (uI fp ((g 15) ((g 21) i)) ((fp ((g 15) ((g 21) i))) + ((g 25) i)))) 39 fm)) rfl dX4_gather_119 (fun H locs w => ?_)
          have bg6 : ∀ j : Int, (-9223372036854775808 : Int) ≤ (uI fp ((g 15) ((g 21) i)) ((fp ((g 15) ((g 21) i))) + ((g 25) i))) j ∧ (uI fp ((g 15) ((g 21) i)) ((fp ((g 15) ((g 21) i))) + ((g 25) i))) j ≤ 9223372036854775807 := uI_b bfp (by rw [hs2]; exact ⟨by omega, by omega⟩)
          refine lv_aload_n hx hb dX4_gather_120 rfl (lv_at hl 2 rfl) ?_
          refine r_get C w 36 (v := .ref (a 12)) rfl rfl 0 (by decide) inX4 kf_X4_21 rfl dX4_gather_121 ?_
          refine r_getN C w 12 (v := .ref (a 14)) rfl rfl 1 (by decide) inX2 kt_X4_71 rfl dX4_gather_124 ?_
          refine lv_iload hx hb dX4_gather_127 (lv_at hl 1 rfl) ?_
          refine r_iald C w 14 (f := (g 14)) rfl (by omega) (by omega) (by decide) dX4_gather_129 ?_
          have qg7 := xB14 hg ((g 21) i)
          refine lv_iload_n hx hb dX4_gather_130 rfl (lv_at hl 3 rfl) ?_
          refine r_icmp_ne (tgt := 159) hx hb dX4_gather_131 (by decide) (by omega) (by omega) (fun c131 => ?_) (fun c131 => ?_)
          · skip
            refine r_iinc (lv' := [(5, vI (i + 1)), (7, vI ((g 15) ((g 21) i))), (6, vI ((g 21) i)), (0, .ref (a 36)), (1, vI p0), (2, vI p1), (3, vL t3)]) hx hb dX4_gather_159 hl (k := 6) rfl (by decide) rfl (fun ls hl => ?_)
            refine lv_goto (tgt := 39) hx hb dX4_gather_162 (by decide) ?_
            exact ih39 t3 (i + 1) (uI fs ((g 15) ((g 21) i)) ((fs ((g 15) ((g 21) i))) + 1)) (uI fp ((g 15) ((g 21) i)) ((fp ((g 15) ((g 21) i))) + ((g 25) i))) fm bg4 bg6 bfm (by omega) (by rw [sumI_s _ hi.1, ← ht]; first | rw [MpF_1 (mk := mkX g) (pr := g 25) (s := i) hci c131] | (rw [MpF_0 (c := ciX g p1) (mk := mkX g) (pr := g 25) (s := i) (Or.inr c131)]; omega) | (rw [MpF_0 (mk := mkX g) (pr := g 25) (Or.inl (ciX_n (g := g) (t := p1) (s := i) (by omega)))]; omega)) (by first | exact up_st (F := NsF (ciX g p1) (gdX g)) hi.1 hfs (if_pos ⟨hci, rfl⟩) (fun q hq => if_neg (fun z => hq z.2.symm)) | exact up_kp (F := NsF (ciX g p1) (gdX g)) hi.1 hfs (fun q => if_neg (fun z => by have := ciX_0 (g := g) (t := p1) (s := i) (by omega); omega))) (by first | exact up_st (F := SpF (ciX g p1) (gdX g) (g 25)) hi.1 hfp (if_pos ⟨hci, rfl⟩) (fun q hq => if_neg (fun z => hq z.2.symm)) | exact up_kp (F := SpF (ciX g p1) (gdX g) (g 25)) hi.1 hfp (fun q => if_neg (fun z => by have := ciX_0 (g := g) (t := p1) (s := i) (by omega); omega))) (by first | exact up_st (F := OsF (ciX g p1) (gdX g) (mkX g) p0) hi.1 hfm (if_pos ⟨hci, rfl, c131⟩) (fun q hq => if_neg (fun z => hq z.2.1.symm)) | exact up_kp (F := OsF (ciX g p1) (gdX g) (mkX g) p0) hi.1 hfm (fun q => if_neg (fun z => c131 z.2.2)) | exact up_kp (F := OsF (ciX g p1) (gdX g) (mkX g) p0) hi.1 hfm (fun q => if_neg (fun z => by have := ciX_0 (g := g) (t := p1) (s := i) (by omega); omega))) (by omega) _ _ _ w (lv_sub hl [3, 4, 5, 6, 0] rfl)
          · skip
            refine lv_aload_n hx hb dX4_gather_134 rfl (lv_at hl 2 rfl) ?_
            refine r_get C w 36 (v := .ref (a 39)) rfl rfl 4 (by decide) inX4 kf_X4_18 rfl dX4_gather_135 ?_
            refine lv_iload hx hb dX4_gather_138 (lv_at hl 0 rfl) ?_
            refine lv_dup2_11 hx hb dX4_gather_140 rfl rfl ?_
            refine r_lald C w 39 (f := fm) rfl (by omega) (by omega) (by decide) dX4_gather_141 ?_
            refine r_lconst (z := 1) hx hb dX4_gather_142 (by decide) ?_
            refine r_ladd hx hb dX4_gather_143 ?_
            refine r_last C w 39 (f := fm) rfl (by omega) (by omega) (by decide) (ws' := xw cy a z (uZ (uZ (uZ g 37 (uI fs ((g 15) ((g 21) i)) ((fs ((g 15) ((g 21) i))) + 1))) 38 (uI fp ((g 15) ((g 21) i)) ((fp ((g 15) ((g 21) i))) + ((g 25) i)))) 39 (uI fm ((g 15) ((g 21) i)) ((fm ((g 15) ((g 21) i))) + 1)))) rfl dX4_gather_144 (fun H locs w => ?_)
            have bg8 : ∀ j : Int, (-9223372036854775808 : Int) ≤ (uI fm ((g 15) ((g 21) i)) ((fm ((g 15) ((g 21) i))) + 1)) j ∧ (uI fm ((g 15) ((g 21) i)) ((fm ((g 15) ((g 21) i))) + 1)) j ≤ 9223372036854775807 := uI_b bfm (by rw [hs3]; exact ⟨by omega, by omega⟩)
            refine lv_lload_n hx hb dX4_gather_145 rfl (lv_at hl 5 rfl) ?_
            refine lv_aload_n hx hb dX4_gather_146 rfl (lv_at hl 2 rfl) ?_
            refine r_get C w 36 (v := .ref (a 20)) rfl rfl 1 (by decide) inX4 kf_X4_25 rfl dX4_gather_147 ?_
            refine r_getN C w 20 (v := .ref (a 25)) rfl rfl 4 (by decide) inX7 kt_X4_68 rfl dX4_gather_150 ?_
            refine lv_iload hx hb dX4_gather_153 (lv_at hl 6 rfl) ?_
            refine r_iald C w 25 (f := (g 25)) rfl (by omega) (by omega) (by decide) dX4_gather_155 ?_
            have qg9 := xB25 hg i
            refine r_i2l hx hb dX4_gather_156 (by omega) ?_
            refine r_ladd hx hb dX4_gather_157 ?_
            refine lv_lstore_n (lv' := [(3, vL (t3 + ((g 25) i))), (7, vI ((g 15) ((g 21) i))), (6, vI ((g 21) i)), (0, .ref (a 36)), (1, vI p0), (2, vI p1), (5, vI i)]) hx hb dX4_gather_158 rfl hl (by decide) rfl (fun ls hl => ?_)
            refine r_iinc (lv' := [(5, vI (i + 1)), (3, vL (t3 + ((g 25) i))), (7, vI ((g 15) ((g 21) i))), (6, vI ((g 21) i)), (0, .ref (a 36)), (1, vI p0), (2, vI p1)]) hx hb dX4_gather_159 hl (k := 6) rfl (by decide) rfl (fun ls hl => ?_)
            refine lv_goto (tgt := 39) hx hb dX4_gather_162 (by decide) ?_
            exact ih39 (t3 + ((g 25) i)) (i + 1) (uI fs ((g 15) ((g 21) i)) ((fs ((g 15) ((g 21) i))) + 1)) (uI fp ((g 15) ((g 21) i)) ((fp ((g 15) ((g 21) i))) + ((g 25) i))) (uI fm ((g 15) ((g 21) i)) ((fm ((g 15) ((g 21) i))) + 1)) bg4 bg6 bg8 (by omega) (by rw [sumI_s _ hi.1, ← ht]; first | rw [MpF_1 (mk := mkX g) (pr := g 25) (s := i) hci c131] | (rw [MpF_0 (c := ciX g p1) (mk := mkX g) (pr := g 25) (s := i) (Or.inr c131)]; omega) | (rw [MpF_0 (mk := mkX g) (pr := g 25) (Or.inl (ciX_n (g := g) (t := p1) (s := i) (by omega)))]; omega)) (by first | exact up_st (F := NsF (ciX g p1) (gdX g)) hi.1 hfs (if_pos ⟨hci, rfl⟩) (fun q hq => if_neg (fun z => hq z.2.symm)) | exact up_kp (F := NsF (ciX g p1) (gdX g)) hi.1 hfs (fun q => if_neg (fun z => by have := ciX_0 (g := g) (t := p1) (s := i) (by omega); omega))) (by first | exact up_st (F := SpF (ciX g p1) (gdX g) (g 25)) hi.1 hfp (if_pos ⟨hci, rfl⟩) (fun q hq => if_neg (fun z => hq z.2.symm)) | exact up_kp (F := SpF (ciX g p1) (gdX g) (g 25)) hi.1 hfp (fun q => if_neg (fun z => by have := ciX_0 (g := g) (t := p1) (s := i) (by omega); omega))) (by first | exact up_st (F := OsF (ciX g p1) (gdX g) (mkX g) p0) hi.1 hfm (if_pos ⟨hci, rfl, c131⟩) (fun q hq => if_neg (fun z => hq z.2.1.symm)) | exact up_kp (F := OsF (ciX g p1) (gdX g) (mkX g) p0) hi.1 hfm (fun q => if_neg (fun z => c131 z.2.2)) | exact up_kp (F := OsF (ciX g p1) (gdX g) (mkX g) p0) hi.1 hfm (fun q => if_neg (fun z => by have := ciX_0 (g := g) (t := p1) (s := i) (by omega); omega))) (by omega) _ _ _ w (lv_sub hl [4, 5, 6, 1, 0] rfl)
  have J2 : ∀ N : Nat, ∀ (i3 : Int) (fs : Int → Int) (fp : Int → Int) (fm : Int → Int), (∀ j : Int, (-9223372036854775808 : Int) ≤ fs j ∧ fs j ≤ 9223372036854775807) → (∀ j : Int, (-9223372036854775808 : Int) ≤ fp j ∧ fp j ≤ 9223372036854775807) → (∀ j : Int, (-9223372036854775808 : Int) ≤ fm j ∧ fm j ≤ 9223372036854775807) → (0 ≤ i3 ∧ i3 ≤ 4) → (∀ q, 0 ≤ q → q < i3 → fs q = 0) → (∀ q, 0 ≤ q → q < i3 → fp q = 0) → (∀ q, 0 ≤ q → q < i3 → fm q = 0) → ((4 - i3).toNat) < N → ∀ (H : Heap) (locs : List Loc) (ls : Array Slot), wd D A s.heap (xw cy a z (uZ (uZ (uZ g 37 fs) 38 fp) 39 fm)) H locs → lv_has ls 8 [(0, .ref (a 36)), (1, vI p0), (2, vI p1), (3, vI i3)] → W p l e (rm_X4_gather) s m args below meth c H locs 0 0 Q (F0 m 2 ls []) := by
    intro N
    induction N with
    | zero => intro i3 fs fp fm bfs bfp bfm hi3 hfs hfp hfm hN9; exact absurd hN9 (Nat.not_lt_zero _)
    | succ N ih2 =>
      intro i3 fs fp fm bfs bfp bfm hi3 hfs hfp hfm hN2 H locs ls w hl
      refine lv_iload_n hx hb dX4_gather_2 rfl (lv_at hl 3 rfl) ?_
      refine r_iconst hx hb dX4_gather_3 ?_
      refine r_icmp_ge (tgt := 34) hx hb dX4_gather_4 (by decide) (by omega) (by omega) (fun c4 => ?_) (fun c4 => ?_)
      · skip
        refine r_lconst (z := 0) hx hb dX4_gather_34 (by decide) ?_
        refine lv_lstore_n (lv' := [(3, vL 0), (0, .ref (a 36)), (1, vI p0), (2, vI p1)]) hx hb dX4_gather_35 rfl hl (by decide) rfl (fun ls hl => ?_)
        refine r_iconst hx hb dX4_gather_36 ?_
        refine lv_istore (lv' := [(5, vI 0), (3, vL 0), (0, .ref (a 36)), (1, vI p0), (2, vI p1)]) hx hb dX4_gather_37 hl (by decide) rfl (fun ls hl => ?_)
        exact J39 _ 0 0 fs fp fm bfs bfp bfm (by omega) (by rfl) (by intro q h1 h2; rw [hfs q h1 (by omega)]; rfl) (by intro q h1 h2; rw [hfp q h1 (by omega)]; rfl) (by intro q h1 h2; rw [hfm q h1 (by omega)]; rfl) (Nat.lt_succ_self _) _ _ _ w (lv_sub hl [2, 3, 4, 1, 0] rfl)
      · skip
        refine lv_aload_n hx hb dX4_gather_7 rfl (lv_at hl 0 rfl) ?_
        refine r_get C w 36 (v := .ref (a 37)) rfl rfl 2 (by decide) inX4 kf_X4_9 rfl dX4_gather_8 ?_
        refine lv_iload_n hx hb dX4_gather_11 rfl (lv_at hl 3 rfl) ?_
        refine r_lconst (z := 0) hx hb dX4_gather_12 (by decide) ?_
        refine r_last C w 37 (f := fs) rfl (by omega) (by omega) (by decide) (ws' := xw cy a z (uZ (uZ (uZ g 37 (uI fs i3 0)) 38 fp) 39 fm)) rfl dX4_gather_13 (fun H locs w => ?_)
        have bg10 : ∀ j : Int, (-9223372036854775808 : Int) ≤ (uI fs i3 0) j ∧ (uI fs i3 0) j ≤ 9223372036854775807 := uI_b bfs (by omega)
        refine lv_aload_n hx hb dX4_gather_14 rfl (lv_at hl 0 rfl) ?_
        refine r_get C w 36 (v := .ref (a 38)) rfl rfl 3 (by decide) inX4 kf_X4_15 rfl dX4_gather_15 ?_
        refine lv_iload_n hx hb dX4_gather_18 rfl (lv_at hl 3 rfl) ?_
        refine r_lconst (z := 0) hx hb dX4_gather_19 (by decide) ?_
        refine r_last C w 38 (f := fp) rfl (by omega) (by omega) (by decide) (ws' := xw cy a z (uZ (uZ (uZ g 37 (uI fs i3 0)) 38 (uI fp i3 0)) 39 fm)) rfl dX4_gather_20 (fun H locs w => ?_)
        have bg11 : ∀ j : Int, (-9223372036854775808 : Int) ≤ (uI fp i3 0) j ∧ (uI fp i3 0) j ≤ 9223372036854775807 := uI_b bfp (by omega)
        refine lv_aload_n hx hb dX4_gather_21 rfl (lv_at hl 0 rfl) ?_
        refine r_get C w 36 (v := .ref (a 39)) rfl rfl 4 (by decide) inX4 kf_X4_18 rfl dX4_gather_22 ?_
        refine lv_iload_n hx hb dX4_gather_25 rfl (lv_at hl 3 rfl) ?_
        refine r_lconst (z := 0) hx hb dX4_gather_26 (by decide) ?_
        refine r_last C w 39 (f := fm) rfl (by omega) (by omega) (by decide) (ws' := xw cy a z (uZ (uZ (uZ g 37 (uI fs i3 0)) 38 (uI fp i3 0)) 39 (uI fm i3 0))) rfl dX4_gather_27 (fun H locs w => ?_)
        have bg12 : ∀ j : Int, (-9223372036854775808 : Int) ≤ (uI fm i3 0) j ∧ (uI fm i3 0) j ≤ 9223372036854775807 := uI_b bfm (by omega)
        refine r_iinc (lv' := [(3, vI (i3 + 1)), (0, .ref (a 36)), (1, vI p0), (2, vI p1)]) hx hb dX4_gather_28 hl (k := 3) rfl (by decide) rfl (fun ls hl => ?_)
        refine lv_goto (tgt := 2) hx hb dX4_gather_31 (by decide) ?_
        exact ih2 (i3 + 1) (uI fs i3 0) (uI fp i3 0) (uI fm i3 0) bg10 bg11 bg12 (by omega) (by exact zeros_st hfs) (by exact zeros_st hfp) (by exact zeros_st hfm) (by omega) _ _ _ w (lv_sub hl [1, 2, 3, 0] rfl)
  replace hl : lv_has ls 8 [(0, .ref (a 36)), (1, vI p0), (2, vI p1)] := hl
  refine r_iconst hx hb dX4_gather_0 ?_
  refine lv_istore_n (lv' := [(3, vI 0), (0, .ref (a 36)), (1, vI p0), (2, vI p1)]) hx hb dX4_gather_1 rfl hl (by decide) rfl (fun ls hl => ?_)
  exact J2 _ 0 (g 37) (g 38) (g 39) (xB37 hg) (xB38 hg) (xB39 hg) (by omega) (by intro q h1 h2; omega) (by intro q h1 h2; omega) (by intro q h1 h2; omega) (Nat.lt_succ_self _) _ _ _ w (lv_sub hl [1, 2, 3, 0] rfl)
