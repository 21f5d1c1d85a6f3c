/-! rules of the reference -/
theorem fr0_M {f : Int → Int} (h : ∀ q, 0 ≤ q → q < 10 → f q = if 4 ≤ q ∧ q < 8 then 1 else 0) : CN f = fr0 := by
  funext q
  unfold CN fr0
  by_cases e : 0 ≤ q ∧ q ≤ 9
  · rw [if_pos e]
    exact h q e.1 (by omega)
  · rw [if_neg e, if_neg (by omega)]
theorem tl0_M {f : Int → Int} (h : ∀ q, 0 ≤ q → q < 10 → f q = 0) : CN f = tl0 := by
  funext q
  unfold CN tl0
  by_cases e : 0 ≤ q ∧ q ≤ 9
  · rw [if_pos e]
    exact h q e.1 (by omega)
  · rw [if_neg e]
def frJ (f g : Nat → Int → Int) : Prop := ∀ k, k < 2 ∨ 4 < k → f k = g k
theorem ini2_st {f k : Int → Int} {i v : Int} (hf : ∀ q, 0 ≤ q → q < i → f q = k q) (hv : v = k i) : ∀ q, 0 ≤ q → q < i + 1 → uI f i v q = k q := ini_st hf v hv

theorem ZBk (z : Nat → Int) (k : Nat) (h : 10 < k) : (uZ (uZ (uZ (uZ (uZ z 0 0) 2 (z 1)) 1 0) 3 0) 7 0) k = z k := by
  rw [uZ_n _ _ (by omega), uZ_n _ _ (by omega), uZ_n _ _ (by omega), uZ_n _ _ (by omega), uZ_n _ _ (by omega)]
abbrev rm_X10_rules : Room := { frames := 3, cells := 0, slots := 0, locals := 67 }
set_option maxHeartbeats 4000000 in
set_option maxRecDepth 100000 in
theorem ct_X10_rules (l : Launch) (D : va_G) (cy : Nat → ClassId) (a : Nat → Nat) (z : Nat → Int) (g : Nat → Int → Int)  (hz : mBz z) (hg : mBg g) : MI l yX10_rules cX10_rules 3 .int (rm_X10_rules) D cy (mw cy a z g) [.ref (a 0)] (fun (v : Int) (u : sX) => (u.1 0 = 0 ∧ u.1 1 = 0 ∧ (∀ k, 10 < k → u.1 k = z k) ∧ (∀ k, k < 2 ∨ 4 < k → u.2 k = g k) ∧ ((1 ≤ u.1 7 ∧ ∃ p, Rd0 (bt (fun j => g 1 j % 256) (z 1)) (z 1) (.inl (u.1 7, p)) ∧ v = -1 - p ∧ u.1 9 = z 9 ∧ u.2 2 = g 2) ∨ (u.1 7 = 0 ∧ ∃ fr, Rd0 (bt (fun j => g 1 j % 256) (z 1)) (z 1) (.inr (fr, v)) ∧ u.1 9 = v ∧ ∀ q, 0 ≤ q → q < 10 → u.2 2 q = fr q))) ∧ mBz u.1 ∧ mBg u.2) (fun u => mw cy a u.1 u.2) 0 0 := by
  refine go_i (by decide +kernel) (Nat.le_of_ble_eq_true rfl) (Or.inl rfl) ?_
  intro p e s m args below meth c Q A ls C hnm hA w hl hend
  have hx := C.1
  have hb := C.2.1
  have b1_ := mZ1 hz
  have b9_ := mZ9 hz
  have J92 : ∀ N : Nat, ∀ (n : Int) (i2 : Int) (z92 : Nat → Int) (g92 : Nat → Int → Int), (mBz z92) → (mBg g92) → (0 ≤ n ∧ n ≤ 200) → (frR z92 (uZ (uZ (uZ (uZ (uZ z 0 0) 2 (z 1)) 1 0) 3 0) 7 0)) → (frJ g92 g) → (z92 7 = 0) → (Rd0 (bt (fun j => g 1 j % 256) (z 1)) (z 1) (.inr (CN (g92 3), n))) → (0 ≤ i2 ∧ i2 ≤ 10) → (∀ q, 0 ≤ q → q < i2 → g92 2 q = g92 3 q) → ((10 - i2).toNat) < N → ∀ (H : Heap) (locs : List Loc) (ls : Array Slot), wd D A s.heap (mw cy a z92 g92) H locs → lv_has ls 3 [(0, .ref (a 0)), (1, vI n), (2, vI i2)] → W p l e (rm_X10_rules) s m args below meth c H locs 0 0 Q (F0 m 92 ls []) := by
    intro N
    induction N with
    | zero => intro n i2 z92 g92 hz92 hg92 hn hfr hfh h77 hR hi2 hfl hN9; exact absurd hN9 (Nat.not_lt_zero _)
    | succ N ih92 =>
      intro n i2 z92 g92 hz92 hg92 hn hfr hfh h77 hR hi2 hfl hN92 H locs ls w hl
      refine lv_iload_n hx hb dX10_rules_92 rfl (lv_at hl 2 rfl) ?_
      refine r_bipush hx hb dX10_rules_93 (by decide) ?_
      refine r_icmp_ge (tgt := 116) hx hb dX10_rules_95 (by decide) (by omega) (by omega) (fun c95 => ?_) (fun c95 => ?_)
      · skip
        refine lv_aload_n hx hb dX10_rules_116 rfl (lv_at hl 0 rfl) ?_
        refine lv_iload_n hx hb dX10_rules_117 rfl (lv_at hl 1 rfl) ?_
        refine r_put C w 0 tyX10 tyX10_ok nmX10 rfl rfl 13 (by decide) inX10 kf_X10_158 rfl rfl rfl (Nat.le_of_ble_eq_true rfl) (ws' := mw cy a (uZ z92 9 n) g92) (mw_z9 cy a z92 g92 n) dX10_rules_118 (fun H locs w => ?_)
        have bz1 : (0 : Int) ≤ n ∧ (n : Int) ≤ 200 := (by omega)
        refine lv_iload_n hx hb dX10_rules_121 rfl (lv_at hl 1 rfl) ?_
        exact hend n ((uZ z92 9 n), g92) _ _ _ _ dX10_rules_122 w ⟨(by refine ⟨hfr 0 (by omega), hfr 1 (by omega), fun k hk => ?_, fun k hk => ?_, Or.inr ⟨h77, CN (g92 3), hR, rfl, fun q h1 h2 => ?_⟩⟩; (show uZ z92 9 n k = z k; rw [uZ_n _ _ (by omega)]; exact (hfr k (by omega)).trans (ZBk z k hk)); exact hfh k hk; exact (hfl q h1 (by omega)).trans (CN_a ⟨h1, by omega⟩).symm), (mBz_u hz92 9 bz1), hg92⟩
      · skip
        refine lv_aload_n hx hb dX10_rules_98 rfl (lv_at hl 0 rfl) ?_
        refine r_get C w 0 (v := .ref (a 2)) rfl rfl 5 (by decide) inX10 kf_X10_13 rfl dX10_rules_99 ?_
        refine lv_iload_n hx hb dX10_rules_102 rfl (lv_at hl 2 rfl) ?_
        refine lv_aload_n hx hb dX10_rules_103 rfl (lv_at hl 0 rfl) ?_
        refine r_get C w 0 (v := .ref (a 3)) rfl rfl 6 (by decide) inX10 kf_X10_17 rfl dX10_rules_104 ?_
        refine lv_iload_n hx hb dX10_rules_107 rfl (lv_at hl 2 rfl) ?_
        refine r_iald C w 3 (f := (g92 3)) rfl (by omega) (by omega) (by decide) dX10_rules_108 ?_
        have qg2 := mB3 hg92 i2
        refine r_iast C w 2 (f := (g92 2)) rfl (by omega) (by omega) (by decide) (ws' := mw cy a z92 (uZ g92 2 (uI (g92 2) i2 ((g92 3) i2)))) (mw_g2 cy a z92 g92 (uI (g92 2) i2 ((g92 3) i2))) dX10_rules_109 (fun H locs w => ?_)
        have bg3 : ∀ j : Int, (0 : Int) ≤ (uI (g92 2) i2 ((g92 3) i2)) j ∧ (uI (g92 2) i2 ((g92 3) i2)) j ≤ 9999 := uI_b (mB2 hg92) (by omega)
        refine r_iinc (lv' := [(2, vI (i2 + 1)), (0, .ref (a 0)), (1, vI n)]) hx hb dX10_rules_110 hl (k := 2) rfl (by decide) rfl (fun ls hl => ?_)
        refine lv_goto (tgt := 92) hx hb dX10_rules_113 (by decide) ?_
        exact ih92 n (i2 + 1) z92 (uZ g92 2 (uI (g92 2) i2 ((g92 3) i2))) hz92 (mBg_u hg92 2 bg3) (by omega) (by exact hfr) (by intro k hk; rw [uZ_n _ _ (by omega)]; exact hfh k hk) (by exact h77) (by exact hR) (by omega) (by exact ini2_st hfl rfl) (by omega) _ _ _ w (lv_sub hl [1, 2, 0] rfl)
  have J63 : ∀ N : Nat, ∀ (n : Int) (pz : Int) (z63 : Nat → Int) (g63 : Nat → Int → Int), (mBz z63) → (mBg g63) → (0 ≤ n ∧ n ≤ z63 5) → (isTok (bt (fun j => g 1 j % 256) (z 1)) (z 1) pz (z63 5) (z63 3) (z63 4)) → (z63 4 = 1 → z63 10 = wrv (bt (fun j => g 1 j % 256) (z 1)) (z63 5) (z63 3)) → (frR z63 (uZ (uZ (uZ (uZ (uZ z 0 0) 2 (z 1)) 1 0) 3 0) 7 0)) → (frH g63 g) → (z63 7 = 0) → (∀ r, Rd (bt (fun j => g 1 j % 256) (z 1)) (z 1) (CN (g63 3)) (CN (g63 4)) n (z63 5) (z63 3) (z63 4) r → Rd0 (bt (fun j => g 1 j % 256) (z 1)) (z 1) r) → ((z 1 - z63 5).toNat) < N → ∀ (H : Heap) (locs : List Loc) (ls : Array Slot), wd D A s.heap (mw cy a z63 g63) H locs → lv_has ls 3 [(0, .ref (a 0)), (1, vI n)] → W p l e (rm_X10_rules) s m args below meth c H locs 0 0 Q (F0 m 63 ls []) := by
    intro N
    induction N with
    | zero => intro n pz z63 g63 hz63 hg63 hn ht hw hfr hfh h77 hI hN9; exact absurd hN9 (Nat.not_lt_zero _)
    | succ N ih63 =>
      intro n pz z63 g63 hz63 hg63 hn ht hw hfr hfh h77 hI hN63 H locs ls w hl
      have q2 : z63 2 = z 1 := hfr 2 (by omega)
      have hB : bM z63 g63 = (bt (fun j => g 1 j % 256) (z 1)) := by unfold bM; rw [q2, show g63 1 = g 1 from hfh 1 (by omega)]
      have htb := isTok_b ht
      have bb4 := mZ4 hz63
      have bb5 := mZ5 hz63
      refine lv_aload_n hx hb dX10_rules_63 rfl (lv_at hl 0 rfl) ?_
      refine r_get C w 0 (v := vI (z63 4)) rfl rfl 8 (by decide) inX10 kf_X10_121 rfl dX10_rules_64 ?_
      have qz4 := mZ4 hz63
      refine r_if_eq (tgt := 90) hx hb dX10_rules_67 (by decide) (by omega) (fun c67 => ?_) (fun c67 => ?_)
      · skip
        refine r_iconst hx hb dX10_rules_90 ?_
        refine lv_istore_n (lv' := [(2, vI 0), (0, .ref (a 0)), (1, vI n)]) hx hb dX10_rules_91 rfl hl (by decide) rfl (fun ls hl => ?_)
        exact J92 _ n 0 z63 g63 hz63 hg63 (by omega) (by exact hfr) (by exact fun k hk => hfh k (by omega)) (by exact h77) (by exact hI _ (Rd_stop c67)) (by omega) (by intro q h1 h2; omega) (Nat.lt_succ_self _) _ _ _ w (lv_sub hl [1, 2, 0] rfl)
      · skip
        refine lv_aload_n hx hb dX10_rules_70 rfl (lv_at hl 0 rfl) ?_
        refine cVI C w hA (ct_X10_rule l D cy a z63 g63 (pz := pz) hz63 hg63 (by show isTok (bM z63 g63) (z63 2) pz (z63 5) (z63 3) (z63 4); rw [hB, q2]; exact ht) (by show z63 4 = 1 → z63 10 = wrv (bM z63 g63) (z63 5) (z63 3); rw [hB]; exact hw)) ok_X10_rule km_X10_154 ⟨rfl, rfl⟩ ⟨by decide, by decide⟩ ⟨by decide, by decide⟩ rfl 0 rfl rfl hl.1 rfl (Nat.le_of_ble_eq_true rfl) dX10_rules_71 (fun rv_1 uv_1 H locs w hp_1 => ?_)
        obtain ⟨zc_1, gc_1⟩ := uv_1
        obtain ⟨hp_1, hzc_1, hgc_1⟩ := hp_1
        replace w : wd D A s.heap (mw cy a zc_1 gc_1) H locs := w
        replace hzc_1 : mBz zc_1 := hzc_1
        replace hgc_1 : mBg gc_1 := hgc_1
        try dsimp only at hp_1
        obtain ⟨hr1, hr2, hr3⟩ := hp_1
        rw [hB, q2] at hr3
        replace hr1 : frR zc_1 z63 := hr1
        replace hr2 : frH gc_1 g63 := hr2
        have hvv : rv_1 = 0 ∨ rv_1 = 1 := hr3.elim (fun h => Or.inr h.1) (fun h => Or.inl h.1)
        have hcb := mZ8 hzc_1
        refine r_if_ne (tgt := 84) hx hb dX10_rules_74 (by decide) (by omega) (fun c74 => ?_) (fun c74 => ?_)
        · skip
          obtain ⟨-, e9, r1, r2, r3, r4, r5⟩ := hr3.resolve_right (fun h => c74 h.1)
          clear hr3
          have r3b := isTok_b r3
          obtain ⟨t1, t2, t3⟩ := tok_of r3
          refine r_iinc (lv' := [(1, vI (n + 1)), (0, .ref (a 0))]) hx hb dX10_rules_84 hl (k := 1) rfl (by decide) rfl (fun ls hl => ?_)
          refine lv_goto (tgt := 63) hx hb dX10_rules_87 (by decide) ?_
          exact ih63 (n + 1) _ zc_1 gc_1 hzc_1 hgc_1 (by have := htb.2.2.2.2.2.1 c67; omega) (by exact r3) (by exact r4) (by exact frR_t hr1 hfr) (by exact frH_t hr2 hfh) (by exact r5.trans h77) (by intro r hr; refine hI r (Rd_next c67 r1 ?_); rw [← t1, ← t2, ← t3]; exact hr) (by have := htb.2.2.2.2.2.1 c67; omega) _ _ _ w (lv_sub hl [1, 0] rfl)
        · skip
          have hbd := hr3.elim (fun h => absurd h.1 (by omega)) (fun h => h.2)
          refine r_iconst hx hb dX10_rules_77 ?_
          refine lv_aload_n hx hb dX10_rules_78 rfl (lv_at hl 0 rfl) ?_
          refine r_get C w 0 (v := vI (zc_1 8)) rfl rfl 12 (by decide) inX10 kf_X10_141 rfl dX10_rules_79 ?_
          have qz5 := mZ8 hzc_1
          refine r_isub hx hb dX10_rules_82 ?_
          exact hend ((-1) - (zc_1 8)) (zc_1, gc_1) _ _ _ _ dX10_rules_83 w ⟨(by have hf0 := frR_t hr1 hfr; have hf2 := frH_t hr2 hfh; exact ⟨hf0 0 (by omega), hf0 1 (by omega), fun k hk => (hf0 k (by omega)).trans (ZBk z k hk), fun k hk => hf2 k (by omega), Or.inl ⟨hbd.2, _, hI _ (Rd_bad c67 hbd.1), rfl, hf0 9 (by omega), hf2 2 (by omega)⟩⟩), hzc_1, hgc_1⟩
  have J16 : ∀ N : Nat, ∀ (i : Int) (f3 : Int → Int) (f4 : Int → Int), (∀ j : Int, (0 : Int) ≤ f3 j ∧ f3 j ≤ 9999) → (∀ j : Int, (0 : Int) ≤ f4 j ∧ f4 j ≤ 1) → (0 ≤ i ∧ i ≤ 10) → (∀ q, 0 ≤ q → q < i → f4 q = 0) → (∀ q, 0 ≤ q → q < i → f3 q = if 4 ≤ q ∧ q < 8 then 1 else 0) → ((10 - i).toNat) < N → ∀ (H : Heap) (locs : List Loc) (ls : Array Slot), wd D A s.heap (mw cy a (uZ (uZ (uZ (uZ (uZ z 0 0) 2 (z 1)) 1 0) 3 0) 7 0) (uZ (uZ g 3 f3) 4 f4)) H locs → lv_has ls 3 [(0, .ref (a 0)), (1, vI i)] → W p l e (rm_X10_rules) s m args below meth c H locs 0 0 Q (F0 m 16 ls []) := by
    intro N
    induction N with
    | zero => intro i f3 f4 bf3 bf4 hi hf4 hf3 hN9; exact absurd hN9 (Nat.not_lt_zero _)
    | succ N ih16 =>
      intro i f3 f4 bf3 bf4 hi hf4 hf3 hN16 H locs ls w hl
      refine lv_iload_n hx hb dX10_rules_16 rfl (lv_at hl 1 rfl) ?_
      refine r_bipush hx hb dX10_rules_17 (by decide) ?_
      refine r_icmp_ge (tgt := 57) hx hb dX10_rules_19 (by decide) (by omega) (by omega) (fun c19 => ?_) (fun c19 => ?_)
      · skip
        refine r_iconst hx hb dX10_rules_57 ?_
        refine lv_istore_n (lv' := [(1, vI 0), (0, .ref (a 0))]) hx hb dX10_rules_58 rfl hl (by decide) rfl (fun ls hl => ?_)
        refine lv_aload_n hx hb dX10_rules_59 rfl (lv_at hl 1 rfl) ?_
        refine cVV C w hA (ct_X10_next0 l D cy a (uZ (uZ (uZ (uZ (uZ z 0 0) 2 (z 1)) 1 0) 3 0) 7 0) (uZ (uZ g 3 f3) 4 f4)  (mBz_u (mBz_u (mBz_u (mBz_u (mBz_u hz 0 (by decide)) 2 (mZ1 hz)) 1 (by decide)) 3 (by decide)) 7 (by decide)) (mBg_u (mBg_u hg 3 bf3) 4 bf4) (by show (0 : Int) ≤ z 1; omega)) ok_X10_next0 km_X10_151 ⟨rfl, rfl⟩ ⟨by decide, by decide⟩ ⟨by decide, by decide⟩ rfl 0 rfl rfl hl.1 rfl (Nat.le_of_ble_eq_true rfl) dX10_rules_60 (fun uv_2 H locs w hp_2 => ?_)
        obtain ⟨zc_2, gc_2⟩ := uv_2
        obtain ⟨⟨s_2, e_2, k_2, ht_2, eg_2, e5_2, e3_2, e4_2, h6_2, h10_2, hfb_2⟩, hzc_2, hgc_2⟩ := hp_2
        replace eg_2 : gc_2 = (uZ (uZ g 3 f3) 4 f4) := eg_2
        replace e5_2 : zc_2 5 = s_2 := e5_2
        replace e3_2 : zc_2 3 = e_2 := e3_2
        replace e4_2 : zc_2 4 = k_2 := e4_2
        subst e5_2
        subst e3_2
        subst e4_2
        replace hfb_2 : frB zc_2 (uZ (uZ (uZ (uZ (uZ z 0 0) 2 (z 1)) 1 0) 3 0) 7 0) := hfb_2
        replace hzc_2 : mBz zc_2 := hzc_2
        replace hgc_2 : mBg gc_2 := hgc_2
        replace ht_2 : isTok (bt (fun j => g 1 j % 256) (z 1)) (z 1) 0 (zc_2 5) (zc_2 3) (zc_2 4) := ht_2
        replace h10_2 : zc_2 4 = 1 → zc_2 10 = wrv (bt (fun j => g 1 j % 256) (z 1)) (zc_2 5) (zc_2 3) := h10_2
        have hb_2 := isTok_b ht_2
        replace w : wd D A s.heap (mw cy a zc_2 gc_2) H locs := w
        have e3f : gc_2 3 = f3 := by rw [eg_2]; rfl
        have e4f : gc_2 4 = f4 := by rw [eg_2]; rfl
        have hfh0 : frH gc_2 g := by rw [eg_2]; exact frH_u (frH_u (frH_0 g) (j := 3) (by decide)) (j := 4) (by decide)
        have ht0 := ht_2
        have h100 := h10_2
        have hfb0 := hfb_2
        obtain ⟨t1, t2, t3⟩ := tok_of ht_2
        exact J63 _ 0 _ zc_2 gc_2 hzc_2 hgc_2 (by omega) (by exact ht0) (by exact h100) (by exact frB_R hfb0) (by exact hfh0) (by exact hfb0 7 (by omega)) (by intro r hr; unfold Rd0; rw [e3f, e4f, fr0_M (fun q h1 h2 => hf3 q h1 (by omega)), tl0_M (fun q h1 h2 => hf4 q h1 (by omega)), t1, t2, t3] at hr; exact hr) (Nat.lt_succ_self _) _ _ _ w (lv_sub hl [1, 0] rfl)
      · skip
        refine lv_aload_n hx hb dX10_rules_22 rfl (lv_at hl 0 rfl) ?_
        refine r_get C w 0 (v := .ref (a 4)) rfl rfl 7 (by decide) inX10 kf_X10_20 rfl dX10_rules_23 ?_
        refine lv_iload_n hx hb dX10_rules_26 rfl (lv_at hl 1 rfl) ?_
        refine r_iconst hx hb dX10_rules_27 ?_
        refine r_zast C w 4 (f := f4) rfl (by omega) (by omega) (by decide) (vz01 (by omega)) (ws' := mw cy a (uZ (uZ (uZ (uZ (uZ z 0 0) 2 (z 1)) 1 0) 3 0) 7 0) (uZ (uZ g 3 f3) 4 (uI f4 i 0))) rfl dX10_rules_28 (fun H locs w => ?_)
        have bg6 : ∀ j : Int, (0 : Int) ≤ (uI f4 i 0) j ∧ (uI f4 i 0) j ≤ 1 := uI_b bf4 (by omega)
        refine lv_aload_n hx hb dX10_rules_29 rfl (lv_at hl 0 rfl) ?_
        refine r_get C w 0 (v := .ref (a 3)) rfl rfl 6 (by decide) inX10 kf_X10_17 rfl dX10_rules_30 ?_
        refine lv_iload_n hx hb dX10_rules_33 rfl (lv_at hl 1 rfl) ?_
        refine lv_iload_n hx hb dX10_rules_34 rfl (lv_at hl 1 rfl) ?_
        refine r_iconst hx hb dX10_rules_35 ?_
        refine r_icmp_lt (tgt := 49) hx hb dX10_rules_36 (by decide) (by omega) (by omega) (fun c36 => ?_) (fun c36 => ?_)
        · skip
          refine r_iconst hx hb dX10_rules_49 ?_
          refine r_iast C w 3 (f := f3) rfl (by omega) (by omega) (by decide) (ws' := mw cy a (uZ (uZ (uZ (uZ (uZ z 0 0) 2 (z 1)) 1 0) 3 0) 7 0) (uZ (uZ g 3 (uI f3 i 0)) 4 (uI f4 i 0))) rfl dX10_rules_50 (fun H locs w => ?_)
          have bg7 : ∀ j : Int, (0 : Int) ≤ (uI f3 i 0) j ∧ (uI f3 i 0) j ≤ 9999 := uI_b bf3 (by omega)
          refine r_iinc (lv' := [(1, vI (i + 1)), (0, .ref (a 0))]) hx hb dX10_rules_51 hl (k := 1) rfl (by decide) rfl (fun ls hl => ?_)
          refine lv_goto (tgt := 16) hx hb dX10_rules_54 (by decide) ?_
          exact ih16 (i + 1) (uI f3 i 0) (uI f4 i 0) bg7 bg6 (by omega) (by exact ini2_st hf4 rfl) (by first | exact ini2_st hf3 (if_pos (by omega)).symm | exact ini2_st hf3 (if_neg (by omega)).symm) (by omega) _ _ _ w (lv_sub hl [1, 0] rfl)
        · skip
          refine lv_iload_n hx hb dX10_rules_39 rfl (lv_at hl 1 rfl) ?_
          refine r_bipush hx hb dX10_rules_40 (by decide) ?_
          refine r_icmp_ge (tgt := 49) hx hb dX10_rules_42 (by decide) (by omega) (by omega) (fun c42 => ?_) (fun c42 => ?_)
          · skip
            refine r_iconst hx hb dX10_rules_49 ?_
            refine r_iast C w 3 (f := f3) rfl (by omega) (by omega) (by decide) (ws' := mw cy a (uZ (uZ (uZ (uZ (uZ z 0 0) 2 (z 1)) 1 0) 3 0) 7 0) (uZ (uZ g 3 (uI f3 i 0)) 4 (uI f4 i 0))) rfl dX10_rules_50 (fun H locs w => ?_)
            have bg8 : ∀ j : Int, (0 : Int) ≤ (uI f3 i 0) j ∧ (uI f3 i 0) j ≤ 9999 := uI_b bf3 (by omega)
            refine r_iinc (lv' := [(1, vI (i + 1)), (0, .ref (a 0))]) hx hb dX10_rules_51 hl (k := 1) rfl (by decide) rfl (fun ls hl => ?_)
            refine lv_goto (tgt := 16) hx hb dX10_rules_54 (by decide) ?_
            exact ih16 (i + 1) (uI f3 i 0) (uI f4 i 0) bg8 bg6 (by omega) (by exact ini2_st hf4 rfl) (by first | exact ini2_st hf3 (if_pos (by omega)).symm | exact ini2_st hf3 (if_neg (by omega)).symm) (by omega) _ _ _ w (lv_sub hl [1, 0] rfl)
          · skip
            refine r_iconst hx hb dX10_rules_45 ?_
            refine lv_goto (tgt := 50) hx hb dX10_rules_46 (by decide) ?_
            refine r_iast C w 3 (f := f3) rfl (by omega) (by omega) (by decide) (ws' := mw cy a (uZ (uZ (uZ (uZ (uZ z 0 0) 2 (z 1)) 1 0) 3 0) 7 0) (uZ (uZ g 3 (uI f3 i 1)) 4 (uI f4 i 0))) rfl dX10_rules_50 (fun H locs w => ?_)
            have bg9 : ∀ j : Int, (0 : Int) ≤ (uI f3 i 1) j ∧ (uI f3 i 1) j ≤ 9999 := uI_b bf3 (by omega)
            refine r_iinc (lv' := [(1, vI (i + 1)), (0, .ref (a 0))]) hx hb dX10_rules_51 hl (k := 1) rfl (by decide) rfl (fun ls hl => ?_)
            refine lv_goto (tgt := 16) hx hb dX10_rules_54 (by decide) ?_
            exact ih16 (i + 1) (uI f3 i 1) (uI f4 i 0) bg9 bg6 (by omega) (by exact ini2_st hf4 rfl) (by first | exact ini2_st hf3 (if_pos (by omega)).symm | exact ini2_st hf3 (if_neg (by omega)).symm) (by omega) _ _ _ w (lv_sub hl [1, 0] rfl)
  replace hl : lv_has ls 3 [(0, .ref (a 0))] := hl
  refine lv_aload_n hx hb dX10_rules_0 rfl (lv_at hl 0 rfl) ?_
  refine r_iconst hx hb dX10_rules_1 ?_
  refine r_put C w 0 tyX10 tyX10_ok nmX10 rfl rfl 0 (by decide) inX10 kf_X10_97 rfl rfl rfl (Nat.le_of_ble_eq_true rfl) (ws' := mw cy a (uZ z 0 0) g) (mw_z0 cy a z g 0) dX10_rules_2 (fun H locs w => ?_)
  have bz10 : (0 : Int) ≤ 0 ∧ (0 : Int) ≤ 1 := (by omega)
  refine lv_aload_n hx hb dX10_rules_5 rfl (lv_at hl 0 rfl) ?_
  refine cVV C w hA (ct_X10_taken l D cy a (uZ z 0 0) g  (mBz_u hz 0 bz10) hg) ok_X10_taken km_X10_148 ⟨rfl, rfl⟩ ⟨by decide, by decide⟩ ⟨by decide, by decide⟩ rfl 0 rfl rfl hl.1 rfl (Nat.le_of_ble_eq_true rfl) dX10_rules_6 (fun uv_3 H locs w hp_3 => ?_)
  obtain ⟨zc_3, gc_3⟩ := uv_3
  obtain ⟨hp_3, -, -⟩ := hp_3
  obtain ⟨ea_3, eb_3⟩ := Prod.mk.inj hp_3
  subst ea_3
  replace eb_3 := eb_3.symm
  subst eb_3
  have bz11 : (0 : Int) ≤ (z 1) ∧ ((z 1) : Int) ≤ 200 := (mZ1 hz)
  have bz12 : (0 : Int) ≤ 0 ∧ (0 : Int) ≤ 200 := (by omega)
  have bz13 : (0 : Int) ≤ 0 ∧ (0 : Int) ≤ 200 := (by omega)
  replace w : wd D A s.heap (mw cy a (uZ (uZ (uZ (uZ z 0 0) 2 (z 1)) 1 0) 3 0) g) H locs := w
  refine lv_aload_n hx hb dX10_rules_9 rfl (lv_at hl 0 rfl) ?_
  refine r_iconst hx hb dX10_rules_10 ?_
  refine r_put C w 0 tyX10 tyX10_ok nmX10 rfl rfl 11 (by decide) inX10 kf_X10_138 rfl rfl rfl (Nat.le_of_ble_eq_true rfl) (ws' := mw cy a (uZ (uZ (uZ (uZ (uZ z 0 0) 2 (z 1)) 1 0) 3 0) 7 0) g) (mw_z7 cy a (uZ (uZ (uZ (uZ z 0 0) 2 (z 1)) 1 0) 3 0) g 0) dX10_rules_11 (fun H locs w => ?_)
  have bz14 : (0 : Int) ≤ 0 ∧ (0 : Int) ≤ 4 := (by omega)
  refine r_iconst hx hb dX10_rules_14 ?_
  refine lv_istore_n (lv' := [(1, vI 0), (0, .ref (a 0))]) hx hb dX10_rules_15 rfl hl (by decide) rfl (fun ls hl => ?_)
  exact J16 _ 0 (g 3) (g 4) (mB3 hg) (mB4 hg) (by omega) (by intro q h1 h2; omega) (by intro q h1 h2; omega) (Nat.lt_succ_self _) _ _ _ w (lv_sub hl [1, 0] rfl)

