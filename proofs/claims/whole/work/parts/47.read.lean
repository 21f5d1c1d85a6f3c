/-! rules: the whole text; rules of the class -/
abbrev RR : Type := Sum (Int × Int) ((Int → Int) × Int)
def RdN (b : Int → Int) (n : Int) : Nat → (Int → Int) → (Int → Int) → Int → Int → Int → Int → RR → Prop
  | 0, _, _, _, _, _, _, _ => False
  | N + 1, fr, tl, c, s, e, k, r => (k = 0 ∧ r = .inr (fr, c)) ∨ (k ≠ 0 ∧ ∃ f p, rulF b n fr tl s e k = bad f p ∧ r = .inl (f, p)) ∨ (k ≠ 0 ∧ ∃ fr' tl' e', rulF b n fr tl s e k = okR fr' tl' e' ∧ RdN b n N fr' tl' (c + 1) (tS b n e') (tE b n e') (tK b n e') r)
def Rd (b : Int → Int) (n : Int) (fr tl : Int → Int) (c s e k : Int) (r : RR) : Prop := ∃ N, RdN b n N fr tl c s e k r
theorem RdN_one {b : Int → Int} {n : Int} : ∀ {N M : Nat} {fr tl : Int → Int} {c s e k : Int} {r r' : RR}, RdN b n N fr tl c s e k r → RdN b n M fr tl c s e k r' → r = r'
  | 0, _, _, _, _, _, _, _, _, _, h, _ => h.elim
  | _ + 1, 0, _, _, _, _, _, _, _, _, _, h => h.elim
  | N + 1, M + 1, fr, tl, c, s, e, k, r, r', h, h' => by
    rcases h with ⟨a1, a2⟩ | ⟨a1, f, p, a2, a3⟩ | ⟨a1, fr', tl', e', a2, a3⟩ <;> rcases h' with ⟨b1, b2⟩ | ⟨b1, f2, p2, b2, b3⟩ | ⟨b1, fr2, tl2, e2, b2, b3⟩
    · rw [a2, b2]
    · exact absurd a1 b1
    · exact absurd a1 b1
    · exact absurd b1 a1
    · rw [a2] at b2
      rw [a3, b3, Sum.inl.inj b2]
    · rw [a2] at b2
      exact absurd b2 (by simp)
    · exact absurd b1 a1
    · rw [a2] at b2
      exact absurd b2 (by simp)
    · rw [a2] at b2
      have q := Sum.inr.inj b2
      have q1 : fr' = fr2 := congrArg Prod.fst q
      have q2 : tl' = tl2 := congrArg (fun t => t.2.1) q
      have q3 : e' = e2 := congrArg (fun t => t.2.2) q
      subst q1
      subst q2
      subst q3
      exact RdN_one a3 b3
theorem Rd_one {b : Int → Int} {n : Int} {fr tl : Int → Int} {c s e k : Int} {r r' : RR} (h : Rd b n fr tl c s e k r) (h' : Rd b n fr tl c s e k r') : r = r' := h.elim (fun _ q => h'.elim (fun _ q' => RdN_one q q'))
section RDS
variable {b : Int → Int} {n : Int} {fr tl : Int → Int} {c s e k : Int}
theorem Rd_stop (h : k = 0) : Rd b n fr tl c s e k (.inr (fr, c)) := ⟨1, Or.inl ⟨h, rfl⟩⟩
theorem Rd_bad (h : k ≠ 0) {f p : Int} (hr : rulF b n fr tl s e k = bad f p) : Rd b n fr tl c s e k (.inl (f, p)) := ⟨1, Or.inr (Or.inl ⟨h, f, p, hr, rfl⟩)⟩
theorem Rd_next (h : k ≠ 0) {fr' tl' : Int → Int} {e' : Int} {r : RR} (hr : rulF b n fr tl s e k = okR fr' tl' e') (h2 : Rd b n fr' tl' (c + 1) (tS b n e') (tE b n e') (tK b n e') r) : Rd b n fr tl c s e k r := h2.elim (fun N q => ⟨N + 1, Or.inr (Or.inr ⟨h, fr', tl', e', hr, q⟩)⟩)
end RDS
def fr0 : Int → Int := fun q => if 4 ≤ q ∧ q < 8 then 1 else 0
def tl0 : Int → Int := fun _ => 0
def Rd0 (b : Int → Int) (n : Int) (r : RR) : Prop := Rd b n fr0 tl0 0 (tS b n 0) (tE b n 0) (tK b n 0) r
def rdI (b : Int → Int) (n : Int) (z : Nat → Int) (g : Nat → Int → Int) (i : Int) : Prop := z 10 ≤ n ∧ ((z 11 = 0 ∧ z 15 = i ∧ i ≤ z 9 ∧ z 9 ≤ z 10 ∧ (z 8 ≠ 0 → z 9 < z 10) ∧ ∀ r, Rd b n (fdX z g) (tlX z g) i (z 9) (z 10) (z 8) r → Rd0 b n r) ∨ (z 11 ≠ 0 ∧ Rd0 b n (.inl (z 11, z 12))))
theorem rd_next {b : Int → Int} {n : Int} {zh zc : Nat → Int} {gh gc : Nat → Int → Int} {i s e k : Int} (h : rdI b n zh gh i) (h11 : zh 11 = 0) (h8 : zh 8 ≠ 0) (hf : resX zh (zc, gc) (rulF b n (fdX zh gh) (tlX zh gh) (zh 9) (zh 10) (zh 8))) (hm : zh 10 ≤ zc 10) (ht : isTok b n (zc 10) s e k) : rdI b n (uZ (uZ (uZ zc 9 s) 10 e) 8 k) gc (i + 1) := by
  have hb := isTok_b ht
  obtain ⟨t1, t2, t3⟩ := tok_of ht
  obtain ⟨h0, h | h⟩ := h
  · obtain ⟨a1, a2, a3, a4, a5, a6⟩ := h
    refine ⟨hb.2.2.1, ?_⟩
    cases hr : rulF b n (fdX zh gh) (tlX zh gh) (zh 9) (zh 10) (zh 8) with
    | inl q =>
      rw [hr] at hf
      obtain ⟨f1, f2, f3⟩ := hf
      refine Or.inr ⟨?_, ?_⟩
      · show zc 11 ≠ 0
        have : zc 11 = q.1 := f1
        omega
      · show Rd0 b n (.inl (zc 11, zc 12))
        rw [show zc 11 = q.1 from f1, show zc 12 = q.2 from f2]
        exact a6 _ (Rd_bad h8 hr)
    | inr q =>
      rw [hr] at hf
      obtain ⟨f1, f2, f3, f4, f5⟩ := hf
      have f4' : zc 10 = q.2.2 := f4
      have f5' : zc 15 = zh 15 + 1 := f5
      have := a5 h8
      refine Or.inl ⟨f1, ?_, ?_, ?_, ?_, ?_⟩
      · show zc 15 = i + 1
        omega
      · show i + 1 ≤ s
        omega
      · show s ≤ e
        omega
      · show k ≠ 0 → s < e
        exact hb.2.2.2.2.2.1
      · intro r hR
        refine a6 r (Rd_next h8 hr ?_)
        rw [f4'] at t1 t2 t3
        rw [← t1, ← t2, ← t3]
        have f2' : fdX zc gc = q.1 := f2
        have f3' : tlX zc gc = q.2.1 := f3
        rw [← f2', ← f3']
        exact hR
  · exact absurd h11 h.1
theorem rd_0 {b : Int → Int} {n : Int} {zc : Nat → Int} {gc : Nat → Int → Int} {s e k : Int} (h1 : fdX zc gc = fr0) (h2 : tlX zc gc = tl0) (h10 : zc 10 = 0) (h11 : zc 11 = 0) (h15 : zc 15 = 0) (ht : isTok b n (zc 10) s e k) : rdI b n (uZ (uZ (uZ zc 9 s) 10 e) 8 k) gc 0 := by
  have hb := isTok_b ht
  rw [h10] at ht
  obtain ⟨t1, t2, t3⟩ := tok_of ht
  refine ⟨hb.2.2.1, Or.inl ⟨h11, h15, ?_, ?_, ?_, ?_⟩⟩
  · show 0 ≤ s
    omega
  · show s ≤ e
    omega
  · show k ≠ 0 → s < e
    exact hb.2.2.2.2.2.1
  · intro r hR
    unfold Rd0
    rw [← t1, ← t2, ← t3, ← h1, ← h2]
    exact hR
theorem rd_end {b : Int → Int} {n : Int} {z : Nat → Int} {g : Nat → Int → Int} {i : Int} (h : rdI b n z g i) (hn : n ≤ 200) (hx : 200 ≤ i ∨ z 8 = 0 ∨ z 11 ≠ 0) : (z 11 = 0 ∧ Rd0 b n (.inr (fdX z g, z 15))) ∨ (z 11 ≠ 0 ∧ Rd0 b n (.inl (z 11, z 12))) := by
  obtain ⟨h0, h | h⟩ := h
  · obtain ⟨a1, a2, a3, a4, a5, a6⟩ := h
    have h8 : z 8 = 0 := by
      by_cases q : z 8 = 0
      · exact q
      · have := a5 q
        omega
    refine Or.inl ⟨a1, ?_⟩
    rw [a2]
    exact a6 _ (Rd_stop h8)
  · exact Or.inr h
theorem fr0_of {f1 f2 : Int → Int} (h : ∀ q, 0 ≤ q → q < 4 → f1 q = 0 ∧ f2 q = 1) : FRX f1 f2 0 0 = fr0 := by
  funext q
  unfold FRX fr0
  by_cases h1 : q < 0
  · rw [if_pos h1, if_neg (by omega)]
  · rw [if_neg h1]
    by_cases h2 : q < 4
    · rw [if_pos h2, if_neg (by omega)]
      exact (h q (by omega) h2).1
    · rw [if_neg h2]
      by_cases h3 : q < 8
      · rw [if_pos h3, if_pos (by omega)]
        exact (h (q - 4) (by omega) (by omega)).2
      · rw [if_neg h3, if_neg (show ¬ (4 ≤ q ∧ q < 8) by omega)]
        split
        · rfl
        · split <;> rfl
theorem tl0_of {f1 f2 : Int → Int} (h : ∀ q, 0 ≤ q → q < 4 → f1 q = 0 ∧ f2 q = 0) : FRX f1 f2 0 0 = tl0 := by
  funext q
  unfold FRX tl0
  by_cases h1 : q < 0
  · rw [if_pos h1]
  · rw [if_neg h1]
    by_cases h2 : q < 4
    · rw [if_pos h2]
      exact (h q (by omega) h2).1
    · rw [if_neg h2]
      by_cases h3 : q < 8
      · rw [if_pos h3]
        exact (h (q - 4) (by omega) (by omega)).2
      · rw [if_neg h3]
        split
        · rfl
        · split <;> rfl
theorem two_st {f1 f2 : Int → Int} {i a b v w : Int} (h : ∀ q, 0 ≤ q → q < i → f1 q = a ∧ f2 q = b) (hv : v = a) (hw : w = b) : ∀ q, 0 ≤ q → q < i + 1 → uI f1 i v q = a ∧ uI f2 i w q = b := by
  intro q h1 h2
  by_cases e : q = i
  · rw [e, uI_s, uI_s]; exact ⟨hv, hw⟩
  · rw [uI_n _ _ e, uI_n _ _ e]
    exact h q h1 (by omega)
theorem cp_st {f1 f2 k1 k2 : Int → Int} {i : Int} (h : ∀ q, 0 ≤ q → q < i → f1 q = k1 q ∧ f2 q = k2 q) : ∀ q, 0 ≤ q → q < i + 1 → uI f1 i (k1 i) q = k1 q ∧ uI f2 i (k2 i) q = k2 q := by
  intro q h1 h2
  by_cases e : q = i
  · rw [e, uI_s, uI_s]; exact ⟨rfl, rfl⟩
  · rw [uI_n _ _ e, uI_n _ _ e]
    exact h q h1 (by omega)

abbrev rm_X6_clear : Room := { frames := 0, cells := 0, slots := 0, locals := 0 }
set_option maxHeartbeats 4000000 in
set_option maxRecDepth 100000 in
theorem ct_X6_clear (l : Launch) (D : va_G) (cy : Nat → ClassId) (a : Nat → Nat) (z : Nat → Int) (g : Nat → Int → Int)  (hz : xBz z) (hg : xBg g) : MV l yX6_clear cX6_clear 2 (rm_X6_clear) D cy (xw cy a z g) [.ref (a 7)] (fun (u : sX) => (u.1 = uZ (uZ (uZ z 13 0) 14 0) 15 0 ∧ ∃ fr fp : Int → Int, u.2 = uZ (uZ g 8 fr) 9 fp ∧ ∀ q, 0 ≤ q → q < 4 → fr q = 0 ∧ fp q = 1) ∧ xBz u.1 ∧ xBg u.2) (fun u => xw cy a u.1 u.2) 0 0 := by
  refine go_v (by decide +kernel) (Nat.le_of_ble_eq_true rfl) ?_
  intro p e s m args below meth c Q A ls C hnm hA w hl hend
  have hx := C.1
  have hb := C.2.1
  have J2 : ∀ N : Nat, ∀ (i : Int) (fr : Int → Int) (fp : Int → Int), (∀ j : Int, (0 : Int) ≤ fr j ∧ fr j ≤ 9999) → (∀ j : Int, (0 : Int) ≤ fp j ∧ fp j ≤ 100) → (0 ≤ i ∧ i ≤ 4) → (∀ q, 0 ≤ q → q < i → fr q = 0 ∧ fp q = 1) → ((4 - i).toNat) < N → ∀ (H : Heap) (locs : List Loc) (ls : Array Slot), wd D A s.heap (xw cy a z (uZ (uZ g 8 fr) 9 fp)) H locs → lv_has ls 2 [(0, .ref (a 7)), (1, vI i)] → W p l e (rm_X6_clear) s m args below meth c H locs 0 0 Q (F0 m 2 ls []) := by
    intro N
    induction N with
    | zero => intro i fr fp bfr bfp hi hf hN9; exact absurd hN9 (Nat.not_lt_zero _)
    | succ N ih2 =>
      intro i fr fp bfr bfp hi hf hN2 H locs ls w hl
      refine lv_iload_n hx hb dX6_clear_2 rfl (lv_at hl 1 rfl) ?_
      refine r_iconst hx hb dX6_clear_3 ?_
      refine r_icmp_ge (tgt := 27) hx hb dX6_clear_4 (by decide) (by omega) (by omega) (fun c4 => ?_) (fun c4 => ?_)
      · skip
        refine lv_aload_n hx hb dX6_clear_27 rfl (lv_at hl 0 rfl) ?_
        refine r_iconst hx hb dX6_clear_28 ?_
        refine r_put C w 7 tyX6 tyX6_ok nmX6 rfl rfl 2 (by decide) inX6 kf_X6_21 rfl rfl rfl (Nat.le_of_ble_eq_true rfl) (ws' := xw cy a (uZ z 13 0) (uZ (uZ g 8 fr) 9 fp)) (xw_z13 cy a z (uZ (uZ g 8 fr) 9 fp) 0) dX6_clear_29 (fun H locs w => ?_)
        have bz1 : (0 : Int) ≤ 0 ∧ (0 : Int) ≤ 50 := (by omega)
        refine lv_aload_n hx hb dX6_clear_32 rfl (lv_at hl 0 rfl) ?_
        refine r_iconst hx hb dX6_clear_33 ?_
        refine r_put C w 7 tyX6 tyX6_ok nmX6 rfl rfl 3 (by decide) inX6 kf_X6_25 rfl (nb01 (by omega)) (fb01 (by omega)) (Nat.le_of_ble_eq_true rfl) (ws' := xw cy a (uZ (uZ z 13 0) 14 0) (uZ (uZ g 8 fr) 9 fp)) (xw_z14 cy a (uZ z 13 0) (uZ (uZ g 8 fr) 9 fp) 0) dX6_clear_34 (fun H locs w => ?_)
        have bz2 : (0 : Int) ≤ 0 ∧ (0 : Int) ≤ 1 := (by omega)
        refine lv_aload_n hx hb dX6_clear_37 rfl (lv_at hl 0 rfl) ?_
        refine r_iconst hx hb dX6_clear_38 ?_
        refine r_put C w 7 tyX6 tyX6_ok nmX6 rfl rfl 4 (by decide) inX6 kf_X6_29 rfl rfl rfl (Nat.le_of_ble_eq_true rfl) (ws' := xw cy a (uZ (uZ (uZ z 13 0) 14 0) 15 0) (uZ (uZ g 8 fr) 9 fp)) (xw_z15 cy a (uZ (uZ z 13 0) 14 0) (uZ (uZ g 8 fr) 9 fp) 0) dX6_clear_39 (fun H locs w => ?_)
        have bz3 : (0 : Int) ≤ 0 ∧ (0 : Int) ≤ 200 := (by omega)
        exact hend ((uZ (uZ (uZ z 13 0) 14 0) 15 0), (uZ (uZ g 8 fr) 9 fp)) _ _ _ _ dX6_clear_42 w ⟨(by exact ⟨rfl, fr, fp, rfl, fun q h1 h2 => hf q h1 (by omega)⟩), (xBz_u (xBz_u (xBz_u hz 13 bz1) 14 bz2) 15 bz3), (xBg_u (xBg_u hg 8 bfr) 9 bfp)⟩
      · skip
        refine lv_aload_n hx hb dX6_clear_7 rfl (lv_at hl 0 rfl) ?_
        refine r_get C w 7 (v := .ref (a 8)) rfl rfl 0 (by decide) inX6 kf_X6_9 rfl dX6_clear_8 ?_
        refine lv_iload_n hx hb dX6_clear_11 rfl (lv_at hl 1 rfl) ?_
        refine r_iconst hx hb dX6_clear_12 ?_
        refine r_iast C w 8 (f := fr) rfl (by omega) (by omega) (by decide) (ws' := xw cy a z (uZ (uZ g 8 (uI fr i 0)) 9 fp)) rfl dX6_clear_13 (fun H locs w => ?_)
        have bg4 : ∀ j : Int, (0 : Int) ≤ (uI fr i 0) j ∧ (uI fr i 0) j ≤ 9999 := uI_b bfr (by omega)
        refine lv_aload_n hx hb dX6_clear_14 rfl (lv_at hl 0 rfl) ?_
        refine r_get C w 7 (v := .ref (a 9)) rfl rfl 1 (by decide) inX6 kf_X6_15 rfl dX6_clear_15 ?_
        refine lv_iload_n hx hb dX6_clear_18 rfl (lv_at hl 1 rfl) ?_
        refine r_iconst hx hb dX6_clear_19 ?_
        refine r_iast C w 9 (f := fp) rfl (by omega) (by omega) (by decide) (ws' := xw cy a z (uZ (uZ g 8 (uI fr i 0)) 9 (uI fp i 1))) rfl dX6_clear_20 (fun H locs w => ?_)
        have bg5 : ∀ j : Int, (0 : Int) ≤ (uI fp i 1) j ∧ (uI fp i 1) j ≤ 100 := uI_b bfp (by omega)
        refine r_iinc (lv' := [(1, vI (i + 1)), (0, .ref (a 7))]) hx hb dX6_clear_21 hl (k := 1) rfl (by decide) rfl (fun ls hl => ?_)
        refine lv_goto (tgt := 2) hx hb dX6_clear_24 (by decide) ?_
        exact ih2 (i + 1) (uI fr i 0) (uI fp i 1) bg4 bg5 (by omega) (by exact two_st hf rfl rfl) (by omega) _ _ _ w (lv_sub hl [1, 0] rfl)
  replace hl : lv_has ls 2 [(0, .ref (a 7))] := hl
  refine r_iconst hx hb dX6_clear_0 ?_
  refine lv_istore_n (lv' := [(1, vI 0), (0, .ref (a 7))]) hx hb dX6_clear_1 rfl hl (by decide) rfl (fun ls hl => ?_)
  exact J2 _ 0 (g 8) (g 9) (xB8 hg) (xB9 hg) (by omega) (by intro q h1 h2; omega) (Nat.lt_succ_self _) _ _ _ w (lv_sub hl [1, 0] rfl)

abbrev rm_X5_forget : Room := { frames := 1, cells := 0, slots := 0, locals := 21 }
set_option maxHeartbeats 4000000 in
set_option maxRecDepth 100000 in
theorem ct_X5_forget (l : Launch) (D : va_G) (cy : Nat → ClassId) (a : Nat → Nat) (z : Nat → Int) (g : Nat → Int → Int)  (hz : xBz z) (hg : xBg g) : MV l yX5_forget cX5_forget 2 (rm_X5_forget) D cy (xw cy a z g) [.ref (a 6)] (fun (u : sX) => (frA u.1 z ∧ frG u.2 g ∧ fdX u.1 u.2 = fr0 ∧ tlX u.1 u.2 = tl0 ∧ u.1 10 = 0 ∧ u.1 11 = 0 ∧ u.1 15 = 0) ∧ xBz u.1 ∧ xBg u.2) (fun u => xw cy a u.1 u.2) 0 0 := by
  refine go_v (by decide +kernel) (Nat.le_of_ble_eq_true rfl) ?_
  intro p e s m args below meth c Q A ls C hnm hA w hl hend
  have hx := C.1
  have hb := C.2.1
  have J9 : ∀ N : Nat, ∀ (i : Int) (fr9 : Int → Int) (fp9 : Int → Int) (fr : Int → Int) (fp : Int → Int), (∀ j : Int, (0 : Int) ≤ fr j ∧ fr j ≤ 1) → (∀ j : Int, (0 : Int) ≤ fp j ∧ fp j ≤ 1) → (∀ j : Int, (0 : Int) ≤ fr9 j ∧ fr9 j ≤ 9999) → (∀ j : Int, (0 : Int) ≤ fp9 j ∧ fp9 j ≤ 100) → (∀ q, 0 ≤ q → q < 4 → fr9 q = 0 ∧ fp9 q = 1) → (0 ≤ i ∧ i ≤ 4) → (∀ q, 0 ≤ q → q < i → fr q = 0 ∧ fp q = 0) → ((4 - i).toNat) < N → ∀ (H : Heap) (locs : List Loc) (ls : Array Slot), wd D A s.heap (xw cy a (uZ (uZ (uZ z 13 0) 14 0) 15 0) (uZ (uZ (uZ (uZ g 8 fr9) 9 fp9) 10 fr) 11 fp)) H locs → lv_has ls 2 [(0, .ref (a 6)), (1, vI i)] → W p l e (rm_X5_forget) s m args below meth c H locs 0 0 Q (F0 m 9 ls []) := by
    intro N
    induction N with
    | zero => intro i fr9 fp9 fr fp bfr bfp bfr9 bfp9 hfp9 hi hf hN9; exact absurd hN9 (Nat.not_lt_zero _)
    | succ N ih9 =>
      intro i fr9 fp9 fr fp bfr bfp bfr9 bfp9 hfp9 hi hf hN9 H locs ls w hl
      refine lv_iload_n hx hb dX5_forget_9 rfl (lv_at hl 1 rfl) ?_
      refine r_iconst hx hb dX5_forget_10 ?_
      refine r_icmp_ge (tgt := 34) hx hb dX5_forget_11 (by decide) (by omega) (by omega) (fun c11 => ?_) (fun c11 => ?_)
      · skip
        refine lv_aload_n hx hb dX5_forget_34 rfl (lv_at hl 0 rfl) ?_
        refine r_iconst hx hb dX5_forget_35 ?_
        refine r_put C w 6 tyX5 tyX5_ok nmX5 rfl rfl 4 (by decide) inX5 kf_X5_48 rfl (nb01 (by omega)) (fb01 (by omega)) (Nat.le_of_ble_eq_true rfl) (ws' := xw cy a (uZ (uZ (uZ (uZ z 13 0) 14 0) 15 0) 6 0) (uZ (uZ (uZ (uZ g 8 fr9) 9 fp9) 10 fr) 11 fp)) (xw_z6 cy a (uZ (uZ (uZ z 13 0) 14 0) 15 0) (uZ (uZ (uZ (uZ g 8 fr9) 9 fp9) 10 fr) 11 fp) 0) dX5_forget_36 (fun H locs w => ?_)
        have bz1 : (0 : Int) ≤ 0 ∧ (0 : Int) ≤ 1 := (by omega)
        refine lv_aload_n hx hb dX5_forget_39 rfl (lv_at hl 0 rfl) ?_
        refine r_iconst hx hb dX5_forget_40 ?_
        refine r_put C w 6 tyX5 tyX5_ok nmX5 rfl rfl 5 (by decide) inX5 kf_X5_52 rfl (nb01 (by omega)) (fb01 (by omega)) (Nat.le_of_ble_eq_true rfl) (ws' := xw cy a (uZ (uZ (uZ (uZ (uZ z 13 0) 14 0) 15 0) 6 0) 7 0) (uZ (uZ (uZ (uZ g 8 fr9) 9 fp9) 10 fr) 11 fp)) (xw_z7 cy a (uZ (uZ (uZ (uZ z 13 0) 14 0) 15 0) 6 0) (uZ (uZ (uZ (uZ g 8 fr9) 9 fp9) 10 fr) 11 fp) 0) dX5_forget_41 (fun H locs w => ?_)
        have bz2 : (0 : Int) ≤ 0 ∧ (0 : Int) ≤ 1 := (by omega)
        refine lv_aload_n hx hb dX5_forget_44 rfl (lv_at hl 0 rfl) ?_
        refine r_iconst hx hb dX5_forget_45 ?_
        refine r_put C w 6 tyX5 tyX5_ok nmX5 rfl rfl 8 (by decide) inX5 kf_X5_55 rfl rfl rfl (Nat.le_of_ble_eq_true rfl) (ws' := xw cy a (uZ (uZ (uZ (uZ (uZ (uZ z 13 0) 14 0) 15 0) 6 0) 7 0) 10 0) (uZ (uZ (uZ (uZ g 8 fr9) 9 fp9) 10 fr) 11 fp)) (xw_z10 cy a (uZ (uZ (uZ (uZ (uZ z 13 0) 14 0) 15 0) 6 0) 7 0) (uZ (uZ (uZ (uZ g 8 fr9) 9 fp9) 10 fr) 11 fp) 0) dX5_forget_46 (fun H locs w => ?_)
        have bz3 : (0 : Int) ≤ 0 ∧ (0 : Int) ≤ 200 := (by omega)
        refine lv_aload_n hx hb dX5_forget_49 rfl (lv_at hl 0 rfl) ?_
        refine r_iconst hx hb dX5_forget_50 ?_
        refine r_put C w 6 tyX5 tyX5_ok nmX5 rfl rfl 9 (by decide) inX5 kf_X5_39 rfl rfl rfl (Nat.le_of_ble_eq_true rfl) (ws' := xw cy a (uZ (uZ (uZ (uZ (uZ (uZ (uZ z 13 0) 14 0) 15 0) 6 0) 7 0) 10 0) 11 0) (uZ (uZ (uZ (uZ g 8 fr9) 9 fp9) 10 fr) 11 fp)) (xw_z11 cy a (uZ (uZ (uZ (uZ (uZ (uZ z 13 0) 14 0) 15 0) 6 0) 7 0) 10 0) (uZ (uZ (uZ (uZ g 8 fr9) 9 fp9) 10 fr) 11 fp) 0) dX5_forget_51 (fun H locs w => ?_)
        have bz4 : (0 : Int) ≤ 0 ∧ (0 : Int) ≤ 4 := (by omega)
        refine lv_aload_n hx hb dX5_forget_54 rfl (lv_at hl 0 rfl) ?_
        refine r_iconst hx hb dX5_forget_55 ?_
        refine r_put C w 6 tyX5 tyX5_ok nmX5 rfl rfl 10 (by decide) inX5 kf_X5_58 rfl rfl rfl (Nat.le_of_ble_eq_true rfl) (ws' := xw cy a (uZ (uZ (uZ (uZ (uZ (uZ (uZ (uZ z 13 0) 14 0) 15 0) 6 0) 7 0) 10 0) 11 0) 12 0) (uZ (uZ (uZ (uZ g 8 fr9) 9 fp9) 10 fr) 11 fp)) (xw_z12 cy a (uZ (uZ (uZ (uZ (uZ (uZ (uZ z 13 0) 14 0) 15 0) 6 0) 7 0) 10 0) 11 0) (uZ (uZ (uZ (uZ g 8 fr9) 9 fp9) 10 fr) 11 fp) 0) dX5_forget_56 (fun H locs w => ?_)
        have bz5 : (0 : Int) ≤ 0 ∧ (0 : Int) ≤ 200 := (by omega)
        exact hend ((uZ (uZ (uZ (uZ (uZ (uZ (uZ (uZ z 13 0) 14 0) 15 0) 6 0) 7 0) 10 0) 11 0) 12 0), (uZ (uZ (uZ (uZ g 8 fr9) 9 fp9) 10 fr) 11 fp)) _ _ _ _ dX5_forget_59 w ⟨(by exact ⟨(by repeat (first | assumption | exact frA_0 _ | refine frA_u ?_ (by decide) (by decide))), (by repeat (first | assumption | exact frG_0 _ | refine frG_u ?_ (by decide) (by decide))), fr0_of hfp9, tl0_of (fun q h1 h2 => hf q h1 (by omega)), rfl, rfl, rfl⟩), (xBz_u (xBz_u (xBz_u (xBz_u (xBz_u (xBz_u (xBz_u (xBz_u hz 13 (by decide)) 14 (by decide)) 15 (by decide)) 6 bz1) 7 bz2) 10 bz3) 11 bz4) 12 bz5), (xBg_u (xBg_u (xBg_u (xBg_u hg 8 bfr9) 9 bfp9) 10 bfr) 11 bfp)⟩
      · skip
        refine lv_aload_n hx hb dX5_forget_14 rfl (lv_at hl 0 rfl) ?_
        refine r_get C w 6 (v := .ref (a 10)) rfl rfl 2 (by decide) inX5 kf_X5_18 rfl dX5_forget_15 ?_
        refine lv_iload_n hx hb dX5_forget_18 rfl (lv_at hl 1 rfl) ?_
        refine r_iconst hx hb dX5_forget_19 ?_
        refine r_zast C w 10 (f := fr) rfl (by omega) (by omega) (by decide) (vz01 (by omega)) (ws' := xw cy a (uZ (uZ (uZ z 13 0) 14 0) 15 0) (uZ (uZ (uZ (uZ g 8 fr9) 9 fp9) 10 (uI fr i 0)) 11 fp)) rfl dX5_forget_20 (fun H locs w => ?_)
        have bg6 : ∀ j : Int, (0 : Int) ≤ (uI fr i 0) j ∧ (uI fr i 0) j ≤ 1 := uI_b bfr (by omega)
        refine lv_aload_n hx hb dX5_forget_21 rfl (lv_at hl 0 rfl) ?_
        refine r_get C w 6 (v := .ref (a 11)) rfl rfl 3 (by decide) inX5 kf_X5_22 rfl dX5_forget_22 ?_
        refine lv_iload_n hx hb dX5_forget_25 rfl (lv_at hl 1 rfl) ?_
        refine r_iconst hx hb dX5_forget_26 ?_
        refine r_zast C w 11 (f := fp) rfl (by omega) (by omega) (by decide) (vz01 (by omega)) (ws' := xw cy a (uZ (uZ (uZ z 13 0) 14 0) 15 0) (uZ (uZ (uZ (uZ g 8 fr9) 9 fp9) 10 (uI fr i 0)) 11 (uI fp i 0))) rfl dX5_forget_27 (fun H locs w => ?_)
        have bg7 : ∀ j : Int, (0 : Int) ≤ (uI fp i 0) j ∧ (uI fp i 0) j ≤ 1 := uI_b bfp (by omega)
        refine r_iinc (lv' := [(1, vI (i + 1)), (0, .ref (a 6))]) hx hb dX5_forget_28 hl (k := 1) rfl (by decide) rfl (fun ls hl => ?_)
        refine lv_goto (tgt := 9) hx hb dX5_forget_31 (by decide) ?_
        exact ih9 (i + 1) fr9 fp9 (uI fr i 0) (uI fp i 0) bg6 bg7 (by exact bfr9) (by exact bfp9) (by exact hfp9) (by omega) (by exact two_st hf rfl rfl) (by omega) _ _ _ w (lv_sub hl [1, 0] rfl)
  replace hl : lv_has ls 2 [(0, .ref (a 6))] := hl
  refine lv_aload_n hx hb dX5_forget_0 rfl (lv_at hl 0 rfl) ?_
  refine r_get C w 6 (v := .ref (a 7)) rfl rfl 1 (by decide) inX5 kf_X5_12 rfl dX5_forget_1 ?_
  refine cVV C w hA (ct_X6_clear l D cy a z g  hz hg) ok_X6_clear km_X5_45 ⟨rfl, rfl⟩ ⟨by decide, by decide⟩ ⟨by decide, by decide⟩ rfl 7 rfl rfl hl.1 rfl (Nat.le_of_ble_eq_true rfl) dX5_forget_4 (fun uv_1 H locs w hp_1 => ?_)
  obtain ⟨zc_1, gc_1⟩ := uv_1
  obtain ⟨⟨eu_1, fr9, fp9, eg_1, hfp9⟩, hzc_1, hgc_1⟩ := hp_1
  have bfr9 : ∀ j : Int, (0 : Int) ≤ fr9 j ∧ fr9 j ≤ 9999 := fun j => by have q := hgc_1 8 (by decide) j; rw [eg_1] at q; exact q
  have bfp9 : ∀ j : Int, (0 : Int) ≤ fp9 j ∧ fp9 j ≤ 100 := fun j => by have q := hgc_1 9 (by decide) j; rw [eg_1] at q; exact q
  replace eu_1 := eu_1.symm
  replace eg_1 := eg_1.symm
  subst eu_1
  subst eg_1
  have b00 : (0 : Int) ≤ 0 ∧ (0 : Int) ≤ 0 := by decide
  have b50 : (0 : Int) ≤ 0 ∧ (0 : Int) ≤ 50 := by decide
  have b01 : (0 : Int) ≤ 0 ∧ (0 : Int) ≤ 1 := by decide
  have b200 : (0 : Int) ≤ 0 ∧ (0 : Int) ≤ 200 := by decide
  replace w : wd D A s.heap (xw cy a (uZ (uZ (uZ z 13 0) 14 0) 15 0) (uZ (uZ g 8 fr9) 9 fp9)) H locs := w
  refine r_iconst hx hb dX5_forget_7 ?_
  refine lv_istore_n (lv' := [(1, vI 0), (0, .ref (a 6))]) hx hb dX5_forget_8 rfl hl (by decide) rfl (fun ls hl => ?_)
  exact J9 _ 0 fr9 fp9 (g 10) (g 11) (xB10 hg) (xB11 hg) (by exact bfr9) (by exact bfp9) (by exact hfp9) (by omega) (by intro q h1 h2; omega) (Nat.lt_succ_self _) _ _ _ w (lv_sub hl [1, 0] rfl)

abbrev rm_X5_read : Room := { frames := 7, cells := 0, slots := 0, locals := 148 }
set_option maxHeartbeats 4000000 in
set_option maxRecDepth 100000 in
theorem ct_X5_read (l : Launch) (D : va_G) (cy : Nat → ClassId) (a : Nat → Nat) (z : Nat → Int) (g : Nat → Int → Int) (ad : Nat → Nat)  (hz : xBz z) (hg : xBg g) : MVE l yX5_read cX5_read 2 (rm_X5_read) D cy ad (xw cy a z g) [.ref (a 6)] (fun (u : sX) => (frA u.1 z ∧ frG u.2 g ∧ ((u.1 11 = 0 ∧ Rd0 (bt (g 2) (z 2)) (z 2) (.inr (fdX u.1 u.2, u.1 15))) ∨ (u.1 11 ≠ 0 ∧ Rd0 (bt (g 2) (z 2)) (z 2) (.inl (u.1 11, u.1 12))))) ∧ xBz u.1 ∧ xBg u.2) (fun u => xw cy a u.1 u.2) 0 0 := by
  refine go_vE (by decide +kernel) (Nat.le_of_ble_eq_true rfl) ?_
  intro p e s m args below meth c Q A ls C hE hnm hA w hl hend
  have hx := C.1
  have hb := C.2.1
  have b2_ := xZ2 hz
  have J10 : ∀ N : Nat, ∀ (i : Int) (z10 : Nat → Int) (g10 : Nat → Int → Int), (xBz z10) → (xBg g10) → (0 ≤ i ∧ i ≤ 200) → (frA z10 z) → (frG g10 g) → (rdI (bt (g 2) (z 2)) (z 2) z10 g10 i) → ((200 - i).toNat) < N → ∀ (H : Heap) (locs : List Loc) (ls : Array Slot), wd D A s.heap (xw cy a z10 g10) H locs → lv_has ls 2 [(0, .ref (a 6)), (1, vI i)] → W p l e (rm_X5_read) s m args below meth c H locs 0 0 Q (F0 m 10 ls []) := by
    intro N
    induction N with
    | zero => intro i z10 g10 hz10 hg10 hi hfa hfg hI hN9; exact absurd hN9 (Nat.not_lt_zero _)
    | succ N ih10 =>
      intro i z10 g10 hz10 hg10 hi hfa hfg hI hN10 H locs ls w hl
      have q2 : z10 2 = z 2 := hfa 2 (by omega)
      have qg2 : g10 2 = g 2 := hfg 2 (by omega)
      have b8_ := xZ8 hz10
      have b11_ := xZ11 hz10
      refine lv_iload_n hx hb dX5_read_10 rfl (lv_at hl 1 rfl) ?_
      refine r_sipush hx hb dX5_read_11 (by decide) ?_
      refine r_icmp_ge (tgt := 45) hx hb dX5_read_14 (by decide) (by omega) (by omega) (fun c14 => ?_) (fun c14 => ?_)
      · skip
        exact hend (z10, g10) _ _ _ _ dX5_read_45 w ⟨(by have hx : 200 ≤ i ∨ z10 8 = 0 ∨ z10 11 ≠ 0 := (by omega); exact ⟨hfa, hfg, rd_end hI b2_.2 hx⟩), hz10, hg10⟩
      · skip
        refine lv_aload_n hx hb dX5_read_17 rfl (lv_at hl 0 rfl) ?_
        refine r_get C w 6 (v := vI (z10 8)) rfl rfl 6 (by decide) inX5 kf_X5_35 rfl dX5_read_18 ?_
        have qz1 := xZ8 hz10
        refine r_if_eq (tgt := 45) hx hb dX5_read_21 (by decide) (by omega) (fun c21 => ?_) (fun c21 => ?_)
        · skip
          exact hend (z10, g10) _ _ _ _ dX5_read_45 w ⟨(by have hx : 200 ≤ i ∨ z10 8 = 0 ∨ z10 11 ≠ 0 := (by omega); exact ⟨hfa, hfg, rd_end hI b2_.2 hx⟩), hz10, hg10⟩
        · skip
          refine lv_aload_n hx hb dX5_read_24 rfl (lv_at hl 0 rfl) ?_
          refine r_get C w 6 (v := vI (z10 11)) rfl rfl 9 (by decide) inX5 kf_X5_39 rfl dX5_read_25 ?_
          have qz2 := xZ11 hz10
          refine r_if_ne (tgt := 45) hx hb dX5_read_28 (by decide) (by omega) (fun c28 => ?_) (fun c28 => ?_)
          · skip
            exact hend (z10, g10) _ _ _ _ dX5_read_45 w ⟨(by have hx : 200 ≤ i ∨ z10 8 = 0 ∨ z10 11 ≠ 0 := (by omega); exact ⟨hfa, hfg, rd_end hI b2_.2 hx⟩), hz10, hg10⟩
          · skip
            have hI1 := hI.2.elim id (fun h => absurd c28 h.1)
            have hI9 := hI1.2.2.2.2.1 c21
            refine lv_aload_n hx hb dX5_read_31 rfl (lv_at hl 0 rfl) ?_
            refine cVVE C w hA hE (ct_X5_readRule l D cy a z10 g10 ad  hz10 hg10 (by show z10 15 < z10 10 ∧ z10 10 ≤ z10 2; have := hI.1; omega) (by show (z10 11) = 0; omega) (by show z10 9 ≤ z10 10; omega)) ok_X5_readRule km_X5_42 ⟨rfl, rfl⟩ ⟨by decide, by decide⟩ ⟨by decide, by decide⟩ rfl 6 rfl rfl hl.1 rfl (Nat.le_of_ble_eq_true rfl) dX5_read_32 (fun uv_1 H locs w hp_1 => ?_)
            obtain ⟨zc_1, gc_1⟩ := uv_1
            obtain ⟨hp_1, hzc_1, hgc_1⟩ := hp_1
            replace w : wd D A s.heap (xw cy a zc_1 gc_1) H locs := w
            replace hzc_1 : xBz zc_1 := hzc_1
            replace hgc_1 : xBg gc_1 := hgc_1
            try dsimp only at hp_1
            obtain ⟨hfr_1, hrs_1⟩ := hp_1
            replace hfr_1 : frmX z10 g10 (zc_1, gc_1) := hfr_1
            have q2_1 : zc_1 2 = z 2 := (hfr_1.1 2 (by omega)).trans q2
            have qg_1 : gc_1 2 = g 2 := (hfr_1.2.1 2 (by omega)).trans qg2
            rw [qg2, q2] at hrs_1
            have qm_1 : z10 10 ≤ zc_1 10 ∧ zc_1 10 ≤ z 2 := ⟨hfr_1.2.2.1, by rw [← q2]; exact hfr_1.2.2.2⟩
            refine lv_aload_n hx hb dX5_read_35 rfl (lv_at hl 0 rfl) ?_
            refine cVV C w hA (ct_X5_step l D cy a zc_1 gc_1  hzc_1 hgc_1 (by show (zc_1 10) ≤ (zc_1 2); omega)) ok_X5_step km_X5_32 ⟨rfl, rfl⟩ ⟨by decide, by decide⟩ ⟨by decide, by decide⟩ rfl 6 rfl rfl hl.1 rfl (Nat.le_of_ble_eq_true rfl) dX5_read_36 (fun uv_2 H locs w hp_2 => ?_)
            obtain ⟨zc_2, gc_2⟩ := uv_2
            obtain ⟨⟨s_2, e_2, k_2, hu_2, ht_2⟩, hzc_2, -⟩ := hp_2
            obtain ⟨ea_2, eb_2⟩ := Prod.mk.inj hu_2
            replace eb_2 := eb_2.symm
            subst ea_2
            subst eb_2
            replace ht_2 : isTok (bt (gc_1 2) (zc_1 2)) (zc_1 2) (zc_1 10) s_2 e_2 k_2 := ht_2
            have hb_2 := isTok_b ht_2
            have bs_2 : (0 : Int) ≤ s_2 ∧ s_2 ≤ 200 := hzc_2 9 (by decide)
            have be_2 : (0 : Int) ≤ e_2 ∧ e_2 ≤ 200 := hzc_2 10 (by decide)
            have bk_2 : (0 : Int) ≤ k_2 ∧ k_2 ≤ 4 := hzc_2 8 (by decide)
            replace w : wd D A s.heap (xw cy a (uZ (uZ (uZ zc_1 9 s_2) 10 e_2) 8 k_2) gc_1) H locs := w
            rw [qg_1, q2_1] at ht_2
            have hfa2 : frA zc_1 z := frA_t hfr_1.1 hfa
            have hfg2 : frG gc_1 g := frG_t hfr_1.2.1 hfg
            have hI2 := rd_next hI c28 c21 hrs_1 qm_1.1 ht_2
            refine r_iinc (lv' := [(1, vI (i + 1)), (0, .ref (a 6))]) hx hb dX5_read_39 hl (k := 1) rfl (by decide) rfl (fun ls hl => ?_)
            refine lv_goto (tgt := 10) hx hb dX5_read_42 (by decide) ?_
            exact ih10 (i + 1) (uZ (uZ (uZ zc_1 9 s_2) 10 e_2) 8 k_2) gc_1 (xBz_u (xBz_u (xBz_u hzc_1 9 bs_2) 10 be_2) 8 bk_2) hgc_1 (by omega) (by repeat (first | assumption | exact frA_0 _ | refine frA_u ?_ (by decide) (by decide))) (by exact hfg2) (by exact hI2) (by omega) _ _ _ w (lv_sub hl [1, 0] rfl)
  replace hl : lv_has ls 2 [(0, .ref (a 6))] := hl
  refine lv_aload_n hx hb dX5_read_0 rfl (lv_at hl 0 rfl) ?_
  refine cVV C w hA (ct_X5_forget l D cy a z g  hz hg) ok_X5_forget km_X5_29 ⟨rfl, rfl⟩ ⟨by decide, by decide⟩ ⟨by decide, by decide⟩ rfl 6 rfl rfl hl.1 rfl (Nat.le_of_ble_eq_true rfl) dX5_read_1 (fun uv_3 H locs w hp_3 => ?_)
  obtain ⟨zc_3, gc_3⟩ := uv_3
  obtain ⟨hp_3, hzc_3, hgc_3⟩ := hp_3
  replace w : wd D A s.heap (xw cy a zc_3 gc_3) H locs := w
  replace hzc_3 : xBz zc_3 := hzc_3
  replace hgc_3 : xBg gc_3 := hgc_3
  try dsimp only at hp_3
  have q2_3 : zc_3 2 = z 2 := hp_3.1 2 (by omega)
  refine lv_aload_n hx hb dX5_read_4 rfl (lv_at hl 0 rfl) ?_
  refine cVV C w hA (ct_X5_step l D cy a zc_3 gc_3  hzc_3 hgc_3 (by show zc_3 10 ≤ zc_3 2; rw [q2_3]; have q := hp_3.2.2.2.2.1; omega)) ok_X5_step km_X5_32 ⟨rfl, rfl⟩ ⟨by decide, by decide⟩ ⟨by decide, by decide⟩ rfl 6 rfl rfl hl.1 rfl (Nat.le_of_ble_eq_true rfl) dX5_read_5 (fun uv_4 H locs w hp_4 => ?_)
  obtain ⟨zc_4, gc_4⟩ := uv_4
  obtain ⟨⟨s_4, e_4, k_4, hu_4, ht_4⟩, hzc_4, -⟩ := hp_4
  obtain ⟨ea_4, eb_4⟩ := Prod.mk.inj hu_4
  replace eb_4 := eb_4.symm
  subst ea_4
  subst eb_4
  replace ht_4 : isTok (bt (gc_3 2) (zc_3 2)) (zc_3 2) (zc_3 10) s_4 e_4 k_4 := ht_4
  have hb_4 := isTok_b ht_4
  have bs_4 : (0 : Int) ≤ s_4 ∧ s_4 ≤ 200 := hzc_4 9 (by decide)
  have be_4 : (0 : Int) ≤ e_4 ∧ e_4 ≤ 200 := hzc_4 10 (by decide)
  have bk_4 : (0 : Int) ≤ k_4 ∧ k_4 ≤ 4 := hzc_4 8 (by decide)
  replace w : wd D A s.heap (xw cy a (uZ (uZ (uZ zc_3 9 s_4) 10 e_4) 8 k_4) gc_3) H locs := w
  rw [show gc_3 2 = g 2 from hp_3.2.1 2 (by omega), q2_3] at ht_4
  refine r_iconst hx hb dX5_read_8 ?_
  refine lv_istore_n (lv' := [(1, vI 0), (0, .ref (a 6))]) hx hb dX5_read_9 rfl hl (by decide) rfl (fun ls hl => ?_)
  exact J10 _ 0 (uZ (uZ (uZ zc_3 9 s_4) 10 e_4) 8 k_4) gc_3 (xBz_u (xBz_u (xBz_u hzc_3 9 bs_4) 10 be_4) 8 bk_4) hgc_3 (by omega) (by have fa := hp_3.1; repeat (first | assumption | exact frA_0 _ | refine frA_u ?_ (by decide) (by decide))) (by exact hp_3.2.1) (by exact rd_0 hp_3.2.2.1 hp_3.2.2.2.1 hp_3.2.2.2.2.1 hp_3.2.2.2.2.2.1 hp_3.2.2.2.2.2.2 ht_4) (Nat.lt_succ_self _) _ _ _ w (lv_sub hl [1, 0] rfl)

abbrev rm_X6_copy : Room := { frames := 0, cells := 0, slots := 0, locals := 0 }
set_option maxHeartbeats 4000000 in
set_option maxRecDepth 100000 in
theorem ct_X6_copy (l : Launch) (D : va_G) (cy : Nat → ClassId) (a : Nat → Nat) (z : Nat → Int) (g : Nat → Int → Int)  (hz : xBz z) (hg : xBg g) : MV l yX6_copy cX6_copy 3 (rm_X6_copy) D cy (xw cy a z g) [.ref (a 3), .ref (a 7)] (fun (u : sX) => (u.1 = uZ (uZ (uZ z 3 (z 13)) 4 (z 14)) 5 (z 15) ∧ ∃ fr fp : Int → Int, u.2 = uZ (uZ g 4 fr) 5 fp ∧ ∀ q, 0 ≤ q → q < 4 → fr q = g 8 q ∧ fp q = g 9 q) ∧ xBz u.1 ∧ xBg u.2) (fun u => xw cy a u.1 u.2) 0 0 := by
  refine go_v (by decide +kernel) (Nat.le_of_ble_eq_true rfl) ?_
  intro p e s m args below meth c Q A ls C hnm hA w hl hend
  have hx := C.1
  have hb := C.2.1
  have b13_ := xZ13 hz
  have b14_ := xZ14 hz
  have b15_ := xZ15 hz
  have J2 : ∀ N : Nat, ∀ (i : Int) (fr : Int → Int) (fp : Int → Int), (∀ j : Int, (0 : Int) ≤ fr j ∧ fr j ≤ 9999) → (∀ j : Int, (0 : Int) ≤ fp j ∧ fp j ≤ 100) → (0 ≤ i ∧ i ≤ 4) → (∀ q, 0 ≤ q → q < i → fr q = g 8 q ∧ fp q = g 9 q) → ((4 - i).toNat) < N → ∀ (H : Heap) (locs : List Loc) (ls : Array Slot), wd D A s.heap (xw cy a z (uZ (uZ g 4 fr) 5 fp)) H locs → lv_has ls 3 [(0, .ref (a 3)), (1, .ref (a 7)), (2, vI i)] → W p l e (rm_X6_copy) s m args below meth c H locs 0 0 Q (F0 m 2 ls []) := by
    intro N
    induction N with
    | zero => intro i fr fp bfr bfp hi hf hN9; exact absurd hN9 (Nat.not_lt_zero _)
    | succ N ih2 =>
      intro i fr fp bfr bfp hi hf hN2 H locs ls w hl
      refine lv_iload_n hx hb dX6_copy_2 rfl (lv_at hl 2 rfl) ?_
      refine r_iconst hx hb dX6_copy_3 ?_
      refine r_icmp_ge (tgt := 37) hx hb dX6_copy_4 (by decide) (by omega) (by omega) (fun c4 => ?_) (fun c4 => ?_)
      · skip
        refine lv_aload_n hx hb dX6_copy_37 rfl (lv_at hl 0 rfl) ?_
        refine lv_aload_n hx hb dX6_copy_38 rfl (lv_at hl 1 rfl) ?_
        refine r_get C w 7 (v := vI (z 13)) rfl rfl 2 (by decide) inX6 kf_X6_21 rfl dX6_copy_39 ?_
        have qz1 := xZ13 hz
        refine r_put C w 3 tyX6 tyX6_ok nmX6 rfl rfl 2 (by decide) inX6 kf_X6_21 rfl rfl rfl (Nat.le_of_ble_eq_true rfl) (ws' := xw cy a (uZ z 3 (z 13)) (uZ (uZ g 4 fr) 5 fp)) (xw_z3 cy a z (uZ (uZ g 4 fr) 5 fp) (z 13)) dX6_copy_42 (fun H locs w => ?_)
        have bz2 : (0 : Int) ≤ (z 13) ∧ ((z 13) : Int) ≤ 50 := (by omega)
        refine lv_aload_n hx hb dX6_copy_45 rfl (lv_at hl 0 rfl) ?_
        refine lv_aload_n hx hb dX6_copy_46 rfl (lv_at hl 1 rfl) ?_
        refine r_get C w 7 (v := vI (z 14)) rfl rfl 3 (by decide) inX6 kf_X6_25 rfl dX6_copy_47 ?_
        have qz3 := xZ14 hz
        refine r_put C w 3 tyX6 tyX6_ok nmX6 rfl rfl 3 (by decide) inX6 kf_X6_25 rfl (nb01 (by omega)) (fb01 (by omega)) (Nat.le_of_ble_eq_true rfl) (ws' := xw cy a (uZ (uZ z 3 (z 13)) 4 (z 14)) (uZ (uZ g 4 fr) 5 fp)) (xw_z4 cy a (uZ z 3 (z 13)) (uZ (uZ g 4 fr) 5 fp) (z 14)) dX6_copy_50 (fun H locs w => ?_)
        have bz4 : (0 : Int) ≤ (z 14) ∧ ((z 14) : Int) ≤ 1 := (by omega)
        refine lv_aload_n hx hb dX6_copy_53 rfl (lv_at hl 0 rfl) ?_
        refine lv_aload_n hx hb dX6_copy_54 rfl (lv_at hl 1 rfl) ?_
        refine r_get C w 7 (v := vI (z 15)) rfl rfl 4 (by decide) inX6 kf_X6_29 rfl dX6_copy_55 ?_
        have qz5 := xZ15 hz
        refine r_put C w 3 tyX6 tyX6_ok nmX6 rfl rfl 4 (by decide) inX6 kf_X6_29 rfl rfl rfl (Nat.le_of_ble_eq_true rfl) (ws' := xw cy a (uZ (uZ (uZ z 3 (z 13)) 4 (z 14)) 5 (z 15)) (uZ (uZ g 4 fr) 5 fp)) (xw_z5 cy a (uZ (uZ z 3 (z 13)) 4 (z 14)) (uZ (uZ g 4 fr) 5 fp) (z 15)) dX6_copy_58 (fun H locs w => ?_)
        have bz6 : (0 : Int) ≤ (z 15) ∧ ((z 15) : Int) ≤ 200 := (by omega)
        exact hend ((uZ (uZ (uZ z 3 (z 13)) 4 (z 14)) 5 (z 15)), (uZ (uZ g 4 fr) 5 fp)) _ _ _ _ dX6_copy_61 w ⟨(by exact ⟨rfl, fr, fp, rfl, fun q h1 h2 => hf q h1 (by omega)⟩), (xBz_u (xBz_u (xBz_u hz 3 bz2) 4 bz4) 5 bz6), (xBg_u (xBg_u hg 4 bfr) 5 bfp)⟩
      · skip
        refine lv_aload_n hx hb dX6_copy_7 rfl (lv_at hl 0 rfl) ?_
        refine r_get C w 3 (v := .ref (a 4)) rfl rfl 0 (by decide) inX6 kf_X6_9 rfl dX6_copy_8 ?_
        refine lv_iload_n hx hb dX6_copy_11 rfl (lv_at hl 2 rfl) ?_
        refine lv_aload_n hx hb dX6_copy_12 rfl (lv_at hl 1 rfl) ?_
        refine r_get C w 7 (v := .ref (a 8)) rfl rfl 0 (by decide) inX6 kf_X6_9 rfl dX6_copy_13 ?_
        refine lv_iload_n hx hb dX6_copy_16 rfl (lv_at hl 2 rfl) ?_
        refine r_iald C w 8 (f := (g 8)) rfl (by omega) (by omega) (by decide) dX6_copy_17 ?_
        have qg7 := xB8 hg i
        refine r_iast C w 4 (f := fr) rfl (by omega) (by omega) (by decide) (ws' := xw cy a z (uZ (uZ g 4 (uI fr i ((g 8) i))) 5 fp)) rfl dX6_copy_18 (fun H locs w => ?_)
        have bg8 : ∀ j : Int, (0 : Int) ≤ (uI fr i ((g 8) i)) j ∧ (uI fr i ((g 8) i)) j ≤ 9999 := uI_b bfr (by omega)
        refine lv_aload_n hx hb dX6_copy_19 rfl (lv_at hl 0 rfl) ?_
        refine r_get C w 3 (v := .ref (a 5)) rfl rfl 1 (by decide) inX6 kf_X6_15 rfl dX6_copy_20 ?_
        refine lv_iload_n hx hb dX6_copy_23 rfl (lv_at hl 2 rfl) ?_
        refine lv_aload_n hx hb dX6_copy_24 rfl (lv_at hl 1 rfl) ?_
        refine r_get C w 7 (v := .ref (a 9)) rfl rfl 1 (by decide) inX6 kf_X6_15 rfl dX6_copy_25 ?_
        refine lv_iload_n hx hb dX6_copy_28 rfl (lv_at hl 2 rfl) ?_
        refine r_iald C w 9 (f := (g 9)) rfl (by omega) (by omega) (by decide) dX6_copy_29 ?_
        have qg9 := xB9 hg i
        refine r_iast C w 5 (f := fp) rfl (by omega) (by omega) (by decide) (ws' := xw cy a z (uZ (uZ g 4 (uI fr i ((g 8) i))) 5 (uI fp i ((g 9) i)))) rfl dX6_copy_30 (fun H locs w => ?_)
        have bg10 : ∀ j : Int, (0 : Int) ≤ (uI fp i ((g 9) i)) j ∧ (uI fp i ((g 9) i)) j ≤ 100 := uI_b bfp (by omega)
        refine r_iinc (lv' := [(2, vI (i + 1)), (0, .ref (a 3)), (1, .ref (a 7))]) hx hb dX6_copy_31 hl (k := 2) rfl (by decide) rfl (fun ls hl => ?_)
        refine lv_goto (tgt := 2) hx hb dX6_copy_34 (by decide) ?_
        exact ih2 (i + 1) (uI fr i ((g 8) i)) (uI fp i ((g 9) i)) bg8 bg10 (by omega) (by exact cp_st hf) (by omega) _ _ _ w (lv_sub hl [1, 2, 0] rfl)
  replace hl : lv_has ls 3 [(0, .ref (a 3)), (1, .ref (a 7))] := hl
  refine r_iconst hx hb dX6_copy_0 ?_
  refine lv_istore_n (lv' := [(2, vI 0), (0, .ref (a 3)), (1, .ref (a 7))]) hx hb dX6_copy_1 rfl hl (by decide) rfl (fun ls hl => ?_)
  exact J2 _ 0 (g 4) (g 5) (xB4 hg) (xB5 hg) (by omega) (by intro q h1 h2; omega) (Nat.lt_succ_self _) _ _ _ w (lv_sub hl [1, 2, 0] rfl)

theorem rul_bad {b : Int → Int} {n : Int} {z zc : Nat → Int} {g gc : Nat → Int → Int} (h1 : frA zc z) (h2 : frG gc g) (h : (zc 11 = 0 ∧ Rd0 b n (.inr (fdX zc gc, zc 15))) ∨ (zc 11 ≠ 0 ∧ Rd0 b n (.inl (zc 11, zc 12)))) (h11 : zc 11 ≠ 0) (hb : 0 ≤ zc 11) : (∀ k, k = 0 ∨ 15 < k → uZ (uZ zc 2 0) 1 (zc 11) k = z k) ∧ (∀ k, k < 4 ∨ 11 < k → gc k = g k) ∧ uZ (uZ zc 2 0) 1 (zc 11) 2 = 0 ∧ ((1 ≤ uZ (uZ zc 2 0) 1 (zc 11) 1 ∧ ∃ p, Rd0 b n (.inl (uZ (uZ zc 2 0) 1 (zc 11) 1, p)) ∧ -1 - zc 12 = -1 - p ∧ uZ (uZ zc 2 0) 1 (zc 11) 3 = z 3 ∧ uZ (uZ zc 2 0) 1 (zc 11) 4 = z 4 ∧ uZ (uZ zc 2 0) 1 (zc 11) 5 = z 5 ∧ gc 4 = g 4 ∧ gc 5 = g 5) ∨ (uZ (uZ zc 2 0) 1 (zc 11) 1 = 0 ∧ ∃ (fr : Int → Int) (t : Int), Rd0 b n (.inr (fr, t)) ∧ -1 - zc 12 = t ∧ uZ (uZ zc 2 0) 1 (zc 11) 5 = t ∧ uZ (uZ zc 2 0) 1 (zc 11) 3 = fr 8 ∧ uZ (uZ zc 2 0) 1 (zc 11) 4 = fr 9 ∧ ∀ q, 0 ≤ q → q < 4 → gc 4 q = fr q ∧ gc 5 q = fr (4 + q))) := by
  refine ⟨fun k hk => ?_, fun k hk => h2 k (by omega), rfl, Or.inl ⟨?_, zc 12, ?_, rfl, h1 3 (by omega), h1 4 (by omega), h1 5 (by omega), h2 4 (by omega), h2 5 (by omega)⟩⟩
  · rw [uZ_n _ _ (by omega), uZ_n _ _ (by omega)]
    exact h1 k (by omega)
  · show 1 ≤ zc 11
    omega
  · exact h.elim (fun q => absurd q.1 h11) (fun q => q.2)
abbrev rm_X9_rules : Room := { frames := 8, cells := 0, slots := 0, locals := 169 }
set_option maxHeartbeats 4000000 in
set_option maxRecDepth 100000 in
theorem ct_X9_rules (l : Launch) (D : va_G) (cy : Nat → ClassId) (a : Nat → Nat) (z : Nat → Int) (g : Nat → Int → Int) (ad : Nat → Nat)  (hz : xBz z) (hg : xBg g) : MIE l yX9_rules cX9_rules 1 .int (rm_X9_rules) D cy ad (xw cy a z g) [.ref (a 0)] (fun (v : Int) (u : sX) => ((∀ k, k = 0 ∨ 15 < k → u.1 k = z k) ∧ (∀ k, k < 4 ∨ 11 < k → u.2 k = g k) ∧ u.1 2 = 0 ∧ ((1 ≤ u.1 1 ∧ ∃ p, Rd0 (bt (g 2) (z 2)) (z 2) (.inl (u.1 1, p)) ∧ v = -1 - p ∧ u.1 3 = z 3 ∧ u.1 4 = z 4 ∧ u.1 5 = z 5 ∧ u.2 4 = g 4 ∧ u.2 5 = g 5) ∨ (u.1 1 = 0 ∧ ∃ (fr : Int → Int) (t : Int), Rd0 (bt (g 2) (z 2)) (z 2) (.inr (fr, t)) ∧ v = t ∧ u.1 5 = t ∧ u.1 3 = fr 8 ∧ u.1 4 = fr 9 ∧ ∀ q, 0 ≤ q → q < 4 → u.2 4 q = fr q ∧ u.2 5 q = fr (4 + q)))) ∧ xBz u.1 ∧ xBg u.2) (fun u => xw cy a u.1 u.2) 0 0 := by
  refine go_iE (by decide +kernel) (Nat.le_of_ble_eq_true rfl) (Or.inl rfl) ?_
  intro p e s m args below meth c Q A ls C hE hnm hA w hl hend
  have hx := C.1
  have hb := C.2.1
  replace hl : lv_has ls 1 [(0, .ref (a 0))] := hl
  refine lv_aload_n hx hb dX9_rules_0 rfl (lv_at hl 0 rfl) ?_
  refine r_get C w 0 (v := .ref (a 6)) rfl rfl 2 (by decide) inX9 kf_X9_28 rfl dX9_rules_1 ?_
  refine cVVE C w hA hE (ct_X5_read l D cy a z g ad  hz hg) ok_X5_read km_X9_96 ⟨rfl, rfl⟩ ⟨by decide, by decide⟩ ⟨by decide, by decide⟩ rfl 6 rfl rfl hl.1 rfl (Nat.le_of_ble_eq_true rfl) dX9_rules_4 (fun uv_1 H locs w hp_1 => ?_)
  obtain ⟨zc_1, gc_1⟩ := uv_1
  obtain ⟨hp_1, hzc_1, hgc_1⟩ := hp_1
  replace w : wd D A s.heap (xw cy a zc_1 gc_1) H locs := w
  replace hzc_1 : xBz zc_1 := hzc_1
  replace hgc_1 : xBg gc_1 := hgc_1
  try dsimp only at hp_1
  have b11_ := xZ11 hzc_1
  have b12_ := xZ12 hzc_1
  refine lv_aload_n hx hb dX9_rules_7 rfl (lv_at hl 0 rfl) ?_
  refine r_get C w 0 (v := .ref (a 1)) rfl rfl 0 (by decide) inX9 kf_X9_10 rfl dX9_rules_8 ?_
  refine r_iconst hx hb dX9_rules_11 ?_
  refine r_putN C w 1 tyX8 tyX8_ok nmX8 rfl rfl 1 (by decide) inX8 kt_X9_89 rfl rfl rfl (Nat.le_of_ble_eq_true rfl) (ws' := xw cy a (uZ zc_1 2 0) gc_1) (xw_z2 cy a zc_1 gc_1 0) dX9_rules_12 (fun H locs w => ?_)
  have bz1 : (0 : Int) ≤ 0 ∧ (0 : Int) ≤ 200 := (by omega)
  refine lv_aload_n hx hb dX9_rules_15 rfl (lv_at hl 0 rfl) ?_
  refine lv_aload_n hx hb dX9_rules_16 rfl (lv_at hl 0 rfl) ?_
  refine r_get C w 0 (v := .ref (a 6)) rfl rfl 2 (by decide) inX9 kf_X9_28 rfl dX9_rules_17 ?_
  refine r_getN C w 6 (v := vI (zc_1 11)) rfl rfl 9 (by decide) inX5 kt_X9_99 rfl dX9_rules_20 ?_
  have qz2 := xZ11 hzc_1
  refine r_put C w 0 tyX9 tyX9_ok nmX9 rfl rfl 11 (by decide) inX9 kf_X9_86 rfl rfl rfl (Nat.le_of_ble_eq_true rfl) (ws' := xw cy a (uZ (uZ zc_1 2 0) 1 (zc_1 11)) gc_1) (xw_z1 cy a (uZ zc_1 2 0) gc_1 (zc_1 11)) dX9_rules_23 (fun H locs w => ?_)
  have bz3 : (0 : Int) ≤ (zc_1 11) ∧ ((zc_1 11) : Int) ≤ 4 := (by omega)
  refine lv_aload_n hx hb dX9_rules_26 rfl (lv_at hl 0 rfl) ?_
  refine r_get C w 0 (v := vI (zc_1 11)) rfl rfl 11 (by decide) inX9 kf_X9_86 rfl dX9_rules_27 ?_
  refine r_if_eq (tgt := 43) hx hb dX9_rules_30 (by decide) (by omega) (fun c30 => ?_) (fun c30 => ?_)
  · skip
    refine lv_aload_n hx hb dX9_rules_43 rfl (lv_at hl 0 rfl) ?_
    refine r_get C w 0 (v := .ref (a 3)) rfl rfl 1 (by decide) inX9 kf_X9_19 rfl dX9_rules_44 ?_
    refine lv_aload_n hx hb dX9_rules_47 rfl (lv_at hl 0 rfl) ?_
    refine r_get C w 0 (v := .ref (a 6)) rfl rfl 2 (by decide) inX9 kf_X9_28 rfl dX9_rules_48 ?_
    refine r_getN C w 6 (v := .ref (a 7)) rfl rfl 1 (by decide) inX5 kt_X9_105 rfl dX9_rules_51 ?_
    refine cVV C w hA (ct_X6_copy l D cy a (uZ (uZ zc_1 2 0) 1 (zc_1 11)) gc_1  (xBz_u (xBz_u hzc_1 2 bz1) 1 bz3) hgc_1) ok_X6_copy km_X9_108 ⟨rfl, rfl⟩ ⟨by decide, by decide⟩ ⟨by decide, by decide⟩ rfl 3 rfl rfl hl.1 rfl (Nat.le_of_ble_eq_true rfl) dX9_rules_54 (fun uv_2 H locs w hp_2 => ?_)
    obtain ⟨zc_2, gc_2⟩ := uv_2
    obtain ⟨hp_2, hzc_2, hgc_2⟩ := hp_2
    replace w : wd D A s.heap (xw cy a zc_2 gc_2) H locs := w
    replace hzc_2 : xBz zc_2 := hzc_2
    replace hgc_2 : xBg gc_2 := hgc_2
    try dsimp only at hp_2
    refine lv_aload_n hx hb dX9_rules_57 rfl (lv_at hl 0 rfl) ?_
    refine r_get C w 0 (v := .ref (a 3)) rfl rfl 1 (by decide) inX9 kf_X9_19 rfl dX9_rules_58 ?_
    refine r_getN C w 3 (v := vI (zc_2 5)) rfl rfl 4 (by decide) inX6 kt_X9_112 rfl dX9_rules_61 ?_
    have qz4 := xZ5 hzc_2
    exact hend (zc_2 5) (zc_2, gc_2) _ _ _ _ dX9_rules_64 w ⟨(by obtain ⟨e1, fr4, fp5, e2, hf45⟩ := hp_2; subst e1; subst e2; refine ⟨fun k hk => ?_, fun k hk => ?_, rfl, Or.inr ⟨c30, fdX zc_1 gc_1, zc_1 15, hp_1.2.2.elim (fun q => q.2) (fun q => absurd c30 q.1), rfl, rfl, rfl, rfl, fun q h1 h2 => ?_⟩⟩; (show uZ (uZ (uZ (uZ (uZ zc_1 2 0) 1 (zc_1 11)) 3 (zc_1 13)) 4 (zc_1 14)) 5 (zc_1 15) k = z k; rw [uZ_n _ _ (by omega), uZ_n _ _ (by omega), uZ_n _ _ (by omega), uZ_n _ _ (by omega), uZ_n _ _ (by omega)]; exact hp_1.1 k (by omega)); (show uZ (uZ gc_1 4 fr4) 5 fp5 k = g k; rw [uZ_n _ _ (by omega), uZ_n _ _ (by omega)]; exact hp_1.2.1 k (by omega)); exact ⟨(hf45 q h1 h2).1.trans (FRX_a1 ⟨h1, h2⟩).symm, (hf45 q h1 h2).2.trans (FRX_a2 ⟨h1, h2⟩).symm⟩), hzc_2, hgc_2⟩
  · skip
    refine r_iconst hx hb dX9_rules_33 ?_
    refine lv_aload_n hx hb dX9_rules_34 rfl (lv_at hl 0 rfl) ?_
    refine r_get C w 0 (v := .ref (a 6)) rfl rfl 2 (by decide) inX9 kf_X9_28 rfl dX9_rules_35 ?_
    refine r_getN C w 6 (v := vI (zc_1 12)) rfl rfl 10 (by decide) inX5 kt_X9_102 rfl dX9_rules_38 ?_
    have qz5 := xZ12 hzc_1
    refine r_isub hx hb dX9_rules_41 ?_
    exact hend ((-1) - (zc_1 12)) ((uZ (uZ zc_1 2 0) 1 (zc_1 11)), gc_1) _ _ _ _ dX9_rules_42 w ⟨(by exact rul_bad hp_1.1 hp_1.2.1 hp_1.2.2 c30 b11_.1), (xBz_u (xBz_u hzc_1 2 bz1) 1 bz3), hgc_1⟩

