/-! who bids, who wins, what is sold -/
def bst (lim : Int → Int) : Nat → Int × Int
  | 0 => (-1, 0)
  | n + 1 => if lim n ≤ 0 then bst lim n else if (bst lim n).1 < 0 then ((n : Int), (bst lim n).2) else if lim (bst lim n).1 < lim n then ((n : Int), lim (bst lim n).1) else ((bst lim n).1, mx (bst lim n).2 (lim n))
def bI (lim : Int → Int) (i : Int) : Int × Int := bst lim i.toNat
theorem bI_s (lim : Int → Int) {i : Int} (h : 0 ≤ i) : bI lim (i + 1) = if lim i ≤ 0 then bI lim i else if (bI lim i).1 < 0 then (i, (bI lim i).2) else if lim (bI lim i).1 < lim i then (i, lim (bI lim i).1) else ((bI lim i).1, mx (bI lim i).2 (lim i)) := by
  unfold bI
  rw [show (i + 1).toNat = i.toNat + 1 by omega]
  show (if lim (i.toNat : Int) ≤ 0 then _ else _) = _
  rw [Int.toNat_of_nonneg h]
theorem mx_b (a b : Int) : (mx a b = a ∨ mx a b = b) ∧ a ≤ mx a b ∧ b ≤ mx a b := by
  unfold mx
  split <;> omega
theorem bst_p (lim : Int → Int) (hl : ∀ b, 0 ≤ lim b) : ∀ n : Nat, ((bst lim n).1 = -1 ∧ (bst lim n).2 = 0) ∨ (0 ≤ (bst lim n).1 ∧ (bst lim n).1 < n ∧ 0 < lim (bst lim n).1 ∧ 0 ≤ (bst lim n).2 ∧ (bst lim n).2 ≤ lim (bst lim n).1)
  | 0 => Or.inl ⟨rfl, rfl⟩
  | n + 1 => by
    have ih := bst_p lim hl n
    unfold bst
    by_cases h1 : lim n ≤ 0
    · rw [if_pos h1]
      rcases ih with h | h
      · exact Or.inl h
      · exact Or.inr ⟨h.1, by omega, h.2.2⟩
    · rw [if_neg h1]
      by_cases h2 : (bst lim n).1 < 0
      · rw [if_pos h2]
        refine Or.inr ⟨by show (0 : Int) ≤ n; omega, by show (n : Int) < _; omega, by show 0 < lim n; omega, ?_⟩
        show 0 ≤ (bst lim n).2 ∧ (bst lim n).2 ≤ lim n
        omega
      · rw [if_neg h2]
        have ih : 0 ≤ (bst lim n).1 ∧ (bst lim n).1 < n ∧ 0 < lim (bst lim n).1 ∧ 0 ≤ (bst lim n).2 ∧ (bst lim n).2 ≤ lim (bst lim n).1 := by
          rcases ih with h | h
          · omega
          · exact h
        by_cases h3 : lim (bst lim n).1 < lim n
        · rw [if_pos h3]
          refine Or.inr ⟨by show (0 : Int) ≤ n; omega, by show (n : Int) < _; omega, by show 0 < lim n; omega, ?_⟩
          show 0 ≤ lim (bst lim n).1 ∧ lim (bst lim n).1 ≤ lim n
          omega
        · rw [if_neg h3]
          refine Or.inr ⟨ih.1, by show (bst lim n).1 < _; omega, ih.2.2.1, ?_⟩
          show 0 ≤ mx (bst lim n).2 (lim n) ∧ mx (bst lim n).2 (lim n) ≤ lim (bst lim n).1
          have := mx_b (bst lim n).2 (lim n)
          omega
theorem bI_p (lim : Int → Int) (hl : ∀ b, 0 ≤ lim b) {i : Int} (h : 0 ≤ i) : ((bI lim i).1 = -1 ∧ (bI lim i).2 = 0) ∨ (0 ≤ (bI lim i).1 ∧ (bI lim i).1 < i ∧ 0 < lim (bI lim i).1 ∧ 0 ≤ (bI lim i).2 ∧ (bI lim i).2 ≤ lim (bI lim i).1) := by
  have := bst_p lim hl i.toNat
  rw [Int.toNat_of_nonneg h] at this
  exact this
abbrev plX (g : Nat → Int → Int) (k b : Int) : Int := (b * 4 + g 17 k) * 4 + g 15 k
abbrev bdX (g : Nat → Int → Int) (k b : Int) : Prop := g 16 k ≤ g 31 (plX g k b) ∧ 1 ≤ g 32 (plX g k b) ∧ g 4 (g 15 k) ≤ g 32 (plX g k b) ∧ g 32 (plX g k b) * g 16 k ≤ g 30 b
def lmX (g : Nat → Int → Int) (k b : Int) : Int := if bdX g k b then g 32 (plX g k b) else 0
theorem lmX_0 {g : Nat → Int → Int} (hg : xBg g) (k b : Int) : 0 ≤ lmX g k b := by
  unfold lmX
  have := xB32 hg (plX g k b)
  split <;> omega
theorem lmX_1 {g : Nat → Int → Int} {k b : Int} (h : 0 < lmX g k b) : bdX g k b ∧ lmX g k b = g 32 (plX g k b) := by
  unfold lmX at *
  by_cases q : bdX g k b
  · exact ⟨q, if_pos q⟩
  · rw [if_neg q] at h
    omega
def prX (g : Nat → Int → Int) (k s : Int) : Int := mx (mx s (g 4 (g 15 k))) 1
def sellX (z : Nat → Int) (g : Nat → Int → Int) (k w p : Int) : sX :=
  (uZ z 17 (z 17 + 1), uZ (uZ (uZ (uZ (uZ (uZ (uZ (uZ (uZ (uZ (uZ g 31 (uI (g 31) (plX g k w) (g 31 (plX g k w) - g 16 k))) 30 (uI (g 30) w (g 30 w - g 16 k * p))) 21 (uI (g 21) (z 17) k)) 22 (uI (g 22) (z 17) w)) 23 (uI (g 23) (z 17) (z 0))) 24 (uI (g 24) (z 17) (g 16 k))) 25 (uI (g 25) (z 17) p)) 26 (uI (g 26) (z 17) (-1))) 27 (if g 19 k = -1 then uI (g 27) (z 17) (-1) else uI (uI (g 27) (z 17) (-1)) (g 19 k) (z 17))) 19 (uI (g 19) k (z 17))) 18 (uI (g 18) k 1))
def offX (z : Nat → Int) (g : Nat → Int → Int) (k : Int) : sX := if 400 ≤ z 17 ∨ (bI (lmX g k) 10).1 < 0 then (z, g) else sellX z g k (bI (lmX g k) 10).1 (prX g k (bI (lmX g k) 10).2)

abbrev noP (g : Nat → Int → Int) (p0 p1 j : Int) : Prop := g 13 j = p0 ∧ g 17 j = p1 ∧ g 18 j = 0 ∧ 0 < g 16 j
def isNO (g : Nat → Int → Int) (n p0 p1 p2 v : Int) : Prop := (p2 ≤ v ∧ v < n ∧ noP g p0 p1 v ∧ ∀ j, p2 ≤ j → j < v → ¬ noP g p0 p1 j) ∨ (v = n ∧ ∀ j, p2 ≤ j → j < n → ¬ noP g p0 p1 j)
theorem all_ex0 {P : Int → Prop} {a i : Int} (hf : ∀ j, a ≤ j → j < i → P j) (hi : P i) : ∀ j, a ≤ j → j < i + 1 → P j := by
  intro j h1 h2
  by_cases e : j = i
  · rw [e]; exact hi
  · exact hf j h1 (by omega)
abbrev rm_X2_nextOffered : Room := { frames := 1, cells := 0, slots := 0, locals := 13 }
set_option maxHeartbeats 4000000 in
set_option maxRecDepth 100000 in
theorem ct_X2_nextOffered (l : Launch) (D : va_G) (cy : Nat → ClassId) (a : Nat → Nat) (z : Nat → Int) (g : Nat → Int → Int) (p0 p1 p2 : Int) (hz : xBz z) (hg : xBg g) (h0 : iR p0) (h1 : iR p1) (h2 : 0 ≤ p2 ∧ p2 ≤ 101) : MI l yX2_nextOffered cX2_nextOffered 5 .int (rm_X2_nextOffered) D cy (xw cy a z g) [.ref (a 12), vI p0, vI p1, vI p2] (fun (v : Int) (u : Unit) => isNO g (z 16) p0 p1 p2 v) (fun _ => xw cy a z g) 0 0 := by
  refine go_i (by decide +kernel) (Nat.le_of_ble_eq_true rfl) (Or.inl rfl) ?_
  intro p e s m args below meth c Q A ls C hnm hA w hl hend
  have hx := C.1
  have hb := C.2.1
  have b16 := xZ16 hz
  have J64 : ∀ (i : Int), (p2 ≤ i ∧ i ≤ 101) → (∀ j, p2 ≤ j → j < i → ¬ noP g p0 p1 j) → (z 16 ≤ i ∨ noP g p0 p1 i) → ∀ (H : Heap) (locs : List Loc) (ls : Array Slot), wd D A s.heap (xw cy a z g) H locs → lv_has ls 5 [(0, .ref (a 12)), (1, vI p0), (2, vI p1), (4, vI i)] → W p l e (rm_X2_nextOffered) s m args below meth c H locs 0 0 Q (F0 m 64 ls []) := by
    intro i hi hf he H locs ls w hl
    refine lv_iload hx hb dX2_nextOffered_64 (lv_at hl 3 rfl) ?_
    refine lv_aload_n hx hb dX2_nextOffered_66 rfl (lv_at hl 0 rfl) ?_
    refine r_get C w 12 (v := vI (z 16)) rfl rfl 7 (by decide) inX2 kf_X2_34 rfl dX2_nextOffered_67 ?_
    have qz1 := xZ16 hz
    refine r_mmin C km_X2_44 hl.1 (by decide) (Nat.le_of_ble_eq_true rfl) ⟨by decide, by decide⟩ (by omega) (by omega) dX2_nextOffered_70 (fun rv_1 hp_1 => ?_)
    exact hend rv_1 () _ _ _ _ dX2_nextOffered_73 w (by rcases (show rv_1 = z 16 ∧ z 16 ≤ i ∨ rv_1 = i ∧ i < z 16 by omega) with ⟨e1, e2⟩ | ⟨e1, e2⟩; exact Or.inr ⟨e1, fun j h3 h4 => hf j h3 (by omega)⟩; exact Or.inl ⟨by omega, by omega, by rw [e1]; exact he.resolve_left (by omega), fun j h3 h4 => hf j h3 (by omega)⟩)
  have J7 : ∀ N : Nat, ∀ (i : Int), (p2 ≤ i ∧ i ≤ 101) → (∀ j, p2 ≤ j → j < i → ¬ noP g p0 p1 j) → ((101 - i).toNat) < N → ∀ (H : Heap) (locs : List Loc) (ls : Array Slot), wd D A s.heap (xw cy a z g) H locs → lv_has ls 5 [(0, .ref (a 12)), (1, vI p0), (2, vI p1), (4, vI i)] → W p l e (rm_X2_nextOffered) s m args below meth c H locs 0 0 Q (F0 m 7 ls []) := by
    intro N
    induction N with
    | zero => intro i hi hf hN9; exact absurd hN9 (Nat.not_lt_zero _)
    | succ N ih7 =>
      intro i hi hf hN7 H locs ls w hl
      refine lv_iload hx hb dX2_nextOffered_7 (lv_at hl 3 rfl) ?_
      refine lv_aload_n hx hb dX2_nextOffered_9 rfl (lv_at hl 0 rfl) ?_
      refine r_get C w 12 (v := vI (z 16)) rfl rfl 7 (by decide) inX2 kf_X2_34 rfl dX2_nextOffered_10 ?_
      have qz2 := xZ16 hz
      refine r_icmp_ge (tgt := 64) hx hb dX2_nextOffered_13 (by decide) (by omega) (by omega) (fun c13 => ?_) (fun c13 => ?_)
      · skip
        exact J64 i (by omega) (by exact hf) (by omega) _ _ _ w (lv_sub hl [0, 1, 2, 3] rfl)
      · skip
        refine lv_aload_n hx hb dX2_nextOffered_16 rfl (lv_at hl 0 rfl) ?_
        refine r_get C w 12 (v := .ref (a 13)) rfl rfl 0 (by decide) inX2 kf_X2_9 rfl dX2_nextOffered_17 ?_
        refine lv_iload hx hb dX2_nextOffered_20 (lv_at hl 3 rfl) ?_
        refine r_iald C w 13 (f := (g 13)) rfl (by omega) (by omega) (by decide) dX2_nextOffered_22 ?_
        have qg3 := xB13 hg i
        refine lv_iload_n hx hb dX2_nextOffered_23 rfl (lv_at hl 1 rfl) ?_
        refine r_icmp_ne (tgt := 58) hx hb dX2_nextOffered_24 (by decide) (by omega) (by omega) (fun c24 => ?_) (fun c24 => ?_)
        · skip
          refine r_iinc (lv' := [(4, vI (i + 1)), (0, .ref (a 12)), (1, vI p0), (2, vI p1)]) hx hb dX2_nextOffered_58 hl (k := 3) rfl (by decide) rfl (fun ls hl => ?_)
          refine lv_goto (tgt := 7) hx hb dX2_nextOffered_61 (by decide) ?_
          exact ih7 (i + 1) (by omega) (by exact all_ex0 hf (by omega)) (by omega) _ _ _ w (lv_sub hl [1, 2, 3, 0] rfl)
        · skip
          refine lv_aload_n hx hb dX2_nextOffered_27 rfl (lv_at hl 0 rfl) ?_
          refine r_get C w 12 (v := .ref (a 17)) rfl rfl 4 (by decide) inX2 kf_X2_24 rfl dX2_nextOffered_28 ?_
          refine lv_iload hx hb dX2_nextOffered_31 (lv_at hl 3 rfl) ?_
          refine r_iald C w 17 (f := (g 17)) rfl (by omega) (by omega) (by decide) dX2_nextOffered_33 ?_
          have qg4 := xB17 hg i
          refine lv_iload_n hx hb dX2_nextOffered_34 rfl (lv_at hl 2 rfl) ?_
          refine r_icmp_ne (tgt := 58) hx hb dX2_nextOffered_35 (by decide) (by omega) (by omega) (fun c35 => ?_) (fun c35 => ?_)
          · skip
            refine r_iinc (lv' := [(4, vI (i + 1)), (0, .ref (a 12)), (1, vI p0), (2, vI p1)]) hx hb dX2_nextOffered_58 hl (k := 3) rfl (by decide) rfl (fun ls hl => ?_)
            refine lv_goto (tgt := 7) hx hb dX2_nextOffered_61 (by decide) ?_
            exact ih7 (i + 1) (by omega) (by exact all_ex0 hf (by omega)) (by omega) _ _ _ w (lv_sub hl [1, 2, 3, 0] rfl)
          · skip
            refine lv_aload_n hx hb dX2_nextOffered_38 rfl (lv_at hl 0 rfl) ?_
            refine r_get C w 12 (v := .ref (a 18)) rfl rfl 5 (by decide) inX2 kf_X2_27 rfl dX2_nextOffered_39 ?_
            refine lv_iload hx hb dX2_nextOffered_42 (lv_at hl 3 rfl) ?_
            refine r_zald C w 18 (f := (g 18)) rfl (by omega) (by omega) (by decide) dX2_nextOffered_44 ?_
            have qg5 := xB18 hg i
            refine r_if_ne (tgt := 58) hx hb dX2_nextOffered_45 (by decide) (by omega) (fun c45 => ?_) (fun c45 => ?_)
            · skip
              refine r_iinc (lv' := [(4, vI (i + 1)), (0, .ref (a 12)), (1, vI p0), (2, vI p1)]) hx hb dX2_nextOffered_58 hl (k := 3) rfl (by decide) rfl (fun ls hl => ?_)
              refine lv_goto (tgt := 7) hx hb dX2_nextOffered_61 (by decide) ?_
              exact ih7 (i + 1) (by omega) (by exact all_ex0 hf (by omega)) (by omega) _ _ _ w (lv_sub hl [1, 2, 3, 0] rfl)
            · skip
              refine lv_aload_n hx hb dX2_nextOffered_48 rfl (lv_at hl 0 rfl) ?_
              refine r_get C w 12 (v := .ref (a 16)) rfl rfl 3 (by decide) inX2 kf_X2_21 rfl dX2_nextOffered_49 ?_
              refine lv_iload hx hb dX2_nextOffered_52 (lv_at hl 3 rfl) ?_
              refine r_iald C w 16 (f := (g 16)) rfl (by omega) (by omega) (by decide) dX2_nextOffered_54 ?_
              have qg6 := xB16 hg i
              refine r_if_gt (tgt := 64) hx hb dX2_nextOffered_55 (by decide) (by omega) (fun c55 => ?_) (fun c55 => ?_)
              · skip
                exact J64 i (by omega) (by exact hf) (by exact Or.inr ⟨by omega, by omega, by omega, by omega⟩) _ _ _ w (lv_sub hl [0, 1, 2, 3] rfl)
              · skip
                refine r_iinc (lv' := [(4, vI (i + 1)), (0, .ref (a 12)), (1, vI p0), (2, vI p1)]) hx hb dX2_nextOffered_58 hl (k := 3) rfl (by decide) rfl (fun ls hl => ?_)
                refine lv_goto (tgt := 7) hx hb dX2_nextOffered_61 (by decide) ?_
                exact ih7 (i + 1) (by omega) (by exact all_ex0 hf (by omega)) (by omega) _ _ _ w (lv_sub hl [1, 2, 3, 0] rfl)
  replace hl : lv_has ls 5 [(0, .ref (a 12)), (1, vI p0), (2, vI p1), (3, vI p2)] := hl
  refine lv_iload_n hx hb dX2_nextOffered_0 rfl (lv_at hl 3 rfl) ?_
  refine r_iconst hx hb dX2_nextOffered_1 ?_
  refine r_mmax C km_X2_38 hl.1 (by decide) (Nat.le_of_ble_eq_true rfl) ⟨by decide, by decide⟩ (by omega) (by omega) dX2_nextOffered_2 (fun rv_2 hp_2 => ?_)
  refine lv_istore (lv' := [(4, vI rv_2), (0, .ref (a 12)), (1, vI p0), (2, vI p1), (3, vI p2)]) hx hb dX2_nextOffered_5 hl (by decide) rfl (fun ls hl => ?_)
  exact J7 _ rv_2 (by omega) (by intro j h3 h4; omega) (Nat.lt_succ_self _) _ _ _ w (lv_sub hl [1, 2, 3, 0] rfl)

abbrev rm_X7_add : Room := { frames := 0, cells := 0, slots := 0, locals := 0 }
set_option maxHeartbeats 4000000 in
set_option maxRecDepth 100000 in
theorem ct_X7_add (l : Launch) (D : va_G) (cy : Nat → ClassId) (a : Nat → Nat) (z : Nat → Int) (g : Nat → Int → Int) (p0 p1 p2 p3 p4 : Int) (hz : xBz z) (hg : xBg g) (h0 : 0 ≤ p0 ∧ p0 < 100) (h1 : 0 ≤ p1 ∧ p1 < 10) (h2 : 0 ≤ p2 ∧ p2 < 1000) (h3 : 0 ≤ p3 ∧ p3 ≤ 500) (h4 : 0 ≤ p4 ∧ p4 ≤ 9999) (h5 : z 17 < 400) : MI l yX7_add cX7_add 6 .int (rm_X7_add) D cy (xw cy a z g) [.ref (a 20), vI p0, vI p1, vI p2, vI p3, vI p4] (fun (v : Int) (u : sX) => (v = z 17 ∧ u = (uZ z 17 (z 17 + 1), uZ (uZ (uZ (uZ (uZ (uZ (uZ g 21 (uI (g 21) (z 17) p0)) 22 (uI (g 22) (z 17) p1)) 23 (uI (g 23) (z 17) p2)) 24 (uI (g 24) (z 17) p3)) 25 (uI (g 25) (z 17) p4)) 26 (uI (g 26) (z 17) (-1))) 27 (uI (g 27) (z 17) (-1)))) ∧ xBz u.1 ∧ xBg u.2) (fun u => xw cy a u.1 u.2) 0 0 := by
  refine go_i (by decide +kernel) (Nat.le_of_ble_eq_true rfl) (Or.inl rfl) ?_
  intro p e s m args below meth c Q A ls C hnm hA w hl hend
  have hx := C.1
  have hb := C.2.1
  replace hl : lv_has ls 6 [(0, .ref (a 20)), (1, vI p0), (2, vI p1), (3, vI p2), (4, vI p3), (5, vI p4)] := hl
  refine lv_aload_n hx hb dX7_add_0 rfl (lv_at hl 0 rfl) ?_
  refine r_get C w 20 (v := vI (z 17)) rfl rfl 7 (by decide) inX7 kf_X7_33 rfl dX7_add_1 ?_
  have qz1 := xZ17 hz
  refine r_sipush hx hb dX7_add_4 (by decide) ?_
  refine r_icmp_lt (tgt := 12) hx hb dX7_add_7 (by decide) (by omega) (by omega) (fun c7 => ?_) (fun c7 => ?_)
  · skip
    refine lv_aload_n hx hb dX7_add_12 rfl (lv_at hl 0 rfl) ?_
    refine r_get C w 20 (v := .ref (a 21)) rfl rfl 0 (by decide) inX7 kf_X7_9 rfl dX7_add_13 ?_
    refine lv_aload_n hx hb dX7_add_16 rfl (lv_at hl 0 rfl) ?_
    refine r_get C w 20 (v := vI (z 17)) rfl rfl 7 (by decide) inX7 kf_X7_33 rfl dX7_add_17 ?_
    have qz2 := xZ17 hz
    refine lv_iload_n hx hb dX7_add_20 rfl (lv_at hl 1 rfl) ?_
    refine r_iast C w 21 (f := (g 21)) rfl (by omega) (by omega) (by decide) (ws' := xw cy a z (uZ g 21 (uI (g 21) (z 17) p0))) (xw_g21 cy a z g (uI (g 21) (z 17) p0)) dX7_add_21 (fun H locs w => ?_)
    have bg3 : ∀ j : Int, (0 : Int) ≤ (uI (g 21) (z 17) p0) j ∧ (uI (g 21) (z 17) p0) j ≤ 99 := uI_b (xB21 hg) (by omega)
    refine lv_aload_n hx hb dX7_add_22 rfl (lv_at hl 0 rfl) ?_
    refine r_get C w 20 (v := .ref (a 22)) rfl rfl 1 (by decide) inX7 kf_X7_15 rfl dX7_add_23 ?_
    refine lv_aload_n hx hb dX7_add_26 rfl (lv_at hl 0 rfl) ?_
    refine r_get C w 20 (v := vI (z 17)) rfl rfl 7 (by decide) inX7 kf_X7_33 rfl dX7_add_27 ?_
    have qz4 := xZ17 hz
    refine lv_iload_n hx hb dX7_add_30 rfl (lv_at hl 2 rfl) ?_
    refine r_iast C w 22 (f := (g 22)) rfl (by omega) (by omega) (by decide) (ws' := xw cy a z (uZ (uZ g 21 (uI (g 21) (z 17) p0)) 22 (uI (g 22) (z 17) p1))) (xw_g22 cy a z (uZ g 21 (uI (g 21) (z 17) p0)) (uI (g 22) (z 17) p1)) dX7_add_31 (fun H locs w => ?_)
    have bg5 : ∀ j : Int, (0 : Int) ≤ (uI (g 22) (z 17) p1) j ∧ (uI (g 22) (z 17) p1) j ≤ 9 := uI_b (xB22 hg) (by omega)
    refine lv_aload_n hx hb dX7_add_32 rfl (lv_at hl 0 rfl) ?_
    refine r_get C w 20 (v := .ref (a 23)) rfl rfl 2 (by decide) inX7 kf_X7_18 rfl dX7_add_33 ?_
    refine lv_aload_n hx hb dX7_add_36 rfl (lv_at hl 0 rfl) ?_
    refine r_get C w 20 (v := vI (z 17)) rfl rfl 7 (by decide) inX7 kf_X7_33 rfl dX7_add_37 ?_
    have qz6 := xZ17 hz
    refine lv_iload_n hx hb dX7_add_40 rfl (lv_at hl 3 rfl) ?_
    refine r_iast C w 23 (f := (g 23)) rfl (by omega) (by omega) (by decide) (ws' := xw cy a z (uZ (uZ (uZ g 21 (uI (g 21) (z 17) p0)) 22 (uI (g 22) (z 17) p1)) 23 (uI (g 23) (z 17) p2))) (xw_g23 cy a z (uZ (uZ g 21 (uI (g 21) (z 17) p0)) 22 (uI (g 22) (z 17) p1)) (uI (g 23) (z 17) p2)) dX7_add_41 (fun H locs w => ?_)
    have bg7 : ∀ j : Int, (0 : Int) ≤ (uI (g 23) (z 17) p2) j ∧ (uI (g 23) (z 17) p2) j ≤ 999 := uI_b (xB23 hg) (by omega)
    refine lv_aload_n hx hb dX7_add_42 rfl (lv_at hl 0 rfl) ?_
    refine r_get C w 20 (v := .ref (a 24)) rfl rfl 3 (by decide) inX7 kf_X7_21 rfl dX7_add_43 ?_
    refine lv_aload_n hx hb dX7_add_46 rfl (lv_at hl 0 rfl) ?_
    refine r_get C w 20 (v := vI (z 17)) rfl rfl 7 (by decide) inX7 kf_X7_33 rfl dX7_add_47 ?_
    have qz8 := xZ17 hz
    refine lv_iload hx hb dX7_add_50 (lv_at hl 4 rfl) ?_
    refine r_iast C w 24 (f := (g 24)) rfl (by omega) (by omega) (by decide) (ws' := xw cy a z (uZ (uZ (uZ (uZ g 21 (uI (g 21) (z 17) p0)) 22 (uI (g 22) (z 17) p1)) 23 (uI (g 23) (z 17) p2)) 24 (uI (g 24) (z 17) p3))) (xw_g24 cy a z (uZ (uZ (uZ g 21 (uI (g 21) (z 17) p0)) 22 (uI (g 22) (z 17) p1)) 23 (uI (g 23) (z 17) p2)) (uI (g 24) (z 17) p3)) dX7_add_52 (fun H locs w => ?_)
    have bg9 : ∀ j : Int, (0 : Int) ≤ (uI (g 24) (z 17) p3) j ∧ (uI (g 24) (z 17) p3) j ≤ 500 := uI_b (xB24 hg) (by omega)
    refine lv_aload_n hx hb dX7_add_53 rfl (lv_at hl 0 rfl) ?_
    refine r_get C w 20 (v := .ref (a 25)) rfl rfl 4 (by decide) inX7 kf_X7_24 rfl dX7_add_54 ?_
    refine lv_aload_n hx hb dX7_add_57 rfl (lv_at hl 0 rfl) ?_
    refine r_get C w 20 (v := vI (z 17)) rfl rfl 7 (by decide) inX7 kf_X7_33 rfl dX7_add_58 ?_
    have qz10 := xZ17 hz
    refine lv_iload hx hb dX7_add_61 (lv_at hl 5 rfl) ?_
    refine r_iast C w 25 (f := (g 25)) rfl (by omega) (by omega) (by decide) (ws' := xw cy a z (uZ (uZ (uZ (uZ (uZ g 21 (uI (g 21) (z 17) p0)) 22 (uI (g 22) (z 17) p1)) 23 (uI (g 23) (z 17) p2)) 24 (uI (g 24) (z 17) p3)) 25 (uI (g 25) (z 17) p4))) (xw_g25 cy a z (uZ (uZ (uZ (uZ g 21 (uI (g 21) (z 17) p0)) 22 (uI (g 22) (z 17) p1)) 23 (uI (g 23) (z 17) p2)) 24 (uI (g 24) (z 17) p3)) (uI (g 25) (z 17) p4)) dX7_add_63 (fun H locs w => ?_)
    have bg11 : ∀ j : Int, (0 : Int) ≤ (uI (g 25) (z 17) p4) j ∧ (uI (g 25) (z 17) p4) j ≤ 9999 := uI_b (xB25 hg) (by omega)
    refine lv_aload_n hx hb dX7_add_64 rfl (lv_at hl 0 rfl) ?_
    refine r_get C w 20 (v := .ref (a 26)) rfl rfl 5 (by decide) inX7 kf_X7_27 rfl dX7_add_65 ?_
    refine lv_aload_n hx hb dX7_add_68 rfl (lv_at hl 0 rfl) ?_
    refine r_get C w 20 (v := vI (z 17)) rfl rfl 7 (by decide) inX7 kf_X7_33 rfl dX7_add_69 ?_
    have qz12 := xZ17 hz
    refine r_iconst hx hb dX7_add_72 ?_
    refine r_iast C w 26 (f := (g 26)) rfl (by omega) (by omega) (by decide) (ws' := xw cy a z (uZ (uZ (uZ (uZ (uZ (uZ g 21 (uI (g 21) (z 17) p0)) 22 (uI (g 22) (z 17) p1)) 23 (uI (g 23) (z 17) p2)) 24 (uI (g 24) (z 17) p3)) 25 (uI (g 25) (z 17) p4)) 26 (uI (g 26) (z 17) (-1)))) (xw_g26 cy a z (uZ (uZ (uZ (uZ (uZ g 21 (uI (g 21) (z 17) p0)) 22 (uI (g 22) (z 17) p1)) 23 (uI (g 23) (z 17) p2)) 24 (uI (g 24) (z 17) p3)) 25 (uI (g 25) (z 17) p4)) (uI (g 26) (z 17) (-1))) dX7_add_73 (fun H locs w => ?_)
    have bg13 : ∀ j : Int, (-1 : Int) ≤ (uI (g 26) (z 17) (-1)) j ∧ (uI (g 26) (z 17) (-1)) j ≤ 999 := uI_b (xB26 hg) (by omega)
    refine lv_aload_n hx hb dX7_add_74 rfl (lv_at hl 0 rfl) ?_
    refine r_get C w 20 (v := .ref (a 27)) rfl rfl 6 (by decide) inX7 kf_X7_30 rfl dX7_add_75 ?_
    refine lv_aload_n hx hb dX7_add_78 rfl (lv_at hl 0 rfl) ?_
    refine r_get C w 20 (v := vI (z 17)) rfl rfl 7 (by decide) inX7 kf_X7_33 rfl dX7_add_79 ?_
    have qz14 := xZ17 hz
    refine r_iconst hx hb dX7_add_82 ?_
    refine r_iast C w 27 (f := (g 27)) rfl (by omega) (by omega) (by decide) (ws' := xw cy a z (uZ (uZ (uZ (uZ (uZ (uZ (uZ g 21 (uI (g 21) (z 17) p0)) 22 (uI (g 22) (z 17) p1)) 23 (uI (g 23) (z 17) p2)) 24 (uI (g 24) (z 17) p3)) 25 (uI (g 25) (z 17) p4)) 26 (uI (g 26) (z 17) (-1))) 27 (uI (g 27) (z 17) (-1)))) (xw_g27 cy a z (uZ (uZ (uZ (uZ (uZ (uZ g 21 (uI (g 21) (z 17) p0)) 22 (uI (g 22) (z 17) p1)) 23 (uI (g 23) (z 17) p2)) 24 (uI (g 24) (z 17) p3)) 25 (uI (g 25) (z 17) p4)) 26 (uI (g 26) (z 17) (-1))) (uI (g 27) (z 17) (-1))) dX7_add_83 (fun H locs w => ?_)
    have bg15 : ∀ j : Int, (-1 : Int) ≤ (uI (g 27) (z 17) (-1)) j ∧ (uI (g 27) (z 17) (-1)) j ≤ 399 := uI_b (xB27 hg) (by omega)
    refine lv_aload_n hx hb dX7_add_84 rfl (lv_at hl 0 rfl) ?_
    refine lv_dup hx hb dX7_add_85 rfl ?_
    refine r_get C w 20 (v := vI (z 17)) rfl rfl 7 (by decide) inX7 kf_X7_33 rfl dX7_add_86 ?_
    have qz16 := xZ17 hz
    refine r_iconst hx hb dX7_add_89 ?_
    refine r_iadd hx hb dX7_add_90 ?_
    refine r_put C w 20 tyX7 tyX7_ok nmX7 rfl rfl 7 (by decide) inX7 kf_X7_33 rfl rfl rfl (Nat.le_of_ble_eq_true rfl) (ws' := xw cy a (uZ z 17 ((z 17) + 1)) (uZ (uZ (uZ (uZ (uZ (uZ (uZ g 21 (uI (g 21) (z 17) p0)) 22 (uI (g 22) (z 17) p1)) 23 (uI (g 23) (z 17) p2)) 24 (uI (g 24) (z 17) p3)) 25 (uI (g 25) (z 17) p4)) 26 (uI (g 26) (z 17) (-1))) 27 (uI (g 27) (z 17) (-1)))) (xw_z17 cy a z (uZ (uZ (uZ (uZ (uZ (uZ (uZ g 21 (uI (g 21) (z 17) p0)) 22 (uI (g 22) (z 17) p1)) 23 (uI (g 23) (z 17) p2)) 24 (uI (g 24) (z 17) p3)) 25 (uI (g 25) (z 17) p4)) 26 (uI (g 26) (z 17) (-1))) 27 (uI (g 27) (z 17) (-1))) ((z 17) + 1)) dX7_add_91 (fun H locs w => ?_)
    have bz17 : (0 : Int) ≤ ((z 17) + 1) ∧ (((z 17) + 1) : Int) ≤ 400 := (by omega)
    refine lv_aload_n hx hb dX7_add_94 rfl (lv_at hl 0 rfl) ?_
    refine r_get C w 20 (v := vI ((z 17) + 1)) rfl rfl 7 (by decide) inX7 kf_X7_33 rfl dX7_add_95 ?_
    refine r_iconst hx hb dX7_add_98 ?_
    refine r_isub hx hb dX7_add_99 ?_
    exact hend (((z 17) + 1) - 1) ((uZ z 17 ((z 17) + 1)), (uZ (uZ (uZ (uZ (uZ (uZ (uZ g 21 (uI (g 21) (z 17) p0)) 22 (uI (g 22) (z 17) p1)) 23 (uI (g 23) (z 17) p2)) 24 (uI (g 24) (z 17) p3)) 25 (uI (g 25) (z 17) p4)) 26 (uI (g 26) (z 17) (-1))) 27 (uI (g 27) (z 17) (-1)))) _ _ _ _ dX7_add_100 w ⟨(by exact ⟨by omega, rfl⟩), (xBz_u hz 17 bz17), (xBg_u (xBg_u (xBg_u (xBg_u (xBg_u (xBg_u (xBg_u hg 21 bg3) 22 bg5) 23 bg7) 24 bg9) 25 bg11) 26 bg13) 27 bg15)⟩
  · skip
    exact absurd c7 (by omega)

abbrev rm_X0_bidOf : Room := { frames := 1, cells := 0, slots := 0, locals := 22 }
set_option maxHeartbeats 4000000 in
set_option maxRecDepth 100000 in
theorem ct_X0_bidOf (l : Launch) (D : va_G) (cy : Nat → ClassId) (a : Nat → Nat) (z : Nat → Int) (g : Nat → Int → Int) (p0 p1 p2 p3 p4 : Int) (hz : xBz z) (hg : xBg g) (h0 : 0 ≤ p0 ∧ p0 < 10) (h1 : 0 ≤ p1 ∧ p1 < 4) (h2 : 0 ≤ p2 ∧ p2 < 4) (h3 : 0 ≤ p3 ∧ p3 ≤ 500) (h4 : 0 ≤ p4 ∧ p4 ≤ 9999) : MI l yX0_bidOf cX0_bidOf 9 .int (rm_X0_bidOf) D cy (xw cy a z g) [.ref (a 28), vI p0, vI p1, vI p2, vI p3, vI p4] (fun (v : Int) (u : Unit) => v = if (p3 ≤ g 31 ((p0 * 4 + p1) * 4 + p2) ∧ 1 ≤ g 32 ((p0 * 4 + p1) * 4 + p2) ∧ p4 ≤ g 32 ((p0 * 4 + p1) * 4 + p2) ∧ g 32 ((p0 * 4 + p1) * 4 + p2) * p3 ≤ g 30 p0) then g 32 ((p0 * 4 + p1) * 4 + p2) else 0) (fun _ => xw cy a z g) 0 0 := by
  refine go_i (by decide +kernel) (Nat.le_of_ble_eq_true rfl) (Or.inl rfl) ?_
  intro p e s m args below meth c Q A ls C hnm hA w hl hend
  have hx := C.1
  have hb := C.2.1
  have bm1 := mul_b (xB32 hg ((p0 * 4 + p1) * 4 + p2)) h3
  have J61 : ∀ (b : Int), ((b = 1 ∧ (p3 ≤ g 31 ((p0 * 4 + p1) * 4 + p2) ∧ 1 ≤ g 32 ((p0 * 4 + p1) * 4 + p2) ∧ p4 ≤ g 32 ((p0 * 4 + p1) * 4 + p2) ∧ g 32 ((p0 * 4 + p1) * 4 + p2) * p3 ≤ g 30 p0)) ∨ (b = 0 ∧ ¬ (p3 ≤ g 31 ((p0 * 4 + p1) * 4 + p2) ∧ 1 ≤ g 32 ((p0 * 4 + p1) * 4 + p2) ∧ p4 ≤ g 32 ((p0 * 4 + p1) * 4 + p2) ∧ g 32 ((p0 * 4 + p1) * 4 + p2) * p3 ≤ g 30 p0))) → ∀ (H : Heap) (locs : List Loc) (ls : Array Slot), wd D A s.heap (xw cy a z g) H locs → lv_has ls 9 [(7, vI (g 32 ((p0 * 4 + p1) * 4 + p2)))] → W p l e (rm_X0_bidOf) s m args below meth c H locs 0 0 Q (F0 m 61 ls [vI b]) := by
    intro b hb1 H locs ls w hl
    refine lv_istore (lv' := [(8, vI b), (7, vI (g 32 ((p0 * 4 + p1) * 4 + p2)))]) hx hb dX0_bidOf_61 hl (by decide) rfl (fun ls hl => ?_)
    refine lv_iload hx hb dX0_bidOf_63 (lv_at hl 0 rfl) ?_
    refine r_if_eq (tgt := 73) hx hb dX0_bidOf_65 (by decide) (by omega) (fun c65 => ?_) (fun c65 => ?_)
    · skip
      refine r_iconst hx hb dX0_bidOf_73 ?_
      exact hend 0 () _ _ _ _ dX0_bidOf_74 w (by first | (rw [if_pos (by omega)]) | (rw [if_neg (by omega)]))
    · skip
      refine lv_iload hx hb dX0_bidOf_68 (lv_at hl 1 rfl) ?_
      refine lv_goto (tgt := 74) hx hb dX0_bidOf_70 (by decide) ?_
      exact hend (g 32 ((p0 * 4 + p1) * 4 + p2)) () _ _ _ _ dX0_bidOf_74 w (by first | (rw [if_pos (by omega)]) | (rw [if_neg (by omega)]))
  replace hl : lv_has ls 9 [(0, .ref (a 28)), (1, vI p0), (2, vI p1), (3, vI p2), (4, vI p3), (5, vI p4)] := hl
  refine lv_iload_n hx hb dX0_bidOf_0 rfl (lv_at hl 1 rfl) ?_
  refine lv_iload_n hx hb dX0_bidOf_1 rfl (lv_at hl 2 rfl) ?_
  refine lv_iload_n hx hb dX0_bidOf_2 rfl (lv_at hl 3 rfl) ?_
  refine cSI C w hA (ct_X0_wantPlace l D cy a z g p0 p1 p2 ) ok_X0_wantPlace km_X0_24 ⟨rfl, rfl⟩ ⟨by decide, by decide⟩ ⟨by decide, by decide⟩ rfl hl.1 rfl (Nat.le_of_ble_eq_true rfl) dX0_bidOf_3 (fun rv_1 uv_1 H locs w hp_1 => ?_)
  replace hp_1 : rv_1 = (p0 * 4 + p1) * 4 + p2 := hp_1
  replace w : wd D A s.heap (xw cy a z g) H locs := w
  subst hp_1
  refine lv_istore (lv' := [(6, vI ((p0 * 4 + p1) * 4 + p2)), (0, .ref (a 28)), (1, vI p0), (2, vI p1), (3, vI p2), (4, vI p3), (5, vI p4)]) hx hb dX0_bidOf_6 hl (by decide) rfl (fun ls hl => ?_)
  refine lv_aload_n hx hb dX0_bidOf_8 rfl (lv_at hl 1 rfl) ?_
  refine r_get C w 28 (v := .ref (a 32)) rfl rfl 3 (by decide) inX0 kf_X0_21 rfl dX0_bidOf_9 ?_
  refine lv_iload hx hb dX0_bidOf_12 (lv_at hl 0 rfl) ?_
  refine r_iald C w 32 (f := (g 32)) rfl (by omega) (by omega) (by decide) dX0_bidOf_14 ?_
  have qg1 := xB32 hg ((p0 * 4 + p1) * 4 + p2)
  refine lv_istore (lv' := [(7, vI ((g 32) ((p0 * 4 + p1) * 4 + p2))), (6, vI ((p0 * 4 + p1) * 4 + p2)), (0, .ref (a 28)), (1, vI p0), (2, vI p1), (3, vI p2), (4, vI p3), (5, vI p4)]) hx hb dX0_bidOf_15 hl (by decide) rfl (fun ls hl => ?_)
  refine lv_aload_n hx hb dX0_bidOf_17 rfl (lv_at hl 2 rfl) ?_
  refine r_get C w 28 (v := .ref (a 31)) rfl rfl 2 (by decide) inX0 kf_X0_18 rfl dX0_bidOf_18 ?_
  refine lv_iload hx hb dX0_bidOf_21 (lv_at hl 1 rfl) ?_
  refine r_iald C w 31 (f := (g 31)) rfl (by omega) (by omega) (by decide) dX0_bidOf_23 ?_
  have qg2 := xB31 hg ((p0 * 4 + p1) * 4 + p2)
  refine lv_iload hx hb dX0_bidOf_24 (lv_at hl 6 rfl) ?_
  refine r_icmp_lt (tgt := 60) hx hb dX0_bidOf_26 (by decide) (by omega) (by omega) (fun c26 => ?_) (fun c26 => ?_)
  · skip
    refine r_iconst hx hb dX0_bidOf_60 ?_
    exact J61 0 (by omega) _ _ _ w (lv_sub hl [0] rfl)
  · skip
    refine lv_iload hx hb dX0_bidOf_29 (lv_at hl 0 rfl) ?_
    refine r_iconst hx hb dX0_bidOf_31 ?_
    refine r_icmp_lt (tgt := 60) hx hb dX0_bidOf_32 (by decide) (by omega) (by omega) (fun c32 => ?_) (fun c32 => ?_)
    · skip
      refine r_iconst hx hb dX0_bidOf_60 ?_
      exact J61 0 (by omega) _ _ _ w (lv_sub hl [0] rfl)
    · skip
      refine lv_iload hx hb dX0_bidOf_35 (lv_at hl 0 rfl) ?_
      refine lv_iload hx hb dX0_bidOf_37 (lv_at hl 7 rfl) ?_
      refine r_icmp_lt (tgt := 60) hx hb dX0_bidOf_39 (by decide) (by omega) (by omega) (fun c39 => ?_) (fun c39 => ?_)
      · skip
        refine r_iconst hx hb dX0_bidOf_60 ?_
        exact J61 0 (by omega) _ _ _ w (lv_sub hl [0] rfl)
      · skip
        refine lv_iload hx hb dX0_bidOf_42 (lv_at hl 0 rfl) ?_
        refine lv_iload hx hb dX0_bidOf_44 (lv_at hl 6 rfl) ?_
        refine r_imul hx hb dX0_bidOf_46 ?_
        refine lv_aload_n hx hb dX0_bidOf_47 rfl (lv_at hl 2 rfl) ?_
        refine r_get C w 28 (v := .ref (a 30)) rfl rfl 1 (by decide) inX0 kf_X0_15 rfl dX0_bidOf_48 ?_
        refine lv_iload_n hx hb dX0_bidOf_51 rfl (lv_at hl 3 rfl) ?_
        refine r_iald C w 30 (f := (g 30)) rfl (by omega) (by omega) (by decide) dX0_bidOf_52 ?_
        have qg3 := xB30 hg p0
        refine r_icmp_gt (tgt := 60) hx hb dX0_bidOf_53 (by decide) (by omega) (by omega) (fun c53 => ?_) (fun c53 => ?_)
        · skip
          refine r_iconst hx hb dX0_bidOf_60 ?_
          exact J61 0 (by omega) _ _ _ w (lv_sub hl [0] rfl)
        · skip
          refine r_iconst hx hb dX0_bidOf_56 ?_
          refine lv_goto (tgt := 61) hx hb dX0_bidOf_57 (by decide) ?_
          exact J61 1 (by omega) _ _ _ w (lv_sub hl [0] rfl)

abbrev rm_X0_take : Room := { frames := 0, cells := 0, slots := 0, locals := 0 }
set_option maxHeartbeats 4000000 in
set_option maxRecDepth 100000 in
theorem ct_X0_take (l : Launch) (D : va_G) (cy : Nat → ClassId) (a : Nat → Nat) (z : Nat → Int) (g : Nat → Int → Int) (p0 p1 p2 p3 : Int) (hz : xBz z) (hg : xBg g) (h0 : 0 ≤ p0 ∧ p0 < 10) (h1 : 0 ≤ p1 ∧ p1 < 160) (h2 : 0 ≤ p2 ∧ p2 ≤ g 31 p1) (h3 : 0 ≤ p2 * p3 ∧ p2 * p3 ≤ g 30 p0) : MV l yX0_take cX0_take 5 (rm_X0_take) D cy (xw cy a z g) [.ref (a 28), vI p0, vI p1, vI p2, vI p3] (fun (u : sX) => (u = (z, uZ (uZ g 31 (uI (g 31) p1 (g 31 p1 - p2))) 30 (uI (g 30) p0 (g 30 p0 - p2 * p3)))) ∧ xBz u.1 ∧ xBg u.2) (fun u => xw cy a u.1 u.2) 0 0 := by
  refine go_v (by decide +kernel) (Nat.le_of_ble_eq_true rfl) ?_
  intro p e s m args below meth c Q A ls C hnm hA w hl hend
  have hx := C.1
  have hb := C.2.1
  replace hl : lv_has ls 5 [(0, .ref (a 28)), (1, vI p0), (2, vI p1), (3, vI p2), (4, vI p3)] := hl
  refine lv_aload_n hx hb dX0_take_0 rfl (lv_at hl 0 rfl) ?_
  refine r_get C w 28 (v := .ref (a 31)) rfl rfl 2 (by decide) inX0 kf_X0_18 rfl dX0_take_1 ?_
  refine lv_iload_n hx hb dX0_take_4 rfl (lv_at hl 2 rfl) ?_
  refine lv_dup2_11 hx hb dX0_take_5 rfl rfl ?_
  refine r_iald C w 31 (f := (g 31)) rfl (by omega) (by omega) (by decide) dX0_take_6 ?_
  have qg1 := xB31 hg p1
  refine lv_iload_n hx hb dX0_take_7 rfl (lv_at hl 3 rfl) ?_
  refine r_isub hx hb dX0_take_8 ?_
  refine r_iast C w 31 (f := (g 31)) rfl (by omega) (by omega) (by decide) (ws' := xw cy a z (uZ g 31 (uI (g 31) p1 (((g 31) p1) - p2)))) (xw_g31 cy a z g (uI (g 31) p1 (((g 31) p1) - p2))) dX0_take_9 (fun H locs w => ?_)
  have bg2 : ∀ j : Int, (0 : Int) ≤ (uI (g 31) p1 (((g 31) p1) - p2)) j ∧ (uI (g 31) p1 (((g 31) p1) - p2)) j ≤ 5000 := uI_b (xB31 hg) (by omega)
  refine lv_aload_n hx hb dX0_take_10 rfl (lv_at hl 0 rfl) ?_
  refine r_get C w 28 (v := .ref (a 30)) rfl rfl 1 (by decide) inX0 kf_X0_15 rfl dX0_take_11 ?_
  refine lv_iload_n hx hb dX0_take_14 rfl (lv_at hl 1 rfl) ?_
  refine lv_dup2_11 hx hb dX0_take_15 rfl rfl ?_
  refine r_iald C w 30 (f := (g 30)) rfl (by omega) (by omega) (by decide) dX0_take_16 ?_
  have qg3 := xB30 hg p0
  refine lv_iload_n hx hb dX0_take_17 rfl (lv_at hl 3 rfl) ?_
  refine lv_iload hx hb dX0_take_18 (lv_at hl 4 rfl) ?_
  refine r_imul hx hb dX0_take_20 ?_
  refine r_isub hx hb dX0_take_21 ?_
  refine r_iast C w 30 (f := (g 30)) rfl (by omega) (by omega) (by decide) (ws' := xw cy a z (uZ (uZ g 31 (uI (g 31) p1 (((g 31) p1) - p2))) 30 (uI (g 30) p0 (((g 30) p0) - (p2 * p3))))) (xw_g30 cy a z (uZ g 31 (uI (g 31) p1 (((g 31) p1) - p2))) (uI (g 30) p0 (((g 30) p0) - (p2 * p3)))) dX0_take_22 (fun H locs w => ?_)
  have bg4 : ∀ j : Int, (0 : Int) ≤ (uI (g 30) p0 (((g 30) p0) - (p2 * p3))) j ∧ (uI (g 30) p0 (((g 30) p0) - (p2 * p3))) j ≤ 1000000 := uI_b (xB30 hg) (by omega)
  exact hend (z, (uZ (uZ g 31 (uI (g 31) p1 (((g 31) p1) - p2))) 30 (uI (g 30) p0 (((g 30) p0) - (p2 * p3))))) _ _ _ _ dX0_take_23 w ⟨(by rfl), hz, (xBg_u (xBg_u hg 31 bg2) 30 bg4)⟩
