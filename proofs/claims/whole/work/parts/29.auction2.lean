theorem flX_stop {z : Nat → Int} {g : Nat → Int → Int} {h r b : Int} (hr : 0 ≤ r) (hn : 0 ≤ z 16) (hb : b = 0) (hf : flX z g h (8 * r) 8 b) : ∀ i, 8 * r ≤ i → ¬ pcX z g h i < z 16 := by
  intro i h1
  rcases hf with ⟨-, h2⟩ | ⟨h2, -⟩
  · have h3 := h2 (8 * r + i % 8) (by omega) (by omega)
    unfold pcX pkc at *
    rw [show (8 * r + i % 8) / 8 = r by omega, show (8 * r + i % 8) % 8 = i % 8 by omega] at h3
    have h4 := pk_b (g 13) (wX g h) (r := r) (q := (z 0 + i % 8) % 8) hn
    have h5 := pk_stop2 (gr := g 13) (w := wX g h) (n := z 16) (r := r) (r2 := i / 8) (q := (z 0 + i % 8) % 8) hr (by omega) (by omega)
    omega
  · omega
theorem FX_end {z : Nat → Int} {g : Nat → Int → Int} {h c : Int} (hc : 0 ≤ c ∧ c ≤ 800) (hno : ∀ i, c ≤ i → ¬ pcX z g h i < z 16) : FX z g h 800 = FX z g h c := by
  have := fI_end offX (pcX z g h) (z 16) (z, g) hc.1 (800 - c).toNat (fun i h1 _ => hno i h1)
  rw [show c + ((800 - c).toNat : Int) = 800 by omega] at this
  exact this
theorem FX_fin {z : Nat → Int} {g : Nat → Int → Int} {h r b : Int} (hr : 0 ≤ r ∧ r ≤ 100) (hx : r = 100 ∨ b = 0) (hb : b = 1 ∨ (b = 0 ∧ ∀ i, 8 * r ≤ i → ¬ pcX z g h i < z 16)) : FX z g h 800 = FX z g h (8 * r) := by
  rcases hx with q | q
  · rw [show 8 * r = 800 by omega]
  · rcases hb with q2 | q2
    · omega
    · exact FX_end (by omega) q2.2
theorem InvX_0 {z : Nat → Int} {g : Nat → Int → Int} {h : Int} {f : Int → Int} (hf : ∀ q, 0 ≤ q → q < 8 → f q = 0) : InvX z g h (8 * 0) z (uZ g 44 f) := by
  refine ⟨rfl, fun k h1 h2 => uZ_n _ _ h2, fun q h1 h2 => ?_⟩
  rw [uZ_s, hf q h1 h2, if_neg (by omega)]
  unfold frX fromR
  rw [if_pos (by omega)]
theorem zeros_st {f : Int → Int} {i : Int} (hf : ∀ q, 0 ≤ q → q < i → f q = 0) : ∀ q, 0 ≤ q → q < i + 1 → uI f i 0 q = 0 := by
  intro q h1 h2
  by_cases e : q = i
  · rw [e, uI_s]
  · rw [uI_n _ _ e]
    exact hf q h1 (by omega)
abbrev rm_X9_auction : Room := { frames := 4, cells := 0, slots := 0, locals := 104 }
set_option maxHeartbeats 4000000 in
set_option maxRecDepth 100000 in
theorem ct_X9_auction (l : Launch) (D : va_G) (cy : Nat → ClassId) (a : Nat → Nat) (z : Nat → Int) (g : Nat → Int → Int) (p0 : Int) (hz : xBz z) (hg : xBg g) (h0 : iR p0) : MI l yX9_auction cX9_auction 5 .int (rm_X9_auction) D cy (xw cy a z g) [.ref (a 0), vI p0] (fun (v : Int) (u : sX) => ((¬ (0 ≤ p0 ∧ p0 < 4) ∧ v = -1 ∧ u = (z, g)) ∨ ((0 ≤ p0 ∧ p0 < 4) ∧ v = u.1 17 - z 17 ∧ u.1 = (FX z g p0 800).1 ∧ ∀ k : Nat, k < 45 → k ≠ 44 → u.2 k = (FX z g p0 800).2 k)) ∧ xBz u.1 ∧ xBg u.2) (fun u => xw cy a u.1 u.2) 0 0 := by
  refine go_i (by decide +kernel) (Nat.le_of_ble_eq_true rfl) (Or.inl rfl) ?_
  intro p e s m args below meth c Q A ls C hnm hA w hl hend
  have hx := C.1
  have hb := C.2.1
  have b16_ := xZ16 hz
  have b17_ := xZ17 hz
  have J44 : ∀ N : Nat, ∀ (b3 : Int) (r4 : Int) (z44 : Nat → Int) (g44 : Nat → Int → Int), (xBz z44) → (xBg g44) → (0 ≤ p0 ∧ p0 < 4) → (0 ≤ r4 ∧ r4 ≤ 100) → (b3 = 1 ∨ (b3 = 0 ∧ ∀ i, 8 * r4 ≤ i → ¬ pcX z g p0 i < z 16)) → (InvX z g p0 (8 * r4) z44 g44) → ((100 - r4).toNat) < N → ∀ (H : Heap) (locs : List Loc) (ls : Array Slot), wd D A s.heap (xw cy a z44 g44) H locs → lv_has ls 5 [(0, .ref (a 0)), (1, vI p0), (2, vI (z 17)), (3, vI b3), (4, vI r4)] → W p l e (rm_X9_auction) s m args below meth c H locs 0 0 Q (F0 m 44 ls []) := by
    intro N
    induction N with
    | zero => intro b3 r4 z44 g44 hz44 hg44 hp0 hr4 hb3 hI44 hN9; exact absurd hN9 (Nat.not_lt_zero _)
    | succ N ih44 =>
      intro b3 r4 z44 g44 hz44 hg44 hp0 hr4 hb3 hI44 hN44 H locs ls w hl
      refine lv_iload hx hb dX9_auction_44 (lv_at hl 4 rfl) ?_
      refine r_bipush hx hb dX9_auction_46 (by decide) ?_
      refine r_icmp_ge (tgt := 67) hx hb dX9_auction_48 (by decide) (by omega) (by omega) (fun c48 => ?_) (fun c48 => ?_)
      · skip
        refine lv_aload_n hx hb dX9_auction_67 rfl (lv_at hl 0 rfl) ?_
        refine r_get C w 0 (v := .ref (a 20)) rfl rfl 4 (by decide) inX9 kf_X9_42 rfl dX9_auction_68 ?_
        refine r_getN C w 20 (v := vI (z44 17)) rfl rfl 7 (by decide) inX7 kt_X9_145 rfl dX9_auction_71 ?_
        have qz1 := xZ17 hz44
        refine lv_iload_n hx hb dX9_auction_74 rfl (lv_at hl 2 rfl) ?_
        refine r_isub hx hb dX9_auction_75 ?_
        exact hend ((z44 17) - (z 17)) (z44, g44) _ _ _ _ dX9_auction_76 w ⟨(by refine Or.inr ⟨hp0, rfl, ?_⟩; rw [FX_fin hr4 (by omega) hb3]; exact ⟨hI44.1, hI44.2.1⟩), hz44, hg44⟩
      · skip
        refine lv_iload_n hx hb dX9_auction_51 rfl (lv_at hl 3 rfl) ?_
        refine r_if_eq (tgt := 67) hx hb dX9_auction_52 (by decide) (by omega) (fun c52 => ?_) (fun c52 => ?_)
        · skip
          refine lv_aload_n hx hb dX9_auction_67 rfl (lv_at hl 0 rfl) ?_
          refine r_get C w 0 (v := .ref (a 20)) rfl rfl 4 (by decide) inX9 kf_X9_42 rfl dX9_auction_68 ?_
          refine r_getN C w 20 (v := vI (z44 17)) rfl rfl 7 (by decide) inX7 kt_X9_145 rfl dX9_auction_71 ?_
          have qz2 := xZ17 hz44
          refine lv_iload_n hx hb dX9_auction_74 rfl (lv_at hl 2 rfl) ?_
          refine r_isub hx hb dX9_auction_75 ?_
          exact hend ((z44 17) - (z 17)) (z44, g44) _ _ _ _ dX9_auction_76 w ⟨(by refine Or.inr ⟨hp0, rfl, ?_⟩; rw [FX_fin hr4 (by omega) hb3]; exact ⟨hI44.1, hI44.2.1⟩), hz44, hg44⟩
        · skip
          refine lv_aload_n hx hb dX9_auction_55 rfl (lv_at hl 0 rfl) ?_
          refine lv_iload_n hx hb dX9_auction_56 rfl (lv_at hl 1 rfl) ?_
          refine cVI C w hA (ct_X9_offerRound l D cy a z44 g44 z g r4 p0 hz44 hg44 (by show 0 ≤ p0 ∧ p0 < 4; omega) (by omega) (by exact hz) (by exact hI44)) ok_X9_offerRound km_X9_146 ⟨rfl, rfl⟩ ⟨by decide, by decide⟩ ⟨by decide, by decide⟩ rfl 0 rfl rfl hl.1 rfl (Nat.le_of_ble_eq_true rfl) dX9_auction_57 (fun rv_1 uv_1 H locs w hp_1 => ?_)
          obtain ⟨zc_1, gc_1⟩ := uv_1
          obtain ⟨hp_1, hzc_1, hgc_1⟩ := hp_1
          replace w : wd D A s.heap (xw cy a zc_1 gc_1) H locs := w
          replace hzc_1 : xBz zc_1 := hzc_1
          replace hgc_1 : xBg gc_1 := hgc_1
          try dsimp only at hp_1
          refine lv_istore_n (lv' := [(3, vI rv_1), (0, .ref (a 0)), (1, vI p0), (2, vI (z 17)), (4, vI r4)]) hx hb dX9_auction_60 rfl hl (by decide) rfl (fun ls hl => ?_)
          refine r_iinc (lv' := [(4, vI (r4 + 1)), (3, vI rv_1), (0, .ref (a 0)), (1, vI p0), (2, vI (z 17))]) hx hb dX9_auction_61 hl (k := 4) rfl (by decide) rfl (fun ls hl => ?_)
          refine lv_goto (tgt := 44) hx hb dX9_auction_64 (by decide) ?_
          exact ih44 rv_1 (r4 + 1) zc_1 gc_1 hzc_1 hgc_1 (by omega) (by omega) (by rcases hp_1.1.1 with q | q; exact Or.inr ⟨q, fun i h1 => flX_stop hr4.1 b16_.1 q hp_1.1.2 i (by omega)⟩; exact Or.inl q) (by rw [show 8 * (r4 + 1) = 8 * r4 + 8 by omega]; exact hp_1.2) (by omega) _ _ _ w (lv_sub hl [2, 3, 4, 1, 0] rfl)
  have J12 : ∀ N : Nat, ∀ (i2 : Int) (f : Int → Int), (∀ j : Int, (0 : Int) ≤ f j ∧ f j ≤ 101) → (0 ≤ p0 ∧ p0 < 4) → (0 ≤ i2 ∧ i2 ≤ 8) → (∀ q, 0 ≤ q → q < i2 → f q = 0) → ((8 - i2).toNat) < N → ∀ (H : Heap) (locs : List Loc) (ls : Array Slot), wd D A s.heap (xw cy a z (uZ g 44 f)) H locs → lv_has ls 5 [(0, .ref (a 0)), (1, vI p0), (2, vI i2)] → W p l e (rm_X9_auction) s m args below meth c H locs 0 0 Q (F0 m 12 ls []) := by
    intro N
    induction N with
    | zero => intro i2 f bf hp0 hi2 hf hN9; exact absurd hN9 (Nat.not_lt_zero _)
    | succ N ih12 =>
      intro i2 f bf hp0 hi2 hf hN12 H locs ls w hl
      refine lv_iload_n hx hb dX9_auction_12 rfl (lv_at hl 2 rfl) ?_
      refine r_bipush hx hb dX9_auction_13 (by decide) ?_
      refine r_icmp_ge (tgt := 31) hx hb dX9_auction_15 (by decide) (by omega) (by omega) (fun c15 => ?_) (fun c15 => ?_)
      · skip
        refine lv_aload_n hx hb dX9_auction_31 rfl (lv_at hl 0 rfl) ?_
        refine r_get C w 0 (v := .ref (a 20)) rfl rfl 4 (by decide) inX9 kf_X9_42 rfl dX9_auction_32 ?_
        refine r_getN C w 20 (v := vI (z 17)) rfl rfl 7 (by decide) inX7 kt_X9_145 rfl dX9_auction_35 ?_
        have qz3 := xZ17 hz
        refine lv_istore_n (lv' := [(2, vI (z 17)), (0, .ref (a 0)), (1, vI p0)]) hx hb dX9_auction_38 rfl hl (by decide) rfl (fun ls hl => ?_)
        refine r_iconst hx hb dX9_auction_39 ?_
        refine lv_istore_n (lv' := [(3, vI 1), (2, vI (z 17)), (0, .ref (a 0)), (1, vI p0)]) hx hb dX9_auction_40 rfl hl (by decide) rfl (fun ls hl => ?_)
        refine r_iconst hx hb dX9_auction_41 ?_
        refine lv_istore (lv' := [(4, vI 0), (3, vI 1), (2, vI (z 17)), (0, .ref (a 0)), (1, vI p0)]) hx hb dX9_auction_42 hl (by decide) rfl (fun ls hl => ?_)
        exact J44 _ 1 0 z (uZ g 44 f) hz (xBg_u hg 44 bf) (by omega) (by omega) (by omega) (by exact InvX_0 (fun q h1 h2 => hf q h1 (by omega))) (Nat.lt_succ_self _) _ _ _ w (lv_sub hl [3, 4, 2, 1, 0] rfl)
      · skip
        refine lv_aload_n hx hb dX9_auction_18 rfl (lv_at hl 0 rfl) ?_
        refine r_get C w 0 (v := .ref (a 44)) rfl rfl 9 (by decide) inX9 kf_X9_78 rfl dX9_auction_19 ?_
        refine lv_iload_n hx hb dX9_auction_22 rfl (lv_at hl 2 rfl) ?_
        refine r_iconst hx hb dX9_auction_23 ?_
        refine r_iast C w 44 (f := f) rfl (by omega) (by omega) (by decide) (ws' := xw cy a z (uZ g 44 (uI f i2 0))) rfl dX9_auction_24 (fun H locs w => ?_)
        have bg4 : ∀ j : Int, (0 : Int) ≤ (uI f i2 0) j ∧ (uI f i2 0) j ≤ 101 := uI_b bf (by omega)
        refine r_iinc (lv' := [(2, vI (i2 + 1)), (0, .ref (a 0)), (1, vI p0)]) hx hb dX9_auction_25 hl (k := 2) rfl (by decide) rfl (fun ls hl => ?_)
        refine lv_goto (tgt := 12) hx hb dX9_auction_28 (by decide) ?_
        exact ih12 (i2 + 1) (uI f i2 0) bg4 (by omega) (by omega) (by exact zeros_st hf) (by omega) _ _ _ w (lv_sub hl [1, 2, 0] rfl)
  replace hl : lv_has ls 5 [(0, .ref (a 0)), (1, vI p0)] := hl
  refine lv_iload_n hx hb dX9_auction_0 rfl (lv_at hl 1 rfl) ?_
  refine r_iconst hx hb dX9_auction_1 ?_
  refine cSI C w hA (ct_X9_isBelow l D cy a z g p0 4 (by show iR p0; omega) (by show iR 4; omega)) ok_X9_isBelow km_X9_115 ⟨rfl, rfl⟩ ⟨by decide, by decide⟩ ⟨by decide, by decide⟩ rfl hl.1 rfl (Nat.le_of_ble_eq_true rfl) dX9_auction_2 (fun rv_2 uv_2 H locs w hp_2 => ?_)
  replace hp_2 : (rv_2 = 1 ∧ 0 ≤ p0 ∧ p0 < 4) ∨ (rv_2 = 0 ∧ ¬ (0 ≤ p0 ∧ p0 < 4)) := hp_2
  replace w : wd D A s.heap (xw cy a z g) H locs := w
  refine r_if_ne (tgt := 10) hx hb dX9_auction_5 (by decide) (by omega) (fun c5 => ?_) (fun c5 => ?_)
  · skip
    refine r_iconst hx hb dX9_auction_10 ?_
    refine lv_istore_n (lv' := [(2, vI 0), (0, .ref (a 0)), (1, vI p0)]) hx hb dX9_auction_11 rfl hl (by decide) rfl (fun ls hl => ?_)
    exact J12 _ 0 (g 44) (xB44 hg) (by omega) (by omega) (by intro q h1 h2; omega) (Nat.lt_succ_self _) _ _ _ w (lv_sub hl [1, 2, 0] rfl)
  · skip
    refine r_iconst hx hb dX9_auction_8 ?_
    exact hend (-1) (z, g) _ _ _ _ dX9_auction_9 w ⟨(by exact Or.inl ⟨by omega, rfl, rfl⟩), hz, hg⟩
