/-! the auction of the class -/
def wX (g : Nat → Int → Int) (h : Int) : Int → Int := fun j => if g 17 j = h ∧ g 18 j = 0 ∧ 0 < g 16 j then 1 else 0
theorem wX_1 {g : Nat → Int → Int} {h j : Int} : wX g h j = 1 ↔ (g 17 j = h ∧ g 18 j = 0 ∧ 0 < g 16 j) := by
  unfold wX
  split
  · exact ⟨fun _ => by assumption, fun _ => rfl⟩
  · exact ⟨fun q => absurd q (by decide), fun q => absurd q (by assumption)⟩
noncomputable def pcX (z : Nat → Int) (g : Nat → Int → Int) (h : Int) : Int → Int := pkc (g 13) (wX g h) (z 16) (z 0)
noncomputable def FX (z : Nat → Int) (g : Nat → Int → Int) (h c : Int) : sX := fI offX (pcX z g h) (z 16) (z, g) c
theorem uZ_cg {α : Type} {f k : Nat → α} {c i : Nat} {v : α} (h : f c = k c) : uZ f i v c = uZ k i v c := by
  unfold uZ
  cases Nat.beq c i
  · exact h
  · rfl
theorem offX_z {z : Nat → Int} {g : Nat → Int → Int} {k : Int} {j : Nat} (h : j ≠ 17) : (offX z g k).1 j = z j := by
  unfold offX
  split
  · rfl
  · exact uZ_n z _ h
theorem offX_g {z : Nat → Int} {g : Nat → Int → Int} {k : Int} {c : Nat} (h : c ≠ 18 ∧ c ≠ 19 ∧ c ≠ 21 ∧ c ≠ 22 ∧ c ≠ 23 ∧ c ≠ 24 ∧ c ≠ 25 ∧ c ≠ 26 ∧ c ≠ 27 ∧ c ≠ 30 ∧ c ≠ 31) : (offX z g k).2 c = g c := by
  unfold offX
  split
  · rfl
  · unfold sellX
    obtain ⟨h1, h2, h3, h4, h5, h6, h7, h8, h9, h10, h11⟩ := h
    show uZ _ 18 _ c = _
    rw [uZ_n _ _ h1, uZ_n _ _ h2, uZ_n _ _ h9, uZ_n _ _ h8, uZ_n _ _ h7, uZ_n _ _ h6, uZ_n _ _ h5, uZ_n _ _ h4, uZ_n _ _ h3, uZ_n _ _ h10, uZ_n _ _ h11]
theorem offX_18 {z : Nat → Int} {g : Nat → Int → Int} {k j : Int} (h : j ≠ k) : (offX z g k).2 18 j = g 18 j := by
  unfold offX
  split
  · rfl
  · show uI (g 18) k 1 j = _
    exact uI_n _ _ h
theorem offX_cg {z : Nat → Int} {g k : Nat → Int → Int} {j : Int} (h : ∀ c : Nat, c < 45 → c ≠ 44 → g c = k c) : (offX z g j).1 = (offX z k j).1 ∧ ∀ c : Nat, c < 45 → c ≠ 44 → (offX z g j).2 c = (offX z k j).2 c := by
  have e4 := h 4 (by decide) (by decide)
  have e15 := h 15 (by decide) (by decide)
  have e16 := h 16 (by decide) (by decide)
  have e17 := h 17 (by decide) (by decide)
  have e18 := h 18 (by decide) (by decide)
  have e19 := h 19 (by decide) (by decide)
  have e21 := h 21 (by decide) (by decide)
  have e22 := h 22 (by decide) (by decide)
  have e23 := h 23 (by decide) (by decide)
  have e24 := h 24 (by decide) (by decide)
  have e25 := h 25 (by decide) (by decide)
  have e26 := h 26 (by decide) (by decide)
  have e27 := h 27 (by decide) (by decide)
  have e30 := h 30 (by decide) (by decide)
  have e31 := h 31 (by decide) (by decide)
  have e32 := h 32 (by decide) (by decide)
  have el : lmX g j = lmX k j := by
    funext b
    unfold lmX bdX plX
    rw [e4, e15, e16, e17, e30, e31, e32]
  have ep : prX g j = prX k j := by
    funext b
    unfold prX
    rw [e4, e15]
  unfold offX
  rw [el, ep]
  split
  · exact ⟨rfl, h⟩
  · refine ⟨rfl, fun c h1 h2 => ?_⟩
    unfold sellX plX
    rw [e15, e16, e17, e18, e19, e21, e22, e23, e24, e25, e26, e27, e30, e31]
    exact uZ_cg (uZ_cg (uZ_cg (uZ_cg (uZ_cg (uZ_cg (uZ_cg (uZ_cg (uZ_cg (uZ_cg (uZ_cg (h c h1 h2)))))))))))
theorem FX_s (z : Nat → Int) (g : Nat → Int → Int) (h : Int) {c : Int} (hc : 0 ≤ c) : FX z g h (c + 1) = if pcX z g h c < z 16 then offX (FX z g h c).1 (FX z g h c).2 (pcX z g h c) else FX z g h c := fI_s _ _ _ _ hc
theorem FX_keepN (z : Nat → Int) (g : Nat → Int → Int) (h : Int) : ∀ c : Nat, ((FX z g h c).1 0 = z 0 ∧ (FX z g h c).1 16 = z 16 ∧ (FX z g h c).2 13 = g 13 ∧ (FX z g h c).2 16 = g 16 ∧ (FX z g h c).2 17 = g 17) ∧ ∀ j, (FX z g h c).2 18 j = g 18 j ∨ ∃ i : Int, 0 ≤ i ∧ i < c ∧ pcX z g h i = j ∧ j < z 16
  | 0 => ⟨⟨rfl, rfl, rfl, rfl, rfl⟩, fun _ => Or.inl rfl⟩
  | c + 1 => by
    obtain ⟨⟨a1, a2, a3, a4, a5⟩, a6⟩ := FX_keepN z g h c
    have e : ((c + 1 : Nat) : Int) = (c : Int) + 1 := by omega
    rw [e, FX_s z g h (by omega)]
    by_cases q : pcX z g h c < z 16
    · rw [if_pos q]
      refine ⟨⟨by rw [offX_z (by decide)]; exact a1, by rw [offX_z (by decide)]; exact a2, by rw [offX_g (by decide)]; exact a3, by rw [offX_g (by decide)]; exact a4, by rw [offX_g (by decide)]; exact a5⟩, fun j => ?_⟩
      by_cases e2 : j = pcX z g h c
      · exact Or.inr ⟨c, by omega, by omega, e2.symm, by omega⟩
      · rw [offX_18 e2]
        rcases a6 j with b | ⟨i, b1, b2, b3⟩
        · exact Or.inl b
        · exact Or.inr ⟨i, b1, by omega, b3⟩
    · rw [if_neg q]
      refine ⟨⟨a1, a2, a3, a4, a5⟩, fun j => ?_⟩
      rcases a6 j with b | ⟨i, b1, b2, b3⟩
      · exact Or.inl b
      · exact Or.inr ⟨i, b1, by omega, b3⟩
theorem FX_keep (z : Nat → Int) (g : Nat → Int → Int) (h : Int) {c : Int} (hc : 0 ≤ c) : ((FX z g h c).1 0 = z 0 ∧ (FX z g h c).1 16 = z 16 ∧ (FX z g h c).2 13 = g 13 ∧ (FX z g h c).2 16 = g 16 ∧ (FX z g h c).2 17 = g 17) ∧ ∀ j, (FX z g h c).2 18 j = g 18 j ∨ ∃ i : Int, 0 ≤ i ∧ i < c ∧ pcX z g h i = j ∧ j < z 16 := by
  have := FX_keepN z g h c.toNat
  rw [Int.toNat_of_nonneg hc] at this
  exact this
noncomputable abbrev frX (z : Nat → Int) (g : Nat → Int → Int) (h r q : Int) : Int := fromR (g 13) (wX g h) (z 16) r q
def InvX (z0 : Nat → Int) (g0 : Nat → Int → Int) (h c : Int) (z : Nat → Int) (g : Nat → Int → Int) : Prop :=
  z = (FX z0 g0 h c).1 ∧ (∀ k : Nat, k < 45 → k ≠ 44 → g k = (FX z0 g0 h c).2 k) ∧ ∀ q, 0 ≤ q → q < 8 → g 44 q = if (q - z0 0) % 8 < c % 8 then frX z0 g0 h (c / 8 + 1) q else frX z0 g0 h (c / 8) q
theorem InvX_next {z0 z : Nat → Int} {g0 g : Nat → Int → Int} {h c v : Int} (hc : 0 ≤ c) (hn : 0 ≤ z0 16) (hI : InvX z0 g0 h c z g) (hv : isNO g (z 16) ((z0 0 + c % 8) % 8) h (g 44 ((z0 0 + c % 8) % 8)) v) : v = pcX z0 g0 h c := by
  obtain ⟨i1, i2, i3⟩ := hI
  obtain ⟨⟨k1, k2, k3, k4, k5⟩, k6⟩ := FX_keep z0 g0 h hc
  have ez : z 16 = z0 16 := by rw [i1]; exact k2
  have e13 : g 13 = g0 13 := (i2 13 (by decide) (by decide)).trans k3
  have e16 : g 16 = g0 16 := (i2 16 (by decide) (by decide)).trans k4
  have e17 : g 17 = g0 17 := (i2 17 (by decide) (by decide)).trans k5
  have e18 := i2 18 (by decide) (by decide)
  have hf := i3 ((z0 0 + c % 8) % 8) (by omega) (by omega)
  rw [if_neg (by omega)] at hf
  have key : ∀ j, frX z0 g0 h (c / 8) ((z0 0 + c % 8) % 8) ≤ j → j < z0 16 → (noP g ((z0 0 + c % 8) % 8) h j ↔ (wX g0 h j = 1 ∧ g0 13 j = (z0 0 + c % 8) % 8)) := by
    intro j h1 h2
    have hfc := fromR_c (gr := g0 13) (w := wX g0 h) (n := z0 16) (r := c / 8) (q := (z0 0 + c % 8) % 8) (by omega) hn (Int.le_trans h1 (by omega))
    have hj0 : 0 ≤ j := Int.le_trans hfc.1 h1
    unfold noP
    rw [e13, e16, e17, e18, wX_1]
    by_cases q13 : g0 13 j = (z0 0 + c % 8) % 8
    · have es : (FX z0 g0 h c).2 18 j = g0 18 j := by
        rcases k6 j with b | ⟨i, b1, b2, b3, b4⟩
        · exact b
        · exfalso
          unfold pcX pkc at b3
          rcases pk_is (g0 13) (wX g0 h) (z0 16) (i / 8) ((z0 0 + i % 8) % 8) with ⟨p1, p2, p3, p4, p5⟩ | ⟨p1, p2⟩
          · rw [b3] at p1 p2 p3 p4 p5
            have hq : (z0 0 + i % 8) % 8 = (z0 0 + c % 8) % 8 := by omega
            have hr : i / 8 < c / 8 := by omega
            have hm := cG_le (g0 13) (wX g0 h) ((z0 0 + c % 8) % 8) hfc.1 h1
            rw [hq] at p5
            have hfc2 := hfc.2
            omega
          · omega
      rw [es]
      constructor
      · intro q; exact ⟨⟨q.2.1, q.2.2.1, q.2.2.2⟩, q13⟩
      · intro q; exact ⟨q13, q.1.1, q.1.2.1, q.1.2.2⟩
    · constructor
      · intro q; exact absurd q.1 q13
      · intro q; exact absurd q.2 q13
  unfold isNO at hv
  rw [ez, hf] at hv
  refine pk_next (by omega) hn ?_
  rcases hv with ⟨h1, h2, h3, h4⟩ | ⟨h1, h2⟩
  · exact Or.inl ⟨h1, h2, (key v h1 h2).mp h3, fun j a1 a2 a3 => h4 j a1 a2 ((key j a1 (by omega)).mpr a3)⟩
  · exact Or.inr ⟨h1, fun j a1 a2 a3 => h2 j a1 a2 ((key j a1 a2).mpr a3)⟩
theorem InvX_44 {z0 z : Nat → Int} {g0 g : Nat → Int → Int} {h c : Int} (hc : 0 ≤ c) (i3 : ∀ q, 0 ≤ q → q < 8 → g 44 q = if (q - z0 0) % 8 < c % 8 then frX z0 g0 h (c / 8 + 1) q else frX z0 g0 h (c / 8) q) : ∀ q, 0 ≤ q → q < 8 → uI (g 44) ((z0 0 + c % 8) % 8) (pcX z0 g0 h c + 1) q = if (q - z0 0) % 8 < (c + 1) % 8 then frX z0 g0 h ((c + 1) / 8 + 1) q else frX z0 g0 h ((c + 1) / 8) q := by
  intro q h1 h2
  by_cases e : q = (z0 0 + c % 8) % 8
  · have e2 : pcX z0 g0 h c + 1 = frX z0 g0 h (c / 8 + 1) q := by
      unfold frX fromR pcX pkc
      rw [if_neg (by omega), e, show c / 8 + 1 - 1 = c / 8 by omega]
    rw [← e, uI_s, e2]
    by_cases q8 : c % 8 = 7
    · rw [if_neg (by omega), show (c + 1) / 8 = c / 8 + 1 by omega]
    · rw [if_pos (by omega), show (c + 1) / 8 = c / 8 by omega]
  · rw [uI_n _ _ e, i3 q h1 h2]
    by_cases q8 : c % 8 = 7
    · rw [if_pos (by omega), if_neg (by omega), show (c + 1) / 8 = c / 8 + 1 by omega]
    · rw [show (c + 1) / 8 = c / 8 by omega]
      by_cases q9 : (q - z0 0) % 8 < c % 8
      · rw [if_pos q9, if_pos (by omega)]
      · rw [if_neg q9, if_neg (by omega)]
theorem InvX_skip {z0 z : Nat → Int} {g0 g : Nat → Int → Int} {h c : Int} (hc : 0 ≤ c) (hI : InvX z0 g0 h c z g) (hp : ¬ pcX z0 g0 h c < z0 16) : InvX z0 g0 h (c + 1) z (uZ g 44 (uI (g 44) ((z0 0 + c % 8) % 8) (pcX z0 g0 h c + 1))) := by
  obtain ⟨i1, i2, i3⟩ := hI
  refine ⟨by rw [FX_s z0 g0 h hc, if_neg hp]; exact i1, fun k h1 h2 => ?_, ?_⟩
  · rw [uZ_n _ _ h2, FX_s z0 g0 h hc, if_neg hp]
    exact i2 k h1 h2
  · rw [uZ_s]
    exact InvX_44 (z := z) hc i3
theorem InvX_off {z0 z : Nat → Int} {g0 g : Nat → Int → Int} {h c : Int} (hc : 0 ≤ c) (hI : InvX z0 g0 h c z g) (hp : pcX z0 g0 h c < z0 16) : InvX z0 g0 h (c + 1) (offX z (uZ g 44 (uI (g 44) ((z0 0 + c % 8) % 8) (pcX z0 g0 h c + 1))) (pcX z0 g0 h c)).1 (offX z (uZ g 44 (uI (g 44) ((z0 0 + c % 8) % 8) (pcX z0 g0 h c + 1))) (pcX z0 g0 h c)).2 := by
  obtain ⟨i1, i2, i3⟩ := hI
  have hcg := offX_cg (z := z) (g := uZ g 44 (uI (g 44) ((z0 0 + c % 8) % 8) (pcX z0 g0 h c + 1))) (k := (FX z0 g0 h c).2) (j := pcX z0 g0 h c) (fun k h1 h2 => by rw [uZ_n _ _ h2]; exact i2 k h1 h2)
  unfold InvX
  rw [FX_s z0 g0 h hc, if_pos hp, ← i1]
  refine ⟨hcg.1, hcg.2, ?_⟩
  rw [offX_g (by decide), uZ_s]
  exact InvX_44 (z := z) hc i3
/-- what a round tells: whether one was offered -/
def flX (z0 : Nat → Int) (g0 : Nat → Int → Int) (h c t b : Int) : Prop := (b = 0 ∧ ∀ i, c ≤ i → i < c + t → ¬ pcX z0 g0 h i < z0 16) ∨ (b = 1 ∧ ∃ i, c ≤ i ∧ i < c + t ∧ pcX z0 g0 h i < z0 16)
theorem flX_no {z0 : Nat → Int} {g0 : Nat → Int → Int} {h c t b : Int} (hf : flX z0 g0 h c t b) (hp : ¬ pcX z0 g0 h (c + t) < z0 16) : flX z0 g0 h c (t + 1) b := by
  rcases hf with ⟨h1, h2⟩ | ⟨h1, i, h2, h3, h4⟩
  · refine Or.inl ⟨h1, fun i a1 a2 => ?_⟩
    by_cases e : i = c + t
    · rw [e]; exact hp
    · exact h2 i a1 (by omega)
  · exact Or.inr ⟨h1, i, h2, by omega, h4⟩
theorem flX_yes {z0 : Nat → Int} {g0 : Nat → Int → Int} {h c t : Int} (ht : 0 ≤ t) (hp : pcX z0 g0 h (c + t) < z0 16) : flX z0 g0 h c (t + 1) 1 := Or.inr ⟨rfl, c + t, by omega, by omega, hp⟩

abbrev rm_X9_offerRound : Room := { frames := 3, cells := 0, slots := 0, locals := 79 }
set_option maxHeartbeats 4000000 in
set_option maxRecDepth 100000 in
theorem ct_X9_offerRound (l : Launch) (D : va_G) (cy : Nat → ClassId) (a : Nat → Nat) (z : Nat → Int) (g : Nat → Int → Int) (z0 : Nat → Int) (g0 : Nat → Int → Int) (rr p0 : Int) (hz : xBz z) (hg : xBg g) (h0 : 0 ≤ p0 ∧ p0 < 4) (hr : 0 ≤ rr ∧ rr < 100) (hbz : xBz z0) (hI : InvX z0 g0 p0 (8 * rr) z g) : MI l yX9_offerRound cX9_offerRound 6 .boolean (rm_X9_offerRound) D cy (xw cy a z g) [.ref (a 0), vI p0] (fun (v : Int) (u : sX) => (((v = 0 ∨ v = 1) ∧ flX z0 g0 p0 (8 * rr) 8 v) ∧ InvX z0 g0 p0 (8 * rr + 8) u.1 u.2) ∧ xBz u.1 ∧ xBg u.2) (fun u => xw cy a u.1 u.2) 0 0 := by
  refine go_i (by decide +kernel) (Nat.le_of_ble_eq_true rfl) (Or.inr (fun v u h => nb01 (by rcases h.1.1 with q | q <;> omega))) ?_
  intro p e s m args below meth c Q A ls C hnm hA w hl hend
  have hx := C.1
  have hb := C.2.1
  have bz00 := xZ0 hbz
  have bz016 := xZ16 hbz
  have J4 : ∀ N : Nat, ∀ (o2 : Int) (t3 : Int) (z4 : Nat → Int) (g4 : Nat → Int → Int), (xBz z4) → (xBg g4) → (0 ≤ t3 ∧ t3 ≤ 8) → (InvX z0 g0 p0 (8 * rr + t3) z4 g4) → (flX z0 g0 p0 (8 * rr) t3 o2) → (o2 = 0 ∨ o2 = 1) → ((8 - t3).toNat) < N → ∀ (H : Heap) (locs : List Loc) (ls : Array Slot), wd D A s.heap (xw cy a z4 g4) H locs → lv_has ls 6 [(0, .ref (a 0)), (1, vI p0), (2, vI o2), (3, vI t3)] → W p l e (rm_X9_offerRound) s m args below meth c H locs 0 0 Q (F0 m 4 ls []) := by
    intro N
    induction N with
    | zero => intro o2 t3 z4 g4 hz4 hg4 ht3 hI4 hfl ho2 hN9; exact absurd hN9 (Nat.not_lt_zero _)
    | succ N ih4 =>
      intro o2 t3 z4 g4 hz4 hg4 ht3 hI4 hfl ho2 hN4 H locs ls w hl
      have hk4 := FX_keep z0 g0 p0 (c := (8 * rr + t3)) (by omega)
      have ez0 : z4 0 = z0 0 := by rw [hI4.1]; exact hk4.1.1
      have ez16 : z4 16 = z0 16 := by rw [hI4.1]; exact hk4.1.2.1
      have em8 : (8 * rr + t3) % 8 = t3 % 8 := by omega
      refine lv_iload_n hx hb dX9_offerRound_4 rfl (lv_at hl 3 rfl) ?_
      refine r_bipush hx hb dX9_offerRound_5 (by decide) ?_
      refine r_icmp_ge (tgt := 77) hx hb dX9_offerRound_7 (by decide) (by omega) (by omega) (fun c7 => ?_) (fun c7 => ?_)
      · skip
        refine lv_iload_n hx hb dX9_offerRound_77 rfl (lv_at hl 2 rfl) ?_
        exact hend o2 (z4, g4) _ _ _ _ dX9_offerRound_78 w ⟨(by rw [show t3 = 8 by omega] at hfl hI4; exact ⟨⟨ho2, hfl⟩, hI4⟩), hz4, hg4⟩
      · skip
        have egr : (z4 0 + t3) % 8 = (z0 0 + (8 * rr + t3) % 8) % 8 := by omega
        refine lv_aload_n hx hb dX9_offerRound_10 rfl (lv_at hl 0 rfl) ?_
        refine r_get C w 0 (v := vI (z4 0)) rfl rfl 10 (by decide) inX9 kf_X9_82 rfl dX9_offerRound_11 ?_
        have qz1 := xZ0 hz4
        refine lv_iload_n hx hb dX9_offerRound_14 rfl (lv_at hl 3 rfl) ?_
        refine r_iadd hx hb dX9_offerRound_15 ?_
        refine r_bipush hx hb dX9_offerRound_16 (by decide) ?_
        refine r_irem hx hb dX9_offerRound_18 (by omega) (by omega) ?_
        refine lv_istore (lv' := [(4, vI (((z4 0) + t3) % 8)), (0, .ref (a 0)), (1, vI p0), (2, vI o2), (3, vI t3)]) hx hb dX9_offerRound_19 hl (by decide) rfl (fun ls hl => ?_)
        refine lv_aload_n hx hb dX9_offerRound_21 rfl (lv_at hl 1 rfl) ?_
        refine r_get C w 0 (v := .ref (a 12)) rfl rfl 3 (by decide) inX9 kf_X9_35 rfl dX9_offerRound_22 ?_
        refine lv_iload hx hb dX9_offerRound_25 (lv_at hl 0 rfl) ?_
        refine lv_iload_n hx hb dX9_offerRound_27 rfl (lv_at hl 2 rfl) ?_
        refine lv_aload_n hx hb dX9_offerRound_28 rfl (lv_at hl 1 rfl) ?_
        refine r_get C w 0 (v := .ref (a 44)) rfl rfl 9 (by decide) inX9 kf_X9_78 rfl dX9_offerRound_29 ?_
        refine lv_iload hx hb dX9_offerRound_32 (lv_at hl 0 rfl) ?_
        refine r_iald C w 44 (f := (g4 44)) rfl (by omega) (by omega) (by decide) dX9_offerRound_34 ?_
        have qg2 := xB44 hg4 (((z4 0) + t3) % 8)
        refine cVI C w hA (ct_X2_nextOffered l D cy a z4 g4 (((z4 0) + t3) % 8) p0 ((g4 44) (((z4 0) + t3) % 8)) hz4 hg4 (by show iR (((z4 0) + t3) % 8); omega) (by show iR p0; omega) (by show 0 ≤ ((g4 44) (((z4 0) + t3) % 8)) ∧ ((g4 44) (((z4 0) + t3) % 8)) ≤ 101; omega)) ok_X2_nextOffered km_X9_262 ⟨rfl, rfl⟩ ⟨by decide, by decide⟩ ⟨by decide, by decide⟩ rfl 12 rfl rfl hl.1 rfl (Nat.le_of_ble_eq_true rfl) dX9_offerRound_35 (fun rv_1 uv_1 H locs w hp_1 => ?_)
        replace w : wd D A s.heap (xw cy a z4 g4) H locs := w
        have hnx : rv_1 = pcX z0 g0 p0 (8 * rr + t3) := InvX_next (by omega) bz016.1 hI4 (by rw [← egr]; exact hp_1)
        have hnb : 0 ≤ rv_1 ∧ rv_1 ≤ z0 16 := by rw [hnx]; exact pk_b _ _ bz016.1
        refine lv_istore (lv' := [(5, vI rv_1), (4, vI (((z4 0) + t3) % 8)), (0, .ref (a 0)), (1, vI p0), (2, vI o2), (3, vI t3)]) hx hb dX9_offerRound_38 hl (by decide) rfl (fun ls hl => ?_)
        refine lv_aload_n hx hb dX9_offerRound_40 rfl (lv_at hl 2 rfl) ?_
        refine r_get C w 0 (v := .ref (a 44)) rfl rfl 9 (by decide) inX9 kf_X9_78 rfl dX9_offerRound_41 ?_
        refine lv_iload hx hb dX9_offerRound_44 (lv_at hl 1 rfl) ?_
        refine lv_iload hx hb dX9_offerRound_46 (lv_at hl 0 rfl) ?_
        refine r_iconst hx hb dX9_offerRound_48 ?_
        refine r_iadd hx hb dX9_offerRound_49 ?_
        refine r_iast C w 44 (f := (g4 44)) rfl (by omega) (by omega) (by decide) (ws' := xw cy a z4 (uZ g4 44 (uI (g4 44) (((z4 0) + t3) % 8) (rv_1 + 1)))) (xw_g44 cy a z4 g4 (uI (g4 44) (((z4 0) + t3) % 8) (rv_1 + 1))) dX9_offerRound_50 (fun H locs w => ?_)
        have bg3 : ∀ j : Int, (0 : Int) ≤ (uI (g4 44) (((z4 0) + t3) % 8) (rv_1 + 1)) j ∧ (uI (g4 44) (((z4 0) + t3) % 8) (rv_1 + 1)) j ≤ 101 := uI_b (xB44 hg4) (by omega)
        refine lv_iload hx hb dX9_offerRound_51 (lv_at hl 0 rfl) ?_
        refine lv_aload_n hx hb dX9_offerRound_53 rfl (lv_at hl 2 rfl) ?_
        refine r_get C w 0 (v := .ref (a 12)) rfl rfl 3 (by decide) inX9 kf_X9_35 rfl dX9_offerRound_54 ?_
        refine r_getN C w 12 (v := vI (z4 16)) rfl rfl 7 (by decide) inX2 kt_X9_119 rfl dX9_offerRound_57 ?_
        have qz4 := xZ16 hz4
        refine r_icmp_ge (tgt := 71) hx hb dX9_offerRound_60 (by decide) (by omega) (by omega) (fun c60 => ?_) (fun c60 => ?_)
        · skip
          refine r_iinc (lv' := [(3, vI (t3 + 1)), (5, vI rv_1), (4, vI (((z4 0) + t3) % 8)), (0, .ref (a 0)), (1, vI p0), (2, vI o2)]) hx hb dX9_offerRound_71 hl (k := 5) rfl (by decide) rfl (fun ls hl => ?_)
          refine lv_goto (tgt := 4) hx hb dX9_offerRound_74 (by decide) ?_
          exact ih4 o2 (t3 + 1) z4 (uZ g4 44 (uI (g4 44) (((z4 0) + t3) % 8) (rv_1 + 1))) hz4 (xBg_u hg4 44 bg3) (by omega) (by rw [show 8 * rr + (t3 + 1) = (8 * rr + t3) + 1 by omega]; first | (have hoff2 := InvX_off (by omega) hI4 (by rw [← hnx]; omega); rw [← hnx, ← egr] at hoff2; rw [← hoff] at hoff2; exact hoff2) | (have hsk2 := InvX_skip (by omega) hI4 (by rw [← hnx]; omega); rw [← hnx, ← egr] at hsk2; exact hsk2)) (by first | exact flX_yes ht3.1 (by rw [← hnx]; omega) | exact flX_no hfl (by rw [← hnx]; omega)) (by omega) (by omega) _ _ _ w (lv_sub hl [3, 4, 5, 0] rfl)
        · skip
          refine lv_aload_n hx hb dX9_offerRound_63 rfl (lv_at hl 2 rfl) ?_
          refine lv_iload hx hb dX9_offerRound_64 (lv_at hl 0 rfl) ?_
          refine cVV C w hA (ct_X9_offerLot l D cy a z4 (uZ g4 44 (uI (g4 44) (((z4 0) + t3) % 8) (rv_1 + 1))) rv_1 hz4 (xBg_u hg4 44 bg3) (by show 0 ≤ rv_1 ∧ rv_1 < 100; omega)) ok_X9_offerLot km_X9_265 ⟨rfl, rfl⟩ ⟨by decide, by decide⟩ ⟨by decide, by decide⟩ rfl 0 rfl rfl hl.1 rfl (Nat.le_of_ble_eq_true rfl) dX9_offerRound_66 (fun uv_2 H locs w hp_2 => ?_)
          obtain ⟨zc_2, gc_2⟩ := uv_2
          obtain ⟨hp_2, hzc_2, hgc_2⟩ := hp_2
          replace w : wd D A s.heap (xw cy a zc_2 gc_2) H locs := w
          replace hzc_2 : xBz zc_2 := hzc_2
          replace hgc_2 : xBg gc_2 := hgc_2
          try dsimp only at hp_2
          have hoff := hp_2
          refine r_iconst hx hb dX9_offerRound_69 ?_
          refine lv_istore_n (lv' := [(2, vI 1), (5, vI rv_1), (4, vI (((z4 0) + t3) % 8)), (0, .ref (a 0)), (1, vI p0), (3, vI t3)]) hx hb dX9_offerRound_70 rfl hl (by decide) rfl (fun ls hl => ?_)
          refine r_iinc (lv' := [(3, vI (t3 + 1)), (2, vI 1), (5, vI rv_1), (4, vI (((z4 0) + t3) % 8)), (0, .ref (a 0)), (1, vI p0)]) hx hb dX9_offerRound_71 hl (k := 5) rfl (by decide) rfl (fun ls hl => ?_)
          refine lv_goto (tgt := 4) hx hb dX9_offerRound_74 (by decide) ?_
          exact ih4 1 (t3 + 1) zc_2 gc_2 hzc_2 hgc_2 (by omega) (by rw [show 8 * rr + (t3 + 1) = (8 * rr + t3) + 1 by omega]; first | (have hoff2 := InvX_off (by omega) hI4 (by rw [← hnx]; omega); rw [← hnx, ← egr] at hoff2; rw [← hoff] at hoff2; exact hoff2) | (have hsk2 := InvX_skip (by omega) hI4 (by rw [← hnx]; omega); rw [← hnx, ← egr] at hsk2; exact hsk2)) (by first | exact flX_yes ht3.1 (by rw [← hnx]; omega) | exact flX_no hfl (by rw [← hnx]; omega)) (by omega) (by omega) _ _ _ w (lv_sub hl [4, 5, 1, 0] rfl)
  replace hl : lv_has ls 6 [(0, .ref (a 0)), (1, vI p0)] := hl
  refine r_iconst hx hb dX9_offerRound_0 ?_
  refine lv_istore_n (lv' := [(2, vI 0), (0, .ref (a 0)), (1, vI p0)]) hx hb dX9_offerRound_1 rfl hl (by decide) rfl (fun ls hl => ?_)
  refine r_iconst hx hb dX9_offerRound_2 ?_
  refine lv_istore_n (lv' := [(3, vI 0), (2, vI 0), (0, .ref (a 0)), (1, vI p0)]) hx hb dX9_offerRound_3 rfl hl (by decide) rfl (fun ls hl => ?_)
  exact J4 _ 0 0 z g hz hg (by omega) (by rw [Int.add_zero]; exact hI) (by exact Or.inl ⟨rfl, fun i h1 h2 => absurd h2 (by omega)⟩) (by omega) (Nat.lt_succ_self _) _ _ _ w (lv_sub hl [2, 3, 1, 0] rfl)
