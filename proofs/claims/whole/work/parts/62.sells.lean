/-! auctions of both sides go alike -/
theorem er_X {z y : Nat → Int} {g kk : Nat → Int → Int} (hR : Rel z g y kk) {k : Int} (hb : 0 ≤ g 15 k ∧ g 15 k ≤ 3) : g 4 (g 15 k) = kk 2 (0 + kk 7 k) := by
  obtain ⟨s0, s1, s2, s5, s16, s17, s20, s3, s4, t2, t4, t5, t43, r13, r14, r15, r16, r17, r18, r19, r21, r22, r23, r24, r25, r26, r29, r30, r31, r32⟩ := hR
  rw [t4 _ hb.1 (by omega), r15, Int.zero_add]
theorem pl_X {z y : Nat → Int} {g kk : Nat → Int → Int} (hR : Rel z g y kk) (k b : Int) : plX g k b = plM kk k b := by
  obtain ⟨s0, s1, s2, s5, s16, s17, s20, s3, s4, t2, t4, t5, t43, r13, r14, r15, r16, r17, r18, r19, r21, r22, r23, r24, r25, r26, r29, r30, r31, r32⟩ := hR
  show (b * 4 + g 17 k) * 4 + g 15 k = 16 * b + 4 * kk 9 k + kk 7 k
  rw [← r17, ← r15]
  omega
theorem lm_X {z y : Nat → Int} {g kk : Nat → Int → Int} (hR : Rel z g y kk) {k : Int} (hb : 0 ≤ g 15 k ∧ g 15 k ≤ 3) : lmX g k = lmM kk k := by
  funext b
  have ep := pl_X hR k b
  have er := er_X hR hb
  obtain ⟨s0, s1, s2, s5, s16, s17, s20, s3, s4, t2, t4, t5, t43, r13, r14, r15, r16, r17, r18, r19, r21, r22, r23, r24, r25, r26, r29, r30, r31, r32⟩ := hR
  unfold lmX lmM
  show (if (g 16 k ≤ g 31 (plX g k b) ∧ 1 ≤ g 32 (plX g k b) ∧ g 4 (g 15 k) ≤ g 32 (plX g k b) ∧ g 32 (plX g k b) * g 16 k ≤ g 30 b) then g 32 (plX g k b) else 0) = if (kk 8 k ≤ kk 14 (plM kk k b) ∧ 1 ≤ kk 15 (plM kk k b) ∧ kk 2 (0 + kk 7 k) ≤ kk 15 (plM kk k b) ∧ kk 15 (plM kk k b) * kk 8 k ≤ kk 13 b) then kk 15 (plM kk k b) else 0
  rw [ep, er, r16, r31, r32, r30]
theorem off_X {z y : Nat → Int} {g kk : Nat → Int → Int} (hR : Rel z g y kk) {k : Int} (hb : 0 ≤ g 15 k ∧ g 15 k ≤ 3) : (offX z g k = (z, g) ∧ offM y kk k = (y, kk)) ∨ ∃ w p, offX z g k = sellX z g k w p ∧ offM y kk k = sellM y kk k w p := by
  have el := lm_X hR hb
  have er := er_X hR hb
  have e17 : z 17 = y 13 := by
    obtain ⟨s0, s1, s2, s5, s16, s17, s20, s3, s4, t2, t4, t5, t43, r13, r14, r15, r16, r17, r18, r19, r21, r22, r23, r24, r25, r26, r29, r30, r31, r32⟩ := hR
    exact s17
  unfold offX offM
  rw [el, ← e17]
  by_cases c : 400 ≤ z 17 ∨ (bI (lmM kk k) 10).1 < 0
  · rw [if_pos c, if_pos c]
    exact Or.inl ⟨rfl, rfl⟩
  · rw [if_neg c, if_neg c]
    refine Or.inr ⟨_, _, rfl, ?_⟩
    unfold prX prM
    rw [er]
theorem sell_X {z y : Nat → Int} {g kk : Nat → Int → Int} (hR : Rel z g y kk) (k w p : Int) : Rel (sellX z g k w p).1 (sellX z g k w p).2 (sellM y kk k w p).1 (sellM y kk k w p).2 := by
  have ep := pl_X hR k w
  obtain ⟨s0, s1, s2, s5, s16, s17, s20, s3, s4, t2, t4, t5, t43, r13, r14, r15, r16, r17, r18, r19, r21, r22, r23, r24, r25, r26, r29, r30, r31, r32⟩ := hR
  refine ⟨s0, s1, s2, s5, s16, ?_, s20, s3, s4, t2, t4, t5, t43, r13, r14, r15, r16, r17, ?_, ?_, ?_, ?_, ?_, ?_, ?_, ?_, r29, ?_, ?_, r32⟩
  · show z 17 + 1 = y 13 + 1
    omega
  · show uI (g 18) k 1 = uI (kk 11) k 1
    rw [r18]
  · show uI (g 19) k (z 17) = uI (kk 10) k (y 13)
    rw [r19, s17]
  · show uI (g 21) (z 17) k = uI (kk 16) (y 13) k
    rw [r21, s17]
  · show uI (g 22) (z 17) w = uI (kk 17) (y 13) w
    rw [r22, s17]
  · show uI (g 23) (z 17) (z 0) = uI (kk 18) (y 13) (y 12)
    rw [r23, s17, s0]
  · show uI (g 24) (z 17) (g 16 k) = uI (kk 19) (y 13) (kk 8 k)
    rw [r24, s17, r16]
  · show uI (g 25) (z 17) p = uI (kk 20) (y 13) p
    rw [r25, s17]
  · show uI (g 26) (z 17) (-1) = uI (kk 21) (y 13) (-1)
    rw [r26, s17]
  · show uI (g 30) w (g 30 w - g 16 k * p) = uI (kk 13) w (kk 13 w - p * kk 8 k)
    rw [r30, r16, Int.mul_comm]
  · show uI (g 31) (plX g k w) (g 31 (plX g k w) - g 16 k) = uI (kk 14) (plM kk k w) (kk 14 (plM kk k w) - kk 8 k)
    rw [ep, r31, r16]
theorem hi_sell {z : Nat → Int} {g : Nat → Int → Int} (hI : HI z g) {k : Int} (w p : Int) (h0 : 0 ≤ k) (h1 : k < z 16) (hs : g 18 k = 0) (h17 : 0 ≤ z 17) (hz0 : 0 ≤ z 0) : HI (sellX z g k w p).1 (sellX z g k w p).2 := by
  obtain ⟨i1, i2, i3, i4, i5, i6, i7, i8, i9⟩ := hI
  have j4 := i4 k h0 h1
  have j6 := i6 k h0 h1 hs
  have e27 : ∀ s, s ≠ (z 17) → s ≠ g 19 k → (if g 19 k = -1 then uI (g 27) (z 17) (-1) else uI (uI (g 27) (z 17) (-1)) (g 19 k) (z 17)) s = g 27 s := by
    intro s a1 a2
    split
    · rw [uI_n _ _ a1]
    · rw [uI_n _ _ a2, uI_n _ _ a1]
  have f27 : (if g 19 k = -1 then uI (g 27) (z 17) (-1) else uI (uI (g 27) (z 17) (-1)) (g 19 k) (z 17)) (z 17) = -1 := by
    split
    · rw [uI_s]
    · rw [uI_n _ _ (by omega), uI_s]
  have l27 : g 19 k ≠ -1 → (if g 19 k = -1 then uI (g 27) (z 17) (-1) else uI (uI (g 27) (z 17) (-1)) (g 19 k) (z 17)) (g 19 k) = (z 17) := by
    intro a1
    rw [if_neg a1, uI_s]
  generalize hf : (if g 19 k = -1 then uI (g 27) (z 17) (-1) else uI (uI (g 27) (z 17) (-1)) (g 19 k) (z 17)) = f at e27 f27 l27
  have key : (∀ s, 0 ≤ s → s < (z 17) + 1 → uI (g 21) (z 17) k s < z 16) ∧ (∀ i j, 0 ≤ i → i < j → j < (z 17) + 1 → uI (g 23) (z 17) (z 0) i ≤ uI (g 23) (z 17) (z 0) j) ∧ (∀ s, 0 ≤ s → s < (z 17) + 1 → uI (g 23) (z 17) (z 0) s ≤ z 0)
      ∧ (∀ q, 0 ≤ q → q < z 16 → (uI (g 19) k (z 17) q = -1 ∧ ∀ s, 0 ≤ s → s < (z 17) + 1 → uI (g 21) (z 17) k s ≠ q) ∨ (0 ≤ uI (g 19) k (z 17) q ∧ uI (g 19) k (z 17) q < (z 17) + 1 ∧ uI (g 21) (z 17) k (uI (g 19) k (z 17) q) = q ∧ ∀ s, uI (g 19) k (z 17) q < s → s < (z 17) + 1 → uI (g 21) (z 17) k s ≠ q))
      ∧ (∀ q, z 16 ≤ q → uI (g 18) k 1 q = 0) ∧ (∀ q, 0 ≤ q → q < z 16 → uI (g 18) k 1 q = 0 → uI (g 19) k (z 17) q = -1 ∨ uI (g 26) (z 17) (-1) (uI (g 19) k (z 17) q) ≠ -1)
      ∧ (∀ s, 0 ≤ s → s < (z 17) + 1 → isNx (uI (g 21) (z 17) k) ((z 17) + 1) s (f s)) ∧ (∀ s, 0 ≤ s → s < (z 17) + 1 → f s ≠ -1 → uI (g 26) (z 17) (-1) s ≠ -1 ∧ uI (g 26) (z 17) (-1) s ≤ uI (g 23) (z 17) (z 0) (f s)) ∧ (∀ s, 0 ≤ s → s < (z 17) + 1 → uI (g 26) (z 17) (-1) s ≤ z 0) := by
    refine ⟨fun s a1 a2 => ?_, fun i j a1 a2 a3 => ?_, fun s a1 a2 => ?_, fun q a1 a2 => ?_, fun q a1 => ?_, fun q a1 a2 a3 => ?_, fun s a1 a2 => ?_, fun s a1 a2 a3 => ?_, fun s a1 a2 => ?_⟩
    · by_cases e : s = (z 17)
      · rw [e, uI_s]; exact h1
      · rw [uI_n _ _ e]; exact i1 s a1 (by omega)
    · rw [uI_n _ _ (show i ≠ (z 17) by omega)]
      by_cases e : j = (z 17)
      · rw [e, uI_s]; exact i3 i a1 (by omega)
      · rw [uI_n _ _ e]; exact i2 i j a1 a2 (by omega)
    · by_cases e : s = (z 17)
      · rw [e, uI_s]; exact Int.le_refl _
      · rw [uI_n _ _ e]; exact i3 s a1 (by omega)
    · by_cases e : q = k
      · rw [e, uI_s, uI_s]
        exact Or.inr ⟨h17, by omega, rfl, fun s b1 b2 => by omega⟩
      · rw [uI_n _ _ e]
        rcases i4 q a1 a2 with ⟨c1, c2⟩ | ⟨c1, c2, c3, c4⟩
        · refine Or.inl ⟨c1, fun s b1 b2 => ?_⟩
          by_cases e2 : s = (z 17)
          · rw [e2, uI_s]; exact fun z9 => e z9.symm
          · rw [uI_n _ _ e2]; exact c2 s b1 (by omega)
        · refine Or.inr ⟨c1, by omega, by rw [uI_n _ _ (by omega)]; exact c3, fun s b1 b2 => ?_⟩
          by_cases e2 : s = (z 17)
          · rw [e2, uI_s]; exact fun z9 => e z9.symm
          · rw [uI_n _ _ e2]; exact c4 s b1 (by omega)
    · rw [uI_n _ _ (by omega)]; exact i5 q a1
    · have e : q ≠ k := fun e => by rw [e, uI_s] at a3; omega
      rw [uI_n _ _ e] at a3 ⊢
      rcases i6 q a1 a2 a3 with c | c
      · exact Or.inl c
      · rcases i4 q a1 a2 with ⟨c1, c2⟩ | ⟨c1, c2, c3, c4⟩
        · exact Or.inl c1
        · rw [uI_n _ _ (by omega)]
          exact Or.inr c
    · by_cases e : s = (z 17)
      · rw [e, f27]
        exact Or.inr ⟨rfl, fun j b1 b2 => by omega⟩
      · have a4 : s < (z 17) := by omega
        rcases j4 with ⟨d1, d2⟩ | ⟨d1, d2, d3, d4⟩
        · rw [e27 s e (by omega)]
          rcases i7 s a1 a4 with ⟨c1, c2, c3, c4⟩ | ⟨c1, c2⟩
          · refine Or.inl ⟨c1, by omega, ?_, fun j b1 b2 => ?_⟩
            · rw [uI_n _ _ (by omega), uI_n _ _ e]; exact c3
            · rw [uI_n _ _ (by omega), uI_n _ _ e]; exact c4 j b1 b2
          · refine Or.inr ⟨c1, fun j b1 b2 => ?_⟩
            rw [uI_n _ _ e]
            by_cases e2 : j = (z 17)
            · rw [e2, uI_s]; exact fun z9 => d2 s a1 a4 z9.symm
            · rw [uI_n _ _ e2]; exact c2 j b1 (by omega)
        · by_cases e3 : s = g 19 k
          · rw [e3, l27 (by omega)]
            refine Or.inl ⟨d2, by omega, ?_, fun j b1 b2 => ?_⟩
            · rw [uI_s, uI_n _ _ (by omega)]; exact d3.symm
            · rw [uI_n _ _ (by omega), uI_n _ _ (by omega), d3]; exact d4 j b1 b2
          · rw [e27 s e e3]
            rcases i7 s a1 a4 with ⟨c1, c2, c3, c4⟩ | ⟨c1, c2⟩
            · refine Or.inl ⟨c1, by omega, ?_, fun j b1 b2 => ?_⟩
              · rw [uI_n _ _ (by omega), uI_n _ _ e]; exact c3
              · rw [uI_n _ _ (by omega), uI_n _ _ e]; exact c4 j b1 b2
            · refine Or.inr ⟨c1, fun j b1 b2 => ?_⟩
              rw [uI_n _ _ e]
              by_cases e2 : j = (z 17)
              · rw [e2, uI_s]
                intro z9
                rcases Int.lt_trichotomy s (g 19 k) with q | q | q
                · exact c2 _ q d2 (by rw [d3]; exact z9)
                · exact e3 q
                · exact d4 s q a4 z9.symm
              · rw [uI_n _ _ e2]; exact c2 j b1 (by omega)
    · by_cases e : s = (z 17)
      · rw [e] at a3; exact absurd f27 a3
      · have a4 : s < (z 17) := by omega
        rw [uI_n _ _ e]
        by_cases e3 : s = g 19 k
        · have a5 : g 19 k ≠ -1 := by omega
          rw [e3, l27 a5, uI_s]
          refine ⟨?_, by rw [← e3]; exact i9 s a1 a4⟩
          rcases j6 with c | c
          · exact absurd c a5
          · exact c
        · rw [e27 s e e3] at a3 ⊢
          have c := i8 s a1 a4 a3
          rcases i7 s a1 a4 with ⟨c1, c2, c3, c4⟩ | ⟨c1, c2⟩
          · rw [uI_n _ _ (by omega)]
            exact c
          · exact absurd c1 a3
    · by_cases e : s = (z 17)
      · rw [e, uI_s]; omega
      · rw [uI_n _ _ e]; exact i9 s a1 (by omega)
  subst hf
  exact key
theorem pkc_inj {gr w : Int → Int} {n day i j : Int} (h1 : pkc gr w n day i < n) (hi : 0 ≤ i) (hj : 0 ≤ j) (e : pkc gr w n day i = pkc gr w n day j) : i = j := by
  have a := pk_is gr w n (i / 8) ((day + i % 8) % 8)
  have b := pk_is gr w n (j / 8) ((day + j % 8) % 8)
  unfold pkc at h1 e
  rw [← e] at b
  generalize pk gr w n (i / 8) ((day + i % 8) % 8) = v at *
  rcases a with ⟨a1, a2, a3, a4, a5⟩ | ⟨a1, a2⟩
  · rcases b with ⟨b1, b2, b3, b4, b5⟩ | ⟨b1, b2⟩
    · rw [← b4, a4] at b5
      rw [a5] at b5
      omega
    · omega
  · omega

theorem wX_M {z y : Nat → Int} {g kk : Nat → Int → Int} (hR : Rel z g y kk) (h : Int) : wX g h = wM kk h := by
  obtain ⟨s0, s1, s2, s5, s16, s17, s20, s3, s4, t2, t4, t5, t43, r13, r14, r15, r16, r17, r18, r19, r21, r22, r23, r24, r25, r26, r29, r30, r31, r32⟩ := hR
  funext j
  unfold wX wM
  rw [r17, r18, r16]
theorem pc_X {z y : Nat → Int} {g kk : Nat → Int → Int} (hR : Rel z g y kk) (h : Int) : pcX z g h = pcM y kk h := by
  have e := wX_M hR h
  obtain ⟨s0, s1, s2, s5, s16, s17, s20, s3, s4, t2, t4, t5, t43, r13, r14, r15, r16, r17, r18, r19, r21, r22, r23, r24, r25, r26, r29, r30, r31, r32⟩ := hR
  unfold pcX pcM
  rw [e, r13, s16, s0]
theorem au_X {z y : Nat → Int} {g kk : Nat → Int → Int} (hR : Rel z g y kk) (hI : HI z g) (hz : xBz z) (hg : xBg g) (h : Int) : ∀ c : Nat, Rel (fO offX (pcX z g h) (z 16) (z, g) c).1 (fO offX (pcX z g h) (z 16) (z, g) c).2 (fO offM (pcX z g h) (z 16) (y, kk) c).1 (fO offM (pcX z g h) (z 16) (y, kk) c).2 ∧ HI (fO offX (pcX z g h) (z 16) (z, g) c).1 (fO offX (pcX z g h) (z 16) (z, g) c).2 ∧ (fO offX (pcX z g h) (z 16) (z, g) c).1 0 = z 0 ∧ (fO offX (pcX z g h) (z 16) (z, g) c).1 16 = z 16 ∧ 0 ≤ (fO offX (pcX z g h) (z 16) (z, g) c).1 17 ∧ (fO offX (pcX z g h) (z 16) (z, g) c).2 15 = g 15 ∧ ∀ i : Int, c ≤ i → pcX z g h i < z 16 → (fO offX (pcX z g h) (z 16) (z, g) c).2 18 (pcX z g h i) = 0
  | 0 => by
    refine ⟨hR, hI, rfl, rfl, (xZ17 hz).1, rfl, fun i _ hi => ?_⟩
    show g 18 (pcX z g h i) = 0
    rcases pk_is (g 13) (wX g h) (z 16) (i / 8) ((z 0 + i % 8) % 8) with ⟨a1, a2, a3, a4, a5⟩ | ⟨a1, a2⟩
    · replace a3 : wX g h (pcX z g h i) = 1 := a3
      unfold wX at a3
      split at a3
      · next q => exact q.2.1
      · omega
    · replace a1 : pcX z g h i = z 16 := a1
      omega
  | c + 1 => by
    obtain ⟨b1, b2, b3, b4, b5, b6, b7⟩ := au_X hR hI hz hg h c
    have eX : fO offX (pcX z g h) (z 16) (z, g) (c + 1) = if pcX z g h c < z 16 then offX (fO offX (pcX z g h) (z 16) (z, g) c).1 (fO offX (pcX z g h) (z 16) (z, g) c).2 (pcX z g h c) else fO offX (pcX z g h) (z 16) (z, g) c := rfl
    have eM : fO offM (pcX z g h) (z 16) (y, kk) (c + 1) = if pcX z g h c < z 16 then offM (fO offM (pcX z g h) (z 16) (y, kk) c).1 (fO offM (pcX z g h) (z 16) (y, kk) c).2 (pcX z g h c) else fO offM (pcX z g h) (z 16) (y, kk) c := rfl
    rw [eX, eM]
    have q0 := (xZ0 hz).1
    have q16 := (xZ16 hz).1
    by_cases hc : pcX z g h c < z 16
    · rw [if_pos hc, if_pos hc]
      have hk : 0 ≤ pcX z g h c := (pk_b (g 13) (wX g h) q16).1
      have hs := b7 c (Int.le_refl _) hc
      generalize hU : fO offX (pcX z g h) (z 16) (z, g) c = U at *
      generalize hV : fO offM (pcX z g h) (z 16) (y, kk) c = V at *
      have hb : 0 ≤ U.2 15 (pcX z g h c) ∧ U.2 15 (pcX z g h c) ≤ 3 := by rw [b6]; exact xB15 hg _
      rcases off_X b1 hb with ⟨e1, e2⟩ | ⟨w, p, e1, e2⟩
      · rw [e1, e2]
        exact ⟨b1, b2, b3, b4, b5, b6, fun i a1 a2 => b7 i (by omega) a2⟩
      · rw [e1, e2]
        refine ⟨sell_X b1 _ w p, hi_sell b2 w p hk (by rw [b4]; exact hc) hs b5 (by rw [b3]; exact q0), b3, b4, ?_, b6, fun i a1 a2 => ?_⟩
        · show 0 ≤ U.1 17 + 1
          omega
        · show uI (U.2 18) (pcX z g h c) 1 (pcX z g h i) = 0
          have hne : pcX z g h i ≠ pcX z g h c := fun q => by
            have := pkc_inj (gr := g 13) (w := wX g h) (n := z 16) (day := z 0) (i := i) (j := c) a2 (by omega) (by omega) q
            omega
          rw [uI_n _ _ hne]
          exact b7 i (by omega) a2
    · rw [if_neg hc, if_neg hc]
      exact ⟨b1, b2, b3, b4, b5, b6, fun i a1 a2 => b7 i (by omega) a2⟩
theorem Rel_cg {z z2 y y2 : Nat → Int} {g g2 kk k2 : Nat → Int → Int} (h : Rel z g y kk) (ez : z2 = z) (ey : y2 = y) (eg : ∀ k : Nat, k < 45 → k ≠ 44 → g2 k = g k) (ek : ∀ k : Nat, k < 29 → k ≠ 22 → k ≠ 23 → k2 k = kk k) : Rel z2 g2 y2 k2 := by
  subst ez ey
  unfold Rel
  rw [eg 2 (by decide) (by decide), eg 4 (by decide) (by decide), eg 5 (by decide) (by decide), eg 43 (by decide) (by decide), eg 13 (by decide) (by decide), eg 14 (by decide) (by decide), eg 15 (by decide) (by decide), eg 16 (by decide) (by decide), eg 17 (by decide) (by decide), eg 18 (by decide) (by decide), eg 19 (by decide) (by decide), eg 21 (by decide) (by decide), eg 22 (by decide) (by decide), eg 23 (by decide) (by decide), eg 24 (by decide) (by decide), eg 25 (by decide) (by decide), eg 26 (by decide) (by decide), eg 29 (by decide) (by decide), eg 30 (by decide) (by decide), eg 31 (by decide) (by decide), eg 32 (by decide) (by decide), ek 1 (by decide) (by decide) (by decide), ek 2 (by decide) (by decide) (by decide), ek 28 (by decide) (by decide) (by decide), ek 5 (by decide) (by decide) (by decide), ek 6 (by decide) (by decide) (by decide), ek 7 (by decide) (by decide) (by decide), ek 8 (by decide) (by decide) (by decide), ek 9 (by decide) (by decide) (by decide), ek 11 (by decide) (by decide) (by decide), ek 10 (by decide) (by decide) (by decide), ek 16 (by decide) (by decide) (by decide), ek 17 (by decide) (by decide) (by decide), ek 18 (by decide) (by decide) (by decide), ek 19 (by decide) (by decide) (by decide), ek 20 (by decide) (by decide) (by decide), ek 21 (by decide) (by decide) (by decide), ek 12 (by decide) (by decide) (by decide), ek 13 (by decide) (by decide) (by decide), ek 14 (by decide) (by decide) (by decide), ek 15 (by decide) (by decide) (by decide)]
  exact h
theorem st_auction {z y : Nat → Int} {g kk : Nat → Int → Int} (p0 : Int) (h : RelA z g y kk) (v : Int) (u : sX) (v2 : Int) (u2 : sX) (hx : ((¬ (0 ≤ p0 ∧ p0 < 4) ∧ v = -1 ∧ u = (z, g)) ∨ ((0 ≤ p0 ∧ p0 < 4) ∧ v = u.1 17 - z 17 ∧ u.1 = (FX z g p0 800).1 ∧ ∀ k : Nat, k < 45 → k ≠ 44 → u.2 k = (FX z g p0 800).2 k)) ∧ xBz u.1 ∧ xBg u.2) (hm : ((¬ (0 ≤ p0 ∧ p0 < 4) ∧ v2 = -1 ∧ u2 = (uZ y 0 0, kk)) ∨ ((0 ≤ p0 ∧ p0 < 4) ∧ v2 = u2.1 13 - y 13 ∧ u2.1 = (FM (uZ y 0 0) kk p0 800).1 ∧ ∀ k : Nat, k < 29 → k ≠ 22 → k ≠ 23 → u2.2 k = (FM (uZ y 0 0) kk p0 800).2 k)) ∧ mBz u2.1 ∧ mBg u2.2) : v = v2 ∧ RelA u.1 u.2 u2.1 u2.2 := by
  obtain ⟨⟨hz, hg, hzm, hgm⟩, hR, hI⟩ := h
  have hR9 := hR
  obtain ⟨s0, s1, s2, s5, s16, s17, s20, s3, s4, t2, t4, t5, t43, r13, r14, r15, r16, r17, r18, r19, r21, r22, r23, r24, r25, r26, r29, r30, r31, r32⟩ := hR
  obtain ⟨u1, u3⟩ := u
  obtain ⟨w1, w3⟩ := u2
  obtain ⟨hx, bz, bg⟩ := hx
  obtain ⟨hm, bzm, bgm⟩ := hm
  rcases hx with ⟨c1, e1, e2⟩ | ⟨c1, e1, e2, e3⟩ <;> rcases hm with ⟨c2, e4, e5⟩ | ⟨c2, e4, e5, e6⟩
  · obtain ⟨ea, eb⟩ := Prod.mk.inj e2.symm
    obtain ⟨ec, ed⟩ := Prod.mk.inj e5.symm
    subst ea eb ec ed
    exact ⟨by omega, ⟨bz, bg, bzm, bgm⟩, ⟨s0, s1, s2, s5, s16, s17, s20, s3, s4, t2, t4, t5, t43, r13, r14, r15, r16, r17, r18, r19, r21, r22, r23, r24, r25, r26, r29, r30, r31, r32⟩, hI⟩
  · exact absurd c2 c1
  · exact absurd c1 c2
  · have hR2 : Rel z g (uZ y 0 0) kk := ⟨s0, s1, s2, s5, s16, s17, s20, s3, s4, t2, t4, t5, t43, r13, r14, r15, r16, r17, r18, r19, r21, r22, r23, r24, r25, r26, r29, r30, r31, r32⟩
    obtain ⟨a1, a2, -, -, -, -, -⟩ := au_X hR2 hI hz hg p0 800
    have ep := pc_X hR2 p0
    have eM : FM (uZ y 0 0) kk p0 800 = fO offM (pcX z g p0) (z 16) (uZ y 0 0, kk) 800 := by
      unfold FM fI
      rw [ep, s16]
      rfl
    dsimp only at e1 e2 e3 e4 e5 e6
    rw [eM] at e5 e6
    have hR3 : Rel u1 u3 w1 w3 := Rel_cg a1 e2 e5 e3 e6
    have f17 := hR3
    have hI3 : HI u1 u3 := HI_cg a2 (congrFun e2 0) (congrFun e2 16) (congrFun e2 17) (e3 18 (by decide) (by decide)) (e3 19 (by decide) (by decide)) (e3 21 (by decide) (by decide)) (e3 23 (by decide) (by decide)) (e3 26 (by decide) (by decide)) (e3 27 (by decide) (by decide))
    refine ⟨?_, ⟨bz, bg, bzm, bgm⟩, hR3, hI3⟩
    have g17 : u1 17 = w1 13 := hR3.2.2.2.2.2.1
    omega
/-! the greedy way of cars is the best, and the first among the best -/
theorem su_up {w : Int → Int} {L : Int} : ∀ (d : Nat) {a : Int}, 0 ≤ a → (∀ i, a ≤ i → i < a + d → w i ≤ L) → sumI w (a + d) ≤ sumI w a + L * d
  | 0, a, _, _ => by simp
  | d + 1, a, h0, h => by
    have := su_up d h0 (fun i h1 h2 => h i h1 (by omega))
    have h3 := h (a + d) (by omega) (by omega)
    rw [show a + ((d + 1 : Nat) : Int) = a + d + 1 by omega, sumI_s _ (by omega), show L * ((d + 1 : Nat) : Int) = L * d + L by rw [Int.natCast_add, Int.mul_add]; simp]
    omega
theorem su_dn {w : Int → Int} {L : Int} : ∀ (d : Nat) {a : Int}, 0 ≤ a → (∀ i, a ≤ i → i < a + d → L ≤ w i) → sumI w a + L * d ≤ sumI w (a + d)
  | 0, a, _, _ => by simp
  | d + 1, a, h0, h => by
    have := su_dn d h0 (fun i h1 h2 => h i h1 (by omega))
    have h3 := h (a + d) (by omega) (by omega)
    rw [show a + ((d + 1 : Nat) : Int) = a + d + 1 by omega, sumI_s _ (by omega), show L * ((d + 1 : Nat) : Int) = L * d + L by rw [Int.natCast_add, Int.mul_add]; simp]
    omega
theorem wv_mono {p f : Int} (hf : 0 ≤ f) : ∀ (d : Nat) (a : Int), wv p f (a + d) ≤ wv p f a
  | 0, a => by simp
  | d + 1, a => by
    have h1 := wv_mono (p := p) hf d a
    have h2 := wv_le (p := p) (f := f) (k := a + d) hf
    rw [show a + ((d + 1 : Nat) : Int) = a + d + 1 by omega]
    omega
theorem wv_mn {p f a b : Int} (hf : 0 ≤ f) (h : a ≤ b) : wv p f b ≤ wv p f a := by
  have := wv_mono (p := p) hf (b - a).toNat a
  rw [show a + ((b - a).toNat : Int) = b by omega] at this
  exact this
theorem cr_up {p f a b L : Int} (hf : 0 ≤ f) (h0 : 0 ≤ a) (h : a ≤ b) (hw : wv p f a ≤ L) : sumI (wv p f) b ≤ sumI (wv p f) a + L * (b - a) := by
  have := su_up (w := wv p f) (L := L) (b - a).toNat h0 (fun i h1 _ => by have := wv_mn (p := p) hf h1; omega)
  rw [show a + ((b - a).toNat : Int) = b by omega, show ((b - a).toNat : Int) = b - a by omega] at this
  exact this
theorem cr_dn {p f a b L : Int} (hf : 0 ≤ f) (h0 : 0 ≤ b) (h : b ≤ a) (hw : b < a → L ≤ wv p f (a - 1)) : sumI (wv p f) b ≤ sumI (wv p f) a + L * (b - a) := by
  have := su_dn (w := wv p f) (L := L) (a - b).toNat h0 (fun i h1 h2 => by have := wv_mn (p := p) (a := i) (b := a - 1) hf (by omega); have := hw (by omega); omega)
  rw [show b + ((a - b).toNat : Int) = a by omega, show ((a - b).toNat : Int) = a - b by omega] at this
  have e : L * (b - a) = - (L * (a - b)) := by rw [← Int.mul_neg]; congr 1; omega
  omega
theorem gr_best {p f x y : Int → Int} {n v L : Int} (hf : ∀ h, 0 ≤ h → h < 4 → 0 ≤ f h) (hG : Gr p f n v x) (hy : ∀ h, 0 ≤ h → h < 4 → 0 ≤ y h) (hL : ∀ h, 0 ≤ h → h < 4 → wv (p h) (f h) (x h) ≤ L) (hL2 : ∀ h, 0 ≤ h → h < 4 → 0 < x h → L ≤ wv (p h) (f h) (x h - 1)) : ∀ h, 0 ≤ h → h < 4 → sumI (wv (p h) (f h)) (y h) ≤ sumI (wv (p h) (f h)) (x h) + L * (y h - x h) := by
  intro h h0 h1
  have hx := hG.1 h h0 h1
  have hyh := hy h h0 h1
  rcases Int.le_total (x h) (y h) with q | q
  · exact cr_up (hf h h0 h1) hx q (hL h h0 h1)
  · exact cr_dn (hf h h0 h1) hyh q (fun _ => hL2 h h0 h1 (by omega))
theorem gr_op {p f x y : Int → Int} {n v v2 : Int} (hf : ∀ h, 0 ≤ h → h < 4 → 0 ≤ f h) (hG : Gr p f n v x) (hy : ∀ h, 0 ≤ h → h < 4 → 0 ≤ y h) (hn : y 0 + y 1 + y 2 + y 3 = n) (hv : v2 = S4 p f y) (hb : v ≤ v2) (hlx : v = v2 → lx3 (x 0) (x 1) (x 2) (y 0) (y 1) (y 2)) : v = v2 ∧ ∀ q, 0 ≤ q → q < 4 → x q = y q := by
  obtain ⟨L, hLe⟩ : ∃ L, L = mx (mx (wv (p 0) (f 0) (x 0)) (wv (p 1) (f 1) (x 1))) (mx (wv (p 2) (f 2) (x 2)) (wv (p 3) (f 3) (x 3))) := ⟨_, rfl⟩
  have m1 := mx_b (wv (p 0) (f 0) (x 0)) (wv (p 1) (f 1) (x 1))
  have m2 := mx_b (wv (p 2) (f 2) (x 2)) (wv (p 3) (f 3) (x 3))
  have m3 := mx_b (mx (wv (p 0) (f 0) (x 0)) (wv (p 1) (f 1) (x 1))) (mx (wv (p 2) (f 2) (x 2)) (wv (p 3) (f 3) (x 3)))
  rw [← hLe] at m3
  have hL : ∀ h, 0 ≤ h → h < 4 → wv (p h) (f h) (x h) ≤ L := by
    intro h h0 h1
    rcases c4 ⟨h0, h1⟩ with rfl | rfl | rfl | rfl <;> omega
  have hLi : ∃ k, 0 ≤ k ∧ k < 4 ∧ L = wv (p k) (f k) (x k) := by
    rcases m3.1 with q | q
    · rcases m1.1 with r | r
      · exact ⟨0, by omega, by omega, by omega⟩
      · exact ⟨1, by omega, by omega, by omega⟩
    · rcases m2.1 with r | r
      · exact ⟨2, by omega, by omega, by omega⟩
      · exact ⟨3, by omega, by omega, by omega⟩
  obtain ⟨k9, k0, k1, kL⟩ := hLi
  have hL2 : ∀ h, 0 ≤ h → h < 4 → 0 < x h → L ≤ wv (p h) (f h) (x h - 1) := by
    intro h h0 h1 hp
    by_cases e : h = k9
    · subst e
      rw [kL]
      exact wv_mn (hf h h0 h1) (by omega)
    · rw [kL]
      exact (hG.2.2.2 h k9 h0 h1 k0 k1 e hp).1
  have A := gr_best hf hG hy hL hL2
  have A0 := A 0 (by omega) (by omega)
  have A1 := A 1 (by omega) (by omega)
  have A2 := A 2 (by omega) (by omega)
  have A3 := A 3 (by omega) (by omega)
  obtain ⟨hx0, hxn, hxv, hGy⟩ := hG
  have hs : L * (y 0 - x 0) + L * (y 1 - x 1) + L * (y 2 - x 2) + L * (y 3 - x 3) = 0 := by
    rw [← Int.mul_add, ← Int.mul_add, ← Int.mul_add, show y 0 - x 0 + (y 1 - x 1) + (y 2 - x 2) + (y 3 - x 3) = 0 by omega, Int.mul_zero]
  unfold S4 at hv hxv
  have hvv : v = v2 := by omega
  have hno : ∀ h, 0 ≤ h → h < 4 → ¬ sumI (wv (p h) (f h)) (y h) + 1 ≤ sumI (wv (p h) (f h)) (x h) + L * (y h - x h) := by
    intro h h0 h1 hq
    rcases c4 ⟨h0, h1⟩ with rfl | rfl | rfl | rfl <;> omega
  have hcr : ∀ h k, 0 ≤ h → h < k → k < 4 → x h < y h → y k < x k → False := by
    intro h k h0 hk h4 a1 a2
    have yk := hy k (by omega) h4
    by_cases c : wv (p h) (f h) (x h) ≤ L - 1
    · have q := cr_up (hf h h0 (by omega)) (hx0 h h0 (by omega)) (show x h ≤ y h by omega) c
      have e : (L - 1) * (y h - x h) = L * (y h - x h) - (y h - x h) := by rw [Int.sub_mul, Int.one_mul]
      exact hno h h0 (by omega) (by omega)
    · have g1 := (hGy k h (by omega) h4 h0 (by omega) (by omega) (by omega)).2 hk
      have q := cr_dn (p := p k) (f := f k) (a := x k) (b := y k) (L := L + 1) (hf k (by omega) h4) yk (by omega) (fun _ => by omega)
      have e : (L + 1) * (y k - x k) = L * (y k - x k) + (y k - x k) := by rw [Int.add_mul, Int.one_mul]
      exact hno k (by omega) h4 (by omega)
  refine ⟨hvv, ?_⟩
  have l := hlx hvv
  have z1 := hcr 0 1 (by omega) (by omega) (by omega)
  have z2 := hcr 0 2 (by omega) (by omega) (by omega)
  have z3 := hcr 0 3 (by omega) (by omega) (by omega)
  have z4 := hcr 1 2 (by omega) (by omega) (by omega)
  have z5 := hcr 1 3 (by omega) (by omega) (by omega)
  have z6 := hcr 2 3 (by omega) (by omega) (by omega)
  have r : x 0 = y 0 ∧ x 1 = y 1 ∧ x 2 = y 2 ∧ x 3 = y 3 := by
    rcases l with l | ⟨l1, l | ⟨l2, l⟩⟩
    · exfalso
      by_cases q1 : y 1 < x 1
      · exact z1 l q1
      · by_cases q2 : y 2 < x 2
        · exact z2 l q2
        · exact z3 l (by omega)
    · exfalso
      by_cases q2 : y 2 < x 2
      · exact z4 l q2
      · exact z5 l (by omega)
    · by_cases q : x 2 < y 2
      · exact (z6 q (by omega)).elim
      · omega
  intro q q0 q1
  rcases c4 ⟨q0, q1⟩ with rfl | rfl | rfl | rfl
  · exact r.1
  · exact r.2.1
  · exact r.2.2.1
  · exact r.2.2.2
theorem st_cars {z y : Nat → Int} {g kk : Nat → Int → Int} (p0 : Int) (h : RelA z g y kk) (v : Int) (u : sX) (v2 : Int) (u2 : sX) (hx : ((¬ (z 2 = 16 ∧ 1 ≤ p0 ∧ p0 ≤ 40) ∧ v = -1 ∧ u = (uZ z 2 0, g)) ∨ ((z 2 = 16 ∧ 1 ≤ p0 ∧ p0 ≤ 40) ∧ u.1 = uZ (uZ z 20 1) 2 0 ∧ ∃ f1 f2 f3 : Int → Int, u.2 = uZ (uZ (uZ g 41 f1) 42 f2) 43 f3 ∧ Gr (pHX g) (fHX g) p0 v f3)) ∧ xBz u.1 ∧ xBg u.2) (hm : ((¬ (y 1 = 16 ∧ 1 ≤ p0 ∧ p0 ≤ 40) ∧ v2 = -1 ∧ u2 = (uZ (uZ (uZ (uZ y 0 0) 2 (y 1)) 1 0) 3 0, kk)) ∨ ((y 1 = 16 ∧ 1 ≤ p0 ∧ p0 ≤ 40) ∧ u2.1 = uZ (uZ (uZ (uZ (uZ y 0 0) 2 (y 1)) 1 0) 3 0) 14 1 ∧ ∃ f1 f2 : Int → Int, u2.2 = uZ (uZ kk 27 f1) 28 f2 ∧ Op kk p0 v2 f2)) ∧ mBz u2.1 ∧ mBg u2.2) : v = v2 ∧ RelA u.1 u.2 u2.1 u2.2 := by
  obtain ⟨⟨hz, hg, hzm, hgm⟩, hR, hI⟩ := h
  obtain ⟨s0, s1, s2, s5, s16, s17, s20, s3, s4, t2, t4, t5, t43, r13, r14, r15, r16, r17, r18, r19, r21, r22, r23, r24, r25, r26, r29, r30, r31, r32⟩ := hR
  obtain ⟨u1, u3⟩ := u
  obtain ⟨w1, w3⟩ := u2
  obtain ⟨hx, bz, bg⟩ := hx
  obtain ⟨hm, bzm, bgm⟩ := hm
  rcases hx with ⟨c1, e1, e2⟩ | ⟨c1, e1, f1, f2, f3, e2, e3⟩ <;> rcases hm with ⟨c2, e4, e5⟩ | ⟨c2, e4, k1, k2, e5, e6⟩
  · obtain ⟨ea, eb⟩ := Prod.mk.inj e2.symm
    obtain ⟨ec, ed⟩ := Prod.mk.inj e5.symm
    subst ea eb ec ed
    exact ⟨by omega, ⟨bz, bg, bzm, bgm⟩, ⟨s0, s1, rfl, s5, s16, s17, s20, s3, s4, t2, t4, t5, t43, r13, r14, r15, r16, r17, r18, r19, r21, r22, r23, r24, r25, r26, r29, r30, r31, r32⟩, HI_cg hI rfl rfl rfl rfl rfl rfl rfl rfl rfl⟩
  · exact absurd c2 (by omega)
  · exact absurd c1 (by omega)
  · dsimp only at e1 e2 e4 e5
    subst e1 e2 e4 e5
    have ep : ∀ h, pHM kk h = pHX g h := by
      intro h
      show kk 1 (4 * h) % 2 ^ 8 * 2 ^ 8 + kk 1 (4 * h + 1) % 2 ^ 8 = g 2 (4 * h) * 256 + g 2 (4 * h + 1)
      have q1 := t2 (4 * h)
      have q2 := t2 (4 * h + 1)
      omega
    have ef : ∀ h, fHM kk h = fHX g h := by
      intro h
      show kk 1 (4 * h + 2) % 2 ^ 8 * 2 ^ 8 + kk 1 (4 * h + 3) % 2 ^ 8 = g 2 (4 * h + 2) * 256 + g 2 (4 * h + 2 + 1)
      have q1 := t2 (4 * h + 2)
      have q2 := t2 (4 * h + 2 + 1)
      rw [show 4 * h + 2 + 1 = 4 * h + 3 by omega] at q2 ⊢
      omega
    obtain ⟨o1, o2, o3, o4⟩ := e6
    have hfn : ∀ h, 0 ≤ h → h < 4 → 0 ≤ fHX g h := fun h _ _ => by rw [← ef h]; exact (fHM_b kk h).1
    have eT : ∀ a b c, TM kk p0 a b c = sumI (wv (pHX g 0) (fHX g 0)) a + sumI (wv (pHX g 1) (fHX g 1)) b + sumI (wv (pHX g 2) (fHX g 2)) c + sumI (wv (pHX g 3) (fHX g 3)) (p0 - a - b - c) := by
      intro a b c
      unfold TM SM
      rw [ep 0, ep 1, ep 2, ep 3, ef 0, ef 1, ef 2, ef 3]
    have x0 := e3.1 0 (by omega) (by omega)
    have x1 := e3.1 1 (by omega) (by omega)
    have x2 := e3.1 2 (by omega) (by omega)
    have x3 := e3.1 3 (by omega) (by omega)
    have xn := e3.2.1
    have xv : TM kk p0 (f3 0) (f3 1) (f3 2) = v := by
      rw [eT, e3.2.2.1, show p0 - f3 0 - f3 1 - f3 2 = f3 3 by omega]
      rfl
    have ob := o4 (f3 0) (f3 1) (f3 2) ⟨x0, x1, x2, by omega⟩
    rw [xv] at ob
    have fin := gr_op (y := k2) (v2 := v2) hfn e3 (fun h h0 h1 => by rcases c4 ⟨h0, h1⟩ with rfl | rfl | rfl | rfl <;> omega) (by omega) (by rw [o3, eT, ← o2]; rfl) ob.1 ob.2
    exact ⟨fin.1, ⟨bz, bg, bzm, bgm⟩, ⟨s0, s1, rfl, s5, s16, s17, rfl, s3, s4, t2, t4, t5, fin.2, r13, r14, r15, r16, r17, r18, r19, r21, r22, r23, r24, r25, r26, r29, r30, r31, r32⟩, HI_cg hI rfl rfl rfl rfl rfl rfl rfl rfl rfl⟩
