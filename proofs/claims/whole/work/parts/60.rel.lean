/-! the relation of the two worlds, what the sales remember, and the plain calls -/
def Rel (z : Nat → Int) (g : Nat → Int → Int) (y : Nat → Int) (k : Nat → Int → Int) : Prop := z 0 = y 12 ∧ z 1 = y 7 ∧ z 2 = y 1 ∧ z 5 = y 9 ∧ z 16 = y 11 ∧ z 17 = y 13 ∧ z 20 = y 14 ∧ z 3 = k 2 8 ∧ z 4 = k 2 9 ∧ (∀ j, g 2 j = k 1 j % 256) ∧ (∀ q, 0 ≤ q → q < 4 → g 4 q = k 2 q) ∧ (∀ q, 0 ≤ q → q < 4 → g 5 q = k 2 (4 + q)) ∧ (∀ q, 0 ≤ q → q < 4 → g 43 q = k 28 q) ∧ g 13 = k 5 ∧ g 14 = k 6 ∧ g 15 = k 7 ∧ g 16 = k 8 ∧ g 17 = k 9 ∧ g 18 = k 11 ∧ g 19 = k 10 ∧ g 21 = k 16 ∧ g 22 = k 17 ∧ g 23 = k 18 ∧ g 24 = k 19 ∧ g 25 = k 20 ∧ g 26 = k 21 ∧ g 29 = k 12 ∧ g 30 = k 13 ∧ g 31 = k 14 ∧ g 32 = k 15
/-- what the class's sales remember -/
def HI (z : Nat → Int) (g : Nat → Int → Int) : Prop :=
  (∀ s, 0 ≤ s → s < z 17 → g 21 s < z 16) ∧ (∀ i j, 0 ≤ i → i < j → j < z 17 → g 23 i ≤ g 23 j) ∧ (∀ s, 0 ≤ s → s < z 17 → g 23 s ≤ z 0)
  ∧ (∀ q, 0 ≤ q → q < z 16 → (g 19 q = -1 ∧ ∀ s, 0 ≤ s → s < z 17 → g 21 s ≠ q) ∨ (0 ≤ g 19 q ∧ g 19 q < z 17 ∧ g 21 (g 19 q) = q ∧ ∀ s, g 19 q < s → s < z 17 → g 21 s ≠ q))
  ∧ (∀ q, z 16 ≤ q → g 18 q = 0) ∧ (∀ q, 0 ≤ q → q < z 16 → g 18 q = 0 → g 19 q = -1 ∨ g 26 (g 19 q) ≠ -1)
  ∧ (∀ s, 0 ≤ s → s < z 17 → isNx (g 21) (z 17) s (g 27 s)) ∧ (∀ s, 0 ≤ s → s < z 17 → g 27 s ≠ -1 → g 26 s ≠ -1 ∧ g 26 s ≤ g 23 (g 27 s)) ∧ (∀ s, 0 ≤ s → s < z 17 → g 26 s ≤ z 0)
theorem HI_cg {z z2 : Nat → Int} {g g2 : Nat → Int → Int} (h : HI z g) (e0 : z2 0 = z 0) (e16 : z2 16 = z 16) (e17 : z2 17 = z 17) (a18 : g2 18 = g 18) (a19 : g2 19 = g 19) (a21 : g2 21 = g 21) (a23 : g2 23 = g 23) (a26 : g2 26 = g 26) (a27 : g2 27 = g 27) : HI z2 g2 := by
  unfold HI
  rw [e0, e16, e17, a18, a19, a21, a23, a26, a27]
  exact h
def RelA (z : Nat → Int) (g : Nat → Int → Int) (y : Nat → Int) (k : Nat → Int → Int) : Prop := (xBz z ∧ xBg g ∧ mBz y ∧ mBg k) ∧ Rel z g y k ∧ HI z g
theorem uI_id {f : Int → Int} {n v : Int} (h : f n = v) : uI f n v = f := by
  funext j
  unfold uI
  split
  · next e => rw [e]; exact h.symm
  · rfl
theorem bm_m (x : Int) : Int.bmod x 256 % 256 = x % 256 := by
  have h1 := Int.bmod_def x 256
  rw [h1]
  split <;> omega
theorem tp_tq {f k : Int → Int} {n p : Int} (h : ∀ j, f j = k j % 256) : ∀ j, tp4 f n p j = tq4 k n p j % 256 := by
  intro j
  unfold tp4 tq4 uI
  have b0 := bm_m (p / 2 ^ 0)
  have b8 := bm_m (p / 2 ^ 8)
  have b16 := bm_m (p / 2 ^ 16)
  have b24 := bm_m (p / 2 ^ 24)
  rw [show n + 1 + 1 + 1 = n + 3 by omega, show n + 1 + 1 = n + 2 by omega]
  by_cases e3 : j = n + 3
  · rw [if_pos e3, if_pos e3, b0]; omega
  · rw [if_neg e3, if_neg e3]
    by_cases e2 : j = n + 2
    · rw [if_pos e2, if_pos e2, b8]; omega
    · rw [if_neg e2, if_neg e2]
      by_cases e1 : j = n + 1
      · rw [if_pos e1, if_pos e1, b16]; omega
      · rw [if_neg e1, if_neg e1]
        by_cases e0 : j = n
        · rw [if_pos e0, if_pos e0, b24]; omega
        · rw [if_neg e0, if_neg e0]
          exact h j

theorem st_feed {z y : Nat → Int} {g kk : Nat → Int → Int} (p0 p1 p2 p3 p4 : Int) (h : RelA z g y kk) (v : Int) (u : sX) (v2 : Int) (u2 : sX) (hx : ((200 < z 2 + 20 ∧ v = -1 ∧ u = (z, g)) ∨ (z 2 + 20 ≤ 200 ∧ v = z 2 + 20 ∧ u.1 = uZ z 2 (z 2 + 20) ∧ u.2 = uZ g 2 (tp4 (tp4 (tp4 (tp4 (tp4 (g 2) (z 2) p0) (z 2 + 4) p1) (z 2 + 8) p2) (z 2 + 12) p3) (z 2 + 16) p4))) ∧ xBz u.1 ∧ xBg u.2) (hm : ((200 < y 1 + 20 ∧ v2 = -1 ∧ u2 = (uZ y 0 0, kk)) ∨ (y 1 + 20 ≤ 200 ∧ v2 = y 1 + 20 ∧ u2.1 = uZ (uZ y 0 0) 1 (y 1 + 20) ∧ u2.2 = uZ kk 1 (tq4 (tq4 (tq4 (tq4 (tq4 (kk 1) (y 1) p0) (y 1 + 4) p1) (y 1 + 8) p2) (y 1 + 12) p3) (y 1 + 16) p4))) ∧ mBz u2.1 ∧ mBg u2.2) : v = v2 ∧ RelA u.1 u.2 u2.1 u2.2 := by
  obtain ⟨⟨hz, hg, hzm, hgm⟩, hR, hI⟩ := h
  obtain ⟨s0, s1, s2, s5, s16, s17, s20, s3, s4, t2, t4, t5, t43, r13, r14, r15, r16, r17, r18, r19, r21, r22, r23, r24, r25, r26, r29, r30, r31, r32⟩ := hR
  obtain ⟨u1, u3⟩ := u
  obtain ⟨w1, w3⟩ := u2
  obtain ⟨hx, bz, bg⟩ := hx
  obtain ⟨hm, bzm, bgm⟩ := hm
  rcases hx with ⟨c1, e1, e2⟩ | ⟨c1, e1, e2, e3⟩ <;> rcases hm with ⟨c2, e4, e5⟩ | ⟨c2, e4, e5, e6⟩
  · obtain ⟨ea, eb⟩ := Prod.mk.inj e2.symm
    obtain ⟨ec, ed⟩ := Prod.mk.inj e5.symm
    subst ea eb ec ed
    exact ⟨by omega, ⟨bz, bg, bzm, bgm⟩, ⟨s0, s1, s2, s5, s16, s17, s20, s3, s4, t2, t4, t5, t43, r13, r14, r15, r16, r17, r18, r19, r21, r22, r23, r24, r25, r26, r29, r30, r31, r32⟩, hI⟩
  · omega
  · omega
  · dsimp only at e2 e3 e5 e6
    subst e2 e3 e5 e6
    refine ⟨by omega, ⟨bz, bg, bzm, bgm⟩, ⟨s0, s1, ?_, s5, s16, s17, s20, s3, s4, ?_, t4, t5, t43, r13, r14, r15, r16, r17, r18, r19, r21, r22, r23, r24, r25, r26, r29, r30, r31, r32⟩, HI_cg hI rfl rfl rfl rfl rfl rfl rfl rfl rfl⟩
    · show z 2 + 20 = y 1 + 20
      omega
    · show ∀ j, tp4 _ _ _ j = tq4 _ _ _ j % 256
      rw [← s2]
      exact tp_tq (tp_tq (tp_tq (tp_tq (tp_tq t2))))
theorem st_end {z y : Nat → Int} {g kk : Nat → Int → Int} (p0 : Int) (h : RelA z g y kk) (v : Int) (u : sX) (v2 : Int) (u2 : sX) (hx : ((¬ (0 ≤ p0 ∧ p0 ≤ z 2) ∧ v = 0 ∧ u = (z, g)) ∨ ((0 ≤ p0 ∧ p0 ≤ z 2) ∧ v = 1 ∧ u = (uZ z 2 p0, g))) ∧ xBz u.1 ∧ xBg u.2) (hm : ((¬ (0 ≤ p0 ∧ p0 ≤ y 1) ∧ v2 = 0 ∧ u2 = (uZ y 0 0, kk)) ∨ ((0 ≤ p0 ∧ p0 ≤ y 1) ∧ v2 = 1 ∧ u2 = (uZ (uZ y 0 0) 1 p0, kk))) ∧ mBz u2.1 ∧ mBg u2.2) : v = v2 ∧ RelA u.1 u.2 u2.1 u2.2 := by
  obtain ⟨⟨hz, hg, hzm, hgm⟩, hR, hI⟩ := h
  obtain ⟨s0, s1, s2, s5, s16, s17, s20, s3, s4, t2, t4, t5, t43, r13, r14, r15, r16, r17, r18, r19, r21, r22, r23, r24, r25, r26, r29, r30, r31, r32⟩ := hR
  obtain ⟨u1, u3⟩ := u
  obtain ⟨w1, w3⟩ := u2
  obtain ⟨hx, bz, bg⟩ := hx
  obtain ⟨hm, bzm, bgm⟩ := hm
  rcases hx with ⟨c1, e1, e2⟩ | ⟨c1, e1, e2⟩ <;> rcases hm with ⟨c2, e4, e5⟩ | ⟨c2, e4, e5⟩
  · obtain ⟨ea, eb⟩ := Prod.mk.inj e2.symm
    obtain ⟨ec, ed⟩ := Prod.mk.inj e5.symm
    subst ea eb ec ed
    exact ⟨by omega, ⟨bz, bg, bzm, bgm⟩, ⟨s0, s1, s2, s5, s16, s17, s20, s3, s4, t2, t4, t5, t43, r13, r14, r15, r16, r17, r18, r19, r21, r22, r23, r24, r25, r26, r29, r30, r31, r32⟩, hI⟩
  · omega
  · omega
  · obtain ⟨ea, eb⟩ := Prod.mk.inj e2.symm
    obtain ⟨ec, ed⟩ := Prod.mk.inj e5.symm
    subst ea eb ec ed
    exact ⟨by omega, ⟨bz, bg, bzm, bgm⟩, ⟨s0, s1, rfl, s5, s16, s17, s20, s3, s4, t2, t4, t5, t43, r13, r14, r15, r16, r17, r18, r19, r21, r22, r23, r24, r25, r26, r29, r30, r31, r32⟩, HI_cg hI rfl rfl rfl rfl rfl rfl rfl rfl rfl⟩
theorem st_fault {z y : Nat → Int} {g kk : Nat → Int → Int}  (h : RelA z g y kk) (v : Int) (v2 : Int) (u2 : sX) (hx : v = z 1) (hm : (v2 = y 7 ∧ u2 = (uZ y 0 0, kk)) ∧ mBz u2.1 ∧ mBg u2.2) : v = v2 ∧ RelA z g u2.1 u2.2 := by
  obtain ⟨⟨hz, hg, hzm, hgm⟩, hR, hI⟩ := h
  obtain ⟨s0, s1, s2, s5, s16, s17, s20, s3, s4, t2, t4, t5, t43, r13, r14, r15, r16, r17, r18, r19, r21, r22, r23, r24, r25, r26, r29, r30, r31, r32⟩ := hR
  obtain ⟨w1, w3⟩ := u2
  obtain ⟨hm, bzm, bgm⟩ := hm
  obtain ⟨e4, e5⟩ := hm
  obtain ⟨ec, ed⟩ := Prod.mk.inj e5.symm
  subst ec ed
  exact ⟨by omega, ⟨hz, hg, bzm, bgm⟩, ⟨s0, s1, s2, s5, s16, s17, s20, s3, s4, t2, t4, t5, t43, r13, r14, r15, r16, r17, r18, r19, r21, r22, r23, r24, r25, r26, r29, r30, r31, r32⟩, hI⟩
theorem st_lot {z y : Nat → Int} {g kk : Nat → Int → Int} (p0 p1 p2 p3 p4 : Int) (h : RelA z g y kk) (v : Int) (u : sX) (v2 : Int) (u2 : sX) (hx : ((¬ (okLot p0 p1 p2 p3 p4 ∧ z 16 < 100) ∧ v = -1 ∧ u = (z, g)) ∨ ((okLot p0 p1 p2 p3 p4 ∧ z 16 < 100) ∧ v = z 16 ∧ u = (uZ z 16 (z 16 + 1), uZ (uZ (uZ (uZ (uZ (uZ (uZ g 13 (uI (g 13) (z 16) p0)) 14 (uI (g 14) (z 16) p1)) 15 (uI (g 15) (z 16) p2)) 16 (uI (g 16) (z 16) p3)) 17 (uI (g 17) (z 16) p4)) 18 (uI (g 18) (z 16) 0)) 19 (uI (g 19) (z 16) (-1))))) ∧ xBz u.1 ∧ xBg u.2) (hm : ((¬ (okLot p0 p1 p2 p3 p4 ∧ y 11 < 100) ∧ v2 = -1 ∧ u2 = (uZ y 0 0, kk)) ∨ ((okLot p0 p1 p2 p3 p4 ∧ y 11 < 100) ∧ v2 = y 11 ∧ u2 = (uZ (uZ y 0 0) 11 (y 11 + 1), uZ (uZ (uZ (uZ (uZ (uZ kk 5 (uI (kk 5) (y 11) p0)) 6 (uI (kk 6) (y 11) p1)) 7 (uI (kk 7) (y 11) p2)) 8 (uI (kk 8) (y 11) p3)) 9 (uI (kk 9) (y 11) p4)) 10 (uI (kk 10) (y 11) (-1))))) ∧ mBz u2.1 ∧ mBg u2.2) : v = v2 ∧ RelA u.1 u.2 u2.1 u2.2 := by
  obtain ⟨⟨hz, hg, hzm, hgm⟩, hR, hI⟩ := h
  obtain ⟨s0, s1, s2, s5, s16, s17, s20, s3, s4, t2, t4, t5, t43, r13, r14, r15, r16, r17, r18, r19, r21, r22, r23, r24, r25, r26, r29, r30, r31, r32⟩ := hR
  obtain ⟨u1, u3⟩ := u
  obtain ⟨w1, w3⟩ := u2
  obtain ⟨hx, bz, bg⟩ := hx
  obtain ⟨hm, bzm, bgm⟩ := hm
  rcases hx with ⟨c1, e1, e2⟩ | ⟨c1, e1, e2⟩ <;> rcases hm with ⟨c2, e4, e5⟩ | ⟨c2, e4, e5⟩
  · obtain ⟨ea, eb⟩ := Prod.mk.inj e2.symm
    obtain ⟨ec, ed⟩ := Prod.mk.inj e5.symm
    subst ea eb ec ed
    exact ⟨by omega, ⟨bz, bg, bzm, bgm⟩, ⟨s0, s1, s2, s5, s16, s17, s20, s3, s4, t2, t4, t5, t43, r13, r14, r15, r16, r17, r18, r19, r21, r22, r23, r24, r25, r26, r29, r30, r31, r32⟩, hI⟩
  · exact (c1 ⟨c2.1, by omega⟩).elim
  · exact (c2 ⟨c1.1, by omega⟩).elim
  · obtain ⟨ea, eb⟩ := Prod.mk.inj e2.symm
    obtain ⟨ec, ed⟩ := Prod.mk.inj e5.symm
    subst ea eb ec ed
    obtain ⟨i1, i2, i3, i4, i5, i6, i7, i8, i9⟩ := hI
    refine ⟨by omega, ⟨bz, bg, bzm, bgm⟩, ⟨s0, s1, s2, s5, (show z 16 + 1 = y 11 + 1 by omega), s17, s20, s3, s4, t2, t4, t5, t43, (show uI (g 13) _ _ = uI (kk 5) _ _ by rw [r13, s16]), (show uI (g 14) _ _ = uI (kk 6) _ _ by rw [r14, s16]), (show uI (g 15) _ _ = uI (kk 7) _ _ by rw [r15, s16]), (show uI (g 16) _ _ = uI (kk 8) _ _ by rw [r16, s16]), (show uI (g 17) _ _ = uI (kk 9) _ _ by rw [r17, s16]), (show uI (g 18) (z 16) 0 = kk 11 by rw [uI_id (i5 _ (Int.le_refl _)), r18]), (show uI (g 19) _ _ = uI (kk 10) _ _ by rw [r19, s16]), r21, r22, r23, r24, r25, r26, r29, r30, r31, r32⟩, ?_⟩
    refine ⟨fun s a1 a2 => ?_, i2, i3, fun q a1 a2 => ?_, fun q a1 => ?_, fun q a1 a2 a3 => ?_, i7, i8, i9⟩
    · show g 21 s < z 16 + 1
      have := i1 s a1 a2
      omega
    · show (uI (g 19) (z 16) (-1) q = -1 ∧ ∀ s, 0 ≤ s → s < z 17 → g 21 s ≠ q) ∨ (0 ≤ uI (g 19) (z 16) (-1) q ∧ uI (g 19) (z 16) (-1) q < z 17 ∧ g 21 (uI (g 19) (z 16) (-1) q) = q ∧ ∀ s, uI (g 19) (z 16) (-1) q < s → s < z 17 → g 21 s ≠ q)
      replace a2 : q < z 16 + 1 := a2
      by_cases eq : q = z 16
      · subst eq
        rw [uI_s]
        exact Or.inl ⟨rfl, fun s b1 b2 => by have := i1 s b1 b2; omega⟩
      · rw [uI_n _ _ eq]
        exact i4 q a1 (by omega)
    · show uI (g 18) (z 16) 0 q = 0
      replace a1 : z 16 + 1 ≤ q := a1
      rw [uI_n _ _ (by omega)]
      exact i5 q (by omega)
    · show uI (g 19) (z 16) (-1) q = -1 ∨ g 26 (uI (g 19) (z 16) (-1) q) ≠ -1
      replace a2 : q < z 16 + 1 := a2
      by_cases eq : q = z 16
      · subst eq
        rw [uI_s]
        exact Or.inl rfl
      · rw [uI_n _ _ eq]
        replace a3 : uI (g 18) (z 16) 0 q = 0 := a3
        rw [uI_n _ _ eq] at a3
        exact i6 q a1 (by omega) a3
theorem st_money {z y : Nat → Int} {g kk : Nat → Int → Int} (p0 p1 : Int) (h : RelA z g y kk) (v : Int) (u : sX) (v2 : Int) (u2 : sX) (hx : ((¬ ((0 ≤ p0 ∧ p0 < 10) ∧ 0 ≤ p1 ∧ p1 ≤ 1000000) ∧ v = 0 ∧ u = (z, g)) ∨ (((0 ≤ p0 ∧ p0 < 10) ∧ 0 ≤ p1 ∧ p1 ≤ 1000000) ∧ v = 1 ∧ u = (z, uZ (uZ g 29 (uI (g 29) p0 p1)) 30 (uI (g 30) p0 p1)))) ∧ xBz u.1 ∧ xBg u.2) (hm : ((¬ ((0 ≤ p0 ∧ p0 < 10) ∧ 0 ≤ p1 ∧ p1 ≤ 1000000) ∧ v2 = 0 ∧ u2 = (uZ y 0 0, kk)) ∨ (((0 ≤ p0 ∧ p0 < 10) ∧ 0 ≤ p1 ∧ p1 ≤ 1000000) ∧ v2 = 1 ∧ u2 = (uZ y 0 0, uZ (uZ kk 12 (uI (kk 12) p0 p1)) 13 (uI (kk 13) p0 p1)))) ∧ mBz u2.1 ∧ mBg u2.2) : v = v2 ∧ RelA u.1 u.2 u2.1 u2.2 := by
  obtain ⟨⟨hz, hg, hzm, hgm⟩, hR, hI⟩ := h
  obtain ⟨s0, s1, s2, s5, s16, s17, s20, s3, s4, t2, t4, t5, t43, r13, r14, r15, r16, r17, r18, r19, r21, r22, r23, r24, r25, r26, r29, r30, r31, r32⟩ := hR
  obtain ⟨u1, u3⟩ := u
  obtain ⟨w1, w3⟩ := u2
  obtain ⟨hx, bz, bg⟩ := hx
  obtain ⟨hm, bzm, bgm⟩ := hm
  rcases hx with ⟨c1, e1, e2⟩ | ⟨c1, e1, e2⟩ <;> rcases hm with ⟨c2, e4, e5⟩ | ⟨c2, e4, e5⟩
  · obtain ⟨ea, eb⟩ := Prod.mk.inj e2.symm
    obtain ⟨ec, ed⟩ := Prod.mk.inj e5.symm
    subst ea eb ec ed
    exact ⟨by omega, ⟨bz, bg, bzm, bgm⟩, ⟨s0, s1, s2, s5, s16, s17, s20, s3, s4, t2, t4, t5, t43, r13, r14, r15, r16, r17, r18, r19, r21, r22, r23, r24, r25, r26, r29, r30, r31, r32⟩, hI⟩
  · exact absurd c2 (by omega)
  · exact absurd c1 (by omega)
  · obtain ⟨ea, eb⟩ := Prod.mk.inj e2.symm
    obtain ⟨ec, ed⟩ := Prod.mk.inj e5.symm
    subst ea eb ec ed
    exact ⟨by omega, ⟨bz, bg, bzm, bgm⟩, ⟨s0, s1, s2, s5, s16, s17, s20, s3, s4, t2, t4, t5, t43, r13, r14, r15, r16, r17, r18, r19, r21, r22, r23, r24, r25, r26, (show uI (g 29) _ _ = uI (kk 12) _ _ by rw [r29]), (show uI (g 30) _ _ = uI (kk 13) _ _ by rw [r30]), r31, r32⟩, HI_cg hI rfl rfl rfl rfl rfl rfl rfl rfl rfl⟩
theorem st_want {z y : Nat → Int} {g kk : Nat → Int → Int} (p0 p1 p2 p3 p4 : Int) (h : RelA z g y kk) (v : Int) (u : sX) (v2 : Int) (u2 : sX) (hx : ((¬ ((0 ≤ p0 ∧ p0 < 10) ∧ (0 ≤ p1 ∧ p1 < 4) ∧ (0 ≤ p2 ∧ p2 < 4) ∧ (0 ≤ p3 ∧ p3 ≤ 5000) ∧ (0 ≤ p4 ∧ p4 ≤ 9999)) ∧ v = 0 ∧ u = (z, g)) ∨ (((0 ≤ p0 ∧ p0 < 10) ∧ (0 ≤ p1 ∧ p1 < 4) ∧ (0 ≤ p2 ∧ p2 < 4) ∧ (0 ≤ p3 ∧ p3 ≤ 5000) ∧ (0 ≤ p4 ∧ p4 ≤ 9999)) ∧ v = 1 ∧ u = (z, uZ (uZ g 31 (uI (g 31) ((p0 * 4 + p1) * 4 + p2) p3)) 32 (uI (g 32) ((p0 * 4 + p1) * 4 + p2) p4)))) ∧ xBz u.1 ∧ xBg u.2) (hm : ((¬ ((0 ≤ p0 ∧ p0 < 10) ∧ (0 ≤ p1 ∧ p1 < 4) ∧ (0 ≤ p2 ∧ p2 < 4) ∧ (0 ≤ p3 ∧ p3 ≤ 5000) ∧ (0 ≤ p4 ∧ p4 ≤ 9999)) ∧ v2 = 0 ∧ u2 = (uZ y 0 0, kk)) ∨ (((0 ≤ p0 ∧ p0 < 10) ∧ (0 ≤ p1 ∧ p1 < 4) ∧ (0 ≤ p2 ∧ p2 < 4) ∧ (0 ≤ p3 ∧ p3 ≤ 5000) ∧ (0 ≤ p4 ∧ p4 ≤ 9999)) ∧ v2 = 1 ∧ u2 = (uZ y 0 0, uZ (uZ kk 14 (uI (kk 14) (16 * p0 + 4 * p1 + p2) p3)) 15 (uI (kk 15) (16 * p0 + 4 * p1 + p2) p4)))) ∧ mBz u2.1 ∧ mBg u2.2) : v = v2 ∧ RelA u.1 u.2 u2.1 u2.2 := by
  obtain ⟨⟨hz, hg, hzm, hgm⟩, hR, hI⟩ := h
  obtain ⟨s0, s1, s2, s5, s16, s17, s20, s3, s4, t2, t4, t5, t43, r13, r14, r15, r16, r17, r18, r19, r21, r22, r23, r24, r25, r26, r29, r30, r31, r32⟩ := hR
  obtain ⟨u1, u3⟩ := u
  obtain ⟨w1, w3⟩ := u2
  obtain ⟨hx, bz, bg⟩ := hx
  obtain ⟨hm, bzm, bgm⟩ := hm
  rcases hx with ⟨c1, e1, e2⟩ | ⟨c1, e1, e2⟩ <;> rcases hm with ⟨c2, e4, e5⟩ | ⟨c2, e4, e5⟩
  · obtain ⟨ea, eb⟩ := Prod.mk.inj e2.symm
    obtain ⟨ec, ed⟩ := Prod.mk.inj e5.symm
    subst ea eb ec ed
    exact ⟨by omega, ⟨bz, bg, bzm, bgm⟩, ⟨s0, s1, s2, s5, s16, s17, s20, s3, s4, t2, t4, t5, t43, r13, r14, r15, r16, r17, r18, r19, r21, r22, r23, r24, r25, r26, r29, r30, r31, r32⟩, hI⟩
  · exact absurd c2 (by omega)
  · exact absurd c1 (by omega)
  · obtain ⟨ea, eb⟩ := Prod.mk.inj e2.symm
    obtain ⟨ec, ed⟩ := Prod.mk.inj e5.symm
    subst ea eb ec ed
    exact ⟨by omega, ⟨bz, bg, bzm, bgm⟩, ⟨s0, s1, s2, s5, s16, s17, s20, s3, s4, t2, t4, t5, t43, r13, r14, r15, r16, r17, r18, r19, r21, r22, r23, r24, r25, r26, r29, r30, (show uI (g 31) ((p0 * 4 + p1) * 4 + p2) _ = uI (kk 14) (16 * p0 + 4 * p1 + p2) _ by rw [r31, show (p0 * 4 + p1) * 4 + p2 = 16 * p0 + 4 * p1 + p2 by omega]), (show uI (g 32) ((p0 * 4 + p1) * 4 + p2) _ = uI (kk 15) (16 * p0 + 4 * p1 + p2) _ by rw [r32, show (p0 * 4 + p1) * 4 + p2 = 16 * p0 + 4 * p1 + p2 by omega])⟩, HI_cg hI rfl rfl rfl rfl rfl rfl rfl rfl rfl⟩
theorem st_left {z y : Nat → Int} {g kk : Nat → Int → Int} (p0 : Int) (h : RelA z g y kk) (v : Int) (v2 : Int) (u2 : sX) (hx : ((0 ≤ p0 ∧ p0 < 10) ∧ v = g 30 p0) ∨ (¬ (0 ≤ p0 ∧ p0 < 10) ∧ v = -1)) (hm : ((((0 ≤ p0 ∧ p0 < 10) ∧ v2 = kk 13 p0) ∨ (¬ (0 ≤ p0 ∧ p0 < 10) ∧ v2 = -1)) ∧ u2 = (uZ y 0 0, kk)) ∧ mBz u2.1 ∧ mBg u2.2) : v = v2 ∧ RelA z g u2.1 u2.2 := by
  obtain ⟨⟨hz, hg, hzm, hgm⟩, hR, hI⟩ := h
  obtain ⟨s0, s1, s2, s5, s16, s17, s20, s3, s4, t2, t4, t5, t43, r13, r14, r15, r16, r17, r18, r19, r21, r22, r23, r24, r25, r26, r29, r30, r31, r32⟩ := hR
  obtain ⟨w1, w3⟩ := u2
  obtain ⟨hm, bzm, bgm⟩ := hm
  obtain ⟨hm, e5⟩ := hm
  obtain ⟨ec, ed⟩ := Prod.mk.inj e5.symm
  subst ec ed
  refine ⟨?_, ⟨hz, hg, bzm, bgm⟩, ⟨s0, s1, s2, s5, s16, s17, s20, s3, s4, t2, t4, t5, t43, r13, r14, r15, r16, r17, r18, r19, r21, r22, r23, r24, r25, r26, r29, r30, r31, r32⟩, hI⟩
  rcases hx with ⟨c1, e1⟩ | ⟨c1, e1⟩ <;> rcases hm with ⟨c2, e4⟩ | ⟨c2, e4⟩
  · rw [e1, e4, r30]
  · exact absurd c1 c2
  · exact absurd c2 c1
  · rw [e1, e4]
theorem st_wanted {z y : Nat → Int} {g kk : Nat → Int → Int} (p0 p1 p2 : Int) (h : RelA z g y kk) (v : Int) (v2 : Int) (u2 : sX) (hx : (((0 ≤ p0 ∧ p0 < 10) ∧ (0 ≤ p1 ∧ p1 < 4) ∧ (0 ≤ p2 ∧ p2 < 4)) ∧ v = g 31 ((p0 * 4 + p1) * 4 + p2)) ∨ (¬ ((0 ≤ p0 ∧ p0 < 10) ∧ (0 ≤ p1 ∧ p1 < 4) ∧ (0 ≤ p2 ∧ p2 < 4)) ∧ v = -1)) (hm : (((((0 ≤ p0 ∧ p0 < 10) ∧ (0 ≤ p1 ∧ p1 < 4) ∧ (0 ≤ p2 ∧ p2 < 4)) ∧ v2 = kk 14 (16 * p0 + 4 * p1 + p2)) ∨ (¬ ((0 ≤ p0 ∧ p0 < 10) ∧ (0 ≤ p1 ∧ p1 < 4) ∧ (0 ≤ p2 ∧ p2 < 4)) ∧ v2 = -1)) ∧ u2 = (uZ y 0 0, kk)) ∧ mBz u2.1 ∧ mBg u2.2) : v = v2 ∧ RelA z g u2.1 u2.2 := by
  obtain ⟨⟨hz, hg, hzm, hgm⟩, hR, hI⟩ := h
  obtain ⟨s0, s1, s2, s5, s16, s17, s20, s3, s4, t2, t4, t5, t43, r13, r14, r15, r16, r17, r18, r19, r21, r22, r23, r24, r25, r26, r29, r30, r31, r32⟩ := hR
  obtain ⟨w1, w3⟩ := u2
  obtain ⟨hm, bzm, bgm⟩ := hm
  obtain ⟨hm, e5⟩ := hm
  obtain ⟨ec, ed⟩ := Prod.mk.inj e5.symm
  subst ec ed
  refine ⟨?_, ⟨hz, hg, bzm, bgm⟩, ⟨s0, s1, s2, s5, s16, s17, s20, s3, s4, t2, t4, t5, t43, r13, r14, r15, r16, r17, r18, r19, r21, r22, r23, r24, r25, r26, r29, r30, r31, r32⟩, hI⟩
  rcases hx with ⟨c1, e1⟩ | ⟨c1, e1⟩ <;> rcases hm with ⟨c2, e4⟩ | ⟨c2, e4⟩
  · rw [e1, e4, r31, show (p0 * 4 + p1) * 4 + p2 = 16 * p0 + 4 * p1 + p2 by omega]
  · exact absurd c1 c2
  · exact absurd c2 c1
  · rw [e1, e4]
theorem st_sent {z y : Nat → Int} {g kk : Nat → Int → Int} (p0 : Int) (h : RelA z g y kk) (v : Int) (v2 : Int) (u2 : sX) (hx : ((z 20 ≠ 0 ∧ 0 ≤ p0 ∧ p0 < 4) ∧ v = g 43 p0) ∨ (¬ (z 20 ≠ 0 ∧ 0 ≤ p0 ∧ p0 < 4) ∧ v = -1)) (hm : ((((y 14 ≠ 0 ∧ 0 ≤ p0 ∧ p0 < 4) ∧ v2 = kk 28 p0) ∨ (¬ (y 14 ≠ 0 ∧ 0 ≤ p0 ∧ p0 < 4) ∧ v2 = -1)) ∧ u2 = (uZ y 0 0, kk)) ∧ mBz u2.1 ∧ mBg u2.2) : v = v2 ∧ RelA z g u2.1 u2.2 := by
  obtain ⟨⟨hz, hg, hzm, hgm⟩, hR, hI⟩ := h
  obtain ⟨s0, s1, s2, s5, s16, s17, s20, s3, s4, t2, t4, t5, t43, r13, r14, r15, r16, r17, r18, r19, r21, r22, r23, r24, r25, r26, r29, r30, r31, r32⟩ := hR
  obtain ⟨w1, w3⟩ := u2
  obtain ⟨hm, bzm, bgm⟩ := hm
  obtain ⟨hm, e5⟩ := hm
  obtain ⟨ec, ed⟩ := Prod.mk.inj e5.symm
  subst ec ed
  refine ⟨?_, ⟨hz, hg, bzm, bgm⟩, ⟨s0, s1, s2, s5, s16, s17, s20, s3, s4, t2, t4, t5, t43, r13, r14, r15, r16, r17, r18, r19, r21, r22, r23, r24, r25, r26, r29, r30, r31, r32⟩, hI⟩
  rcases hx with ⟨c1, e1⟩ | ⟨c1, e1⟩ <;> rcases hm with ⟨c2, e4⟩ | ⟨c2, e4⟩
  · rw [e1, e4, t43 _ c1.2.1 c1.2.2]
  · exact (c2 ⟨by rw [← s20]; exact c1.1, c1.2⟩).elim
  · exact (c1 ⟨by rw [s20]; exact c2.1, c2.2⟩).elim
  · rw [e1, e4]
theorem st_count {z y : Nat → Int} {g kk : Nat → Int → Int} (p0 : Int) (h : RelA z g y kk) (v : Int) (v2 : Int) (u2 : sX) (hx : (p0 = 0 ∧ v = z 0) ∨ (p0 = 1 ∧ v = z 16) ∨ (p0 = 2 ∧ v = z 17) ∨ (p0 = 3 ∧ v = z 5) ∨ (p0 = 4 ∧ v = z 2) ∨ (¬ (0 ≤ p0 ∧ p0 ≤ 4) ∧ v = -1)) (hm : (((p0 = 0 ∧ v2 = y 12) ∨ (p0 = 1 ∧ v2 = y 11) ∨ (p0 = 2 ∧ v2 = y 13) ∨ (p0 = 3 ∧ v2 = y 9) ∨ (p0 = 4 ∧ v2 = y 1) ∨ (¬ (0 ≤ p0 ∧ p0 ≤ 4) ∧ v2 = -1)) ∧ u2 = (uZ y 0 0, kk)) ∧ mBz u2.1 ∧ mBg u2.2) : v = v2 ∧ RelA z g u2.1 u2.2 := by
  obtain ⟨⟨hz, hg, hzm, hgm⟩, hR, hI⟩ := h
  obtain ⟨s0, s1, s2, s5, s16, s17, s20, s3, s4, t2, t4, t5, t43, r13, r14, r15, r16, r17, r18, r19, r21, r22, r23, r24, r25, r26, r29, r30, r31, r32⟩ := hR
  obtain ⟨w1, w3⟩ := u2
  obtain ⟨hm, bzm, bgm⟩ := hm
  obtain ⟨hm, e5⟩ := hm
  obtain ⟨ec, ed⟩ := Prod.mk.inj e5.symm
  subst ec ed
  exact ⟨by omega, ⟨hz, hg, bzm, bgm⟩, ⟨s0, s1, s2, s5, s16, s17, s20, s3, s4, t2, t4, t5, t43, r13, r14, r15, r16, r17, r18, r19, r21, r22, r23, r24, r25, r26, r29, r30, r31, r32⟩, hI⟩
theorem st_reject {z y : Nat → Int} {g kk : Nat → Int → Int} (p0 : Int) (h : RelA z g y kk) (v : Int) (u : sX) (v2 : Int) (u2 : sX) (hx : ((¬ (0 ≤ p0 ∧ p0 < z 17 ∧ g 26 p0 = -1 ∧ g 19 (g 21 p0) = p0) ∧ v = 0 ∧ u = (z, g)) ∨ ((0 ≤ p0 ∧ p0 < z 17 ∧ g 26 p0 = -1 ∧ g 19 (g 21 p0) = p0) ∧ v = 1 ∧ u = (z, uZ (uZ g 26 (uI (g 26) p0 (z 0))) 18 (uI (g 18) (g 21 p0) 0)))) ∧ xBz u.1 ∧ xBg u.2) (hm : ((¬ (0 ≤ p0 ∧ p0 < y 13 ∧ kk 21 p0 = -1 ∧ kk 10 (kk 16 p0) = p0) ∧ v2 = 0 ∧ u2 = (uZ y 0 0, kk)) ∨ ((0 ≤ p0 ∧ p0 < y 13 ∧ kk 21 p0 = -1 ∧ kk 10 (kk 16 p0) = p0) ∧ v2 = 1 ∧ u2 = (uZ y 0 0, uZ (uZ kk 21 (uI (kk 21) p0 (y 12))) 11 (uI (kk 11) (kk 16 p0) 0)))) ∧ mBz u2.1 ∧ mBg u2.2) : v = v2 ∧ RelA u.1 u.2 u2.1 u2.2 := by
  obtain ⟨⟨hz, hg, hzm, hgm⟩, hR, hI⟩ := h
  obtain ⟨s0, s1, s2, s5, s16, s17, s20, s3, s4, t2, t4, t5, t43, r13, r14, r15, r16, r17, r18, r19, r21, r22, r23, r24, r25, r26, r29, r30, r31, r32⟩ := hR
  obtain ⟨u1, u3⟩ := u
  obtain ⟨w1, w3⟩ := u2
  obtain ⟨hx, bz, bg⟩ := hx
  obtain ⟨hm, bzm, bgm⟩ := hm
  have hc : (0 ≤ p0 ∧ p0 < z 17 ∧ g 26 p0 = -1 ∧ g 19 (g 21 p0) = p0) ↔ (0 ≤ p0 ∧ p0 < y 13 ∧ kk 21 p0 = -1 ∧ kk 10 (kk 16 p0) = p0) := by rw [s17, r26, r19, r21]
  rcases hx with ⟨c1, e1, e2⟩ | ⟨c1, e1, e2⟩ <;> rcases hm with ⟨c2, e4, e5⟩ | ⟨c2, e4, e5⟩
  · obtain ⟨ea, eb⟩ := Prod.mk.inj e2.symm
    obtain ⟨ec, ed⟩ := Prod.mk.inj e5.symm
    subst ea eb ec ed
    exact ⟨by omega, ⟨bz, bg, bzm, bgm⟩, ⟨s0, s1, s2, s5, s16, s17, s20, s3, s4, t2, t4, t5, t43, r13, r14, r15, r16, r17, r18, r19, r21, r22, r23, r24, r25, r26, r29, r30, r31, r32⟩, hI⟩
  · exact absurd (hc.mpr c2) c1
  · exact absurd (hc.mp c1) c2
  · obtain ⟨ea, eb⟩ := Prod.mk.inj e2.symm
    obtain ⟨ec, ed⟩ := Prod.mk.inj e5.symm
    subst ea eb ec ed
    obtain ⟨i1, i2, i3, i4, i5, i6, i7, i8, i9⟩ := hI
    obtain ⟨c3, c4, c5, c6⟩ := c1
    have q0 := xZ0 hz
    refine ⟨by omega, ⟨bz, bg, bzm, bgm⟩, ⟨s0, s1, s2, s5, s16, s17, s20, s3, s4, t2, t4, t5, t43, r13, r14, r15, r16, r17, (show uI (g 18) (g 21 p0) 0 = uI (kk 11) (kk 16 p0) 0 by rw [r18, r21]), r19, r21, r22, r23, r24, r25, (show uI (g 26) p0 (z 0) = uI (kk 21) p0 (y 12) by rw [r26, s0]), r29, r30, r31, r32⟩, ?_⟩
    refine ⟨i1, i2, i3, i4, fun q a1 => ?_, fun q a1 a2 a3 => ?_, i7, fun s a1 a2 a3 => ?_, fun s a1 a2 => ?_⟩
    · show uI (g 18) (g 21 p0) 0 q = 0
      unfold uI
      split
      · rfl
      · exact i5 q a1
    · show g 19 q = -1 ∨ uI (g 26) p0 (z 0) (g 19 q) ≠ -1
      by_cases e9 : g 19 q = p0
      · rw [e9, uI_s]
        exact Or.inr (by omega)
      · rw [uI_n _ _ e9]
        replace a3 : uI (g 18) (g 21 p0) 0 q = 0 := a3
        have e8 : q ≠ g 21 p0 := fun e => e9 (by rw [e]; exact c6)
        rw [uI_n _ _ e8] at a3
        exact i6 q a1 a2 a3
    · show uI (g 26) p0 (z 0) s ≠ -1 ∧ uI (g 26) p0 (z 0) s ≤ g 23 (g 27 s)
      have j8 := i8 s a1 a2 a3
      have e8 : s ≠ p0 := fun e => j8.1 (by rw [e]; exact c5)
      rw [uI_n _ _ e8]
      exact j8
    · show uI (g 26) p0 (z 0) s ≤ z 0
      unfold uI
      split
      · exact Int.le_refl _
      · exact i9 s a1 a2
theorem st_next {z y : Nat → Int} {g kk : Nat → Int → Int}  (h : RelA z g y kk) (v : Int) (u : sX) (v2 : Int) (u2 : sX) (hx : ((¬ z 0 < 999 ∧ v = -1 ∧ u = (z, g)) ∨ (z 0 < 999 ∧ v = z 0 + 1 ∧ u = (uZ z 0 (z 0 + 1), uZ (uZ g 16 (rotF g (z 16) (z 3))) 30 (fun j => if 0 ≤ j ∧ j < 10 then g 29 j else g 30 j)))) ∧ xBz u.1 ∧ xBg u.2) (hm : ((¬ y 12 < 999 ∧ v2 = -1 ∧ u2 = (uZ y 0 0, kk)) ∨ (y 12 < 999 ∧ v2 = y 12 + 1 ∧ u2 = (uZ (uZ y 0 0) 12 (y 12 + 1), uZ (uZ kk 8 (rotG (kk 11) (kk 8) (y 11) (kk 2 8))) 13 (fun j => if 0 ≤ j ∧ j < 10 then kk 12 j else kk 13 j)))) ∧ mBz u2.1 ∧ mBg u2.2) : v = v2 ∧ RelA u.1 u.2 u2.1 u2.2 := by
  obtain ⟨⟨hz, hg, hzm, hgm⟩, hR, hI⟩ := h
  obtain ⟨s0, s1, s2, s5, s16, s17, s20, s3, s4, t2, t4, t5, t43, r13, r14, r15, r16, r17, r18, r19, r21, r22, r23, r24, r25, r26, r29, r30, r31, r32⟩ := hR
  obtain ⟨u1, u3⟩ := u
  obtain ⟨w1, w3⟩ := u2
  obtain ⟨hx, bz, bg⟩ := hx
  obtain ⟨hm, bzm, bgm⟩ := hm
  rcases hx with ⟨c1, e1, e2⟩ | ⟨c1, e1, e2⟩ <;> rcases hm with ⟨c2, e4, e5⟩ | ⟨c2, e4, e5⟩
  · obtain ⟨ea, eb⟩ := Prod.mk.inj e2.symm
    obtain ⟨ec, ed⟩ := Prod.mk.inj e5.symm
    subst ea eb ec ed
    exact ⟨by omega, ⟨bz, bg, bzm, bgm⟩, ⟨s0, s1, s2, s5, s16, s17, s20, s3, s4, t2, t4, t5, t43, r13, r14, r15, r16, r17, r18, r19, r21, r22, r23, r24, r25, r26, r29, r30, r31, r32⟩, hI⟩
  · exact absurd c2 (by omega)
  · exact absurd c1 (by omega)
  · obtain ⟨ea, eb⟩ := Prod.mk.inj e2.symm
    obtain ⟨ec, ed⟩ := Prod.mk.inj e5.symm
    subst ea eb ec ed
    obtain ⟨i1, i2, i3, i4, i5, i6, i7, i8, i9⟩ := hI
    refine ⟨by omega, ⟨bz, bg, bzm, bgm⟩, ⟨(show z 0 + 1 = y 12 + 1 by omega), s1, s2, s5, s16, s17, s20, s3, s4, t2, t4, t5, t43, r13, r14, r15, ?_, r17, r18, r19, r21, r22, r23, r24, r25, r26, r29, (show (fun j => if 0 ≤ j ∧ j < 10 then g 29 j else g 30 j) = (fun j => if 0 ≤ j ∧ j < 10 then kk 12 j else kk 13 j) by rw [r29, r30]), r31, r32⟩, ⟨i1, i2, fun s a1 a2 => ?_, i4, i5, i6, i7, i8, fun s a1 a2 => ?_⟩⟩
    · show rotF g (z 16) (z 3) = rotG (kk 11) (kk 8) (y 11) (kk 2 8)
      unfold rotF rotG
      rw [r16, r18, s16, s3]
    · show g 23 s ≤ z 0 + 1
      have := i3 s a1 a2
      omega
    · show g 26 s ≤ z 0 + 1
      have := i9 s a1 a2
      omega
