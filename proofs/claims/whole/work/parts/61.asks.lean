/-! calls that reckon: pool, sale, about, pay, wire, worth, rules -/
theorem nx_X {z y : Nat → Int} {g kk : Nat → Int → Int} (h : RelA z g y kk) {s : Int} (h0 : 0 ≤ s) (h1 : s < z 17) : nx (kk 16) (y 13) s = g 27 s := by
  obtain ⟨-, hR, hI⟩ := h
  obtain ⟨s0, s1, s2, s5, s16, s17, s20, s3, s4, t2, t4, t5, t43, r13, r14, r15, r16, r17, r18, r19, r21, r22, r23, r24, r25, r26, r29, r30, r31, r32⟩ := hR
  obtain ⟨i1, i2, i3, i4, i5, i6, i7, i8, i9⟩ := hI
  have e := nx_of h0 (i7 s h0 h1)
  rw [r21, s17] at e
  exact e.symm
theorem cl_X {z y : Nat → Int} {g kk : Nat → Int → Int} (h : RelA z g y kk) {s : Int} (h0 : 0 ≤ s) (h1 : s < z 17) : clX z g s = clM y kk s := by
  have e := nx_X h h0 h1
  obtain ⟨⟨hz, hg, -, -⟩, hR, hI⟩ := h
  obtain ⟨s0, s1, s2, s5, s16, s17, s20, s3, s4, t2, t4, t5, t43, r13, r14, r15, r16, r17, r18, r19, r21, r22, r23, r24, r25, r26, r29, r30, r31, r32⟩ := hR
  obtain ⟨i1, i2, i3, i4, i5, i6, i7, i8, i9⟩ := hI
  unfold clX clM
  rw [e, ← r26, ← s4, ← r25, ← r24]
  have b27 := xB27 hg s
  by_cases c1 : g 27 s = -1
  · rw [if_pos (Or.inl c1), if_pos (Or.inr (Or.inl (by omega)))]
  · have j8 := i8 s h0 h1 c1
    by_cases c2 : z 4 = 0
    · rw [if_pos (Or.inr c2), if_pos (Or.inr (Or.inr (Or.inl c2)))]
    · rw [if_neg (by omega)]
      by_cases c3 : g 25 s ≤ g 25 (g 27 s)
      · rw [if_pos (Or.inr (Or.inr (Or.inr c3))), show mx (g 25 s - g 25 (g 27 s)) 0 = 0 by unfold mx; split <;> omega, Int.zero_mul]
      · rw [if_neg (by omega), show mx (g 25 s - g 25 (g 27 s)) 0 = g 25 s - g 25 (g 27 s) by unfold mx; split <;> omega]
theorem pool_X {z y : Nat → Int} {g kk : Nat → Int → Int} (h : RelA z g y kk) (t : Int) : poolX z g t = poolM y kk t := by
  have hcl := fun {s : Int} => cl_X h (s := s)
  have hnx := fun {s : Int} => nx_X h (s := s)
  obtain ⟨⟨hz, hg, -, -⟩, hR, hI⟩ := h
  obtain ⟨s0, s1, s2, s5, s16, s17, s20, s3, s4, t2, t4, t5, t43, r13, r14, r15, r16, r17, r18, r19, r21, r22, r23, r24, r25, r26, r29, r30, r31, r32⟩ := hR
  obtain ⟨i1, i2, i3, i4, i5, i6, i7, i8, i9⟩ := hI
  unfold poolX poolM
  rw [← s17]
  refine sumI_cg (fun s h0 h1 => ?_)
  unfold tX tM
  rw [hnx h0 h1, hcl h0 h1]
  have b27 := xB27 hg s
  have b26 := xB26 hg s
  have ec : cntM kk t s ↔ cntX g t s := by
    show kk 18 s ≤ t ∧ (kk 21 s = -1 ∨ t < kk 21 s) ↔ g 23 s ≤ t ∧ (g 26 s = -1 ∨ t < g 26 s)
    rw [r23, r26]
  have x26 : kk 21 s = g 26 s := by rw [r26]
  have x23 : kk 18 (g 27 s) = g 23 (g 27 s) := by rw [r23]
  have x24 : kk 19 s = g 24 s := by rw [r24]
  have x25 : kk 20 s = g 25 s := by rw [r25]
  by_cases c1 : cntX g t s
  · rw [if_pos c1, if_pos (ec.mpr c1), if_neg (show ¬ (kk 21 s ≠ -1 ∧ kk 21 s ≤ t ∧ 0 ≤ g 27 s ∧ kk 18 (g 27 s) ≤ t) from fun q => by have := c1.2; omega), Int.add_zero, x24, x25]
  · rw [if_neg c1, if_neg (fun q => c1 (ec.mp q)), Int.zero_add]
    by_cases c2 : g 27 s ≠ -1 ∧ g 23 (g 27 s) ≤ t
    · have j8 := i8 s h0 h1 c2.1
      rw [if_pos c2, if_pos (show kk 21 s ≠ -1 ∧ kk 21 s ≤ t ∧ 0 ≤ g 27 s ∧ kk 18 (g 27 s) ≤ t by omega)]
    · rw [if_neg c2, if_neg (show ¬ (kk 21 s ≠ -1 ∧ kk 21 s ≤ t ∧ 0 ≤ g 27 s ∧ kk 18 (g 27 s) ≤ t) from fun q => c2 ⟨by omega, by omega⟩)]
theorem st_pool {z y : Nat → Int} {g kk : Nat → Int → Int} (p0 : Int) (h : RelA z g y kk) (v : Int) (v2 : Int) (u2 : sX) (hx : v = poolX z g p0) (hm : (v2 = poolM (uZ y 0 0) kk p0 ∧ u2 = (uZ y 0 0, kk)) ∧ mBz u2.1 ∧ mBg u2.2) : v = v2 ∧ RelA z g u2.1 u2.2 := by
  have hp := pool_X h p0
  obtain ⟨⟨hz, hg, hzm, hgm⟩, hR, hI⟩ := h
  obtain ⟨s0, s1, s2, s5, s16, s17, s20, s3, s4, t2, t4, t5, t43, r13, r14, r15, r16, r17, r18, r19, r21, r22, r23, r24, r25, r26, r29, r30, r31, r32⟩ := hR
  obtain ⟨w1, w3⟩ := u2
  obtain ⟨hm, bzm, bgm⟩ := hm
  obtain ⟨e4, e5⟩ := hm
  obtain ⟨ec, ed⟩ := Prod.mk.inj e5.symm
  subst ec ed
  refine ⟨?_, ⟨hz, hg, bzm, bgm⟩, ⟨s0, s1, s2, s5, s16, s17, s20, s3, s4, t2, t4, t5, t43, r13, r14, r15, r16, r17, r18, r19, r21, r22, r23, r24, r25, r26, r29, r30, r31, r32⟩, hI⟩
  rw [hx, e4, hp]
  rfl
theorem st_about {z y : Nat → Int} {g kk : Nat → Int → Int} (p0 p1 : Int) (h : RelA z g y kk) (v : Int) (v2 : Int) (u2 : sX) (hx : (0 ≤ p0 ∧ p0 < z 16) ∧ ((p1 = 0 ∧ v = g 13 p0) ∨ (p1 = 1 ∧ v = g 14 p0) ∨ (p1 = 2 ∧ v = g 15 p0) ∨ (p1 = 3 ∧ v = g 16 p0) ∨ (p1 = 4 ∧ v = g 17 p0) ∨ (p1 = 5 ∧ v = g 18 p0) ∨ (p1 = 6 ∧ v = g 19 p0))) (hm : ((¬ ((0 ≤ p0 ∧ p0 < y 11) ∧ (0 ≤ p1 ∧ p1 ≤ 6)) ∧ v2 = 0 ∧ u2 = (uZ y 0 1, kk)) ∨ (((0 ≤ p0 ∧ p0 < y 11) ∧ (0 ≤ p1 ∧ p1 ≤ 6)) ∧ u2 = (uZ y 0 0, kk) ∧ ((p1 = 0 ∧ v2 = kk 5 p0) ∨ (p1 = 1 ∧ v2 = kk 6 p0) ∨ (p1 = 2 ∧ v2 = kk 7 p0) ∨ (p1 = 3 ∧ v2 = kk 8 p0) ∨ (p1 = 4 ∧ v2 = kk 9 p0) ∨ (p1 = 5 ∧ v2 = kk 11 p0) ∨ (p1 = 6 ∧ v2 = kk 10 p0)))) ∧ mBz u2.1 ∧ mBg u2.2) : v = v2 ∧ u2.1 0 = 0 ∧ RelA z g u2.1 u2.2 := by
  obtain ⟨⟨hz, hg, hzm, hgm⟩, hR, hI⟩ := h
  obtain ⟨s0, s1, s2, s5, s16, s17, s20, s3, s4, t2, t4, t5, t43, r13, r14, r15, r16, r17, r18, r19, r21, r22, r23, r24, r25, r26, r29, r30, r31, r32⟩ := hR
  obtain ⟨w1, w3⟩ := u2
  obtain ⟨hm, bzm, bgm⟩ := hm
  obtain ⟨c1, hx⟩ := hx
  rcases hm with ⟨c2, e4, e5⟩ | ⟨c2, e5, hm⟩
  · exact (c2 ⟨⟨c1.1, by omega⟩, by omega⟩).elim
  · obtain ⟨ec, ed⟩ := Prod.mk.inj e5.symm
    subst ec ed
    refine ⟨?_, rfl, ⟨hz, hg, bzm, bgm⟩, ⟨s0, s1, s2, s5, s16, s17, s20, s3, s4, t2, t4, t5, t43, r13, r14, r15, r16, r17, r18, r19, r21, r22, r23, r24, r25, r26, r29, r30, r31, r32⟩, hI⟩
    rcases hx with ⟨q1, hv⟩ | ⟨q1, hv⟩ | ⟨q1, hv⟩ | ⟨q1, hv⟩ | ⟨q1, hv⟩ | ⟨q1, hv⟩ | ⟨q1, hv⟩ <;> rcases hm with ⟨q2, hw⟩ | ⟨q2, hw⟩ | ⟨q2, hw⟩ | ⟨q2, hw⟩ | ⟨q2, hw⟩ | ⟨q2, hw⟩ | ⟨q2, hw⟩ <;> try omega
    · rw [hv, hw, r13]
    · rw [hv, hw, r14]
    · rw [hv, hw, r15]
    · rw [hv, hw, r16]
    · rw [hv, hw, r17]
    · rw [hv, hw, r18]
    · rw [hv, hw, r19]
theorem st_aboutX {z y : Nat → Int} {g kk : Nat → Int → Int} (p0 p1 : Int) (h : RelA z g y kk) (v2 : Int) (u2 : sX) (hx : ¬ (0 ≤ p0 ∧ p0 < z 16) ∨ ¬ (0 ≤ p1 ∧ p1 ≤ 6)) (hm : ((¬ ((0 ≤ p0 ∧ p0 < y 11) ∧ (0 ≤ p1 ∧ p1 ≤ 6)) ∧ v2 = 0 ∧ u2 = (uZ y 0 1, kk)) ∨ (((0 ≤ p0 ∧ p0 < y 11) ∧ (0 ≤ p1 ∧ p1 ≤ 6)) ∧ u2 = (uZ y 0 0, kk) ∧ ((p1 = 0 ∧ v2 = kk 5 p0) ∨ (p1 = 1 ∧ v2 = kk 6 p0) ∨ (p1 = 2 ∧ v2 = kk 7 p0) ∨ (p1 = 3 ∧ v2 = kk 8 p0) ∨ (p1 = 4 ∧ v2 = kk 9 p0) ∨ (p1 = 5 ∧ v2 = kk 11 p0) ∨ (p1 = 6 ∧ v2 = kk 10 p0)))) ∧ mBz u2.1 ∧ mBg u2.2) : u2.1 0 = 1 ∧ RelA z g u2.1 u2.2 := by
  obtain ⟨⟨hz, hg, hzm, hgm⟩, hR, hI⟩ := h
  obtain ⟨s0, s1, s2, s5, s16, s17, s20, s3, s4, t2, t4, t5, t43, r13, r14, r15, r16, r17, r18, r19, r21, r22, r23, r24, r25, r26, r29, r30, r31, r32⟩ := hR
  obtain ⟨w1, w3⟩ := u2
  obtain ⟨hm, bzm, bgm⟩ := hm
  rcases hm with ⟨c2, e4, e5⟩ | ⟨c2, e5, hm⟩
  · obtain ⟨ec, ed⟩ := Prod.mk.inj e5.symm
    subst ec ed
    exact ⟨rfl, ⟨hz, hg, bzm, bgm⟩, ⟨s0, s1, s2, s5, s16, s17, s20, s3, s4, t2, t4, t5, t43, r13, r14, r15, r16, r17, r18, r19, r21, r22, r23, r24, r25, r26, r29, r30, r31, r32⟩, hI⟩
  · omega
theorem st_sale {z y : Nat → Int} {g kk : Nat → Int → Int} (p0 p1 : Int) (h : RelA z g y kk) (v : Int) (v2 : Int) (u2 : sX) (hx : (0 ≤ p0 ∧ p0 < z 17) ∧ ((p1 = 0 ∧ v = g 21 p0) ∨ (p1 = 1 ∧ v = g 22 p0) ∨ (p1 = 2 ∧ v = g 23 p0) ∨ (p1 = 3 ∧ v = g 24 p0) ∨ (p1 = 4 ∧ v = g 25 p0) ∨ (p1 = 5 ∧ v = g 26 p0) ∨ (p1 = 6 ∧ v = clX z g p0))) (hm : ((¬ ((0 ≤ p0 ∧ p0 < y 13) ∧ (0 ≤ p1 ∧ p1 ≤ 6)) ∧ v2 = 0 ∧ u2 = (uZ y 0 1, kk)) ∨ (((0 ≤ p0 ∧ p0 < y 13) ∧ (0 ≤ p1 ∧ p1 ≤ 6)) ∧ u2 = (uZ y 0 0, kk) ∧ ((p1 = 0 ∧ v2 = kk 16 p0) ∨ (p1 = 1 ∧ v2 = kk 17 p0) ∨ (p1 = 2 ∧ v2 = kk 18 p0) ∨ (p1 = 3 ∧ v2 = kk 19 p0) ∨ (p1 = 4 ∧ v2 = kk 20 p0) ∨ (p1 = 5 ∧ v2 = kk 21 p0) ∨ (p1 = 6 ∧ v2 = clM y kk p0)))) ∧ mBz u2.1 ∧ mBg u2.2) : v = v2 ∧ u2.1 0 = 0 ∧ RelA z g u2.1 u2.2 := by
  have hcl := fun {s : Int} => cl_X h (s := s)
  obtain ⟨⟨hz, hg, hzm, hgm⟩, hR, hI⟩ := h
  obtain ⟨s0, s1, s2, s5, s16, s17, s20, s3, s4, t2, t4, t5, t43, r13, r14, r15, r16, r17, r18, r19, r21, r22, r23, r24, r25, r26, r29, r30, r31, r32⟩ := hR
  obtain ⟨w1, w3⟩ := u2
  obtain ⟨hm, bzm, bgm⟩ := hm
  obtain ⟨c1, hx⟩ := hx
  rcases hm with ⟨c2, e4, e5⟩ | ⟨c2, e5, hm⟩
  · exact (c2 ⟨⟨c1.1, by omega⟩, by omega⟩).elim
  · obtain ⟨ec, ed⟩ := Prod.mk.inj e5.symm
    subst ec ed
    refine ⟨?_, rfl, ⟨hz, hg, bzm, bgm⟩, ⟨s0, s1, s2, s5, s16, s17, s20, s3, s4, t2, t4, t5, t43, r13, r14, r15, r16, r17, r18, r19, r21, r22, r23, r24, r25, r26, r29, r30, r31, r32⟩, hI⟩
    rcases hx with ⟨q1, hv⟩ | ⟨q1, hv⟩ | ⟨q1, hv⟩ | ⟨q1, hv⟩ | ⟨q1, hv⟩ | ⟨q1, hv⟩ | ⟨q1, hv⟩ <;> rcases hm with ⟨q2, hw⟩ | ⟨q2, hw⟩ | ⟨q2, hw⟩ | ⟨q2, hw⟩ | ⟨q2, hw⟩ | ⟨q2, hw⟩ | ⟨q2, hw⟩ <;> try omega
    · rw [hv, hw, r21]
    · rw [hv, hw, r22]
    · rw [hv, hw, r23]
    · rw [hv, hw, r24]
    · rw [hv, hw, r25]
    · rw [hv, hw, r26]
    · rw [hv, hw]; exact hcl c1.1 c1.2
theorem st_saleX {z y : Nat → Int} {g kk : Nat → Int → Int} (p0 p1 : Int) (h : RelA z g y kk) (v2 : Int) (u2 : sX) (hx : ¬ (0 ≤ p0 ∧ p0 < z 17) ∨ ¬ (0 ≤ p1 ∧ p1 ≤ 6)) (hm : ((¬ ((0 ≤ p0 ∧ p0 < y 13) ∧ (0 ≤ p1 ∧ p1 ≤ 6)) ∧ v2 = 0 ∧ u2 = (uZ y 0 1, kk)) ∨ (((0 ≤ p0 ∧ p0 < y 13) ∧ (0 ≤ p1 ∧ p1 ≤ 6)) ∧ u2 = (uZ y 0 0, kk) ∧ ((p1 = 0 ∧ v2 = kk 16 p0) ∨ (p1 = 1 ∧ v2 = kk 17 p0) ∨ (p1 = 2 ∧ v2 = kk 18 p0) ∨ (p1 = 3 ∧ v2 = kk 19 p0) ∨ (p1 = 4 ∧ v2 = kk 20 p0) ∨ (p1 = 5 ∧ v2 = kk 21 p0) ∨ (p1 = 6 ∧ v2 = clM y kk p0)))) ∧ mBz u2.1 ∧ mBg u2.2) : u2.1 0 = 1 ∧ RelA z g u2.1 u2.2 := by
  obtain ⟨⟨hz, hg, hzm, hgm⟩, hR, hI⟩ := h
  obtain ⟨s0, s1, s2, s5, s16, s17, s20, s3, s4, t2, t4, t5, t43, r13, r14, r15, r16, r17, r18, r19, r21, r22, r23, r24, r25, r26, r29, r30, r31, r32⟩ := hR
  obtain ⟨w1, w3⟩ := u2
  obtain ⟨hm, bzm, bgm⟩ := hm
  rcases hm with ⟨c2, e4, e5⟩ | ⟨c2, e5, hm⟩
  · obtain ⟨ec, ed⟩ := Prod.mk.inj e5.symm
    subst ec ed
    exact ⟨rfl, ⟨hz, hg, bzm, bgm⟩, ⟨s0, s1, s2, s5, s16, s17, s20, s3, s4, t2, t4, t5, t43, r13, r14, r15, r16, r17, r18, r19, r21, r22, r23, r24, r25, r26, r29, r30, r31, r32⟩, hI⟩
  · omega
theorem st_wire {z y : Nat → Int} {g kk : Nat → Int → Int} (p0 p1 p2 p3 : Int) (h : RelA z g y kk) (v : Int) (v2 : Int) (u2 : sX) (hx : (¬ ((0 ≤ p0 ∧ p0 < 4) ∧ (0 ≤ p1 ∧ p1 < 4) ∧ (0 ≤ p2 ∧ p2 ≤ 999) ∧ (0 ≤ p3 ∧ p3 ≤ 3)) ∧ v = -1) ∨ (((0 ≤ p0 ∧ p0 < 4) ∧ (0 ≤ p1 ∧ p1 < 4) ∧ (0 ≤ p2 ∧ p2 ≤ 999) ∧ (0 ≤ p3 ∧ p3 ≤ 3)) ∧ v = wsl (wI (siX g p0 p1 p2) (g 25) (g 24) (z 17)) p3)) (hm : ((¬ ((0 ≤ p0 ∧ p0 < 4) ∧ (0 ≤ p1 ∧ p1 < 4) ∧ (0 ≤ p2 ∧ p2 ≤ 999) ∧ (0 ≤ p3 ∧ p3 ≤ 3)) ∧ v2 = -1 ∧ u2 = (uZ y 0 0, kk)) ∨ (((0 ≤ p0 ∧ p0 < 4) ∧ (0 ≤ p1 ∧ p1 < 4) ∧ (0 ≤ p2 ∧ p2 ≤ 999) ∧ (0 ≤ p3 ∧ p3 ≤ 3)) ∧ v2 = wsl (wI (siM kk p0 p1 p2) (kk 20) (kk 19) (y 13)) p3 ∧ u2 = (uZ y 0 0, kk))) ∧ mBz u2.1 ∧ mBg u2.2) : v = v2 ∧ RelA z g u2.1 u2.2 := by
  obtain ⟨⟨hz, hg, hzm, hgm⟩, hR, hI⟩ := h
  obtain ⟨s0, s1, s2, s5, s16, s17, s20, s3, s4, t2, t4, t5, t43, r13, r14, r15, r16, r17, r18, r19, r21, r22, r23, r24, r25, r26, r29, r30, r31, r32⟩ := hR
  obtain ⟨w1, w3⟩ := u2
  obtain ⟨hm, bzm, bgm⟩ := hm
  have es : siX g p0 p1 p2 = siM kk p0 p1 p2 := by
    funext s
    unfold siX siM
    show (if g 23 s = p2 ∧ g 17 (g 21 s) = p0 ∧ g 15 (g 21 s) = p1 ∧ (g 23 s ≤ p2 ∧ (g 26 s = -1 ∨ p2 < g 26 s)) then (1 : Int) else 0) = if (kk 18 s ≤ p2 ∧ (kk 21 s = -1 ∨ p2 < kk 21 s)) ∧ kk 18 s = p2 ∧ kk 9 (kk 16 s) = p0 ∧ kk 7 (kk 16 s) = p1 then 1 else 0
    rw [r23, r17, r21, r15, r26]
    split <;> split <;> omega
  rcases hx with ⟨c1, e1⟩ | ⟨c1, e1⟩ <;> rcases hm with ⟨c2, e4, e5⟩ | ⟨c2, e4, e5⟩
  · obtain ⟨ec, ed⟩ := Prod.mk.inj e5.symm
    subst ec ed
    exact ⟨by omega, ⟨hz, hg, bzm, bgm⟩, ⟨s0, s1, s2, s5, s16, s17, s20, s3, s4, t2, t4, t5, t43, r13, r14, r15, r16, r17, r18, r19, r21, r22, r23, r24, r25, r26, r29, r30, r31, r32⟩, hI⟩
  · exact absurd c2 c1
  · exact absurd c1 c2
  · obtain ⟨ec, ed⟩ := Prod.mk.inj e5.symm
    subst ec ed
    refine ⟨?_, ⟨hz, hg, bzm, bgm⟩, ⟨s0, s1, s2, s5, s16, s17, s20, s3, s4, t2, t4, t5, t43, r13, r14, r15, r16, r17, r18, r19, r21, r22, r23, r24, r25, r26, r29, r30, r31, r32⟩, hI⟩
    rw [e1, e4, es, r25, r24, s17]
theorem st_pay {z y : Nat → Int} {g kk : Nat → Int → Int} (p0 p1 : Int) (h : RelA z g y kk) (v : Int) (u : sX) (v2 : Int) (u2 : sX) (hx : ((¬ (0 ≤ p0 ∧ p0 < 8) ∧ v = -1 ∧ u = (z, g)) ∨ ((0 ≤ p0 ∧ p0 < 8) ∧ v = payF (poolX z g p1) (AX z g p1) (WX z g p1) p0 ∧ u.1 = z ∧ ∃ f1 f2 : Int → Int, u.2 = uZ (uZ g 34 f1) 35 f2)) ∧ xBz u.1 ∧ xBg u.2) (hm : ((¬ (0 ≤ p0 ∧ p0 < 8) ∧ v2 = -1 ∧ u2 = (uZ y 0 0, kk)) ∨ ((0 ≤ p0 ∧ p0 < 8) ∧ v2 = payF (poolM y kk p1) (AM y kk p1) (WM y kk p1) p0 ∧ u2.1 = uZ y 0 0 ∧ ∃ f1 f2 f3 : Int → Int, u2.2 = uZ (uZ (uZ kk 24 f1) 25 f2) 26 f3)) ∧ mBz u2.1 ∧ mBg u2.2) : v = v2 ∧ RelA u.1 u.2 u2.1 u2.2 := by
  have hp := pool_X h p1
  obtain ⟨⟨hz, hg, hzm, hgm⟩, hR, hI⟩ := h
  obtain ⟨s0, s1, s2, s5, s16, s17, s20, s3, s4, t2, t4, t5, t43, r13, r14, r15, r16, r17, r18, r19, r21, r22, r23, r24, r25, r26, r29, r30, r31, r32⟩ := hR
  obtain ⟨u1, u3⟩ := u
  obtain ⟨w1, w3⟩ := u2
  obtain ⟨hx, bz, bg⟩ := hx
  obtain ⟨hm, bzm, bgm⟩ := hm
  have ew : ∀ s, wgX g p1 s = wgM kk p1 s := by
    intro s
    unfold wgX wgM
    show (if (g 23 s ≤ p1 ∧ (g 26 s = -1 ∨ p1 < g 26 s)) then g 24 s * g 5 (g 15 (g 21 s)) else 0) = if (kk 18 s ≤ p1 ∧ (kk 21 s = -1 ∨ p1 < kk 21 s)) then kk 19 s * kk 2 (4 + kk 7 (kk 16 s)) else 0
    have b15 := xB15 hg (g 21 s)
    rw [t5 _ b15.1 (by omega), r23, r26, r24, r15, r21]
  have ew2 : wgX g p1 = wgM kk p1 := funext ew
  have eA : AX z g p1 = AM y kk p1 := by unfold AX AM; rw [ew2, s17]
  have eW : WX z g p1 = WM y kk p1 := by
    funext q
    unfold WX WM
    rw [ew2, s17, show goX g = goM kk from funext (fun s => by show g 13 (g 21 s) = kk 5 (kk 16 s); rw [r13, r21])]
  rcases hx with ⟨c1, e1, e2⟩ | ⟨c1, e1, e2, f1, f2, e3⟩ <;> rcases hm with ⟨c2, e4, e5⟩ | ⟨c2, e4, e5, f3, f4, f5, e6⟩
  · obtain ⟨ea, eb⟩ := Prod.mk.inj e2.symm
    obtain ⟨ec, ed⟩ := Prod.mk.inj e5.symm
    subst ea eb ec ed
    exact ⟨by omega, ⟨bz, bg, bzm, bgm⟩, ⟨s0, s1, s2, s5, s16, s17, s20, s3, s4, t2, t4, t5, t43, r13, r14, r15, r16, r17, r18, r19, r21, r22, r23, r24, r25, r26, r29, r30, r31, r32⟩, hI⟩
  · exact absurd c2 c1
  · exact absurd c1 c2
  · dsimp only at e2 e3 e5 e6
    replace e2 := e2.symm
    subst e2 e3 e5 e6
    refine ⟨?_, ⟨bz, bg, bzm, bgm⟩, ⟨s0, s1, s2, s5, s16, s17, s20, s3, s4, t2, t4, t5, t43, r13, r14, r15, r16, r17, r18, r19, r21, r22, r23, r24, r25, r26, r29, r30, r31, r32⟩, HI_cg hI rfl rfl rfl rfl rfl rfl rfl rfl rfl⟩
    rw [e1, e4, hp, eA, eW]
theorem wq_X {z y : Nat → Int} {g kk : Nat → Int → Int} (hR : Rel z g y kk) (m t : Int) : wT (ciX g t) (gdX g) (mkX g) m (z 17) = wT (ciM kk t) (gdM kk) (mkM kk) m (y 13) ∧ wV (ciX g t) (gdX g) (mkX g) (g 25) m (z 17) = wV (ciM kk t) (gdM kk) (mkM kk) (kk 20) m (y 13) ∧ wC (ciX g t) (gdX g) (z 17) = wC (ciM kk t) (gdM kk) (y 13) := by
  obtain ⟨s0, s1, s2, s5, s16, s17, s20, s3, s4, t2, t4, t5, t43, r13, r14, r15, r16, r17, r18, r19, r21, r22, r23, r24, r25, r26, r29, r30, r31, r32⟩ := hR
  have e1 : ciX g t = ciM kk t := by
    funext s
    unfold ciX ciM
    show (if (g 23 s ≤ t ∧ (g 26 s = -1 ∨ t < g 26 s)) then (1 : Int) else 0) = if (kk 18 s ≤ t ∧ (kk 21 s = -1 ∨ t < kk 21 s)) then 1 else 0
    rw [r23, r26]
  have e2 : gdX g = gdM kk := funext (fun s => by show g 15 (g 21 s) = kk 7 (kk 16 s); rw [r15, r21])
  have e3 : mkX g = mkM kk := funext (fun s => by show g 14 (g 21 s) = kk 6 (kk 16 s); rw [r14, r21])
  rw [e1, e2, e3, s17, r25]
  exact ⟨rfl, rfl, rfl⟩
theorem prZ_1 (N : Int → Int) : ∀ n : Nat, 1 ≤ prZ N n
  | 0 => by show (1 : Int) ≤ 1; omega
  | n + 1 => by
    have h := prZ_1 N n
    show (1 : Int) ≤ prZ N n * n1 (N n)
    have h2 : 1 ≤ n1 (N n) := by unfold n1; split <;> omega
    have := Int.mul_le_mul h h2 (by omega) (by omega)
    omega
theorem wC_1 (c gd : Int → Int) (n : Int) : 1 ≤ wC c gd n := prZ_1 _ _
theorem st_worth {z y : Nat → Int} {g kk : Nat → Int → Int} (p0 p1 p2 : Int) (h : RelA z g y kk) (v : Int) (u : sX) (v2 : Int) (u2 : sX) (hx : (((0 ≤ p0 ∧ p0 ≤ 5) ∧ (0 ≤ p2 ∧ p2 ≤ 1)) ∧ 1 ≤ (wT (ciX g p1) (gdX g) (mkX g) p0 (z 17)) ∧ ∃ (rp rq : Int) (fs fp fm : Int → Int), u.1 = uZ (uZ z 18 rp) 19 rq ∧ u.2 = uZ (uZ (uZ g 37 fs) 38 fp) 39 fm ∧ low (wV (ciX g p1) (gdX g) (mkX g) (g 25) p0 (z 17)) ((wT (ciX g p1) (gdX g) (mkX g) p0 (z 17)) * (wC (ciX g p1) (gdX g) (z 17))) rp rq ∧ v = if p2 = 0 then rp else rq) ∧ xBz u.1 ∧ xBg u.2) (hm : (((¬ ((0 ≤ p0 ∧ p0 ≤ 5) ∧ (0 ≤ p2 ∧ p2 ≤ 1)) ∨ (wT (ciM kk p1) (gdM kk) (mkM kk) p0 (y 13)) < 1) ∧ v2 = 0 ∧ u2 = (uZ y 0 1, kk)) ∨ (((0 ≤ p0 ∧ p0 ≤ 5) ∧ (0 ≤ p2 ∧ p2 ≤ 1)) ∧ 1 ≤ (wT (ciM kk p1) (gdM kk) (mkM kk) p0 (y 13)) ∧ u2 = (uZ y 0 0, kk) ∧ ∃ rp rq : Int, low (wV (ciM kk p1) (gdM kk) (mkM kk) (kk 20) p0 (y 13)) ((wT (ciM kk p1) (gdM kk) (mkM kk) p0 (y 13)) * (wC (ciM kk p1) (gdM kk) (y 13))) rp rq ∧ v2 = if p2 = 0 then rp else rq)) ∧ mBz u2.1 ∧ mBg u2.2) : v = v2 ∧ u2.1 0 = 0 ∧ RelA u.1 u.2 u2.1 u2.2 := by
  obtain ⟨hq1, hq2, hq3⟩ := wq_X h.2.1 p0 p1
  obtain ⟨⟨hz, hg, hzm, hgm⟩, hR, hI⟩ := h
  obtain ⟨s0, s1, s2, s5, s16, s17, s20, s3, s4, t2, t4, t5, t43, r13, r14, r15, r16, r17, r18, r19, r21, r22, r23, r24, r25, r26, r29, r30, r31, r32⟩ := hR
  obtain ⟨u1, u3⟩ := u
  obtain ⟨w1, w3⟩ := u2
  obtain ⟨hx, bz, bg⟩ := hx
  obtain ⟨hm, bzm, bgm⟩ := hm
  obtain ⟨c1, c3, rp, rq, fs, fp, fm, e1, e2, e3, e9⟩ := hx
  rcases hm with ⟨c2, e4, e5⟩ | ⟨c2, c4, e5, rp2, rq2, e6, e7⟩
  · exfalso
    rw [← hq1] at c2
    omega
  · obtain ⟨ec, ed⟩ := Prod.mk.inj e5.symm
    dsimp only at e1 e2
    subst ec ed e1 e2
    refine ⟨?_, rfl, ⟨bz, bg, bzm, bgm⟩, ⟨s0, s1, s2, s5, s16, s17, s20, s3, s4, t2, t4, t5, t43, r13, r14, r15, r16, r17, r18, r19, r21, r22, r23, r24, r25, r26, r29, r30, r31, r32⟩, HI_cg hI rfl rfl rfl rfl rfl rfl rfl rfl rfl⟩
    rw [← hq1, ← hq2, ← hq3] at e6
    have hb : 1 ≤ (wT (ciX g p1) (gdX g) (mkX g) p0 (z 17)) * (wC (ciX g p1) (gdX g) (z 17)) := by
      have h1 := wC_1 (ciX g p1) (gdX g) (z 17)
      have := Int.mul_le_mul c3 h1 (by omega) (by omega)
      omega
    obtain ⟨a1, a2⟩ := low_eq e3 e6 hb hb rfl
    rw [e9, e7, a1, a2]
theorem st_worthX {z y : Nat → Int} {g kk : Nat → Int → Int} (p0 p1 p2 : Int) (h : RelA z g y kk) (u : sX) (v2 : Int) (u2 : sX) (hx : ((¬ ((0 ≤ p0 ∧ p0 ≤ 5) ∧ (0 ≤ p2 ∧ p2 ≤ 1)) ∧ u = (z, g)) ∨ (((0 ≤ p0 ∧ p0 ≤ 5) ∧ (0 ≤ p2 ∧ p2 ≤ 1)) ∧ (wT (ciX g p1) (gdX g) (mkX g) p0 (z 17)) < 1 ∧ ∃ (rp rq : Int) (fs fp fm : Int → Int), u.1 = uZ (uZ z 18 rp) 19 rq ∧ u.2 = uZ (uZ (uZ g 37 fs) 38 fp) 39 fm)) ∧ xBz u.1 ∧ xBg u.2) (hm : (((¬ ((0 ≤ p0 ∧ p0 ≤ 5) ∧ (0 ≤ p2 ∧ p2 ≤ 1)) ∨ (wT (ciM kk p1) (gdM kk) (mkM kk) p0 (y 13)) < 1) ∧ v2 = 0 ∧ u2 = (uZ y 0 1, kk)) ∨ (((0 ≤ p0 ∧ p0 ≤ 5) ∧ (0 ≤ p2 ∧ p2 ≤ 1)) ∧ 1 ≤ (wT (ciM kk p1) (gdM kk) (mkM kk) p0 (y 13)) ∧ u2 = (uZ y 0 0, kk) ∧ ∃ rp rq : Int, low (wV (ciM kk p1) (gdM kk) (mkM kk) (kk 20) p0 (y 13)) ((wT (ciM kk p1) (gdM kk) (mkM kk) p0 (y 13)) * (wC (ciM kk p1) (gdM kk) (y 13))) rp rq ∧ v2 = if p2 = 0 then rp else rq)) ∧ mBz u2.1 ∧ mBg u2.2) : u2.1 0 = 1 ∧ RelA u.1 u.2 u2.1 u2.2 := by
  obtain ⟨hq1, hq2, hq3⟩ := wq_X h.2.1 p0 p1
  obtain ⟨⟨hz, hg, hzm, hgm⟩, hR, hI⟩ := h
  obtain ⟨s0, s1, s2, s5, s16, s17, s20, s3, s4, t2, t4, t5, t43, r13, r14, r15, r16, r17, r18, r19, r21, r22, r23, r24, r25, r26, r29, r30, r31, r32⟩ := hR
  obtain ⟨u1, u3⟩ := u
  obtain ⟨w1, w3⟩ := u2
  obtain ⟨hx, bz, bg⟩ := hx
  obtain ⟨hm, bzm, bgm⟩ := hm
  rcases hm with ⟨c2, e4, e5⟩ | ⟨c2, c4, e5, rp2, rq2, e6, e7⟩
  · obtain ⟨ec, ed⟩ := Prod.mk.inj e5.symm
    subst ec ed
    rcases hx with ⟨c1, e2⟩ | ⟨c1, c3, hx⟩
    · obtain ⟨ea, eb⟩ := Prod.mk.inj e2.symm
      subst ea eb
      exact ⟨rfl, ⟨bz, bg, bzm, bgm⟩, ⟨s0, s1, s2, s5, s16, s17, s20, s3, s4, t2, t4, t5, t43, r13, r14, r15, r16, r17, r18, r19, r21, r22, r23, r24, r25, r26, r29, r30, r31, r32⟩, hI⟩
    · obtain ⟨rp, rq, fs, fp, fm, e1, e2⟩ := hx
      dsimp only at e1 e2
      subst e1 e2
      exact ⟨rfl, ⟨bz, bg, bzm, bgm⟩, ⟨s0, s1, s2, s5, s16, s17, s20, s3, s4, t2, t4, t5, t43, r13, r14, r15, r16, r17, r18, r19, r21, r22, r23, r24, r25, r26, r29, r30, r31, r32⟩, HI_cg hI rfl rfl rfl rfl rfl rfl rfl rfl rfl⟩
  · exfalso
    rw [← hq1] at c4
    rcases hx with ⟨c1, e2⟩ | ⟨c1, c3, hx⟩
    · exact c1 c2
    · omega
theorem st_rules {z y : Nat → Int} {g kk : Nat → Int → Int}  (h : RelA z g y kk) (v : Int) (u : sX) (v2 : Int) (u2 : sX) (hx : ((∀ k, k = 0 ∨ 15 < k → u.1 k = z k) ∧ (∀ k, k < 4 ∨ 11 < k → u.2 k = g k) ∧ u.1 2 = 0 ∧ ((1 ≤ u.1 1 ∧ ∃ p, Rd0 (bt (g 2) (z 2)) (z 2) (.inl (u.1 1, p)) ∧ v = -1 - p ∧ u.1 3 = z 3 ∧ u.1 4 = z 4 ∧ u.1 5 = z 5 ∧ u.2 4 = g 4 ∧ u.2 5 = g 5) ∨ (u.1 1 = 0 ∧ ∃ (fr : Int → Int) (t : Int), Rd0 (bt (g 2) (z 2)) (z 2) (.inr (fr, t)) ∧ v = t ∧ u.1 5 = t ∧ u.1 3 = fr 8 ∧ u.1 4 = fr 9 ∧ ∀ q, 0 ≤ q → q < 4 → u.2 4 q = fr q ∧ u.2 5 q = fr (4 + q)))) ∧ xBz u.1 ∧ xBg u.2) (hm : (u2.1 0 = 0 ∧ u2.1 1 = 0 ∧ (∀ k, 10 < k → u2.1 k = y k) ∧ (∀ k, k < 2 ∨ 4 < k → u2.2 k = kk k) ∧ ((1 ≤ u2.1 7 ∧ ∃ p, Rd0 (bt (fun j => kk 1 j % 256) (y 1)) (y 1) (.inl (u2.1 7, p)) ∧ v2 = -1 - p ∧ u2.1 9 = y 9 ∧ u2.2 2 = kk 2) ∨ (u2.1 7 = 0 ∧ ∃ fr, Rd0 (bt (fun j => kk 1 j % 256) (y 1)) (y 1) (.inr (fr, v2)) ∧ u2.1 9 = v2 ∧ ∀ q, 0 ≤ q → q < 10 → u2.2 2 q = fr q))) ∧ mBz u2.1 ∧ mBg u2.2) : v = v2 ∧ RelA u.1 u.2 u2.1 u2.2 := by
  obtain ⟨⟨hz, hg, hzm, hgm⟩, hR, hI⟩ := h
  obtain ⟨s0, s1, s2, s5, s16, s17, s20, s3, s4, t2, t4, t5, t43, r13, r14, r15, r16, r17, r18, r19, r21, r22, r23, r24, r25, r26, r29, r30, r31, r32⟩ := hR
  obtain ⟨u1, u3⟩ := u
  obtain ⟨w1, w3⟩ := u2
  obtain ⟨hx, bz, bg⟩ := hx
  obtain ⟨hm, bzm, bgm⟩ := hm
  obtain ⟨k1, k2, k3, hx⟩ := hx
  obtain ⟨m1, m2, m3, m4, hm⟩ := hm
  dsimp only at k1 k2 k3 hx m1 m2 m3 m4 hm
  have eb : bt (g 2) (z 2) = bt (fun j => kk 1 j % 256) (y 1) := by
    rw [s2, show g 2 = fun j => kk 1 j % 256 from funext t2]
  rw [eb, s2] at hx
  have hI2 : HI u1 u3 := HI_cg hI (k1 0 (by omega)) (k1 16 (by omega)) (k1 17 (by omega)) (k2 18 (by omega)) (k2 19 (by omega)) (k2 21 (by omega)) (k2 23 (by omega)) (k2 26 (by omega)) (k2 27 (by omega))
  have f0 : u1 0 = w1 12 := by rw [k1 0 (by omega), m3 12 (by omega)]; exact s0
  have f2 : u1 2 = w1 1 := by rw [k3, m2]
  have f16 : u1 16 = w1 11 := by rw [k1 16 (by omega), m3 11 (by omega)]; exact s16
  have f17 : u1 17 = w1 13 := by rw [k1 17 (by omega), m3 13 (by omega)]; exact s17
  have f20 : u1 20 = w1 14 := by rw [k1 20 (by omega), m3 14 (by omega)]; exact s20
  have d13 : u3 13 = w3 5 := by rw [k2 13 (by omega), m4 5 (by omega)]; exact r13
  have d14 : u3 14 = w3 6 := by rw [k2 14 (by omega), m4 6 (by omega)]; exact r14
  have d15 : u3 15 = w3 7 := by rw [k2 15 (by omega), m4 7 (by omega)]; exact r15
  have d16 : u3 16 = w3 8 := by rw [k2 16 (by omega), m4 8 (by omega)]; exact r16
  have d17 : u3 17 = w3 9 := by rw [k2 17 (by omega), m4 9 (by omega)]; exact r17
  have d18 : u3 18 = w3 11 := by rw [k2 18 (by omega), m4 11 (by omega)]; exact r18
  have d19 : u3 19 = w3 10 := by rw [k2 19 (by omega), m4 10 (by omega)]; exact r19
  have d21 : u3 21 = w3 16 := by rw [k2 21 (by omega), m4 16 (by omega)]; exact r21
  have d22 : u3 22 = w3 17 := by rw [k2 22 (by omega), m4 17 (by omega)]; exact r22
  have d23 : u3 23 = w3 18 := by rw [k2 23 (by omega), m4 18 (by omega)]; exact r23
  have d24 : u3 24 = w3 19 := by rw [k2 24 (by omega), m4 19 (by omega)]; exact r24
  have d25 : u3 25 = w3 20 := by rw [k2 25 (by omega), m4 20 (by omega)]; exact r25
  have d26 : u3 26 = w3 21 := by rw [k2 26 (by omega), m4 21 (by omega)]; exact r26
  have d29 : u3 29 = w3 12 := by rw [k2 29 (by omega), m4 12 (by omega)]; exact r29
  have d30 : u3 30 = w3 13 := by rw [k2 30 (by omega), m4 13 (by omega)]; exact r30
  have d31 : u3 31 = w3 14 := by rw [k2 31 (by omega), m4 14 (by omega)]; exact r31
  have d32 : u3 32 = w3 15 := by rw [k2 32 (by omega), m4 15 (by omega)]; exact r32
  have d2 : ∀ j, u3 2 j = w3 1 j % 256 := by rw [k2 2 (by omega), m4 1 (by omega)]; exact t2
  have d43 : ∀ q, 0 ≤ q → q < 4 → u3 43 q = w3 28 q := by rw [k2 43 (by omega), m4 28 (by omega)]; exact t43
  rcases hx with ⟨a1, p, a2, a3, a4, a5, a6, a7, a8⟩ | ⟨a1, fr, t, a2, a3, a4, a5, a6, a7⟩ <;> rcases hm with ⟨b1, p2, b2, b3, b4, b5⟩ | ⟨b1, fr2, b2, b3, b4⟩
  · have e := Sum.inl.inj (Rd_one a2 b2)
    have e1 : u1 1 = w1 7 := congrArg Prod.fst e
    have e2 : p = p2 := congrArg Prod.snd e
    refine ⟨by omega, ⟨bz, bg, bzm, bgm⟩, ⟨f0, e1, f2, ?_, f16, f17, f20, ?_, ?_, d2, ?_, ?_, d43, d13, d14, d15, d16, d17, d18, d19, d21, d22, d23, d24, d25, d26, d29, d30, d31, d32⟩, hI2⟩
    · show u1 5 = w1 9
      rw [a6, b4]; exact s5
    · show u1 3 = w3 2 8
      rw [a4, b5]; exact s3
    · show u1 4 = w3 2 9
      rw [a5, b5]; exact s4
    · show ∀ q, 0 ≤ q → q < 4 → u3 4 q = w3 2 q
      rw [a7, b5]; exact t4
    · show ∀ q, 0 ≤ q → q < 4 → u3 5 q = w3 2 (4 + q)
      rw [a8, b5]; exact t5
  · exact absurd (Rd_one a2 b2) (by simp)
  · exact absurd (Rd_one a2 b2) (by simp)
  · have e := Sum.inr.inj (Rd_one a2 b2)
    have e1 : fr = fr2 := congrArg Prod.fst e
    have e2 : t = v2 := congrArg Prod.snd e
    subst e1
    refine ⟨by omega, ⟨bz, bg, bzm, bgm⟩, ⟨f0, ?_, f2, ?_, f16, f17, f20, ?_, ?_, d2, ?_, ?_, d43, d13, d14, d15, d16, d17, d18, d19, d21, d22, d23, d24, d25, d26, d29, d30, d31, d32⟩, hI2⟩
    · show u1 1 = w1 7
      omega
    · show u1 5 = w1 9
      omega
    · show u1 3 = w3 2 8
      rw [a5, b4 8 (by omega) (by omega)]
    · show u1 4 = w3 2 9
      rw [a6, b4 9 (by omega) (by omega)]
    · intro q q1 q2
      show u3 4 q = w3 2 q
      rw [(a7 q q1 q2).1, b4 q q1 (by omega)]
    · intro q q1 q2
      show u3 5 q = w3 2 (4 + q)
      rw [(a7 q q1 q2).2, b4 (4 + q) (by omega) (by omega)]
