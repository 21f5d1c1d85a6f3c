/-! the auction of the reference -/
def wM (g : Nat → Int → Int) (h : Int) : Int → Int := fun j => if g 9 j = h ∧ g 11 j = 0 ∧ 0 < g 8 j then 1 else 0
theorem wM_1 {g : Nat → Int → Int} {h j : Int} : wM g h j = 1 ↔ (g 9 j = h ∧ g 11 j = 0 ∧ 0 < g 8 j) := by
  unfold wM
  split
  · exact ⟨fun _ => by assumption, fun _ => rfl⟩
  · exact ⟨fun q => absurd q (by decide), fun q => absurd q (by assumption)⟩
noncomputable def pcM (z : Nat → Int) (g : Nat → Int → Int) (h : Int) : Int → Int := pkc (g 5) (wM g h) (z 11) (z 12)
noncomputable def FM (z : Nat → Int) (g : Nat → Int → Int) (h c : Int) : sX := fI offM (pcM z g h) (z 11) (z, g) c
theorem offM_z {z : Nat → Int} {g : Nat → Int → Int} {k : Int} {j : Nat} (h : j ≠ 13) : (offM z g k).1 j = z j := by
  unfold offM
  split
  · rfl
  · exact uZ_n z _ h
theorem offM_g {z : Nat → Int} {g : Nat → Int → Int} {k : Int} {c : Nat} (h : c ≠ 10 ∧ c ≠ 11 ∧ c ≠ 13 ∧ c ≠ 14 ∧ c ≠ 16 ∧ c ≠ 17 ∧ c ≠ 18 ∧ c ≠ 19 ∧ c ≠ 20 ∧ c ≠ 21) : (offM z g k).2 c = g c := by
  unfold offM
  split
  · rfl
  · unfold sellM
    obtain ⟨h1, h2, h3, h4, h5, h6, h7, h8, h9, h10⟩ := h
    show uZ _ 10 _ c = _
    rw [uZ_n _ _ h1, uZ_n _ _ h2, uZ_n _ _ h3, uZ_n _ _ h4, uZ_n _ _ h10, uZ_n _ _ h9, uZ_n _ _ h8, uZ_n _ _ h7, uZ_n _ _ h6, uZ_n _ _ h5]
theorem offM_cg {z : Nat → Int} {g k : Nat → Int → Int} {j : Int} (h : ∀ c : Nat, c < 29 → c ≠ 22 → c ≠ 23 → g c = k c) : (offM z g j).1 = (offM z k j).1 ∧ ∀ c : Nat, c < 29 → c ≠ 22 → c ≠ 23 → (offM z g j).2 c = (offM z k j).2 c := by
  have e2 := h 2 (by decide) (by decide) (by decide)
  have e7 := h 7 (by decide) (by decide) (by decide)
  have e8 := h 8 (by decide) (by decide) (by decide)
  have e9 := h 9 (by decide) (by decide) (by decide)
  have e10 := h 10 (by decide) (by decide) (by decide)
  have e11 := h 11 (by decide) (by decide) (by decide)
  have e13 := h 13 (by decide) (by decide) (by decide)
  have e14 := h 14 (by decide) (by decide) (by decide)
  have e15 := h 15 (by decide) (by decide) (by decide)
  have e16 := h 16 (by decide) (by decide) (by decide)
  have e17 := h 17 (by decide) (by decide) (by decide)
  have e18 := h 18 (by decide) (by decide) (by decide)
  have e19 := h 19 (by decide) (by decide) (by decide)
  have e20 := h 20 (by decide) (by decide) (by decide)
  have e21 := h 21 (by decide) (by decide) (by decide)
  have el : lmM g j = lmM k j := by
    funext b
    unfold lmM bdM plM
    rw [e2, e7, e8, e9, e13, e14, e15]
  have ep : prM g j = prM k j := by
    funext b
    unfold prM
    rw [e2, e7]
  unfold offM
  rw [el, ep]
  split
  · exact ⟨rfl, h⟩
  · refine ⟨rfl, fun c h1 h2 h3 => ?_⟩
    unfold sellM plM
    rw [e7, e8, e9, e10, e11, e13, e14, e16, e17, e18, e19, e20, e21]
    exact uZ_cg (uZ_cg (uZ_cg (uZ_cg (uZ_cg (uZ_cg (uZ_cg (uZ_cg (uZ_cg (uZ_cg (h c h1 h2 h3))))))))))
theorem FM_s (z : Nat → Int) (g : Nat → Int → Int) (h : Int) {c : Int} (hc : 0 ≤ c) : FM z g h (c + 1) = if pcM z g h c < z 11 then offM (FM z g h c).1 (FM z g h c).2 (pcM z g h c) else FM z g h c := fI_s _ _ _ _ hc
theorem FM_keepN (z : Nat → Int) (g : Nat → Int → Int) (h : Int) : ∀ c : Nat, (FM z g h c).1 12 = z 12 ∧ (FM z g h c).1 11 = z 11 ∧ (FM z g h c).2 5 = g 5
  | 0 => ⟨rfl, rfl, rfl⟩
  | c + 1 => by
    obtain ⟨a1, a2, a3⟩ := FM_keepN z g h c
    have e : ((c + 1 : Nat) : Int) = (c : Int) + 1 := by omega
    rw [e, FM_s z g h (by omega)]
    by_cases q : pcM z g h c < z 11
    · rw [if_pos q]
      exact ⟨by rw [offM_z (by decide)]; exact a1, by rw [offM_z (by decide)]; exact a2, by rw [offM_g (by decide)]; exact a3⟩
    · rw [if_neg q]
      exact ⟨a1, a2, a3⟩
theorem FM_keep (z : Nat → Int) (g : Nat → Int → Int) (h : Int) {c : Int} (hc : 0 ≤ c) : (FM z g h c).1 12 = z 12 ∧ (FM z g h c).1 11 = z 11 ∧ (FM z g h c).2 5 = g 5 := by
  have := FM_keepN z g h c.toNat
  rw [Int.toNat_of_nonneg hc] at this
  exact this
abbrev cW (w : Int → Int) (k : Int) : Int := cG (fun _ => 0) w 0 k
def grS (gr fo : Int → Int) (q : Int) : Int → Int := fun i => if gr (fo i) = q then 1 else 0
theorem grS_b (gr fo : Int → Int) (q j : Int) : 0 ≤ grS gr fo q j ∧ grS gr fo q j ≤ 1 := by
  unfold grS
  split <;> omega
/-- the first part of the auction, with k lots looked at -/
def Ph1 (gr w : Int → Int) (k n rd : Int) (fo ft : Int → Int) : Prop :=
  (0 ≤ k ∧ n = cW w k ∧ 0 ≤ n ∧ n ≤ k ∧ 0 ≤ rd ∧ rd ≤ k) ∧ (∀ i, 0 ≤ i → i < n → 0 ≤ fo i ∧ fo i < k ∧ w (fo i) = 1 ∧ cW w (fo i) = i) ∧ (∀ j, 0 ≤ j → j < k → w j = 1 → fo (cW w j) = j ∧ ft j = cG gr w (gr j) j ∧ ft j < rd) ∧ ∀ q, sumI (grS gr fo q) n = cG gr w q k
theorem Ph1_0 (gr w fo ft : Int → Int) : Ph1 gr w 0 0 0 fo ft := ⟨⟨by omega, rfl, by omega, by omega, by omega, by omega⟩, fun i h1 h2 => absurd h2 (by omega), fun j h1 h2 => absurd h2 (by omega), fun q => rfl⟩
theorem Ph1_no {gr w fo ft : Int → Int} {k n rd : Int} (h : Ph1 gr w k n rd fo ft) (hw : w k ≠ 1) : Ph1 gr w (k + 1) n rd fo ft := by
  obtain ⟨⟨a1, a2, a3, a4, a5, a6⟩, b, d, e⟩ := h
  refine ⟨⟨by omega, ?_, a3, by omega, a5, by omega⟩, fun i h1 h2 => ?_, fun j h1 h2 h3 => ?_, fun q => ?_⟩
  · rw [cW, cG_s _ _ _ a1, ctP_0 (fun q => hw q.1), Int.add_zero]; exact a2
  · obtain ⟨c1, c2, c3⟩ := b i h1 h2
    exact ⟨c1, by omega, c3⟩
  · by_cases q : j = k
    · rw [q] at h3; exact absurd h3 hw
    · exact d j h1 (by omega) h3
  · rw [cG_s _ _ _ a1, ctP_0 (fun q => hw q.1), Int.add_zero]; exact e q
theorem Ph1_yes {gr w fo ft ft2 : Int → Int} {k n rd rd2 : Int} (h : Ph1 gr w k n rd fo ft) (hw : w k = 1) (hk : ∀ j, j ≠ k → ft2 j = ft j) (ht : ft2 k = sumI (grS gr fo (gr k)) n) (hr : rd ≤ rd2 ∧ ft2 k < rd2 ∧ rd2 ≤ k + 1) : Ph1 gr w (k + 1) (n + 1) rd2 (uI fo n k) ft2 := by
  obtain ⟨⟨a1, a2, a3, a4, a5, a6⟩, b, d, e⟩ := h
  have hs : cW w (k + 1) = n + 1 := by rw [cW, cG_s _ _ _ a1, ctP_1 ⟨hw, rfl⟩, a2]
  have hlt : ∀ j, 0 ≤ j → j < k → w j = 1 → cW w j < n := by
    intro j h1 h2 h3
    have h4 := cG_s (fun _ => (0 : Int)) w 0 h1
    rw [ctP_1 ⟨h3, rfl⟩] at h4
    have h5 := cG_le (fun _ => (0 : Int)) w 0 (j := j + 1) (k := k) (by omega) (by omega)
    have a2' : n = cG (fun _ => (0 : Int)) w 0 k := a2
    show cG (fun _ => (0 : Int)) w 0 j < n
    omega
  refine ⟨⟨by omega, hs.symm, by omega, by omega, by omega, by omega⟩, fun i h1 h2 => ?_, fun j h1 h2 h3 => ?_, fun q => ?_⟩
  · by_cases q : i = n
    · rw [q, uI_s]; exact ⟨a1, by omega, hw, a2.symm⟩
    · rw [uI_n _ _ q]
      obtain ⟨c1, c2, c3⟩ := b i h1 (by omega)
      exact ⟨c1, by omega, c3⟩
  · by_cases q : j = k
    · rw [q, ← a2, uI_s]
      exact ⟨rfl, by rw [ht, e], hr.2.1⟩
    · obtain ⟨c1, c2, c3⟩ := d j h1 (by omega) h3
      have := hlt j h1 (by omega) h3
      rw [uI_n _ _ (by omega), hk j q]
      exact ⟨c1, c2, by omega⟩
  · rw [sumI_s _ a3, cG_s _ _ _ a1]
    have h1 : sumI (grS gr (uI fo n k) q) n = sumI (grS gr fo q) n := sumI_cg (fun j h1 h2 => by unfold grS; rw [uI_n _ _ (by omega)])
    rw [h1, e]
    congr 1
    unfold grS
    rw [uI_s]
    by_cases q2 : gr k = q
    · rw [if_pos q2, ctP_1 ⟨hw, q2⟩]
    · rw [if_neg q2, ctP_0 (fun z => q2 z.2)]
abbrev mtM (gr fo ft : Int → Int) (r q k : Int) : Prop := gr (fo k) = q ∧ ft (fo k) = r
theorem Ph1_mt {gr w fo ft : Int → Int} {m n rd k r q : Int} (h : Ph1 gr w m n rd fo ft) (hk : 0 ≤ k ∧ k < n) (hm : mtM gr fo ft r q k) : fo k = pk gr w m r q ∧ 0 ≤ fo k ∧ fo k < m := by
  obtain ⟨-, b, d, -⟩ := h
  obtain ⟨b1, b2, b3, b4⟩ := b k hk.1 hk.2
  obtain ⟨d1, d2, d3⟩ := d (fo k) b1 b2 b3
  refine ⟨pk_of (Or.inl ⟨b1, b2, b3, hm.1, ?_⟩), b1, b2⟩
  rw [← hm.1, ← d2]
  exact hm.2
theorem Ph1_one {gr w fo ft : Int → Int} {m n rd k k2 r q : Int} (h : Ph1 gr w m n rd fo ft) (hk : 0 ≤ k ∧ k < n) (hk2 : 0 ≤ k2 ∧ k2 < n) (hm : mtM gr fo ft r q k) (hm2 : mtM gr fo ft r q k2) : k = k2 := by
  have e1 := (Ph1_mt h hk hm).1
  have e2 := (Ph1_mt h hk2 hm2).1
  obtain ⟨-, b, -, -⟩ := h
  have h1 := (b k hk.1 hk.2).2.2.2
  have h2 := (b k2 hk2.1 hk2.2).2.2.2
  rw [e1] at h1
  rw [e2] at h2
  omega
theorem Ph1_none {gr w fo ft : Int → Int} {m n rd r q : Int} (h : Ph1 gr w m n rd fo ft) (hm : ∀ k, 0 ≤ k → k < n → ¬ mtM gr fo ft r q k) : ¬ pk gr w m r q < m := by
  intro hlt
  rcases pk_is gr w m r q with ⟨p1, p2, p3, p4, p5⟩ | ⟨p1, p2⟩
  · obtain ⟨⟨a1, a2, a3, a4, a5, a6⟩, b, d, e⟩ := h
    obtain ⟨d1, d2, d3⟩ := d _ p1 p2 p3
    have h4 := cG_s (fun _ => (0 : Int)) w 0 p1
    rw [ctP_1 ⟨p3, rfl⟩] at h4
    have h5 := cG_le (fun _ => (0 : Int)) w 0 (j := pk gr w m r q + 1) (k := m) (by omega) (by omega)
    have h6 := cG_nn (fun _ => (0 : Int)) w 0 p1
    have a2' : n = cG (fun _ => (0 : Int)) w 0 m := a2
    refine hm (cW w (pk gr w m r q)) h6 (by show cG (fun _ => (0 : Int)) w 0 _ < n; omega) ⟨?_, ?_⟩
    · rw [d1]; exact p4
    · rw [d1, d2, p4]; exact p5
  · omega
theorem Ph1_past {gr w fo ft : Int → Int} {m n rd r q : Int} (h : Ph1 gr w m n rd fo ft) (hr : rd ≤ r) : ¬ pk gr w m r q < m := by
  intro hlt
  rcases pk_is gr w m r q with ⟨p1, p2, p3, p4, p5⟩ | ⟨p1, p2⟩
  · obtain ⟨-, -, d, -⟩ := h
    obtain ⟨d1, d2, d3⟩ := d _ p1 p2 p3
    rw [p4] at d2
    omega
  · omega
def InvM (z0 : Nat → Int) (g0 : Nat → Int → Int) (h c : Int) (fo ft : Int → Int) (z : Nat → Int) (g : Nat → Int → Int) : Prop :=
  z = (FM z0 g0 h c).1 ∧ (∀ k : Nat, k < 29 → k ≠ 22 → k ≠ 23 → g k = (FM z0 g0 h c).2 k) ∧ g 22 = fo ∧ g 23 = ft
theorem InvM_off {z0 z : Nat → Int} {g0 g : Nat → Int → Int} {h c : Int} {fo ft : Int → Int} (hc : 0 ≤ c) (hI : InvM z0 g0 h c fo ft z g) (hp : pcM z0 g0 h c < z0 11) : InvM z0 g0 h (c + 1) fo ft (offM z g (pcM z0 g0 h c)).1 (offM z g (pcM z0 g0 h c)).2 := by
  obtain ⟨i1, i2, i3, i4⟩ := hI
  have hcg := offM_cg (z := z) (g := g) (k := (FM z0 g0 h c).2) (j := pcM z0 g0 h c) i2
  unfold InvM
  rw [FM_s z0 g0 h hc, if_pos hp, ← i1]
  exact ⟨hcg.1, hcg.2, by rw [offM_g (by decide)]; exact i3, by rw [offM_g (by decide)]; exact i4⟩
theorem InvM_skip {z0 z : Nat → Int} {g0 g : Nat → Int → Int} {h c : Int} {fo ft : Int → Int} (hc : 0 ≤ c) (hI : InvM z0 g0 h c fo ft z g) (hp : ¬ pcM z0 g0 h c < z0 11) : InvM z0 g0 h (c + 1) fo ft z g := by
  unfold InvM
  rw [FM_s z0 g0 h hc, if_neg hp]
  exact hI
/-- in the midst of a turn: k of those offered looked at -/
def MidM (z0 : Nat → Int) (g0 : Nat → Int → Int) (h c : Int) (fo ft : Int → Int) (r q k : Int) (z : Nat → Int) (g : Nat → Int → Int) : Prop :=
  (InvM z0 g0 h c fo ft z g ∧ ∀ i, 0 ≤ i → i < k → ¬ mtM (g0 5) fo ft r q i) ∨ (InvM z0 g0 h (c + 1) fo ft z g ∧ ∃ i, 0 ≤ i ∧ i < k ∧ mtM (g0 5) fo ft r q i)
theorem MidM_no {z0 z : Nat → Int} {g0 g : Nat → Int → Int} {h c r q k : Int} {fo ft : Int → Int} (hM : MidM z0 g0 h c fo ft r q k z g) (hm : ¬ mtM (g0 5) fo ft r q k) : MidM z0 g0 h c fo ft r q (k + 1) z g := by
  rcases hM with ⟨h1, h2⟩ | ⟨h1, i, h2, h3, h4⟩
  · refine Or.inl ⟨h1, fun i a1 a2 => ?_⟩
    by_cases e : i = k
    · rw [e]; exact hm
    · exact h2 i a1 (by omega)
  · exact Or.inr ⟨h1, i, h2, by omega, h4⟩
theorem MidM_yes {z0 z : Nat → Int} {g0 g : Nat → Int → Int} {h r q k i n rd : Int} {fo ft : Int → Int} (hi : 0 ≤ i ∧ i < 8) (hr : 0 ≤ r) (hq : q = (z0 12 + i) % 8) (hP : Ph1 (g0 5) (wM g0 h) (z0 11) n rd fo ft) (hk : 0 ≤ k ∧ k < n) (hM : MidM z0 g0 h (8 * r + i) fo ft r q k z g) (hm : mtM (g0 5) fo ft r q k) : MidM z0 g0 h (8 * r + i) fo ft r q (k + 1) (offM z g (fo k)).1 (offM z g (fo k)).2 := by
  rcases hM with ⟨h1, h2⟩ | ⟨h1, j, h2, h3, h4⟩
  · obtain ⟨e1, e2, e3⟩ := Ph1_mt hP hk hm
    have e4 : fo k = pcM z0 g0 h (8 * r + i) := by
      unfold pcM pkc
      rw [show (8 * r + i) / 8 = r by omega, show (8 * r + i) % 8 = i by omega, ← hq]
      exact e1
    refine Or.inr ⟨?_, k, hk.1, by omega, hm⟩
    rw [e4]
    exact InvM_off (by omega) h1 (by omega)
  · have := Ph1_one hP ⟨h2, by omega⟩ hk h4 hm
    omega
theorem MidM_end {z0 z : Nat → Int} {g0 g : Nat → Int → Int} {h r q i n rd : Int} {fo ft : Int → Int} (hi : 0 ≤ i ∧ i < 8) (hr : 0 ≤ r) (hq : q = (z0 12 + i) % 8) (hP : Ph1 (g0 5) (wM g0 h) (z0 11) n rd fo ft) (hM : MidM z0 g0 h (8 * r + i) fo ft r q n z g) : InvM z0 g0 h (8 * r + (i + 1)) fo ft z g := by
  rw [show 8 * r + (i + 1) = 8 * r + i + 1 by omega]
  rcases hM with ⟨h1, h2⟩ | ⟨h1, -⟩
  · refine InvM_skip (by omega) h1 ?_
    unfold pcM pkc
    rw [show (8 * r + i) / 8 = r by omega, show (8 * r + i) % 8 = i by omega, ← hq]
    exact Ph1_none hP h2
  · exact h1
theorem InvM_fin {z0 z : Nat → Int} {g0 g : Nat → Int → Int} {h n rd : Int} {fo ft : Int → Int} (hn : z0 11 ≤ 100) (hP : Ph1 (g0 5) (wM g0 h) (z0 11) n rd fo ft) (hI : InvM z0 g0 h (8 * rd) fo ft z g) : z = (FM z0 g0 h 800).1 ∧ ∀ k : Nat, k < 29 → k ≠ 22 → k ≠ 23 → g k = (FM z0 g0 h 800).2 k := by
  have a := hP.1
  have := fI_end offM (pcM z0 g0 h) (z0 11) (z0, g0) (c := 8 * rd) (by omega) (800 - 8 * rd).toNat (fun i h1 _ => by unfold pcM pkc; exact Ph1_past hP (by omega))
  rw [show 8 * rd + ((800 - 8 * rd).toNat : Int) = 800 by omega] at this
  have e : FM z0 g0 h 800 = FM z0 g0 h (8 * rd) := this
  rw [e]
  exact ⟨hI.1, hI.2.1⟩

theorem InvM_0 {z : Nat → Int} {g : Nat → Int → Int} {h : Int} {fo ft : Int → Int} : InvM z g h (8 * 0) fo ft z (uZ (uZ g 22 fo) 23 ft) := ⟨rfl, fun k h1 h2 h3 => by rw [uZ_n _ _ h3, uZ_n _ _ h2]; rfl, rfl, rfl⟩
theorem grS_up {gr fo f f2 : Int → Int} {k i v : Int} (hi : 0 ≤ i) (hf : (∀ j, j ≠ k → f2 j = f j) ∧ f2 k = sumI (grS gr fo (gr k)) i) (hv : (gr (fo i) = gr k ∧ v = 1) ∨ (gr (fo i) ≠ gr k ∧ v = 0)) : (∀ j, j ≠ k → uI f2 k (f2 k + v) j = f j) ∧ uI f2 k (f2 k + v) k = sumI (grS gr fo (gr k)) (i + 1) := by
  refine ⟨fun j hj => (uI_n _ _ hj).trans (hf.1 j hj), ?_⟩
  rw [uI_s, sumI_s _ hi, hf.2]
  congr 1
  unfold grS
  rcases hv with ⟨q1, q2⟩ | ⟨q1, q2⟩
  · rw [if_pos q1, q2]
  · rw [if_neg q1, q2]
theorem grS_in (gr fo f : Int → Int) (k : Int) : (∀ j, j ≠ k → uI f k 0 j = f j) ∧ uI f k 0 k = sumI (grS gr fo (gr k)) 0 := ⟨fun j hj => uI_n _ _ hj, uI_s _ _ _⟩
abbrev rm_X10_auction : Room := { frames := 3, cells := 0, slots := 0, locals := 70 }
set_option maxHeartbeats 4000000 in
set_option maxRecDepth 100000 in
theorem ct_X10_auction (l : Launch) (D : va_G) (cy : Nat → ClassId) (a : Nat → Nat) (z : Nat → Int) (g : Nat → Int → Int) (p0 : Int) (hz : mBz z) (hg : mBg g) (h0 : iR p0) : MI l yX10_auction cX10_auction 9 .int (rm_X10_auction) D cy (mw cy a z g) [.ref (a 0), vI p0] (fun (v : Int) (u : sX) => ((¬ (0 ≤ p0 ∧ p0 < 4) ∧ v = -1 ∧ u = (uZ z 0 0, g)) ∨ ((0 ≤ p0 ∧ p0 < 4) ∧ v = u.1 13 - z 13 ∧ u.1 = (FM (uZ z 0 0) g p0 800).1 ∧ ∀ k : Nat, k < 29 → k ≠ 22 → k ≠ 23 → u.2 k = (FM (uZ z 0 0) g p0 800).2 k)) ∧ mBz u.1 ∧ mBg u.2) (fun u => mw cy a u.1 u.2) 0 0 := by
  refine go_i (by decide +kernel) (Nat.le_of_ble_eq_true rfl) (Or.inl rfl) ?_
  intro p e s m args below meth c Q A ls C hnm hA w hl hend
  have hx := C.1
  have hb := C.2.1
  have bz0 : (0 : Int) ≤ 0 ∧ (0 : Int) ≤ 1 := by omega
  have b11_ := mZ11 hz
  have b12_ := mZ12 hz
  have b13_ := mZ13 hz
  have J176 : ∀ N : Nat, ∀ (n2 : Int) (r3 : Int) (s4 : Int) (r5 : Int) (fo : Int → Int) (ft : Int → Int) (z176 : Nat → Int) (g176 : Nat → Int → Int), (mBz z176) → (mBg g176) → (0 ≤ p0 ∧ p0 < 4) → (Ph1 (g 5) (wM g p0) (z 11) n2 r3 fo ft) → (0 ≤ r5 ∧ r5 ≤ r3) → (InvM (uZ z 0 0) g p0 (8 * r5) fo ft z176 g176) → (s4 = z176 13 - z 13) → ((r3 - r5).toNat) < N → ∀ (H : Heap) (locs : List Loc) (ls : Array Slot), wd D A s.heap (mw cy a z176 g176) H locs → lv_has ls 9 [(0, .ref (a 0)), (1, vI p0), (2, vI n2), (3, vI r3), (4, vI s4), (5, vI r5)] → W p l e (rm_X10_auction) s m args below meth c H locs 0 0 Q (F0 m 176 ls []) := by
    intro N
    induction N with
    | zero => intro n2 r3 s4 r5 fo ft z176 g176 hz176 hg176 hp0 hP2 hr5 hI2 hs4 hN9; exact absurd hN9 (Nat.not_lt_zero _)
    | succ N ih176 =>
      intro n2 r3 s4 r5 fo ft z176 g176 hz176 hg176 hp0 hP2 hr5 hI2 hs4 hN176 H locs ls w hl
      have hpa := hP2.1
      have J185 : ∀ N : Nat, ∀ (s4b : Int) (i6 : Int) (z185 : Nat → Int) (g185 : Nat → Int → Int), (mBz z185) → (mBg g185) → (r5 < r3) → (0 ≤ i6 ∧ i6 ≤ 8) → (InvM (uZ z 0 0) g p0 (8 * r5 + i6) fo ft z185 g185) → (s4b = z185 13 - z 13) → ((8 - i6).toNat) < N → ∀ (H : Heap) (locs : List Loc) (ls : Array Slot), wd D A s.heap (mw cy a z185 g185) H locs → lv_has ls 9 [(0, .ref (a 0)), (1, vI p0), (2, vI n2), (3, vI r3), (4, vI s4b), (5, vI r5), (6, vI i6)] → W p l e (rm_X10_auction) s m args below meth c H locs 0 0 Q (F0 m 185 ls []) := by
        intro N
        induction N with
        | zero => intro s4b i6 z185 g185 hz185 hg185 hlt hi6 hI3 hs4b hN9; exact absurd hN9 (Nat.not_lt_zero _)
        | succ N ih185 =>
          intro s4b i6 z185 g185 hz185 hg185 hlt hi6 hI3 hs4b hN185 H locs ls w hl
          have hk3 := FM_keep (uZ z 0 0) g p0 (c := 8 * r5 + i6) (by omega)
          have ed3 : z185 12 = z 12 := by rw [hI3.1]; exact hk3.1
          have J207 : ∀ N : Nat, ∀ (s4c : Int) (k8 : Int) (z207 : Nat → Int) (g207 : Nat → Int → Int), (mBz z207) → (mBg g207) → (i6 < 8) → (0 ≤ k8 ∧ k8 ≤ n2) → (MidM (uZ z 0 0) g p0 (8 * r5 + i6) fo ft r5 ((z 12 + i6) % 8) k8 z207 g207) → (s4c = z207 13 - z 13) → ((n2 - k8).toNat) < N → ∀ (H : Heap) (locs : List Loc) (ls : Array Slot), wd D A s.heap (mw cy a z207 g207) H locs → lv_has ls 9 [(0, .ref (a 0)), (1, vI p0), (2, vI n2), (3, vI r3), (4, vI s4c), (5, vI r5), (6, vI i6), (7, vI ((z 12 + i6) % 8)), (8, vI k8)] → W p l e (rm_X10_auction) s m args below meth c H locs 0 0 Q (F0 m 207 ls []) := by
            intro N
            induction N with
            | zero => intro s4c k8 z207 g207 hz207 hg207 hlt2 hk8 hM4 hs4c hN9; exact absurd hN9 (Nat.not_lt_zero _)
            | succ N ih207 =>
              intro s4c k8 z207 g207 hz207 hg207 hlt2 hk8 hM4 hs4c hN207 H locs ls w hl
              have hm4 : g207 22 = fo ∧ g207 23 = ft ∧ g207 5 = g 5 := by rcases hM4 with q | q; exact ⟨q.1.2.2.1, q.1.2.2.2, (q.1.2.1 5 (by decide) (by decide) (by decide)).trans (FM_keep (uZ z 0 0) g p0 (by omega)).2.2⟩; exact ⟨q.1.2.2.1, q.1.2.2.2, (q.1.2.1 5 (by decide) (by decide) (by decide)).trans (FM_keep (uZ z 0 0) g p0 (by omega)).2.2⟩
              have e22_ : ∀ j, g207 22 j = fo j := fun j => by rw [hm4.1]
              have e23_ : ∀ j, g207 23 j = ft j := fun j => by rw [hm4.2.1]
              have e5_ : ∀ j, g207 5 j = g 5 j := fun j => by rw [hm4.2.2]
              have bz13_ := mZ13 hz207
              refine lv_iload hx hb dX10_auction_207 (lv_at hl 8 rfl) ?_
              refine lv_iload_n hx hb dX10_auction_209 rfl (lv_at hl 2 rfl) ?_
              refine r_icmp_ge (tgt := 277) hx hb dX10_auction_210 (by decide) (by omega) (by omega) (fun c210 => ?_) (fun c210 => ?_)
              · skip
                refine r_iinc (lv' := [(6, vI (i6 + 1)), (0, .ref (a 0)), (1, vI p0), (2, vI n2), (3, vI r3), (4, vI s4c), (5, vI r5), (7, vI ((z 12 + i6) % 8)), (8, vI k8)]) hx hb dX10_auction_277 hl (k := 6) rfl (by decide) rfl (fun ls hl => ?_)
                refine lv_goto (tgt := 185) hx hb dX10_auction_280 (by decide) ?_
                exact ih185 s4c (i6 + 1) z207 g207 hz207 hg207 (by omega) (by omega) (by exact MidM_end (z0 := uZ z 0 0) ⟨by omega, by omega⟩ (by omega) rfl hP2 (by rw [← show k8 = n2 by omega]; exact hM4)) (by exact hs4c) (by omega) _ _ _ w (lv_sub hl [1, 2, 3, 4, 5, 6, 0] rfl)
              · skip
                have hb8 := hP2.2.1 k8 hk8.1 (by omega)
                have qa5 := mB5 hg (fo k8)
                have qa23 := mB23 hg207 (fo k8)
                rw [e23_] at qa23
                refine lv_aload_n hx hb dX10_auction_213 rfl (lv_at hl 0 rfl) ?_
                refine r_get C w 0 (v := .ref (a 5)) rfl rfl 15 (by decide) inX10 kf_X10_24 rfl dX10_auction_214 ?_
                refine lv_aload_n hx hb dX10_auction_217 rfl (lv_at hl 0 rfl) ?_
                refine r_get C w 0 (v := .ref (a 22)) rfl rfl 35 (by decide) inX10 kf_X10_75 rfl dX10_auction_218 ?_
                refine lv_iload hx hb dX10_auction_221 (lv_at hl 8 rfl) ?_
                refine r_iald C w 22 (f := (g207 22)) rfl (by omega) (by omega) (by decide) dX10_auction_223 ?_
                have qg1 := mB22 hg207 k8
                refine r_as (v := (fo k8)) (by exact e22_ k8) ?_
                refine r_iald C w 5 (f := (g207 5)) rfl (by omega) (by omega) (by decide) dX10_auction_224 ?_
                have qg2 := mB5 hg207 (fo k8)
                refine r_as (v := (g 5 (fo k8))) (by exact e5_ _) ?_
                refine lv_iload hx hb dX10_auction_225 (lv_at hl 7 rfl) ?_
                refine r_icmp_ne (tgt := 271) hx hb dX10_auction_227 (by decide) (by omega) (by omega) (fun c227 => ?_) (fun c227 => ?_)
                · skip
                  refine r_iinc (lv' := [(8, vI (k8 + 1)), (0, .ref (a 0)), (1, vI p0), (2, vI n2), (3, vI r3), (4, vI s4c), (5, vI r5), (6, vI i6), (7, vI ((z 12 + i6) % 8))]) hx hb dX10_auction_271 hl (k := 8) rfl (by decide) rfl (fun ls hl => ?_)
                  refine lv_goto (tgt := 207) hx hb dX10_auction_274 (by decide) ?_
                  exact ih207 s4c (k8 + 1) z207 g207 hz207 hg207 (by omega) (by omega) (by first | exact hmy | exact MidM_no hM4 (fun q => c227 q.1) | exact MidM_no hM4 (fun q => c244 q.2)) (by first | exact hs4c | omega) (by omega) _ _ _ w (lv_sub hl [1, 2, 3, 4, 5, 6, 7, 8, 0] rfl)
                · skip
                  refine lv_aload_n hx hb dX10_auction_230 rfl (lv_at hl 0 rfl) ?_
                  refine r_get C w 0 (v := .ref (a 23)) rfl rfl 36 (by decide) inX10 kf_X10_78 rfl dX10_auction_231 ?_
                  refine lv_aload_n hx hb dX10_auction_234 rfl (lv_at hl 0 rfl) ?_
                  refine r_get C w 0 (v := .ref (a 22)) rfl rfl 35 (by decide) inX10 kf_X10_75 rfl dX10_auction_235 ?_
                  refine lv_iload hx hb dX10_auction_238 (lv_at hl 8 rfl) ?_
                  refine r_iald C w 22 (f := (g207 22)) rfl (by omega) (by omega) (by decide) dX10_auction_240 ?_
                  have qg3 := mB22 hg207 k8
                  refine r_as (v := (fo k8)) (by exact e22_ k8) ?_
                  refine r_iald C w 23 (f := (g207 23)) rfl (by omega) (by omega) (by decide) dX10_auction_241 ?_
                  have qg4 := mB23 hg207 (fo k8)
                  refine r_as (v := (ft (fo k8))) (by exact e23_ _) ?_
                  refine lv_iload hx hb dX10_auction_242 (lv_at hl 5 rfl) ?_
                  refine r_icmp_ne (tgt := 271) hx hb dX10_auction_244 (by decide) (by omega) (by omega) (fun c244 => ?_) (fun c244 => ?_)
                  · skip
                    refine r_iinc (lv' := [(8, vI (k8 + 1)), (0, .ref (a 0)), (1, vI p0), (2, vI n2), (3, vI r3), (4, vI s4c), (5, vI r5), (6, vI i6), (7, vI ((z 12 + i6) % 8))]) hx hb dX10_auction_271 hl (k := 8) rfl (by decide) rfl (fun ls hl => ?_)
                    refine lv_goto (tgt := 207) hx hb dX10_auction_274 (by decide) ?_
                    exact ih207 s4c (k8 + 1) z207 g207 hz207 hg207 (by omega) (by omega) (by first | exact hmy | exact MidM_no hM4 (fun q => c227 q.1) | exact MidM_no hM4 (fun q => c244 q.2)) (by first | exact hs4c | omega) (by omega) _ _ _ w (lv_sub hl [1, 2, 3, 4, 5, 6, 7, 8, 0] rfl)
                  · skip
                    refine lv_iload hx hb dX10_auction_247 (lv_at hl 4 rfl) ?_
                    refine lv_aload_n hx hb dX10_auction_249 rfl (lv_at hl 0 rfl) ?_
                    refine lv_aload_n hx hb dX10_auction_250 rfl (lv_at hl 0 rfl) ?_
                    refine r_get C w 0 (v := .ref (a 22)) rfl rfl 35 (by decide) inX10 kf_X10_75 rfl dX10_auction_251 ?_
                    refine lv_iload hx hb dX10_auction_254 (lv_at hl 8 rfl) ?_
                    refine r_iald C w 22 (f := (g207 22)) rfl (by omega) (by omega) (by decide) dX10_auction_256 ?_
                    have qg5 := mB22 hg207 k8
                    refine r_as (v := (fo k8)) (by exact e22_ k8) ?_
                    refine cVI C w hA (ct_X10_offer l D cy a z207 g207 (fo k8) hz207 hg207 (by show 0 ≤ (fo k8) ∧ (fo k8) < 100; omega)) ok_X10_offer km_X10_195 ⟨rfl, rfl⟩ ⟨by decide, by decide⟩ ⟨by decide, by decide⟩ rfl 0 rfl rfl hl.1 rfl (Nat.le_of_ble_eq_true rfl) dX10_auction_257 (fun rv_1 uv_1 H locs w hp_1 => ?_)
                    obtain ⟨zc_1, gc_1⟩ := uv_1
                    obtain ⟨hp_1, hzc_1, hgc_1⟩ := hp_1
                    replace w : wd D A s.heap (mw cy a zc_1 gc_1) H locs := w
                    replace hzc_1 : mBz zc_1 := hzc_1
                    replace hgc_1 : mBg gc_1 := hgc_1
                    try dsimp only at hp_1
                    have hof : (zc_1, gc_1) = offM z207 g207 (fo k8) := by rcases hp_1 with q | q; exact q.2.1; exact q.2.1
                    have hso : (rv_1 = 0 ∧ zc_1 13 = z207 13) ∨ (rv_1 = 1 ∧ zc_1 13 = z207 13 + 1) := by rcases hp_1 with q | q; exact Or.inl ⟨q.1, q.2.2⟩; exact Or.inr ⟨q.1, q.2.2⟩
                    have hmy := MidM_yes (z0 := uZ z 0 0) (i := i6) ⟨by omega, by omega⟩ (by omega) rfl hP2 ⟨hk8.1, by omega⟩ hM4 ⟨c227, c244⟩
                    rw [← hof] at hmy
                    have hdig : 0 ≤ s4c ∧ s4c ≤ 400 ∨ True := Or.inr trivial
                    refine r_if_eq (tgt := 267) hx hb dX10_auction_260 (by decide) (by omega) (fun c260 => ?_) (fun c260 => ?_)
                    · skip
                      refine r_iconst hx hb dX10_auction_267 ?_
                      refine r_iadd hx hb dX10_auction_268 ?_
                      refine lv_istore (lv' := [(4, vI (s4c + 0)), (0, .ref (a 0)), (1, vI p0), (2, vI n2), (3, vI r3), (5, vI r5), (6, vI i6), (7, vI ((z 12 + i6) % 8)), (8, vI k8)]) hx hb dX10_auction_269 hl (by decide) rfl (fun ls hl => ?_)
                      refine r_iinc (lv' := [(8, vI (k8 + 1)), (4, vI (s4c + 0)), (0, .ref (a 0)), (1, vI p0), (2, vI n2), (3, vI r3), (5, vI r5), (6, vI i6), (7, vI ((z 12 + i6) % 8))]) hx hb dX10_auction_271 hl (k := 8) rfl (by decide) rfl (fun ls hl => ?_)
                      refine lv_goto (tgt := 207) hx hb dX10_auction_274 (by decide) ?_
                      exact ih207 (s4c + 0) (k8 + 1) zc_1 gc_1 hzc_1 hgc_1 (by omega) (by omega) (by first | exact hmy | exact MidM_no hM4 (fun q => c227 q.1) | exact MidM_no hM4 (fun q => c244 q.2)) (by first | exact hs4c | omega) (by omega) _ _ _ w (lv_sub hl [2, 3, 4, 5, 1, 6, 7, 8, 0] rfl)
                    · skip
                      refine r_iconst hx hb dX10_auction_263 ?_
                      refine lv_goto (tgt := 268) hx hb dX10_auction_264 (by decide) ?_
                      refine r_iadd hx hb dX10_auction_268 ?_
                      refine lv_istore (lv' := [(4, vI (s4c + 1)), (0, .ref (a 0)), (1, vI p0), (2, vI n2), (3, vI r3), (5, vI r5), (6, vI i6), (7, vI ((z 12 + i6) % 8)), (8, vI k8)]) hx hb dX10_auction_269 hl (by decide) rfl (fun ls hl => ?_)
                      refine r_iinc (lv' := [(8, vI (k8 + 1)), (4, vI (s4c + 1)), (0, .ref (a 0)), (1, vI p0), (2, vI n2), (3, vI r3), (5, vI r5), (6, vI i6), (7, vI ((z 12 + i6) % 8))]) hx hb dX10_auction_271 hl (k := 8) rfl (by decide) rfl (fun ls hl => ?_)
                      refine lv_goto (tgt := 207) hx hb dX10_auction_274 (by decide) ?_
                      exact ih207 (s4c + 1) (k8 + 1) zc_1 gc_1 hzc_1 hgc_1 (by omega) (by omega) (by first | exact hmy | exact MidM_no hM4 (fun q => c227 q.1) | exact MidM_no hM4 (fun q => c244 q.2)) (by first | exact hs4c | omega) (by omega) _ _ _ w (lv_sub hl [2, 3, 4, 5, 1, 6, 7, 8, 0] rfl)
          refine lv_iload hx hb dX10_auction_185 (lv_at hl 6 rfl) ?_
          refine r_bipush hx hb dX10_auction_187 (by decide) ?_
          refine r_icmp_ge (tgt := 283) hx hb dX10_auction_189 (by decide) (by omega) (by omega) (fun c189 => ?_) (fun c189 => ?_)
          · skip
            refine r_iinc (lv' := [(5, vI (r5 + 1)), (0, .ref (a 0)), (1, vI p0), (2, vI n2), (3, vI r3), (4, vI s4b), (6, vI i6)]) hx hb dX10_auction_283 hl (k := 5) rfl (by decide) rfl (fun ls hl => ?_)
            refine lv_goto (tgt := 176) hx hb dX10_auction_286 (by decide) ?_
            exact ih176 n2 r3 s4b (r5 + 1) fo ft z185 g185 hz185 hg185 (by omega) (by exact hP2) (by omega) (by rw [show 8 * (r5 + 1) = 8 * r5 + i6 by omega]; exact hI3) (by exact hs4b) (by omega) _ _ _ w (lv_sub hl [1, 2, 3, 4, 5, 0] rfl)
          · skip
            refine lv_aload_n hx hb dX10_auction_192 rfl (lv_at hl 0 rfl) ?_
            refine r_get C w 0 (v := vI (z185 12)) rfl rfl 23 (by decide) inX10 kf_X10_192 rfl dX10_auction_193 ?_
            have qz6 := mZ12 hz185
            refine lv_iload hx hb dX10_auction_196 (lv_at hl 6 rfl) ?_
            refine r_iadd hx hb dX10_auction_198 ?_
            refine r_bipush hx hb dX10_auction_199 (by decide) ?_
            refine r_irem hx hb dX10_auction_201 (by omega) (by omega) ?_
            refine r_as (v := ((z 12 + i6) % 8)) (by rw [ed3]) ?_
            refine lv_istore (lv' := [(7, vI ((z 12 + i6) % 8)), (0, .ref (a 0)), (1, vI p0), (2, vI n2), (3, vI r3), (4, vI s4b), (5, vI r5), (6, vI i6)]) hx hb dX10_auction_202 hl (by decide) rfl (fun ls hl => ?_)
            refine r_iconst hx hb dX10_auction_204 ?_
            refine lv_istore (lv' := [(8, vI 0), (7, vI ((z 12 + i6) % 8)), (0, .ref (a 0)), (1, vI p0), (2, vI n2), (3, vI r3), (4, vI s4b), (5, vI r5), (6, vI i6)]) hx hb dX10_auction_205 hl (by decide) rfl (fun ls hl => ?_)
            exact J207 _ s4b 0 z185 g185 hz185 hg185 (by omega) (by omega) (by exact Or.inl ⟨hI3, fun i h1 h2 => absurd h2 (by omega)⟩) (by exact hs4b) (Nat.lt_succ_self _) _ _ _ w (lv_sub hl [2, 3, 4, 5, 6, 7, 8, 1, 0] rfl)
      refine lv_iload hx hb dX10_auction_176 (lv_at hl 5 rfl) ?_
      refine lv_iload_n hx hb dX10_auction_178 rfl (lv_at hl 3 rfl) ?_
      refine r_icmp_ge (tgt := 289) hx hb dX10_auction_179 (by decide) (by omega) (by omega) (fun c179 => ?_) (fun c179 => ?_)
      · skip
        refine lv_iload hx hb dX10_auction_289 (lv_at hl 4 rfl) ?_
        exact hend s4 (z176, g176) _ _ _ _ dX10_auction_291 w ⟨(by refine Or.inr ⟨hp0, hs4, ?_⟩; exact InvM_fin (z0 := uZ z 0 0) b11_.2 hP2 (by rw [← show r5 = r3 by omega]; exact hI2)), hz176, hg176⟩
      · skip
        refine r_iconst hx hb dX10_auction_182 ?_
        refine lv_istore (lv' := [(6, vI 0), (0, .ref (a 0)), (1, vI p0), (2, vI n2), (3, vI r3), (4, vI s4), (5, vI r5)]) hx hb dX10_auction_183 hl (by decide) rfl (fun ls hl => ?_)
        exact J185 _ s4 0 z176 g176 hz176 hg176 (by omega) (by omega) (by rw [Int.add_zero]; exact hI2) (by exact hs4) (Nat.lt_succ_self _) _ _ _ w (lv_sub hl [1, 2, 3, 4, 5, 6, 0] rfl)
  have J23 : ∀ N : Nat, ∀ (n2 : Int) (r3 : Int) (k4 : Int) (fo : Int → Int) (ft : Int → Int), (∀ j : Int, (0 : Int) ≤ fo j ∧ fo j ≤ 99) → (∀ j : Int, (0 : Int) ≤ ft j ∧ ft j ≤ 100) → (0 ≤ p0 ∧ p0 < 4) → (0 ≤ k4 ∧ k4 ≤ z 11) → (Ph1 (g 5) (wM g p0) k4 n2 r3 fo ft) → ((z 11 - k4).toNat) < N → ∀ (H : Heap) (locs : List Loc) (ls : Array Slot), wd D A s.heap (mw cy a (uZ z 0 0) (uZ (uZ g 22 fo) 23 ft)) H locs → lv_has ls 9 [(0, .ref (a 0)), (1, vI p0), (2, vI n2), (3, vI r3), (4, vI k4)] → W p l e (rm_X10_auction) s m args below meth c H locs 0 0 Q (F0 m 23 ls []) := by
    intro N
    induction N with
    | zero => intro n2 r3 k4 fo ft bfo bft hp0 hk4 hP1 hN9; exact absurd hN9 (Nat.not_lt_zero _)
    | succ N ih23 =>
      intro n2 r3 k4 fo ft bfo bft hp0 hk4 hP1 hN23 H locs ls w hl
      have hpa := hP1.1
      have J77 : ∀ N : Nat, ∀ (i5 : Int) (ft2 : Int → Int), (∀ j : Int, (0 : Int) ≤ ft2 j ∧ ft2 j ≤ 100) → (k4 < z 11) → (0 ≤ i5 ∧ i5 ≤ n2) → (wM g p0 k4 = 1) → ((∀ j, j ≠ k4 → ft2 j = ft j) ∧ ft2 k4 = sumI (grS (g 5) fo (g 5 k4)) i5) → ((n2 - i5).toNat) < N → ∀ (H : Heap) (locs : List Loc) (ls : Array Slot), wd D A s.heap (mw cy a (uZ z 0 0) (uZ (uZ g 22 fo) 23 ft2)) H locs → lv_has ls 9 [(0, .ref (a 0)), (1, vI p0), (2, vI n2), (3, vI r3), (4, vI k4), (5, vI i5)] → W p l e (rm_X10_auction) s m args below meth c H locs 0 0 Q (F0 m 77 ls []) := by
        intro N
        induction N with
        | zero => intro i5 ft2 bft2 hlt hi5 hwk hft2 hN9; exact absurd hN9 (Nat.not_lt_zero _)
        | succ N ih77 =>
          intro i5 ft2 bft2 hlt hi5 hwk hft2 hN77 H locs ls w hl
          have hsb := sumI_b (f := grS (g 5) fo (g 5 k4)) (c := 1) hi5.1 (fun j _ _ => grS_b _ _ _ j)
          have hrr := hft2.2
          refine lv_iload hx hb dX10_auction_77 (lv_at hl 5 rfl) ?_
          refine lv_iload_n hx hb dX10_auction_79 rfl (lv_at hl 2 rfl) ?_
          refine r_icmp_ge (tgt := 126) hx hb dX10_auction_80 (by decide) (by omega) (by omega) (fun c80 => ?_) (fun c80 => ?_)
          · skip
            refine lv_aload_n hx hb dX10_auction_126 rfl (lv_at hl 0 rfl) ?_
            refine r_get C w 0 (v := .ref (a 23)) rfl rfl 36 (by decide) inX10 kf_X10_78 rfl dX10_auction_127 ?_
            refine lv_iload hx hb dX10_auction_130 (lv_at hl 4 rfl) ?_
            refine r_iald C w 23 (f := ft2) rfl (by omega) (by omega) (by decide) dX10_auction_132 ?_
            have qg7 := bft2 k4
            refine r_iconst hx hb dX10_auction_133 ?_
            refine r_iadd hx hb dX10_auction_134 ?_
            refine lv_iload_n hx hb dX10_auction_135 rfl (lv_at hl 3 rfl) ?_
            refine r_icmp_le (tgt := 151) hx hb dX10_auction_136 (by decide) (by omega) (by omega) (fun c136 => ?_) (fun c136 => ?_)
            · skip
              refine lv_iload_n hx hb dX10_auction_151 rfl (lv_at hl 3 rfl) ?_
              refine lv_istore_n (lv' := [(3, vI r3), (0, .ref (a 0)), (1, vI p0), (2, vI n2), (4, vI k4), (5, vI i5)]) hx hb dX10_auction_152 rfl hl (by decide) rfl (fun ls hl => ?_)
              refine lv_aload_n hx hb dX10_auction_153 rfl (lv_at hl 1 rfl) ?_
              refine r_get C w 0 (v := .ref (a 22)) rfl rfl 35 (by decide) inX10 kf_X10_75 rfl dX10_auction_154 ?_
              refine lv_iload_n hx hb dX10_auction_157 rfl (lv_at hl 3 rfl) ?_
              refine lv_iload hx hb dX10_auction_158 (lv_at hl 4 rfl) ?_
              refine r_iast C w 22 (f := fo) rfl (by omega) (by omega) (by decide) (ws' := mw cy a (uZ z 0 0) (uZ (uZ g 22 (uI fo n2 k4)) 23 ft2)) rfl dX10_auction_160 (fun H locs w => ?_)
              have bg8 : ∀ j : Int, (0 : Int) ≤ (uI fo n2 k4) j ∧ (uI fo n2 k4) j ≤ 99 := uI_b bfo (by omega)
              refine r_iinc (lv' := [(2, vI (n2 + 1)), (3, vI r3), (0, .ref (a 0)), (1, vI p0), (4, vI k4), (5, vI i5)]) hx hb dX10_auction_161 hl (k := 3) rfl (by decide) rfl (fun ls hl => ?_)
              refine r_iinc (lv' := [(4, vI (k4 + 1)), (2, vI (n2 + 1)), (3, vI r3), (0, .ref (a 0)), (1, vI p0), (5, vI i5)]) hx hb dX10_auction_164 hl (k := 4) rfl (by decide) rfl (fun ls hl => ?_)
              refine lv_goto (tgt := 23) hx hb dX10_auction_167 (by decide) ?_
              exact ih23 (n2 + 1) r3 (k4 + 1) (uI fo n2 k4) ft2 bg8 bft2 (by omega) (by omega) (by first | exact Ph1_yes hP1 hwk hft2.1 (by rw [hft2.2, show i5 = n2 by omega]) (by omega) | exact Ph1_no hP1 (fun q => by have := wM_1.mp q; omega)) (by omega) _ _ _ w (lv_sub hl [3, 4, 1, 2, 0] rfl)
            · skip
              refine lv_aload_n hx hb dX10_auction_139 rfl (lv_at hl 0 rfl) ?_
              refine r_get C w 0 (v := .ref (a 23)) rfl rfl 36 (by decide) inX10 kf_X10_78 rfl dX10_auction_140 ?_
              refine lv_iload hx hb dX10_auction_143 (lv_at hl 4 rfl) ?_
              refine r_iald C w 23 (f := ft2) rfl (by omega) (by omega) (by decide) dX10_auction_145 ?_
              have qg9 := bft2 k4
              refine r_iconst hx hb dX10_auction_146 ?_
              refine r_iadd hx hb dX10_auction_147 ?_
              refine lv_goto (tgt := 152) hx hb dX10_auction_148 (by decide) ?_
              refine lv_istore_n (lv' := [(3, vI ((ft2 k4) + 1)), (0, .ref (a 0)), (1, vI p0), (2, vI n2), (4, vI k4), (5, vI i5)]) hx hb dX10_auction_152 rfl hl (by decide) rfl (fun ls hl => ?_)
              refine lv_aload_n hx hb dX10_auction_153 rfl (lv_at hl 1 rfl) ?_
              refine r_get C w 0 (v := .ref (a 22)) rfl rfl 35 (by decide) inX10 kf_X10_75 rfl dX10_auction_154 ?_
              refine lv_iload_n hx hb dX10_auction_157 rfl (lv_at hl 3 rfl) ?_
              refine lv_iload hx hb dX10_auction_158 (lv_at hl 4 rfl) ?_
              refine r_iast C w 22 (f := fo) rfl (by omega) (by omega) (by decide) (ws' := mw cy a (uZ z 0 0) (uZ (uZ g 22 (uI fo n2 k4)) 23 ft2)) rfl dX10_auction_160 (fun H locs w => ?_)
              have bg10 : ∀ j : Int, (0 : Int) ≤ (uI fo n2 k4) j ∧ (uI fo n2 k4) j ≤ 99 := uI_b bfo (by omega)
              refine r_iinc (lv' := [(2, vI (n2 + 1)), (3, vI ((ft2 k4) + 1)), (0, .ref (a 0)), (1, vI p0), (4, vI k4), (5, vI i5)]) hx hb dX10_auction_161 hl (k := 3) rfl (by decide) rfl (fun ls hl => ?_)
              refine r_iinc (lv' := [(4, vI (k4 + 1)), (2, vI (n2 + 1)), (3, vI ((ft2 k4) + 1)), (0, .ref (a 0)), (1, vI p0), (5, vI i5)]) hx hb dX10_auction_164 hl (k := 4) rfl (by decide) rfl (fun ls hl => ?_)
              refine lv_goto (tgt := 23) hx hb dX10_auction_167 (by decide) ?_
              exact ih23 (n2 + 1) ((ft2 k4) + 1) (k4 + 1) (uI fo n2 k4) ft2 bg10 bft2 (by omega) (by omega) (by first | exact Ph1_yes hP1 hwk hft2.1 (by rw [hft2.2, show i5 = n2 by omega]) (by omega) | exact Ph1_no hP1 (fun q => by have := wM_1.mp q; omega)) (by omega) _ _ _ w (lv_sub hl [3, 4, 1, 2, 0] rfl)
          · skip
            refine lv_aload_n hx hb dX10_auction_83 rfl (lv_at hl 0 rfl) ?_
            refine r_get C w 0 (v := .ref (a 23)) rfl rfl 36 (by decide) inX10 kf_X10_78 rfl dX10_auction_84 ?_
            refine lv_iload hx hb dX10_auction_87 (lv_at hl 4 rfl) ?_
            refine lv_dup2_11 hx hb dX10_auction_89 rfl rfl ?_
            refine r_iald C w 23 (f := ft2) rfl (by omega) (by omega) (by decide) dX10_auction_90 ?_
            have qg11 := bft2 k4
            refine lv_aload_n hx hb dX10_auction_91 rfl (lv_at hl 0 rfl) ?_
            refine r_get C w 0 (v := .ref (a 5)) rfl rfl 15 (by decide) inX10 kf_X10_24 rfl dX10_auction_92 ?_
            refine lv_aload_n hx hb dX10_auction_95 rfl (lv_at hl 0 rfl) ?_
            refine r_get C w 0 (v := .ref (a 22)) rfl rfl 35 (by decide) inX10 kf_X10_75 rfl dX10_auction_96 ?_
            refine lv_iload hx hb dX10_auction_99 (lv_at hl 5 rfl) ?_
            refine r_iald C w 22 (f := fo) rfl (by omega) (by omega) (by decide) dX10_auction_101 ?_
            have qg12 := bfo i5
            refine r_iald C w 5 (f := (g 5)) rfl (by omega) (by omega) (by decide) dX10_auction_102 ?_
            have qg13 := mB5 hg (fo i5)
            refine lv_aload_n hx hb dX10_auction_103 rfl (lv_at hl 0 rfl) ?_
            refine r_get C w 0 (v := .ref (a 5)) rfl rfl 15 (by decide) inX10 kf_X10_24 rfl dX10_auction_104 ?_
            refine lv_iload hx hb dX10_auction_107 (lv_at hl 4 rfl) ?_
            refine r_iald C w 5 (f := (g 5)) rfl (by omega) (by omega) (by decide) dX10_auction_109 ?_
            have qg14 := mB5 hg k4
            refine r_icmp_ne (tgt := 117) hx hb dX10_auction_110 (by decide) (by omega) (by omega) (fun c110 => ?_) (fun c110 => ?_)
            · skip
              refine r_iconst hx hb dX10_auction_117 ?_
              refine r_iadd hx hb dX10_auction_118 ?_
              refine r_iast C w 23 (f := ft2) rfl (by omega) (by omega) (by decide) (ws' := mw cy a (uZ z 0 0) (uZ (uZ g 22 fo) 23 (uI ft2 k4 ((ft2 k4) + 0)))) rfl dX10_auction_119 (fun H locs w => ?_)
              have bg15 : ∀ j : Int, (0 : Int) ≤ (uI ft2 k4 ((ft2 k4) + 0)) j ∧ (uI ft2 k4 ((ft2 k4) + 0)) j ≤ 100 := uI_b bft2 (by omega)
              refine r_iinc (lv' := [(5, vI (i5 + 1)), (0, .ref (a 0)), (1, vI p0), (2, vI n2), (3, vI r3), (4, vI k4)]) hx hb dX10_auction_120 hl (k := 5) rfl (by decide) rfl (fun ls hl => ?_)
              refine lv_goto (tgt := 77) hx hb dX10_auction_123 (by decide) ?_
              exact ih77 (i5 + 1) (uI ft2 k4 ((ft2 k4) + 0)) bg15 (by omega) (by omega) (by exact hwk) (by first | exact grS_up hi5.1 hft2 (Or.inl ⟨c110, rfl⟩) | exact grS_up hi5.1 hft2 (Or.inr ⟨c110, rfl⟩)) (by omega) _ _ _ w (lv_sub hl [1, 2, 3, 4, 5, 0] rfl)
            · skip
              refine r_iconst hx hb dX10_auction_113 ?_
              refine lv_goto (tgt := 118) hx hb dX10_auction_114 (by decide) ?_
              refine r_iadd hx hb dX10_auction_118 ?_
              refine r_iast C w 23 (f := ft2) rfl (by omega) (by omega) (by decide) (ws' := mw cy a (uZ z 0 0) (uZ (uZ g 22 fo) 23 (uI ft2 k4 ((ft2 k4) + 1)))) rfl dX10_auction_119 (fun H locs w => ?_)
              have bg16 : ∀ j : Int, (0 : Int) ≤ (uI ft2 k4 ((ft2 k4) + 1)) j ∧ (uI ft2 k4 ((ft2 k4) + 1)) j ≤ 100 := uI_b bft2 (by omega)
              refine r_iinc (lv' := [(5, vI (i5 + 1)), (0, .ref (a 0)), (1, vI p0), (2, vI n2), (3, vI r3), (4, vI k4)]) hx hb dX10_auction_120 hl (k := 5) rfl (by decide) rfl (fun ls hl => ?_)
              refine lv_goto (tgt := 77) hx hb dX10_auction_123 (by decide) ?_
              exact ih77 (i5 + 1) (uI ft2 k4 ((ft2 k4) + 1)) bg16 (by omega) (by omega) (by exact hwk) (by first | exact grS_up hi5.1 hft2 (Or.inl ⟨c110, rfl⟩) | exact grS_up hi5.1 hft2 (Or.inr ⟨c110, rfl⟩)) (by omega) _ _ _ w (lv_sub hl [1, 2, 3, 4, 5, 0] rfl)
      refine lv_iload hx hb dX10_auction_23 (lv_at hl 4 rfl) ?_
      refine lv_aload_n hx hb dX10_auction_25 rfl (lv_at hl 0 rfl) ?_
      refine r_get C w 0 (v := vI (z 11)) rfl rfl 22 (by decide) inX10 kf_X10_180 rfl dX10_auction_26 ?_
      have qz17 := mZ11 hz
      refine r_icmp_ge (tgt := 170) hx hb dX10_auction_29 (by decide) (by omega) (by omega) (fun c29 => ?_) (fun c29 => ?_)
      · skip
        refine r_iconst hx hb dX10_auction_170 ?_
        refine lv_istore (lv' := [(4, vI 0), (0, .ref (a 0)), (1, vI p0), (2, vI n2), (3, vI r3)]) hx hb dX10_auction_171 hl (by decide) rfl (fun ls hl => ?_)
        refine r_iconst hx hb dX10_auction_173 ?_
        refine lv_istore (lv' := [(5, vI 0), (4, vI 0), (0, .ref (a 0)), (1, vI p0), (2, vI n2), (3, vI r3)]) hx hb dX10_auction_174 hl (by decide) rfl (fun ls hl => ?_)
        exact J176 _ n2 r3 0 0 fo ft (uZ z 0 0) (uZ (uZ g 22 fo) 23 ft) (mBz_u hz 0 bz0) (mBg_u (mBg_u hg 22 bfo) 23 bft) (by omega) (by rw [← show k4 = z 11 by omega]; exact hP1) (by omega) (by exact InvM_0) (by show (0 : Int) = z 13 - z 13; omega) (Nat.lt_succ_self _) _ _ _ w (lv_sub hl [2, 3, 4, 5, 1, 0] rfl)
      · skip
        refine lv_aload_n hx hb dX10_auction_32 rfl (lv_at hl 0 rfl) ?_
        refine r_get C w 0 (v := .ref (a 9)) rfl rfl 19 (by decide) inX10 kf_X10_36 rfl dX10_auction_33 ?_
        refine lv_iload hx hb dX10_auction_36 (lv_at hl 4 rfl) ?_
        refine r_iald C w 9 (f := (g 9)) rfl (by omega) (by omega) (by decide) dX10_auction_38 ?_
        have qg18 := mB9 hg k4
        refine lv_iload_n hx hb dX10_auction_39 rfl (lv_at hl 1 rfl) ?_
        refine r_icmp_ne (tgt := 164) hx hb dX10_auction_40 (by decide) (by omega) (by omega) (fun c40 => ?_) (fun c40 => ?_)
        · skip
          refine r_iinc (lv' := [(4, vI (k4 + 1)), (0, .ref (a 0)), (1, vI p0), (2, vI n2), (3, vI r3)]) hx hb dX10_auction_164 hl (k := 4) rfl (by decide) rfl (fun ls hl => ?_)
          refine lv_goto (tgt := 23) hx hb dX10_auction_167 (by decide) ?_
          exact ih23 n2 r3 (k4 + 1) fo ft bfo bft (by omega) (by omega) (by first | exact Ph1_yes hP1 hwk hft2.1 (by rw [hft2.2, show i5 = n2 by omega]) (by omega) | exact Ph1_no hP1 (fun q => by have := wM_1.mp q; omega)) (by omega) _ _ _ w (lv_sub hl [1, 2, 3, 4, 0] rfl)
        · skip
          refine lv_aload_n hx hb dX10_auction_43 rfl (lv_at hl 0 rfl) ?_
          refine r_get C w 0 (v := .ref (a 11)) rfl rfl 21 (by decide) inX10 kf_X10_42 rfl dX10_auction_44 ?_
          refine lv_iload hx hb dX10_auction_47 (lv_at hl 4 rfl) ?_
          refine r_zald C w 11 (f := (g 11)) rfl (by omega) (by omega) (by decide) dX10_auction_49 ?_
          have qg19 := mB11 hg k4
          refine r_if_ne (tgt := 164) hx hb dX10_auction_50 (by decide) (by omega) (fun c50 => ?_) (fun c50 => ?_)
          · skip
            refine r_iinc (lv' := [(4, vI (k4 + 1)), (0, .ref (a 0)), (1, vI p0), (2, vI n2), (3, vI r3)]) hx hb dX10_auction_164 hl (k := 4) rfl (by decide) rfl (fun ls hl => ?_)
            refine lv_goto (tgt := 23) hx hb dX10_auction_167 (by decide) ?_
            exact ih23 n2 r3 (k4 + 1) fo ft bfo bft (by omega) (by omega) (by first | exact Ph1_yes hP1 hwk hft2.1 (by rw [hft2.2, show i5 = n2 by omega]) (by omega) | exact Ph1_no hP1 (fun q => by have := wM_1.mp q; omega)) (by omega) _ _ _ w (lv_sub hl [1, 2, 3, 4, 0] rfl)
          · skip
            refine lv_aload_n hx hb dX10_auction_53 rfl (lv_at hl 0 rfl) ?_
            refine r_get C w 0 (v := .ref (a 8)) rfl rfl 18 (by decide) inX10 kf_X10_33 rfl dX10_auction_54 ?_
            refine lv_iload hx hb dX10_auction_57 (lv_at hl 4 rfl) ?_
            refine r_iald C w 8 (f := (g 8)) rfl (by omega) (by omega) (by decide) dX10_auction_59 ?_
            have qg20 := mB8 hg k4
            refine r_if_ne (tgt := 66) hx hb dX10_auction_60 (by decide) (by omega) (fun c60 => ?_) (fun c60 => ?_)
            · skip
              refine lv_aload_n hx hb dX10_auction_66 rfl (lv_at hl 0 rfl) ?_
              refine r_get C w 0 (v := .ref (a 23)) rfl rfl 36 (by decide) inX10 kf_X10_78 rfl dX10_auction_67 ?_
              refine lv_iload hx hb dX10_auction_70 (lv_at hl 4 rfl) ?_
              refine r_iconst hx hb dX10_auction_72 ?_
              refine r_iast C w 23 (f := ft) rfl (by omega) (by omega) (by decide) (ws' := mw cy a (uZ z 0 0) (uZ (uZ g 22 fo) 23 (uI ft k4 0))) rfl dX10_auction_73 (fun H locs w => ?_)
              have bg21 : ∀ j : Int, (0 : Int) ≤ (uI ft k4 0) j ∧ (uI ft k4 0) j ≤ 100 := uI_b bft (by omega)
              refine r_iconst hx hb dX10_auction_74 ?_
              refine lv_istore (lv' := [(5, vI 0), (0, .ref (a 0)), (1, vI p0), (2, vI n2), (3, vI r3), (4, vI k4)]) hx hb dX10_auction_75 hl (by decide) rfl (fun ls hl => ?_)
              exact J77 _ 0 (uI ft k4 0) bg21 (by omega) (by omega) (by exact wM_1.mpr ⟨by omega, by omega, by omega⟩) (by exact grS_in _ _ _ _) (Nat.lt_succ_self _) _ _ _ w (lv_sub hl [1, 2, 3, 4, 5, 0] rfl)
            · skip
              refine lv_goto (tgt := 164) hx hb dX10_auction_63 (by decide) ?_
              refine r_iinc (lv' := [(4, vI (k4 + 1)), (0, .ref (a 0)), (1, vI p0), (2, vI n2), (3, vI r3)]) hx hb dX10_auction_164 hl (k := 4) rfl (by decide) rfl (fun ls hl => ?_)
              refine lv_goto (tgt := 23) hx hb dX10_auction_167 (by decide) ?_
              exact ih23 n2 r3 (k4 + 1) fo ft bfo bft (by omega) (by omega) (by first | exact Ph1_yes hP1 hwk hft2.1 (by rw [hft2.2, show i5 = n2 by omega]) (by omega) | exact Ph1_no hP1 (fun q => by have := wM_1.mp q; omega)) (by omega) _ _ _ w (lv_sub hl [1, 2, 3, 4, 0] rfl)
  replace hl : lv_has ls 9 [(0, .ref (a 0)), (1, vI p0)] := hl
  refine lv_aload_n hx hb dX10_auction_0 rfl (lv_at hl 0 rfl) ?_
  refine r_iconst hx hb dX10_auction_1 ?_
  refine r_put C w 0 tyX10 tyX10_ok nmX10 rfl rfl 0 (by decide) inX10 kf_X10_97 rfl rfl rfl (Nat.le_of_ble_eq_true rfl) (ws' := mw cy a (uZ z 0 0) g) (mw_z0 cy a z g 0) dX10_auction_2 (fun H locs w => ?_)
  have bz22 : (0 : Int) ≤ 0 ∧ (0 : Int) ≤ 1 := (by omega)
  refine lv_iload_n hx hb dX10_auction_5 rfl (lv_at hl 1 rfl) ?_
  refine r_iconst hx hb dX10_auction_6 ?_
  refine r_iconst hx hb dX10_auction_7 ?_
  refine cSI C w hA (ct_X10_isIn l D cy a (uZ z 0 0) g p0 0 3 (by show iR p0; omega) (by show iR 0; omega) (by show iR 3; omega)) ok_X10_isIn km_X10_183 ⟨rfl, rfl⟩ ⟨by decide, by decide⟩ ⟨by decide, by decide⟩ rfl hl.1 rfl (Nat.le_of_ble_eq_true rfl) dX10_auction_8 (fun rv_2 uv_2 H locs w hp_2 => ?_)
  replace hp_2 : (rv_2 = 1 ∧ 0 ≤ p0 ∧ p0 ≤ 3) ∨ (rv_2 = 0 ∧ ¬ (0 ≤ p0 ∧ p0 ≤ 3)) := hp_2
  replace w : wd D A s.heap (mw cy a (uZ z 0 0) g) H locs := w
  refine r_if_ne (tgt := 16) hx hb dX10_auction_11 (by decide) (by omega) (fun c11 => ?_) (fun c11 => ?_)
  · skip
    refine r_iconst hx hb dX10_auction_16 ?_
    refine lv_istore_n (lv' := [(2, vI 0), (0, .ref (a 0)), (1, vI p0)]) hx hb dX10_auction_17 rfl hl (by decide) rfl (fun ls hl => ?_)
    refine r_iconst hx hb dX10_auction_18 ?_
    refine lv_istore_n (lv' := [(3, vI 0), (2, vI 0), (0, .ref (a 0)), (1, vI p0)]) hx hb dX10_auction_19 rfl hl (by decide) rfl (fun ls hl => ?_)
    refine r_iconst hx hb dX10_auction_20 ?_
    refine lv_istore (lv' := [(4, vI 0), (3, vI 0), (2, vI 0), (0, .ref (a 0)), (1, vI p0)]) hx hb dX10_auction_21 hl (by decide) rfl (fun ls hl => ?_)
    exact J23 _ 0 0 0 (g 22) (g 23) (mB22 hg) (mB23 hg) (by omega) (by omega) (by exact Ph1_0 _ _ _ _) (Nat.lt_succ_self _) _ _ _ w (lv_sub hl [3, 4, 2, 1, 0] rfl)
  · skip
    refine r_iconst hx hb dX10_auction_14 ?_
    exact hend (-1) ((uZ z 0 0), g) _ _ _ _ dX10_auction_15 w ⟨(by exact Or.inl ⟨by omega, rfl, rfl⟩), (mBz_u hz 0 bz22), hg⟩
