/-! which lot is offered at a grower's turn: the (r + 1)st of those that wait -/
def ctP (gr w : Int → Int) (q : Int) : Int → Int := fun i => if w i = 1 ∧ gr i = q then 1 else 0
def cG (gr w : Int → Int) (q j : Int) : Int := sumI (ctP gr w q) j
theorem cG_s (gr w : Int → Int) (q : Int) {j : Int} (h : 0 ≤ j) : cG gr w q (j + 1) = cG gr w q j + ctP gr w q j := sumI_s _ h
theorem ctP_1 {gr w : Int → Int} {q j : Int} (h : w j = 1 ∧ gr j = q) : ctP gr w q j = 1 := if_pos h
theorem ctP_0 {gr w : Int → Int} {q j : Int} (h : ¬ (w j = 1 ∧ gr j = q)) : ctP gr w q j = 0 := if_neg h
theorem ctP_b (gr w : Int → Int) (q j : Int) : 0 ≤ ctP gr w q j ∧ ctP gr w q j ≤ 1 := by
  unfold ctP
  split <;> omega
theorem cG_0 (gr w : Int → Int) (q : Int) : cG gr w q 0 = 0 := rfl
theorem cG_mono (gr w : Int → Int) (q : Int) : ∀ (d : Nat) {j : Int}, 0 ≤ j → cG gr w q j ≤ cG gr w q (j + d)
  | 0, j, _ => by simp
  | d + 1, j, h => by
    have h1 := cG_mono gr w q d h
    have h2 := cG_s gr w q (j := j + d) (by omega)
    have h3 := ctP_b gr w q (j + d)
    have e : j + ((d + 1 : Nat) : Int) = j + d + 1 := by omega
    rw [e]
    omega
theorem cG_le (gr w : Int → Int) (q : Int) {j k : Int} (h : 0 ≤ j) (hk : j ≤ k) : cG gr w q j ≤ cG gr w q k := by
  have := cG_mono gr w q (k - j).toNat h
  rwa [show j + ((k - j).toNat : Int) = k by omega] at this
theorem cG_nn (gr w : Int → Int) (q : Int) {j : Int} (h : 0 ≤ j) : 0 ≤ cG gr w q j := by
  have := cG_le gr w q (Int.le_refl 0) h
  rwa [cG_0] at this
theorem cG_flat (gr w : Int → Int) (q : Int) : ∀ (d : Nat) {j : Int}, 0 ≤ j → (∀ i, j ≤ i → i < j + d → ¬ (w i = 1 ∧ gr i = q)) → cG gr w q (j + d) = cG gr w q j
  | 0, j, _, _ => by simp
  | d + 1, j, h, hn => by
    have h1 := cG_flat gr w q d h (fun i h2 h3 => hn i h2 (by omega))
    have h2 := cG_s gr w q (j := j + d) (by omega)
    have h3 := ctP_0 (gr := gr) (w := w) (q := q) (j := j + d) (hn (j + d) (by omega) (by omega))
    have e : j + ((d + 1 : Nat) : Int) = j + d + 1 := by omega
    rw [e]
    omega
theorem cG_flat2 (gr w : Int → Int) (q : Int) {j k : Int} (h : 0 ≤ j) (hk : j ≤ k) (hn : ∀ i, j ≤ i → i < k → ¬ (w i = 1 ∧ gr i = q)) : cG gr w q k = cG gr w q j := by
  have := cG_flat gr w q (k - j).toNat h (fun i h1 h2 => hn i h1 (by omega))
  rwa [show j + ((k - j).toNat : Int) = k by omega] at this
/-- a count that has been passed was met -/
theorem cG_met (gr w : Int → Int) (q r : Int) (hr : 0 ≤ r) : ∀ d : Nat, r < cG gr w q d → ∃ i : Int, 0 ≤ i ∧ i < d ∧ w i = 1 ∧ gr i = q ∧ cG gr w q i = r
  | 0, h => by
    have : cG gr w q ((0 : Nat) : Int) = 0 := rfl
    omega
  | d + 1, h => by
    by_cases h1 : r < cG gr w q d
    · obtain ⟨i, h2, h3, h4⟩ := cG_met gr w q r hr d h1
      exact ⟨i, h2, by omega, h4⟩
    · have h2 := cG_s gr w q (j := (d : Int)) (by omega)
      have h3 := ctP_b gr w q d
      have e : ((d + 1 : Nat) : Int) = (d : Int) + 1 := by omega
      rw [e] at h
      by_cases h4 : w d = 1 ∧ gr d = q
      · have h5 := ctP_1 h4
        exact ⟨d, by omega, by omega, h4.1, h4.2, by omega⟩
      · have h5 := ctP_0 h4
        omega
theorem cG_inj {gr w : Int → Int} {q i j : Int} (hi : 0 ≤ i) (hj : 0 ≤ j) (h1 : w i = 1 ∧ gr i = q) (h2 : w j = 1 ∧ gr j = q) (e : cG gr w q i = cG gr w q j) : i = j := by
  rcases Int.lt_trichotomy i j with h | h | h
  · have a := cG_s gr w q hi
    have b := ctP_1 h1
    have d := cG_le gr w q (j := i + 1) (k := j) (by omega) (by omega)
    omega
  · exact h
  · have a := cG_s gr w q hj
    have b := ctP_1 h2
    have d := cG_le gr w q (j := j + 1) (k := i) (by omega) (by omega)
    omega
def isPk (gr w : Int → Int) (n r q v : Int) : Prop := (0 ≤ v ∧ v < n ∧ w v = 1 ∧ gr v = q ∧ cG gr w q v = r) ∨ (v = n ∧ ∀ j, 0 ≤ j → j < n → w j = 1 → gr j = q → cG gr w q j ≠ r)
theorem isPk_ex (gr w : Int → Int) (n r q : Int) : ∃ v, isPk gr w n r q v := by
  by_cases h : ∃ v, 0 ≤ v ∧ v < n ∧ w v = 1 ∧ gr v = q ∧ cG gr w q v = r
  · obtain ⟨v, h⟩ := h
    exact ⟨v, Or.inl h⟩
  · exact ⟨n, Or.inr ⟨rfl, fun j h1 h2 h3 h4 h5 => h ⟨j, h1, h2, h3, h4, h5⟩⟩⟩
noncomputable def pk (gr w : Int → Int) (n r q : Int) : Int := Classical.choose (isPk_ex gr w n r q)
theorem pk_is (gr w : Int → Int) (n r q : Int) : isPk gr w n r q (pk gr w n r q) := Classical.choose_spec (isPk_ex gr w n r q)
theorem pk_of {gr w : Int → Int} {n r q v : Int} (h : isPk gr w n r q v) : v = pk gr w n r q := by
  rcases h with ⟨a1, a2, a3, a4, a5⟩ | ⟨a1, a2⟩ <;> rcases pk_is gr w n r q with ⟨b1, b2, b3, b4, b5⟩ | ⟨b1, b2⟩
  · exact cG_inj a1 b1 ⟨a3, a4⟩ ⟨b3, b4⟩ (by omega)
  · exact absurd a5 (b2 v a1 a2 a3 a4)
  · exact absurd b5 (a2 _ b1 b2 b3 b4)
  · omega
theorem pk_b (gr w : Int → Int) {n r q : Int} (hn : 0 ≤ n) : 0 ≤ pk gr w n r q ∧ pk gr w n r q ≤ n := by
  rcases pk_is gr w n r q with h | h <;> omega
/-- the place behind which the turn of round r looks -/
noncomputable def fromR (gr w : Int → Int) (n r q : Int) : Int := if r = 0 then 0 else pk gr w n (r - 1) q + 1
theorem fromR_c {gr w : Int → Int} {n r q : Int} (hr : 0 ≤ r) (hn : 0 ≤ n) (h : fromR gr w n r q ≤ n) : 0 ≤ fromR gr w n r q ∧ cG gr w q (fromR gr w n r q) = r := by
  unfold fromR at *
  by_cases e : r = 0
  · rw [if_pos e]
    exact ⟨Int.le_refl 0, by rw [cG_0]; exact e.symm⟩
  · rw [if_neg e] at *
    rcases pk_is gr w n (r - 1) q with ⟨b1, b2, b3, b4, b5⟩ | ⟨b1, b2⟩
    · have h2 := cG_s gr w q b1
      have h3 := ctP_1 (gr := gr) (w := w) (q := q) ⟨b3, b4⟩
      exact ⟨by omega, by omega⟩
    · omega
theorem pk_next {gr w : Int → Int} {n r q v : Int} (hr : 0 ≤ r) (hn : 0 ≤ n) (h : (fromR gr w n r q ≤ v ∧ v < n ∧ (w v = 1 ∧ gr v = q) ∧ ∀ j, fromR gr w n r q ≤ j → j < v → ¬ (w j = 1 ∧ gr j = q)) ∨ (v = n ∧ ∀ j, fromR gr w n r q ≤ j → j < n → ¬ (w j = 1 ∧ gr j = q))) : v = pk gr w n r q := by
  rcases h with ⟨h1, h2, h3, h4⟩ | ⟨h1, h2⟩
  · have hf := fromR_c (gr := gr) (w := w) (q := q) hr hn (by omega)
    have e := cG_flat2 gr w q hf.1 h1 h4
    exact pk_of (Or.inl ⟨by omega, h2, h3.1, h3.2, by omega⟩)
  · refine pk_of (Or.inr ⟨h1, fun j a1 a2 a3 a4 a5 => ?_⟩)
    by_cases e : r = 0
    · refine h2 j ?_ a2 ⟨a3, a4⟩
      unfold fromR
      rw [if_pos e]
      exact a1
    · obtain ⟨i, b1, b2, b3, b4, b5⟩ := cG_met gr w q (r - 1) (by omega) j.toNat (by rw [Int.toNat_of_nonneg a1]; omega)
      have e2 : i = pk gr w n (r - 1) q := pk_of (Or.inl ⟨b1, by omega, b3, b4, b5⟩)
      refine h2 j ?_ a2 ⟨a3, a4⟩
      unfold fromR
      rw [if_neg e, ← e2]
      omega
theorem pk_stop {gr w : Int → Int} {n r q : Int} (hr : 0 ≤ r) (h : pk gr w n r q = n) : ∀ j, 0 ≤ j → j < n → w j = 1 → gr j = q → cG gr w q j < r := by
  intro j h1 h2 h3 h4
  rcases Int.lt_or_le (cG gr w q j) r with a | a
  · exact a
  · exfalso
    rcases Int.lt_or_le r (cG gr w q j) with b | b
    · obtain ⟨i, b1, b2, b3, b4, b5⟩ := cG_met gr w q r hr j.toNat (by rw [Int.toNat_of_nonneg h1]; omega)
      have e2 : i = pk gr w n r q := pk_of (Or.inl ⟨b1, by omega, b3, b4, b5⟩)
      omega
    · have e2 : j = pk gr w n r q := pk_of (Or.inl ⟨h1, h2, h3, h4, by omega⟩)
      omega
theorem pk_stop2 {gr w : Int → Int} {n r r2 q : Int} (hr : 0 ≤ r) (h2 : r ≤ r2) (h : pk gr w n r q = n) : pk gr w n r2 q = n :=
  (pk_of (Or.inr ⟨rfl, fun j a1 a2 a3 a4 a5 => by have := pk_stop hr h j a1 a2 a3 a4; omega⟩)).symm
/-- the lot at the turn c (8 turns a round) -/
noncomputable def pkc (gr w : Int → Int) (n day c : Int) : Int := pk gr w n (c / 8) ((day + c % 8) % 8)
noncomputable def fO (off : (Nat → Int) → (Nat → Int → Int) → Int → sX) (pc : Int → Int) (n : Int) (u : sX) : Nat → sX
  | 0 => u
  | c + 1 => if pc c < n then off (fO off pc n u c).1 (fO off pc n u c).2 (pc c) else fO off pc n u c
noncomputable def fI (off : (Nat → Int) → (Nat → Int → Int) → Int → sX) (pc : Int → Int) (n : Int) (u : sX) (c : Int) : sX := fO off pc n u c.toNat
theorem fI_0 (off : (Nat → Int) → (Nat → Int → Int) → Int → sX) (pc : Int → Int) (n : Int) (u : sX) : fI off pc n u 0 = u := rfl
theorem fI_s (off : (Nat → Int) → (Nat → Int → Int) → Int → sX) (pc : Int → Int) (n : Int) (u : sX) {c : Int} (h : 0 ≤ c) : fI off pc n u (c + 1) = if pc c < n then off (fI off pc n u c).1 (fI off pc n u c).2 (pc c) else fI off pc n u c := by
  unfold fI
  rw [show (c + 1).toNat = c.toNat + 1 by omega]
  show (if pc (c.toNat : Int) < n then _ else _) = _
  rw [Int.toNat_of_nonneg h]
theorem fI_end (off : (Nat → Int) → (Nat → Int → Int) → Int → sX) (pc : Int → Int) (n : Int) (u : sX) {c : Int} (h : 0 ≤ c) : ∀ d : Nat, (∀ i, c ≤ i → i < c + d → ¬ pc i < n) → fI off pc n u (c + d) = fI off pc n u c
  | 0, _ => by simp
  | d + 1, hn => by
    rw [show c + ((d + 1 : Nat) : Int) = c + d + 1 by omega, fI_s off pc n u (by omega), if_neg (hn (c + d) (by omega) (by omega))]
    exact fI_end off pc n u h d (fun i h1 h2 => hn i h1 (by omega))
