/-! rules: tokens, numbers, words; what a rule asks; the whole text -/
abbrev isLt (c : Int) : Prop := 97 ≤ c ∧ c ≤ 122
abbrev isDg (c : Int) : Prop := 48 ≤ c ∧ c ≤ 57
abbrev isLD (c : Int) : Prop := isLt c ∨ isDg c
def bt (f : Int → Int) (n : Int) : Int → Int := fun j => if 0 ≤ j ∧ j < n then f j else 0
theorem bt_in {f : Int → Int} {n j : Int} (h : 0 ≤ j ∧ j < n) : bt f n j = f j := if_pos h
theorem bt_v {f : Int → Int} {n j v : Int} (h : (0 ≤ j ∧ j < n ∧ v = f j) ∨ (¬ (0 ≤ j ∧ j < n) ∧ v = 0)) : v = bt f n j := by
  unfold bt
  rcases h with h | h
  · rw [if_pos ⟨h.1, h.2.1⟩]; exact h.2.2
  · rw [if_neg h.1]; exact h.2
def kRun (b : Int → Int) (s e k : Int) : Prop := (k = 1 ∧ ∀ j, s ≤ j → j < e → isLt (b j)) ∨ (k = 2 ∧ (∀ j, s ≤ j → j < e → isDg (b j)) ∧ e - s ≤ 4) ∨ (k = 4 ∧ ¬ (∀ j, s ≤ j → j < e → isLt (b j)) ∧ ¬ ((∀ j, s ≤ j → j < e → isDg (b j)) ∧ e - s ≤ 4))
def isTok (b : Int → Int) (n p s e k : Int) : Prop := p ≤ s ∧ s ≤ n ∧ (∀ j, p ≤ j → j < s → b j = 32 ∨ b j = 10) ∧ ((s = n ∧ e = s ∧ k = 0) ∨ (s < n ∧ ¬ (b s = 32 ∨ b s = 10) ∧ ¬ isLD (b s) ∧ e = s + 1 ∧ ((b s = 59 ∧ k = 3) ∨ (b s ≠ 59 ∧ k = 4))) ∨ (s < n ∧ isLD (b s) ∧ s < e ∧ e ≤ n ∧ (∀ j, s ≤ j → j < e → isLD (b j)) ∧ (e = n ∨ ¬ isLD (b e)) ∧ kRun b s e k))
theorem isTok_b {b : Int → Int} {n p s e k : Int} (h : isTok b n p s e k) : p ≤ s ∧ s ≤ e ∧ e ≤ n ∧ 0 ≤ k ∧ k ≤ 4 ∧ (k ≠ 0 → s < e) ∧ (k = 0 → s = n ∧ e = n) := by
  obtain ⟨h1, h2, h3, h4 | h4 | ⟨h5, h6, h7, h8, h9, h10, h11 | h11 | h11⟩⟩ := h <;> omega
theorem isTok_one {b : Int → Int} {n p s e k s' e' k' : Int} (h : isTok b n p s e k) (h' : isTok b n p s' e' k') : s = s' ∧ e = e' ∧ k = k' := by
  obtain ⟨a1, a2, a3, a4⟩ := h
  obtain ⟨b1, b2, b3, b4⟩ := h'
  have es : s = s' := by
    rcases Int.lt_trichotomy s s' with q | q | q
    · have := b3 s a1 q
      rcases a4 with c | c | ⟨c5, c6, c7⟩
      · omega
      · omega
      · omega
    · exact q
    · have := a3 s' b1 q
      rcases b4 with c | c | ⟨c5, c6, c7⟩
      · omega
      · omega
      · omega
  subst es
  refine ⟨rfl, ?_⟩
  rcases a4 with c | c | ⟨c1, c2, c3, c4, c5, c6, c7⟩
  · rcases b4 with d | d | ⟨d1, d2⟩ <;> omega
  · rcases b4 with d | d | ⟨d1, d2, d3⟩
    · omega
    · omega
    · exact absurd d2 c.2.2.1
  · rcases b4 with d | d | ⟨d1, d2, d3, d4, d5, d6, d7⟩
    · omega
    · exact absurd c2 d.2.2.1
    · have ee : e = e' := by
        rcases Int.lt_trichotomy e e' with q | q | q
        · have := d5 e (by omega) q
          rcases c6 with c6 | c6
          · omega
          · exact absurd this c6
        · exact q
        · have := c5 e' (by omega) q
          rcases d6 with d6 | d6
          · omega
          · exact absurd this d6
      subst ee
      refine ⟨rfl, ?_⟩
      have x1 : (∀ j, s ≤ j → j < e → isLt (b j)) → (∀ j, s ≤ j → j < e → isDg (b j)) → False := fun u v => by
        have := u s (by omega) c3
        have := v s (by omega) c3
        omega
      rcases c7 with ⟨k1, q1⟩ | ⟨k1, q1, q2⟩ | ⟨k1, q1, q2⟩ <;> rcases d7 with ⟨k2, r1⟩ | ⟨k2, r1, r2⟩ | ⟨k2, r1, r2⟩
      · omega
      · exact (x1 q1 r1).elim
      · exact absurd q1 r1
      · exact (x1 r1 q1).elim
      · omega
      · exact absurd ⟨q1, q2⟩ r2
      · exact absurd r1 q1
      · exact absurd ⟨r1, r2⟩ q2
      · omega
noncomputable def tok (b : Int → Int) (n p : Int) : Int × Int × Int := Classical.epsilon (fun t : Int × Int × Int => isTok b n p t.1 t.2.1 t.2.2)
noncomputable def tS (b : Int → Int) (n p : Int) : Int := (tok b n p).1
noncomputable def tE (b : Int → Int) (n p : Int) : Int := (tok b n p).2.1
noncomputable def tK (b : Int → Int) (n p : Int) : Int := (tok b n p).2.2
theorem tok_of {b : Int → Int} {n p s e k : Int} (h : isTok b n p s e k) : s = tS b n p ∧ e = tE b n p ∧ k = tK b n p := by
  have hex : ∃ t : Int × Int × Int, isTok b n p t.1 t.2.1 t.2.2 := ⟨(s, e, k), h⟩
  have e1 : isTok b n p (tok b n p).1 (tok b n p).2.1 (tok b n p).2.2 := Classical.epsilon_spec hex
  exact isTok_one h e1
def nvZ (b : Int → Int) (s : Int) : Nat → Int
  | 0 => 0
  | m + 1 => nvZ b s m * 10 + b (s + m) - 48
def nv (b : Int → Int) (s e : Int) : Int := nvZ b s (e - s).toNat
theorem nv_s (b : Int → Int) {s e : Int} (h : s ≤ e) : nv b s (e + 1) = nv b s e * 10 + b e - 48 := by
  unfold nv
  rw [show (e + 1 - s).toNat = (e - s).toNat + 1 by omega]
  show nvZ b s (e - s).toNat * 10 + b (s + ((e - s).toNat : Int)) - 48 = _
  rw [show s + ((e - s).toNat : Int) = e by omega]
theorem nv_0 (b : Int → Int) (s : Int) : nv b s s = 0 := by
  unfold nv
  rw [show (s - s).toNat = 0 by omega]
  rfl
theorem nvZ_b {b : Int → Int} {s : Int} : ∀ {m : Nat}, m ≤ 4 → (∀ j, s ≤ j → j < s + m → isDg (b j)) → 0 ≤ nvZ b s m ∧ nvZ b s m < 10 ^ m
  | 0, _, _ => by simp [nvZ]
  | m + 1, hm, h => by
    have ih := nvZ_b (b := b) (s := s) (m := m) (by omega) (fun j h1 h2 => h j h1 (by omega))
    have h1 := h (s + m) (by omega) (by omega)
    show 0 ≤ nvZ b s m * 10 + b (s + m) - 48 ∧ nvZ b s m * 10 + b (s + m) - 48 < 10 ^ (m + 1)
    rw [Int.pow_succ]
    omega
theorem nv_b {b : Int → Int} {s e : Int} (h0 : s ≤ e) (h1 : e - s ≤ 4) (h : ∀ j, s ≤ j → j < e → isDg (b j)) : 0 ≤ nv b s e ∧ nv b s e ≤ 9999 := by
  have := nvZ_b (b := b) (s := s) (m := (e - s).toNat) (by omega) (fun j h1 h2 => h j h1 (by omega))
  unfold nv
  rcases (show (e - s).toNat = 0 ∨ (e - s).toNat = 1 ∨ (e - s).toNat = 2 ∨ (e - s).toNat = 3 ∨ (e - s).toNat = 4 by omega) with q | q | q | q | q <;> rw [q] at this ⊢ <;> simp at this ⊢ <;> omega
def pkZ (b : Int → Int) (s : Int) : Nat → Int
  | 0 => 0
  | m + 1 => pkZ b s m * 256 + b (s + m)
def pwd (b : Int → Int) (s e : Int) : Int := pkZ b s (e - s).toNat
theorem pwd_s (b : Int → Int) {s e : Int} (h : s ≤ e) : pwd b s (e + 1) = pwd b s e * 256 + b e := by
  unfold pwd
  rw [show (e + 1 - s).toNat = (e - s).toNat + 1 by omega]
  show pkZ b s (e - s).toNat * 256 + b (s + ((e - s).toNat : Int)) = _
  rw [show s + ((e - s).toNat : Int) = e by omega]
theorem pwd_0 (b : Int → Int) (s : Int) : pwd b s s = 0 := by
  unfold pwd
  rw [show (s - s).toNat = 0 by omega]
  rfl
theorem pkZ_b {b : Int → Int} {s : Int} : ∀ {m : Nat}, (∀ j, s ≤ j → j < s + m → 0 ≤ b j ∧ b j ≤ 127) → 0 ≤ pkZ b s m ∧ pkZ b s m < 256 ^ m ∧ (1 ≤ m → 2 * pkZ b s m < 256 ^ m)
  | 0, _ => by simp [pkZ]
  | m + 1, h => by
    have ih := pkZ_b (b := b) (s := s) (m := m) (fun j h1 h2 => h j h1 (by omega))
    have h1 := h (s + m) (by omega) (by omega)
    show 0 ≤ pkZ b s m * 256 + b (s + m) ∧ pkZ b s m * 256 + b (s + m) < 256 ^ (m + 1) ∧ (1 ≤ m + 1 → 2 * (pkZ b s m * 256 + b (s + m)) < 256 ^ (m + 1))
    rw [Int.pow_succ]
    by_cases hm : m = 0
    · subst hm
      simp [pkZ] at ih ⊢
      have := h (s + 0) (by omega) (by omega)
      simp at this
      omega
    · have := ih.2.2 (by omega)
      omega
def wrv (b : Int → Int) (s e : Int) : Int := if e - s ≤ 8 then pwd b s e else 0
abbrev isW (b : Int → Int) (s e : Int) (i : Nat) : Prop := e - s = (lenS.getD i 0 : Nat) ∧ ∀ j : Nat, j < lenS.getD i 0 → b (s + j) = chI i j

theorem isW_0 (b : Int → Int) (s e : Int) : isW b s e 0 ↔ (e - s = 7 ∧ b (s + 0) = 114 ∧ b (s + 1) = 101 ∧ b (s + 2) = 115 ∧ b (s + 3) = 101 ∧ b (s + 4) = 114 ∧ b (s + 5) = 118 ∧ b (s + 6) = 101) := by
  constructor
  · intro h
    exact ⟨h.1, h.2 0 (by decide), h.2 1 (by decide), h.2 2 (by decide), h.2 3 (by decide), h.2 4 (by decide), h.2 5 (by decide), h.2 6 (by decide)⟩
  · intro h
    obtain ⟨h0, h1, h2, h3, h4, h5, h6, h7⟩ := h
    refine ⟨h0, fun j hj => ?_⟩
    have hj2 : j < 7 := hj
    match j, hj2 with
    | 0, _ => exact h1
    | 1, _ => exact h2
    | 2, _ => exact h3
    | 3, _ => exact h4
    | 4, _ => exact h5
    | 5, _ => exact h6
    | 6, _ => exact h7
theorem wrv_0 {b : Int → Int} {s e : Int} (h0 : s < e) (h : ∀ j, s ≤ j → j < e → isLt (b j)) : wrv b s e = 32199693642659429 ↔ isW b s e 0 := by
  rw [isW_0]
  unfold wrv
  by_cases q : e - s ≤ 8
  · rw [if_pos q]
    unfold pwd
    have hj : ∀ m : Nat, (m : Int) < e - s → isLt (b (s + m)) := fun m hm => h (s + m) (by omega) (by omega)
    rcases (show (e - s).toNat = 1 ∨ (e - s).toNat = 2 ∨ (e - s).toNat = 3 ∨ (e - s).toNat = 4 ∨ (e - s).toNat = 5 ∨ (e - s).toNat = 6 ∨ (e - s).toNat = 7 ∨ (e - s).toNat = 8 by omega) with g | g | g | g | g | g | g | g <;> rw [g]
    · have g0 := hj 0 (by omega)
      show (0) * 256 + b (s + (0 : Nat)) = 32199693642659429 ↔ _
      generalize hq0 : b (s + (0 : Nat)) = x0 at *
      omega
    · have g0 := hj 0 (by omega); have g1 := hj 1 (by omega)
      show ((0) * 256 + b (s + (0 : Nat))) * 256 + b (s + (1 : Nat)) = 32199693642659429 ↔ _
      generalize hq0 : b (s + (0 : Nat)) = x0 at *
      generalize hq1 : b (s + (1 : Nat)) = x1 at *
      omega
    · have g0 := hj 0 (by omega); have g1 := hj 1 (by omega); have g2 := hj 2 (by omega)
      show (((0) * 256 + b (s + (0 : Nat))) * 256 + b (s + (1 : Nat))) * 256 + b (s + (2 : Nat)) = 32199693642659429 ↔ _
      generalize hq0 : b (s + (0 : Nat)) = x0 at *
      generalize hq1 : b (s + (1 : Nat)) = x1 at *
      generalize hq2 : b (s + (2 : Nat)) = x2 at *
      omega
    · have g0 := hj 0 (by omega); have g1 := hj 1 (by omega); have g2 := hj 2 (by omega); have g3 := hj 3 (by omega)
      show ((((0) * 256 + b (s + (0 : Nat))) * 256 + b (s + (1 : Nat))) * 256 + b (s + (2 : Nat))) * 256 + b (s + (3 : Nat)) = 32199693642659429 ↔ _
      generalize hq0 : b (s + (0 : Nat)) = x0 at *
      generalize hq1 : b (s + (1 : Nat)) = x1 at *
      generalize hq2 : b (s + (2 : Nat)) = x2 at *
      generalize hq3 : b (s + (3 : Nat)) = x3 at *
      omega
    · have g0 := hj 0 (by omega); have g1 := hj 1 (by omega); have g2 := hj 2 (by omega); have g3 := hj 3 (by omega); have g4 := hj 4 (by omega)
      show (((((0) * 256 + b (s + (0 : Nat))) * 256 + b (s + (1 : Nat))) * 256 + b (s + (2 : Nat))) * 256 + b (s + (3 : Nat))) * 256 + b (s + (4 : Nat)) = 32199693642659429 ↔ _
      generalize hq0 : b (s + (0 : Nat)) = x0 at *
      generalize hq1 : b (s + (1 : Nat)) = x1 at *
      generalize hq2 : b (s + (2 : Nat)) = x2 at *
      generalize hq3 : b (s + (3 : Nat)) = x3 at *
      generalize hq4 : b (s + (4 : Nat)) = x4 at *
      omega
    · have g0 := hj 0 (by omega); have g1 := hj 1 (by omega); have g2 := hj 2 (by omega); have g3 := hj 3 (by omega); have g4 := hj 4 (by omega); have g5 := hj 5 (by omega)
      show ((((((0) * 256 + b (s + (0 : Nat))) * 256 + b (s + (1 : Nat))) * 256 + b (s + (2 : Nat))) * 256 + b (s + (3 : Nat))) * 256 + b (s + (4 : Nat))) * 256 + b (s + (5 : Nat)) = 32199693642659429 ↔ _
      generalize hq0 : b (s + (0 : Nat)) = x0 at *
      generalize hq1 : b (s + (1 : Nat)) = x1 at *
      generalize hq2 : b (s + (2 : Nat)) = x2 at *
      generalize hq3 : b (s + (3 : Nat)) = x3 at *
      generalize hq4 : b (s + (4 : Nat)) = x4 at *
      generalize hq5 : b (s + (5 : Nat)) = x5 at *
      omega
    · have g0 := hj 0 (by omega); have g1 := hj 1 (by omega); have g2 := hj 2 (by omega); have g3 := hj 3 (by omega); have g4 := hj 4 (by omega); have g5 := hj 5 (by omega); have g6 := hj 6 (by omega)
      show (((((((0) * 256 + b (s + (0 : Nat))) * 256 + b (s + (1 : Nat))) * 256 + b (s + (2 : Nat))) * 256 + b (s + (3 : Nat))) * 256 + b (s + (4 : Nat))) * 256 + b (s + (5 : Nat))) * 256 + b (s + (6 : Nat)) = 32199693642659429 ↔ _
      generalize hq0 : b (s + (0 : Nat)) = x0 at *
      generalize hq1 : b (s + (1 : Nat)) = x1 at *
      generalize hq2 : b (s + (2 : Nat)) = x2 at *
      generalize hq3 : b (s + (3 : Nat)) = x3 at *
      generalize hq4 : b (s + (4 : Nat)) = x4 at *
      generalize hq5 : b (s + (5 : Nat)) = x5 at *
      generalize hq6 : b (s + (6 : Nat)) = x6 at *
      omega
    · have g0 := hj 0 (by omega); have g1 := hj 1 (by omega); have g2 := hj 2 (by omega); have g3 := hj 3 (by omega); have g4 := hj 4 (by omega); have g5 := hj 5 (by omega); have g6 := hj 6 (by omega); have g7 := hj 7 (by omega)
      show ((((((((0) * 256 + b (s + (0 : Nat))) * 256 + b (s + (1 : Nat))) * 256 + b (s + (2 : Nat))) * 256 + b (s + (3 : Nat))) * 256 + b (s + (4 : Nat))) * 256 + b (s + (5 : Nat))) * 256 + b (s + (6 : Nat))) * 256 + b (s + (7 : Nat)) = 32199693642659429 ↔ _
      generalize hq0 : b (s + (0 : Nat)) = x0 at *
      generalize hq1 : b (s + (1 : Nat)) = x1 at *
      generalize hq2 : b (s + (2 : Nat)) = x2 at *
      generalize hq3 : b (s + (3 : Nat)) = x3 at *
      generalize hq4 : b (s + (4 : Nat)) = x4 at *
      generalize hq5 : b (s + (5 : Nat)) = x5 at *
      generalize hq6 : b (s + (6 : Nat)) = x6 at *
      generalize hq7 : b (s + (7 : Nat)) = x7 at *
      omega
  · rw [if_neg q]
    omega
theorem isW_1 (b : Int → Int) (s e : Int) : isW b s e 1 ↔ (e - s = 4 ∧ b (s + 0) = 112 ∧ b (s + 1) = 97 ∧ b (s + 2) = 114 ∧ b (s + 3) = 116) := by
  constructor
  · intro h
    exact ⟨h.1, h.2 0 (by decide), h.2 1 (by decide), h.2 2 (by decide), h.2 3 (by decide)⟩
  · intro h
    obtain ⟨h0, h1, h2, h3, h4⟩ := h
    refine ⟨h0, fun j hj => ?_⟩
    have hj2 : j < 4 := hj
    match j, hj2 with
    | 0, _ => exact h1
    | 1, _ => exact h2
    | 2, _ => exact h3
    | 3, _ => exact h4
theorem wrv_1 {b : Int → Int} {s e : Int} (h0 : s < e) (h : ∀ j, s ≤ j → j < e → isLt (b j)) : wrv b s e = 1885434484 ↔ isW b s e 1 := by
  rw [isW_1]
  unfold wrv
  by_cases q : e - s ≤ 8
  · rw [if_pos q]
    unfold pwd
    have hj : ∀ m : Nat, (m : Int) < e - s → isLt (b (s + m)) := fun m hm => h (s + m) (by omega) (by omega)
    rcases (show (e - s).toNat = 1 ∨ (e - s).toNat = 2 ∨ (e - s).toNat = 3 ∨ (e - s).toNat = 4 ∨ (e - s).toNat = 5 ∨ (e - s).toNat = 6 ∨ (e - s).toNat = 7 ∨ (e - s).toNat = 8 by omega) with g | g | g | g | g | g | g | g <;> rw [g]
    · have g0 := hj 0 (by omega)
      show (0) * 256 + b (s + (0 : Nat)) = 1885434484 ↔ _
      generalize hq0 : b (s + (0 : Nat)) = x0 at *
      omega
    · have g0 := hj 0 (by omega); have g1 := hj 1 (by omega)
      show ((0) * 256 + b (s + (0 : Nat))) * 256 + b (s + (1 : Nat)) = 1885434484 ↔ _
      generalize hq0 : b (s + (0 : Nat)) = x0 at *
      generalize hq1 : b (s + (1 : Nat)) = x1 at *
      omega
    · have g0 := hj 0 (by omega); have g1 := hj 1 (by omega); have g2 := hj 2 (by omega)
      show (((0) * 256 + b (s + (0 : Nat))) * 256 + b (s + (1 : Nat))) * 256 + b (s + (2 : Nat)) = 1885434484 ↔ _
      generalize hq0 : b (s + (0 : Nat)) = x0 at *
      generalize hq1 : b (s + (1 : Nat)) = x1 at *
      generalize hq2 : b (s + (2 : Nat)) = x2 at *
      omega
    · have g0 := hj 0 (by omega); have g1 := hj 1 (by omega); have g2 := hj 2 (by omega); have g3 := hj 3 (by omega)
      show ((((0) * 256 + b (s + (0 : Nat))) * 256 + b (s + (1 : Nat))) * 256 + b (s + (2 : Nat))) * 256 + b (s + (3 : Nat)) = 1885434484 ↔ _
      generalize hq0 : b (s + (0 : Nat)) = x0 at *
      generalize hq1 : b (s + (1 : Nat)) = x1 at *
      generalize hq2 : b (s + (2 : Nat)) = x2 at *
      generalize hq3 : b (s + (3 : Nat)) = x3 at *
      omega
    · have g0 := hj 0 (by omega); have g1 := hj 1 (by omega); have g2 := hj 2 (by omega); have g3 := hj 3 (by omega); have g4 := hj 4 (by omega)
      show (((((0) * 256 + b (s + (0 : Nat))) * 256 + b (s + (1 : Nat))) * 256 + b (s + (2 : Nat))) * 256 + b (s + (3 : Nat))) * 256 + b (s + (4 : Nat)) = 1885434484 ↔ _
      generalize hq0 : b (s + (0 : Nat)) = x0 at *
      generalize hq1 : b (s + (1 : Nat)) = x1 at *
      generalize hq2 : b (s + (2 : Nat)) = x2 at *
      generalize hq3 : b (s + (3 : Nat)) = x3 at *
      generalize hq4 : b (s + (4 : Nat)) = x4 at *
      omega
    · have g0 := hj 0 (by omega); have g1 := hj 1 (by omega); have g2 := hj 2 (by omega); have g3 := hj 3 (by omega); have g4 := hj 4 (by omega); have g5 := hj 5 (by omega)
      show ((((((0) * 256 + b (s + (0 : Nat))) * 256 + b (s + (1 : Nat))) * 256 + b (s + (2 : Nat))) * 256 + b (s + (3 : Nat))) * 256 + b (s + (4 : Nat))) * 256 + b (s + (5 : Nat)) = 1885434484 ↔ _
      generalize hq0 : b (s + (0 : Nat)) = x0 at *
      generalize hq1 : b (s + (1 : Nat)) = x1 at *
      generalize hq2 : b (s + (2 : Nat)) = x2 at *
      generalize hq3 : b (s + (3 : Nat)) = x3 at *
      generalize hq4 : b (s + (4 : Nat)) = x4 at *
      generalize hq5 : b (s + (5 : Nat)) = x5 at *
      omega
    · have g0 := hj 0 (by omega); have g1 := hj 1 (by omega); have g2 := hj 2 (by omega); have g3 := hj 3 (by omega); have g4 := hj 4 (by omega); have g5 := hj 5 (by omega); have g6 := hj 6 (by omega)
      show (((((((0) * 256 + b (s + (0 : Nat))) * 256 + b (s + (1 : Nat))) * 256 + b (s + (2 : Nat))) * 256 + b (s + (3 : Nat))) * 256 + b (s + (4 : Nat))) * 256 + b (s + (5 : Nat))) * 256 + b (s + (6 : Nat)) = 1885434484 ↔ _
      generalize hq0 : b (s + (0 : Nat)) = x0 at *
      generalize hq1 : b (s + (1 : Nat)) = x1 at *
      generalize hq2 : b (s + (2 : Nat)) = x2 at *
      generalize hq3 : b (s + (3 : Nat)) = x3 at *
      generalize hq4 : b (s + (4 : Nat)) = x4 at *
      generalize hq5 : b (s + (5 : Nat)) = x5 at *
      generalize hq6 : b (s + (6 : Nat)) = x6 at *
      omega
    · have g0 := hj 0 (by omega); have g1 := hj 1 (by omega); have g2 := hj 2 (by omega); have g3 := hj 3 (by omega); have g4 := hj 4 (by omega); have g5 := hj 5 (by omega); have g6 := hj 6 (by omega); have g7 := hj 7 (by omega)
      show ((((((((0) * 256 + b (s + (0 : Nat))) * 256 + b (s + (1 : Nat))) * 256 + b (s + (2 : Nat))) * 256 + b (s + (3 : Nat))) * 256 + b (s + (4 : Nat))) * 256 + b (s + (5 : Nat))) * 256 + b (s + (6 : Nat))) * 256 + b (s + (7 : Nat)) = 1885434484 ↔ _
      generalize hq0 : b (s + (0 : Nat)) = x0 at *
      generalize hq1 : b (s + (1 : Nat)) = x1 at *
      generalize hq2 : b (s + (2 : Nat)) = x2 at *
      generalize hq3 : b (s + (3 : Nat)) = x3 at *
      generalize hq4 : b (s + (4 : Nat)) = x4 at *
      generalize hq5 : b (s + (5 : Nat)) = x5 at *
      generalize hq6 : b (s + (6 : Nat)) = x6 at *
      generalize hq7 : b (s + (7 : Nat)) = x7 at *
      omega
  · rw [if_neg q]
    omega
theorem isW_2 (b : Int → Int) (s e : Int) : isW b s e 2 ↔ (e - s = 3 ∧ b (s + 0) = 114 ∧ b (s + 1) = 111 ∧ b (s + 2) = 116) := by
  constructor
  · intro h
    exact ⟨h.1, h.2 0 (by decide), h.2 1 (by decide), h.2 2 (by decide)⟩
  · intro h
    obtain ⟨h0, h1, h2, h3⟩ := h
    refine ⟨h0, fun j hj => ?_⟩
    have hj2 : j < 3 := hj
    match j, hj2 with
    | 0, _ => exact h1
    | 1, _ => exact h2
    | 2, _ => exact h3
theorem wrv_2 {b : Int → Int} {s e : Int} (h0 : s < e) (h : ∀ j, s ≤ j → j < e → isLt (b j)) : wrv b s e = 7499636 ↔ isW b s e 2 := by
  rw [isW_2]
  unfold wrv
  by_cases q : e - s ≤ 8
  · rw [if_pos q]
    unfold pwd
    have hj : ∀ m : Nat, (m : Int) < e - s → isLt (b (s + m)) := fun m hm => h (s + m) (by omega) (by omega)
    rcases (show (e - s).toNat = 1 ∨ (e - s).toNat = 2 ∨ (e - s).toNat = 3 ∨ (e - s).toNat = 4 ∨ (e - s).toNat = 5 ∨ (e - s).toNat = 6 ∨ (e - s).toNat = 7 ∨ (e - s).toNat = 8 by omega) with g | g | g | g | g | g | g | g <;> rw [g]
    · have g0 := hj 0 (by omega)
      show (0) * 256 + b (s + (0 : Nat)) = 7499636 ↔ _
      generalize hq0 : b (s + (0 : Nat)) = x0 at *
      omega
    · have g0 := hj 0 (by omega); have g1 := hj 1 (by omega)
      show ((0) * 256 + b (s + (0 : Nat))) * 256 + b (s + (1 : Nat)) = 7499636 ↔ _
      generalize hq0 : b (s + (0 : Nat)) = x0 at *
      generalize hq1 : b (s + (1 : Nat)) = x1 at *
      omega
    · have g0 := hj 0 (by omega); have g1 := hj 1 (by omega); have g2 := hj 2 (by omega)
      show (((0) * 256 + b (s + (0 : Nat))) * 256 + b (s + (1 : Nat))) * 256 + b (s + (2 : Nat)) = 7499636 ↔ _
      generalize hq0 : b (s + (0 : Nat)) = x0 at *
      generalize hq1 : b (s + (1 : Nat)) = x1 at *
      generalize hq2 : b (s + (2 : Nat)) = x2 at *
      omega
    · have g0 := hj 0 (by omega); have g1 := hj 1 (by omega); have g2 := hj 2 (by omega); have g3 := hj 3 (by omega)
      show ((((0) * 256 + b (s + (0 : Nat))) * 256 + b (s + (1 : Nat))) * 256 + b (s + (2 : Nat))) * 256 + b (s + (3 : Nat)) = 7499636 ↔ _
      generalize hq0 : b (s + (0 : Nat)) = x0 at *
      generalize hq1 : b (s + (1 : Nat)) = x1 at *
      generalize hq2 : b (s + (2 : Nat)) = x2 at *
      generalize hq3 : b (s + (3 : Nat)) = x3 at *
      omega
    · have g0 := hj 0 (by omega); have g1 := hj 1 (by omega); have g2 := hj 2 (by omega); have g3 := hj 3 (by omega); have g4 := hj 4 (by omega)
      show (((((0) * 256 + b (s + (0 : Nat))) * 256 + b (s + (1 : Nat))) * 256 + b (s + (2 : Nat))) * 256 + b (s + (3 : Nat))) * 256 + b (s + (4 : Nat)) = 7499636 ↔ _
      generalize hq0 : b (s + (0 : Nat)) = x0 at *
      generalize hq1 : b (s + (1 : Nat)) = x1 at *
      generalize hq2 : b (s + (2 : Nat)) = x2 at *
      generalize hq3 : b (s + (3 : Nat)) = x3 at *
      generalize hq4 : b (s + (4 : Nat)) = x4 at *
      omega
    · have g0 := hj 0 (by omega); have g1 := hj 1 (by omega); have g2 := hj 2 (by omega); have g3 := hj 3 (by omega); have g4 := hj 4 (by omega); have g5 := hj 5 (by omega)
      show ((((((0) * 256 + b (s + (0 : Nat))) * 256 + b (s + (1 : Nat))) * 256 + b (s + (2 : Nat))) * 256 + b (s + (3 : Nat))) * 256 + b (s + (4 : Nat))) * 256 + b (s + (5 : Nat)) = 7499636 ↔ _
      generalize hq0 : b (s + (0 : Nat)) = x0 at *
      generalize hq1 : b (s + (1 : Nat)) = x1 at *
      generalize hq2 : b (s + (2 : Nat)) = x2 at *
      generalize hq3 : b (s + (3 : Nat)) = x3 at *
      generalize hq4 : b (s + (4 : Nat)) = x4 at *
      generalize hq5 : b (s + (5 : Nat)) = x5 at *
      omega
    · have g0 := hj 0 (by omega); have g1 := hj 1 (by omega); have g2 := hj 2 (by omega); have g3 := hj 3 (by omega); have g4 := hj 4 (by omega); have g5 := hj 5 (by omega); have g6 := hj 6 (by omega)
      show (((((((0) * 256 + b (s + (0 : Nat))) * 256 + b (s + (1 : Nat))) * 256 + b (s + (2 : Nat))) * 256 + b (s + (3 : Nat))) * 256 + b (s + (4 : Nat))) * 256 + b (s + (5 : Nat))) * 256 + b (s + (6 : Nat)) = 7499636 ↔ _
      generalize hq0 : b (s + (0 : Nat)) = x0 at *
      generalize hq1 : b (s + (1 : Nat)) = x1 at *
      generalize hq2 : b (s + (2 : Nat)) = x2 at *
      generalize hq3 : b (s + (3 : Nat)) = x3 at *
      generalize hq4 : b (s + (4 : Nat)) = x4 at *
      generalize hq5 : b (s + (5 : Nat)) = x5 at *
      generalize hq6 : b (s + (6 : Nat)) = x6 at *
      omega
    · have g0 := hj 0 (by omega); have g1 := hj 1 (by omega); have g2 := hj 2 (by omega); have g3 := hj 3 (by omega); have g4 := hj 4 (by omega); have g5 := hj 5 (by omega); have g6 := hj 6 (by omega); have g7 := hj 7 (by omega)
      show ((((((((0) * 256 + b (s + (0 : Nat))) * 256 + b (s + (1 : Nat))) * 256 + b (s + (2 : Nat))) * 256 + b (s + (3 : Nat))) * 256 + b (s + (4 : Nat))) * 256 + b (s + (5 : Nat))) * 256 + b (s + (6 : Nat))) * 256 + b (s + (7 : Nat)) = 7499636 ↔ _
      generalize hq0 : b (s + (0 : Nat)) = x0 at *
      generalize hq1 : b (s + (1 : Nat)) = x1 at *
      generalize hq2 : b (s + (2 : Nat)) = x2 at *
      generalize hq3 : b (s + (3 : Nat)) = x3 at *
      generalize hq4 : b (s + (4 : Nat)) = x4 at *
      generalize hq5 : b (s + (5 : Nat)) = x5 at *
      generalize hq6 : b (s + (6 : Nat)) = x6 at *
      generalize hq7 : b (s + (7 : Nat)) = x7 at *
      omega
  · rw [if_neg q]
    omega
theorem isW_3 (b : Int → Int) (s e : Int) : isW b s e 3 ↔ (e - s = 4 ∧ b (s + 0) = 108 ∧ b (s + 1) = 111 ∧ b (s + 2) = 115 ∧ b (s + 3) = 115) := by
  constructor
  · intro h
    exact ⟨h.1, h.2 0 (by decide), h.2 1 (by decide), h.2 2 (by decide), h.2 3 (by decide)⟩
  · intro h
    obtain ⟨h0, h1, h2, h3, h4⟩ := h
    refine ⟨h0, fun j hj => ?_⟩
    have hj2 : j < 4 := hj
    match j, hj2 with
    | 0, _ => exact h1
    | 1, _ => exact h2
    | 2, _ => exact h3
    | 3, _ => exact h4
theorem wrv_3 {b : Int → Int} {s e : Int} (h0 : s < e) (h : ∀ j, s ≤ j → j < e → isLt (b j)) : wrv b s e = 1819243379 ↔ isW b s e 3 := by
  rw [isW_3]
  unfold wrv
  by_cases q : e - s ≤ 8
  · rw [if_pos q]
    unfold pwd
    have hj : ∀ m : Nat, (m : Int) < e - s → isLt (b (s + m)) := fun m hm => h (s + m) (by omega) (by omega)
    rcases (show (e - s).toNat = 1 ∨ (e - s).toNat = 2 ∨ (e - s).toNat = 3 ∨ (e - s).toNat = 4 ∨ (e - s).toNat = 5 ∨ (e - s).toNat = 6 ∨ (e - s).toNat = 7 ∨ (e - s).toNat = 8 by omega) with g | g | g | g | g | g | g | g <;> rw [g]
    · have g0 := hj 0 (by omega)
      show (0) * 256 + b (s + (0 : Nat)) = 1819243379 ↔ _
      generalize hq0 : b (s + (0 : Nat)) = x0 at *
      omega
    · have g0 := hj 0 (by omega); have g1 := hj 1 (by omega)
      show ((0) * 256 + b (s + (0 : Nat))) * 256 + b (s + (1 : Nat)) = 1819243379 ↔ _
      generalize hq0 : b (s + (0 : Nat)) = x0 at *
      generalize hq1 : b (s + (1 : Nat)) = x1 at *
      omega
    · have g0 := hj 0 (by omega); have g1 := hj 1 (by omega); have g2 := hj 2 (by omega)
      show (((0) * 256 + b (s + (0 : Nat))) * 256 + b (s + (1 : Nat))) * 256 + b (s + (2 : Nat)) = 1819243379 ↔ _
      generalize hq0 : b (s + (0 : Nat)) = x0 at *
      generalize hq1 : b (s + (1 : Nat)) = x1 at *
      generalize hq2 : b (s + (2 : Nat)) = x2 at *
      omega
    · have g0 := hj 0 (by omega); have g1 := hj 1 (by omega); have g2 := hj 2 (by omega); have g3 := hj 3 (by omega)
      show ((((0) * 256 + b (s + (0 : Nat))) * 256 + b (s + (1 : Nat))) * 256 + b (s + (2 : Nat))) * 256 + b (s + (3 : Nat)) = 1819243379 ↔ _
      generalize hq0 : b (s + (0 : Nat)) = x0 at *
      generalize hq1 : b (s + (1 : Nat)) = x1 at *
      generalize hq2 : b (s + (2 : Nat)) = x2 at *
      generalize hq3 : b (s + (3 : Nat)) = x3 at *
      omega
    · have g0 := hj 0 (by omega); have g1 := hj 1 (by omega); have g2 := hj 2 (by omega); have g3 := hj 3 (by omega); have g4 := hj 4 (by omega)
      show (((((0) * 256 + b (s + (0 : Nat))) * 256 + b (s + (1 : Nat))) * 256 + b (s + (2 : Nat))) * 256 + b (s + (3 : Nat))) * 256 + b (s + (4 : Nat)) = 1819243379 ↔ _
      generalize hq0 : b (s + (0 : Nat)) = x0 at *
      generalize hq1 : b (s + (1 : Nat)) = x1 at *
      generalize hq2 : b (s + (2 : Nat)) = x2 at *
      generalize hq3 : b (s + (3 : Nat)) = x3 at *
      generalize hq4 : b (s + (4 : Nat)) = x4 at *
      omega
    · have g0 := hj 0 (by omega); have g1 := hj 1 (by omega); have g2 := hj 2 (by omega); have g3 := hj 3 (by omega); have g4 := hj 4 (by omega); have g5 := hj 5 (by omega)
      show ((((((0) * 256 + b (s + (0 : Nat))) * 256 + b (s + (1 : Nat))) * 256 + b (s + (2 : Nat))) * 256 + b (s + (3 : Nat))) * 256 + b (s + (4 : Nat))) * 256 + b (s + (5 : Nat)) = 1819243379 ↔ _
      generalize hq0 : b (s + (0 : Nat)) = x0 at *
      generalize hq1 : b (s + (1 : Nat)) = x1 at *
      generalize hq2 : b (s + (2 : Nat)) = x2 at *
      generalize hq3 : b (s + (3 : Nat)) = x3 at *
      generalize hq4 : b (s + (4 : Nat)) = x4 at *
      generalize hq5 : b (s + (5 : Nat)) = x5 at *
      omega
    · have g0 := hj 0 (by omega); have g1 := hj 1 (by omega); have g2 := hj 2 (by omega); have g3 := hj 3 (by omega); have g4 := hj 4 (by omega); have g5 := hj 5 (by omega); have g6 := hj 6 (by omega)
      show (((((((0) * 256 + b (s + (0 : Nat))) * 256 + b (s + (1 : Nat))) * 256 + b (s + (2 : Nat))) * 256 + b (s + (3 : Nat))) * 256 + b (s + (4 : Nat))) * 256 + b (s + (5 : Nat))) * 256 + b (s + (6 : Nat)) = 1819243379 ↔ _
      generalize hq0 : b (s + (0 : Nat)) = x0 at *
      generalize hq1 : b (s + (1 : Nat)) = x1 at *
      generalize hq2 : b (s + (2 : Nat)) = x2 at *
      generalize hq3 : b (s + (3 : Nat)) = x3 at *
      generalize hq4 : b (s + (4 : Nat)) = x4 at *
      generalize hq5 : b (s + (5 : Nat)) = x5 at *
      generalize hq6 : b (s + (6 : Nat)) = x6 at *
      omega
    · have g0 := hj 0 (by omega); have g1 := hj 1 (by omega); have g2 := hj 2 (by omega); have g3 := hj 3 (by omega); have g4 := hj 4 (by omega); have g5 := hj 5 (by omega); have g6 := hj 6 (by omega); have g7 := hj 7 (by omega)
      show ((((((((0) * 256 + b (s + (0 : Nat))) * 256 + b (s + (1 : Nat))) * 256 + b (s + (2 : Nat))) * 256 + b (s + (3 : Nat))) * 256 + b (s + (4 : Nat))) * 256 + b (s + (5 : Nat))) * 256 + b (s + (6 : Nat))) * 256 + b (s + (7 : Nat)) = 1819243379 ↔ _
      generalize hq0 : b (s + (0 : Nat)) = x0 at *
      generalize hq1 : b (s + (1 : Nat)) = x1 at *
      generalize hq2 : b (s + (2 : Nat)) = x2 at *
      generalize hq3 : b (s + (3 : Nat)) = x3 at *
      generalize hq4 : b (s + (4 : Nat)) = x4 at *
      generalize hq5 : b (s + (5 : Nat)) = x5 at *
      generalize hq6 : b (s + (6 : Nat)) = x6 at *
      generalize hq7 : b (s + (7 : Nat)) = x7 at *
      omega
  · rw [if_neg q]
    omega
theorem isW_4 (b : Int → Int) (s e : Int) : isW b s e 4 ↔ (e - s = 5 ∧ b (s + 0) = 98 ∧ b (s + 1) = 117 ∧ b (s + 2) = 121 ∧ b (s + 3) = 101 ∧ b (s + 4) = 114) := by
  constructor
  · intro h
    exact ⟨h.1, h.2 0 (by decide), h.2 1 (by decide), h.2 2 (by decide), h.2 3 (by decide), h.2 4 (by decide)⟩
  · intro h
    obtain ⟨h0, h1, h2, h3, h4, h5⟩ := h
    refine ⟨h0, fun j hj => ?_⟩
    have hj2 : j < 5 := hj
    match j, hj2 with
    | 0, _ => exact h1
    | 1, _ => exact h2
    | 2, _ => exact h3
    | 3, _ => exact h4
    | 4, _ => exact h5
theorem wrv_4 {b : Int → Int} {s e : Int} (h0 : s < e) (h : ∀ j, s ≤ j → j < e → isLt (b j)) : wrv b s e = 422877685106 ↔ isW b s e 4 := by
  rw [isW_4]
  unfold wrv
  by_cases q : e - s ≤ 8
  · rw [if_pos q]
    unfold pwd
    have hj : ∀ m : Nat, (m : Int) < e - s → isLt (b (s + m)) := fun m hm => h (s + m) (by omega) (by omega)
    rcases (show (e - s).toNat = 1 ∨ (e - s).toNat = 2 ∨ (e - s).toNat = 3 ∨ (e - s).toNat = 4 ∨ (e - s).toNat = 5 ∨ (e - s).toNat = 6 ∨ (e - s).toNat = 7 ∨ (e - s).toNat = 8 by omega) with g | g | g | g | g | g | g | g <;> rw [g]
    · have g0 := hj 0 (by omega)
      show (0) * 256 + b (s + (0 : Nat)) = 422877685106 ↔ _
      generalize hq0 : b (s + (0 : Nat)) = x0 at *
      omega
    · have g0 := hj 0 (by omega); have g1 := hj 1 (by omega)
      show ((0) * 256 + b (s + (0 : Nat))) * 256 + b (s + (1 : Nat)) = 422877685106 ↔ _
      generalize hq0 : b (s + (0 : Nat)) = x0 at *
      generalize hq1 : b (s + (1 : Nat)) = x1 at *
      omega
    · have g0 := hj 0 (by omega); have g1 := hj 1 (by omega); have g2 := hj 2 (by omega)
      show (((0) * 256 + b (s + (0 : Nat))) * 256 + b (s + (1 : Nat))) * 256 + b (s + (2 : Nat)) = 422877685106 ↔ _
      generalize hq0 : b (s + (0 : Nat)) = x0 at *
      generalize hq1 : b (s + (1 : Nat)) = x1 at *
      generalize hq2 : b (s + (2 : Nat)) = x2 at *
      omega
    · have g0 := hj 0 (by omega); have g1 := hj 1 (by omega); have g2 := hj 2 (by omega); have g3 := hj 3 (by omega)
      show ((((0) * 256 + b (s + (0 : Nat))) * 256 + b (s + (1 : Nat))) * 256 + b (s + (2 : Nat))) * 256 + b (s + (3 : Nat)) = 422877685106 ↔ _
      generalize hq0 : b (s + (0 : Nat)) = x0 at *
      generalize hq1 : b (s + (1 : Nat)) = x1 at *
      generalize hq2 : b (s + (2 : Nat)) = x2 at *
      generalize hq3 : b (s + (3 : Nat)) = x3 at *
      omega
    · have g0 := hj 0 (by omega); have g1 := hj 1 (by omega); have g2 := hj 2 (by omega); have g3 := hj 3 (by omega); have g4 := hj 4 (by omega)
      show (((((0) * 256 + b (s + (0 : Nat))) * 256 + b (s + (1 : Nat))) * 256 + b (s + (2 : Nat))) * 256 + b (s + (3 : Nat))) * 256 + b (s + (4 : Nat)) = 422877685106 ↔ _
      generalize hq0 : b (s + (0 : Nat)) = x0 at *
      generalize hq1 : b (s + (1 : Nat)) = x1 at *
      generalize hq2 : b (s + (2 : Nat)) = x2 at *
      generalize hq3 : b (s + (3 : Nat)) = x3 at *
      generalize hq4 : b (s + (4 : Nat)) = x4 at *
      omega
    · have g0 := hj 0 (by omega); have g1 := hj 1 (by omega); have g2 := hj 2 (by omega); have g3 := hj 3 (by omega); have g4 := hj 4 (by omega); have g5 := hj 5 (by omega)
      show ((((((0) * 256 + b (s + (0 : Nat))) * 256 + b (s + (1 : Nat))) * 256 + b (s + (2 : Nat))) * 256 + b (s + (3 : Nat))) * 256 + b (s + (4 : Nat))) * 256 + b (s + (5 : Nat)) = 422877685106 ↔ _
      generalize hq0 : b (s + (0 : Nat)) = x0 at *
      generalize hq1 : b (s + (1 : Nat)) = x1 at *
      generalize hq2 : b (s + (2 : Nat)) = x2 at *
      generalize hq3 : b (s + (3 : Nat)) = x3 at *
      generalize hq4 : b (s + (4 : Nat)) = x4 at *
      generalize hq5 : b (s + (5 : Nat)) = x5 at *
      omega
    · have g0 := hj 0 (by omega); have g1 := hj 1 (by omega); have g2 := hj 2 (by omega); have g3 := hj 3 (by omega); have g4 := hj 4 (by omega); have g5 := hj 5 (by omega); have g6 := hj 6 (by omega)
      show (((((((0) * 256 + b (s + (0 : Nat))) * 256 + b (s + (1 : Nat))) * 256 + b (s + (2 : Nat))) * 256 + b (s + (3 : Nat))) * 256 + b (s + (4 : Nat))) * 256 + b (s + (5 : Nat))) * 256 + b (s + (6 : Nat)) = 422877685106 ↔ _
      generalize hq0 : b (s + (0 : Nat)) = x0 at *
      generalize hq1 : b (s + (1 : Nat)) = x1 at *
      generalize hq2 : b (s + (2 : Nat)) = x2 at *
      generalize hq3 : b (s + (3 : Nat)) = x3 at *
      generalize hq4 : b (s + (4 : Nat)) = x4 at *
      generalize hq5 : b (s + (5 : Nat)) = x5 at *
      generalize hq6 : b (s + (6 : Nat)) = x6 at *
      omega
    · have g0 := hj 0 (by omega); have g1 := hj 1 (by omega); have g2 := hj 2 (by omega); have g3 := hj 3 (by omega); have g4 := hj 4 (by omega); have g5 := hj 5 (by omega); have g6 := hj 6 (by omega); have g7 := hj 7 (by omega)
      show ((((((((0) * 256 + b (s + (0 : Nat))) * 256 + b (s + (1 : Nat))) * 256 + b (s + (2 : Nat))) * 256 + b (s + (3 : Nat))) * 256 + b (s + (4 : Nat))) * 256 + b (s + (5 : Nat))) * 256 + b (s + (6 : Nat))) * 256 + b (s + (7 : Nat)) = 422877685106 ↔ _
      generalize hq0 : b (s + (0 : Nat)) = x0 at *
      generalize hq1 : b (s + (1 : Nat)) = x1 at *
      generalize hq2 : b (s + (2 : Nat)) = x2 at *
      generalize hq3 : b (s + (3 : Nat)) = x3 at *
      generalize hq4 : b (s + (4 : Nat)) = x4 at *
      generalize hq5 : b (s + (5 : Nat)) = x5 at *
      generalize hq6 : b (s + (6 : Nat)) = x6 at *
      generalize hq7 : b (s + (7 : Nat)) = x7 at *
      omega
  · rw [if_neg q]
    omega
theorem isW_5 (b : Int → Int) (s e : Int) : isW b s e 5 ↔ (e - s = 4 ∧ b (s + 0) = 112 ∧ b (s + 1) = 111 ∧ b (s + 2) = 111 ∧ b (s + 3) = 108) := by
  constructor
  · intro h
    exact ⟨h.1, h.2 0 (by decide), h.2 1 (by decide), h.2 2 (by decide), h.2 3 (by decide)⟩
  · intro h
    obtain ⟨h0, h1, h2, h3, h4⟩ := h
    refine ⟨h0, fun j hj => ?_⟩
    have hj2 : j < 4 := hj
    match j, hj2 with
    | 0, _ => exact h1
    | 1, _ => exact h2
    | 2, _ => exact h3
    | 3, _ => exact h4
theorem wrv_5 {b : Int → Int} {s e : Int} (h0 : s < e) (h : ∀ j, s ≤ j → j < e → isLt (b j)) : wrv b s e = 1886351212 ↔ isW b s e 5 := by
  rw [isW_5]
  unfold wrv
  by_cases q : e - s ≤ 8
  · rw [if_pos q]
    unfold pwd
    have hj : ∀ m : Nat, (m : Int) < e - s → isLt (b (s + m)) := fun m hm => h (s + m) (by omega) (by omega)
    rcases (show (e - s).toNat = 1 ∨ (e - s).toNat = 2 ∨ (e - s).toNat = 3 ∨ (e - s).toNat = 4 ∨ (e - s).toNat = 5 ∨ (e - s).toNat = 6 ∨ (e - s).toNat = 7 ∨ (e - s).toNat = 8 by omega) with g | g | g | g | g | g | g | g <;> rw [g]
    · have g0 := hj 0 (by omega)
      show (0) * 256 + b (s + (0 : Nat)) = 1886351212 ↔ _
      generalize hq0 : b (s + (0 : Nat)) = x0 at *
      omega
    · have g0 := hj 0 (by omega); have g1 := hj 1 (by omega)
      show ((0) * 256 + b (s + (0 : Nat))) * 256 + b (s + (1 : Nat)) = 1886351212 ↔ _
      generalize hq0 : b (s + (0 : Nat)) = x0 at *
      generalize hq1 : b (s + (1 : Nat)) = x1 at *
      omega
    · have g0 := hj 0 (by omega); have g1 := hj 1 (by omega); have g2 := hj 2 (by omega)
      show (((0) * 256 + b (s + (0 : Nat))) * 256 + b (s + (1 : Nat))) * 256 + b (s + (2 : Nat)) = 1886351212 ↔ _
      generalize hq0 : b (s + (0 : Nat)) = x0 at *
      generalize hq1 : b (s + (1 : Nat)) = x1 at *
      generalize hq2 : b (s + (2 : Nat)) = x2 at *
      omega
    · have g0 := hj 0 (by omega); have g1 := hj 1 (by omega); have g2 := hj 2 (by omega); have g3 := hj 3 (by omega)
      show ((((0) * 256 + b (s + (0 : Nat))) * 256 + b (s + (1 : Nat))) * 256 + b (s + (2 : Nat))) * 256 + b (s + (3 : Nat)) = 1886351212 ↔ _
      generalize hq0 : b (s + (0 : Nat)) = x0 at *
      generalize hq1 : b (s + (1 : Nat)) = x1 at *
      generalize hq2 : b (s + (2 : Nat)) = x2 at *
      generalize hq3 : b (s + (3 : Nat)) = x3 at *
      omega
    · have g0 := hj 0 (by omega); have g1 := hj 1 (by omega); have g2 := hj 2 (by omega); have g3 := hj 3 (by omega); have g4 := hj 4 (by omega)
      show (((((0) * 256 + b (s + (0 : Nat))) * 256 + b (s + (1 : Nat))) * 256 + b (s + (2 : Nat))) * 256 + b (s + (3 : Nat))) * 256 + b (s + (4 : Nat)) = 1886351212 ↔ _
      generalize hq0 : b (s + (0 : Nat)) = x0 at *
      generalize hq1 : b (s + (1 : Nat)) = x1 at *
      generalize hq2 : b (s + (2 : Nat)) = x2 at *
      generalize hq3 : b (s + (3 : Nat)) = x3 at *
      generalize hq4 : b (s + (4 : Nat)) = x4 at *
      omega
    · have g0 := hj 0 (by omega); have g1 := hj 1 (by omega); have g2 := hj 2 (by omega); have g3 := hj 3 (by omega); have g4 := hj 4 (by omega); have g5 := hj 5 (by omega)
      show ((((((0) * 256 + b (s + (0 : Nat))) * 256 + b (s + (1 : Nat))) * 256 + b (s + (2 : Nat))) * 256 + b (s + (3 : Nat))) * 256 + b (s + (4 : Nat))) * 256 + b (s + (5 : Nat)) = 1886351212 ↔ _
      generalize hq0 : b (s + (0 : Nat)) = x0 at *
      generalize hq1 : b (s + (1 : Nat)) = x1 at *
      generalize hq2 : b (s + (2 : Nat)) = x2 at *
      generalize hq3 : b (s + (3 : Nat)) = x3 at *
      generalize hq4 : b (s + (4 : Nat)) = x4 at *
      generalize hq5 : b (s + (5 : Nat)) = x5 at *
      omega
    · have g0 := hj 0 (by omega); have g1 := hj 1 (by omega); have g2 := hj 2 (by omega); have g3 := hj 3 (by omega); have g4 := hj 4 (by omega); have g5 := hj 5 (by omega); have g6 := hj 6 (by omega)
      show (((((((0) * 256 + b (s + (0 : Nat))) * 256 + b (s + (1 : Nat))) * 256 + b (s + (2 : Nat))) * 256 + b (s + (3 : Nat))) * 256 + b (s + (4 : Nat))) * 256 + b (s + (5 : Nat))) * 256 + b (s + (6 : Nat)) = 1886351212 ↔ _
      generalize hq0 : b (s + (0 : Nat)) = x0 at *
      generalize hq1 : b (s + (1 : Nat)) = x1 at *
      generalize hq2 : b (s + (2 : Nat)) = x2 at *
      generalize hq3 : b (s + (3 : Nat)) = x3 at *
      generalize hq4 : b (s + (4 : Nat)) = x4 at *
      generalize hq5 : b (s + (5 : Nat)) = x5 at *
      generalize hq6 : b (s + (6 : Nat)) = x6 at *
      omega
    · have g0 := hj 0 (by omega); have g1 := hj 1 (by omega); have g2 := hj 2 (by omega); have g3 := hj 3 (by omega); have g4 := hj 4 (by omega); have g5 := hj 5 (by omega); have g6 := hj 6 (by omega); have g7 := hj 7 (by omega)
      show ((((((((0) * 256 + b (s + (0 : Nat))) * 256 + b (s + (1 : Nat))) * 256 + b (s + (2 : Nat))) * 256 + b (s + (3 : Nat))) * 256 + b (s + (4 : Nat))) * 256 + b (s + (5 : Nat))) * 256 + b (s + (6 : Nat))) * 256 + b (s + (7 : Nat)) = 1886351212 ↔ _
      generalize hq0 : b (s + (0 : Nat)) = x0 at *
      generalize hq1 : b (s + (1 : Nat)) = x1 at *
      generalize hq2 : b (s + (2 : Nat)) = x2 at *
      generalize hq3 : b (s + (3 : Nat)) = x3 at *
      generalize hq4 : b (s + (4 : Nat)) = x4 at *
      generalize hq5 : b (s + (5 : Nat)) = x5 at *
      generalize hq6 : b (s + (6 : Nat)) = x6 at *
      generalize hq7 : b (s + (7 : Nat)) = x7 at *
      omega
  · rw [if_neg q]
    omega
