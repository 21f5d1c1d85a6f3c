/-! worth: the sums of all grades; reckon; worth of the reference -/
def n1 (n : Int) : Int := if n < 1 then 1 else n
theorem n1_b {n : Int} (h : 0 ≤ n ∧ n ≤ 400) : 1 ≤ n1 n ∧ n1 n ≤ 400 ∧ n ≤ n1 n := by
  unfold n1
  split <;> omega
theorem n1_mx {a v : Int} (h : (v = a ∨ v = 1) ∧ a ≤ v ∧ 1 ≤ v) : v = n1 a := by
  unfold n1
  split <;> omega
def prZ (N : Int → Int) : Nat → Int
  | 0 => 1
  | q + 1 => prZ N q * n1 (N q)
def prI (N : Int → Int) (i : Int) : Int := prZ N i.toNat
theorem prI_s (N : Int → Int) {i : Int} (h : 0 ≤ i) : prI N (i + 1) = prI N i * n1 (N i) := by
  unfold prI
  rw [show (i + 1).toNat = i.toNat + 1 by omega]
  show prZ N i.toNat * n1 (N (i.toNat : Int)) = _
  rw [Int.toNat_of_nonneg h]
def vZ (N S O P : Int → Int) : Nat → Int
  | 0 => 0
  | q + 1 => vZ N S O P q * n1 (N q) + (P q * n1 (N q) - O q * S q) * prZ N q
def vW (N S O P : Int → Int) (i : Int) : Int := vZ N S O P i.toNat
theorem vW_s (N S O P : Int → Int) {i : Int} (h : 0 ≤ i) : vW N S O P (i + 1) = vW N S O P i * n1 (N i) + (P i * n1 (N i) - O i * S i) * prI N i := by
  unfold vW prI
  rw [show (i + 1).toNat = i.toNat + 1 by omega]
  show vZ N S O P i.toNat * n1 (N (i.toNat : Int)) + (P (i.toNat : Int) * n1 (N (i.toNat : Int)) - O (i.toNat : Int) * S (i.toNat : Int)) * prZ N i.toNat = _
  rw [Int.toNat_of_nonneg h]
def WF (N S O P : Int → Int) : Prop := ∀ q, (0 ≤ N q ∧ N q ≤ 400) ∧ (0 ≤ O q ∧ O q ≤ N q) ∧ (0 ≤ S q ∧ S q ≤ 9999 * N q) ∧ (0 ≤ P q ∧ P q ≤ 9999 * O q)
theorem prI_b {N S O P : Int → Int} (h : WF N S O P) {i : Int} (hi : 0 ≤ i ∧ i ≤ 4) : 1 ≤ prI N i ∧ prI N i ≤ 25600000000 ∧ (i ≤ 3 → prI N i ≤ 64000000) := by
  have h0 := n1_b (h 0).1
  have h1 := n1_b (h 1).1
  have h2 := n1_b (h 2).1
  have h3 := n1_b (h 3).1
  have e0 : prI N 0 = 1 := rfl
  have e1 : prI N 1 = 1 * n1 (N 0) := rfl
  have e2 : prI N 2 = 1 * n1 (N 0) * n1 (N 1) := rfl
  have e3 : prI N 3 = 1 * n1 (N 0) * n1 (N 1) * n1 (N 2) := rfl
  have e4 : prI N 4 = 1 * n1 (N 0) * n1 (N 1) * n1 (N 2) * n1 (N 3) := rfl
  have b2 : 1 * 1 ≤ (1 * n1 (N 0)) * n1 (N 1) ∧ (1 * n1 (N 0)) * n1 (N 1) ≤ 400 * 400 := ⟨Int.mul_le_mul (by omega) (by omega) (by omega) (by omega), Int.mul_le_mul (by omega) (by omega) (by omega) (by omega)⟩
  have b3 : 1 * 1 ≤ 1 * n1 (N 0) * n1 (N 1) * n1 (N 2) ∧ 1 * n1 (N 0) * n1 (N 1) * n1 (N 2) ≤ 160000 * 400 := ⟨Int.mul_le_mul (by omega) (by omega) (by omega) (by omega), Int.mul_le_mul (by omega) (by omega) (by omega) (by omega)⟩
  have b4 : 1 * 1 ≤ 1 * n1 (N 0) * n1 (N 1) * n1 (N 2) * n1 (N 3) ∧ 1 * n1 (N 0) * n1 (N 1) * n1 (N 2) * n1 (N 3) ≤ 64000000 * 400 := ⟨Int.mul_le_mul (by omega) (by omega) (by omega) (by omega), Int.mul_le_mul (by omega) (by omega) (by omega) (by omega)⟩
  rcases (show i = 0 ∨ i = 1 ∨ i = 2 ∨ i = 3 ∨ i = 4 by omega) with e | e | e | e | e <;> rw [e] <;> omega
theorem ps_b {N S O P : Int → Int} (h : WF N S O P) (q : Int) : 0 ≤ P q * n1 (N q) ∧ P q * n1 (N q) ≤ 3999600 * n1 (N q) ∧ 0 ≤ O q * S q ∧ O q * S q ≤ 3999600 * n1 (N q) := by
  obtain ⟨h1, h2, h3, h4⟩ := h q
  have hn := n1_b h1
  have a1 := Int.mul_le_mul_of_nonneg_right (show P q ≤ 3999600 by omega) (show 0 ≤ n1 (N q) by omega)
  have a2 := Int.mul_nonneg (show 0 ≤ P q by omega) (show 0 ≤ n1 (N q) by omega)
  have a3 := Int.mul_nonneg h2.1 h3.1
  have a4 : O q * S q ≤ 400 * (9999 * n1 (N q)) := Int.mul_le_mul (by omega) (by omega) h3.1 (by omega)
  omega
theorem abs_mul {x y a b : Int} (hx : -a ≤ x ∧ x ≤ a) (hy : 0 ≤ y ∧ y ≤ b) (ha : 0 ≤ a) : -(a * b) ≤ x * y ∧ x * y ≤ a * b := by
  have h1 := Int.mul_le_mul_of_nonneg_right hx.2 hy.1
  have h2 := Int.mul_le_mul_of_nonneg_right hx.1 hy.1
  have h3 := Int.mul_le_mul_of_nonneg_left hy.2 ha
  rw [Int.neg_mul] at h2
  omega
theorem vW_b {N S O P : Int → Int} (h : WF N S O P) : ∀ q : Nat, q ≤ 4 → -(q * 3999600 * prZ N q) ≤ vZ N S O P q ∧ vZ N S O P q ≤ q * 3999600 * prZ N q
  | 0, _ => by simp [vZ]
  | q + 1, hq => by
    have ih := vW_b h q (by omega)
    have hp := prI_b h (i := q) (by omega)
    rw [show prI N q = prZ N q from rfl] at hp
    have hb := ps_b h q
    have hn := n1_b (h q).1
    show -(((q + 1 : Nat) : Int) * 3999600 * (prZ N q * n1 (N q))) ≤ vZ N S O P q * n1 (N q) + (P q * n1 (N q) - O q * S q) * prZ N q ∧ vZ N S O P q * n1 (N q) + (P q * n1 (N q) - O q * S q) * prZ N q ≤ ((q + 1 : Nat) : Int) * 3999600 * (prZ N q * n1 (N q))
    have a1 := abs_mul ih ⟨by omega, Int.le_refl (n1 (N q))⟩ (Int.mul_nonneg (by omega) (by omega))
    have a2 := abs_mul (x := P q * n1 (N q) - O q * S q) (a := 3999600 * n1 (N q)) ⟨by omega, by omega⟩ ⟨by omega, Int.le_refl (prZ N q)⟩ (by omega)
    have e : ((q + 1 : Nat) : Int) * 3999600 * (prZ N q * n1 (N q)) = (q : Int) * 3999600 * prZ N q * n1 (N q) + 3999600 * n1 (N q) * prZ N q := by
      rw [show ((q + 1 : Nat) : Int) = (q : Int) + 1 from rfl]
      grind
    rw [e]
    omega
theorem vW_l {N S O P : Int → Int} (h : WF N S O P) {i : Int} (hi : 0 ≤ i ∧ i ≤ 4) : -(409559040000000000 : Int) ≤ vW N S O P i ∧ vW N S O P i ≤ 409559040000000000 ∧ (i ≤ 3 → -(1023897600000000 : Int) ≤ vW N S O P i ∧ vW N S O P i ≤ 1023897600000000) := by
  have h1 := vW_b h i.toNat (by omega)
  have h2 := prI_b h hi
  unfold vW
  rw [show prZ N i.toNat = prI N i from rfl] at h1
  rcases (show i = 0 ∨ i = 1 ∨ i = 2 ∨ i = 3 ∨ i = 4 by omega) with e | e | e | e | e <;> rw [e] at h1 h2 ⊢ <;> simp at h1 h2 ⊢ <;> omega
def tmF (N S O : Int → Int) (C : Int) : Int → Int := fun q => O q * S q * (C / n1 (N q))
theorem tm_b {N S O P : Int → Int} (h : WF N S O P) {C : Int} (hC : 1 ≤ C ∧ C ≤ 25600000000) (q : Int) : 0 ≤ tmF N S O C q ∧ tmF N S O C q ≤ 102389760000000000 := by
  have hb := ps_b h q
  have hn := n1_b (h q).1
  have d0 := Int.ediv_nonneg (show 0 ≤ C by omega) (show 0 ≤ n1 (N q) by omega)
  have d1 : n1 (N q) * (C / n1 (N q)) ≤ C := by
    have := Int.emod_add_mul_ediv C (n1 (N q))
    have := Int.emod_nonneg C (show n1 (N q) ≠ 0 by omega)
    omega
  unfold tmF
  refine ⟨Int.mul_nonneg hb.2.2.1 d0, ?_⟩
  have := Int.mul_le_mul_of_nonneg_right hb.2.2.2 d0
  rw [Int.mul_assoc 3999600] at this
  omega
theorem vW_4 {N S O P : Int → Int} (h : WF N S O P) : sumI P 4 * prI N 4 - sumI (tmF N S O (prI N 4)) 4 = vW N S O P 4 := by
  have h0 := n1_b (h 0).1
  have h1 := n1_b (h 1).1
  have h2 := n1_b (h 2).1
  have h3 := n1_b (h 3).1
  rw [sum4, sum4]
  have e4 : prI N 4 = 1 * n1 (N 0) * n1 (N 1) * n1 (N 2) * n1 (N 3) := rfl
  have q0 : prI N 4 / n1 (N 0) = n1 (N 1) * n1 (N 2) * n1 (N 3) := by
    rw [e4, show 1 * n1 (N 0) * n1 (N 1) * n1 (N 2) * n1 (N 3) = n1 (N 0) * (n1 (N 1) * n1 (N 2) * n1 (N 3)) by grind]
    exact Int.mul_ediv_cancel_left _ (by omega)
  have q1 : prI N 4 / n1 (N 1) = n1 (N 0) * n1 (N 2) * n1 (N 3) := by
    rw [e4, show 1 * n1 (N 0) * n1 (N 1) * n1 (N 2) * n1 (N 3) = n1 (N 1) * (n1 (N 0) * n1 (N 2) * n1 (N 3)) by grind]
    exact Int.mul_ediv_cancel_left _ (by omega)
  have q2 : prI N 4 / n1 (N 2) = n1 (N 0) * n1 (N 1) * n1 (N 3) := by
    rw [e4, show 1 * n1 (N 0) * n1 (N 1) * n1 (N 2) * n1 (N 3) = n1 (N 2) * (n1 (N 0) * n1 (N 1) * n1 (N 3)) by grind]
    exact Int.mul_ediv_cancel_left _ (by omega)
  have q3 : prI N 4 / n1 (N 3) = n1 (N 0) * n1 (N 1) * n1 (N 2) := by
    rw [e4, show 1 * n1 (N 0) * n1 (N 1) * n1 (N 2) * n1 (N 3) = n1 (N 3) * (n1 (N 0) * n1 (N 1) * n1 (N 2)) by grind]
    exact Int.mul_ediv_cancel_left _ (by omega)
  unfold tmF
  rw [q0, q1, q2, q3, e4]
  show _ = (((0 * n1 (N 0) + (P 0 * n1 (N 0) - O 0 * S 0) * 1) * n1 (N 1) + (P 1 * n1 (N 1) - O 1 * S 1) * (1 * n1 (N 0))) * n1 (N 2) + (P 2 * n1 (N 2) - O 2 * S 2) * (1 * n1 (N 0) * n1 (N 1))) * n1 (N 3) + (P 3 * n1 (N 3) - O 3 * S 3) * (1 * n1 (N 0) * n1 (N 1) * n1 (N 2))
  generalize n1 (N 0) = a0
  generalize n1 (N 1) = a1
  generalize n1 (N 2) = a2
  generalize n1 (N 3) = a3
  generalize P 0 = p0
  generalize P 1 = p1
  generalize P 2 = p2
  generalize P 3 = p3
  generalize O 0 = o0
  generalize O 1 = o1
  generalize O 2 = o2
  generalize O 3 = o3
  generalize S 0 = s0
  generalize S 1 = s1
  generalize S 2 = s2
  generalize S 3 = s3
  grind
theorem uZ_2 (f : Nat → Int) (a b c d : Int) : uZ (uZ (uZ (uZ f 18 a) 19 b) 18 c) 19 d = uZ (uZ f 18 c) 19 d := by
  funext k
  unfold uZ
  cases Nat.beq k 19 <;> cases Nat.beq k 18 <;> rfl
theorem sumZ_le {f k : Int → Int} {c : Int} (h : ∀ j, f j ≤ c * k j) : ∀ n : Nat, sumZ f n ≤ c * sumZ k n
  | 0 => by simp [sumZ]
  | n + 1 => by
    have h1 := sumZ_le h n
    have h2 := h n
    show sumZ f n + f n ≤ c * (sumZ k n + k n)
    rw [Int.mul_add]
    omega
theorem wf_of {c gd mk pr : Int → Int} {m n : Int} (hn : 0 ≤ n ∧ n ≤ 400) (hp : ∀ s, 0 ≤ pr s ∧ pr s ≤ 9999) : WF (fun q => sumI (NsF c gd q) n) (fun q => sumI (SpF c gd pr q) n) (fun q => sumI (OsF c gd mk m q) n) (fun q => sumI (OpF c gd mk pr m q) n) := by
  intro q
  have a1 := NsF_b c gd q hn.1
  have a2 := SpF_b (c := c) (gd := gd) hp q hn.1
  have a3 := OsF_b c gd mk m q hn.1
  have a4 := OpF_b (c := c) (gd := gd) (mk := mk) hp m q hn.1
  have b1 : sumI (OsF c gd mk m q) n ≤ 1 * sumI (NsF c gd q) n := sumZ_le (fun j => by
    unfold OsF NsF
    by_cases e1 : c j = 1 ∧ gd j = q
    · rw [if_pos e1]; split <;> omega
    · rw [if_neg (fun z => e1 ⟨z.1, z.2.1⟩)]; split <;> omega) _
  have b2 : sumI (SpF c gd pr q) n ≤ 9999 * sumI (NsF c gd q) n := sumZ_le (fun j => by
    have := hp j
    unfold SpF NsF
    split <;> omega) _
  have b3 : sumI (OpF c gd mk pr m q) n ≤ 9999 * sumI (OsF c gd mk m q) n := sumZ_le (fun j => by
    have := hp j
    unfold OpF OsF
    split <;> omega) _
  show (0 ≤ sumI (NsF c gd q) n ∧ sumI (NsF c gd q) n ≤ 400) ∧ (0 ≤ sumI (OsF c gd mk m q) n ∧ sumI (OsF c gd mk m q) n ≤ sumI (NsF c gd q) n) ∧ (0 ≤ sumI (SpF c gd pr q) n ∧ sumI (SpF c gd pr q) n ≤ 9999 * sumI (NsF c gd q) n) ∧ (0 ≤ sumI (OpF c gd mk pr m q) n ∧ sumI (OpF c gd mk pr m q) n ≤ 9999 * sumI (OsF c gd mk m q) n)
  omega
abbrev wN (c gd : Int → Int) (n : Int) : Int → Int := fun q => sumI (NsF c gd q) n
abbrev wS (c gd pr : Int → Int) (n : Int) : Int → Int := fun q => sumI (SpF c gd pr q) n
abbrev wO (c gd mk : Int → Int) (m n : Int) : Int → Int := fun q => sumI (OsF c gd mk m q) n
abbrev wP (c gd mk pr : Int → Int) (m n : Int) : Int → Int := fun q => sumI (OpF c gd mk pr m q) n
def wV (c gd mk pr : Int → Int) (m n : Int) : Int := vW (wN c gd n) (wS c gd pr n) (wO c gd mk m n) (wP c gd mk pr m n) 4
def wC (c gd : Int → Int) (n : Int) : Int := prI (wN c gd n) 4
def wT (c gd mk : Int → Int) (m n : Int) : Int := sumI (wO c gd mk m n) 4
theorem wP_4 {c gd mk pr : Int → Int} {m n : Int} (hg : ∀ s, 0 ≤ gd s ∧ gd s < 4) : sumI (MpF c mk pr m) n = sumI (wP c gd mk pr m n) 4 := by
  rw [sum4]
  exact (OpF_all hg n.toNat).symm

abbrev rm_X4_reckon : Room := { frames := 2, cells := 0, slots := 0, locals := 49 }
set_option maxHeartbeats 4000000 in
set_option maxRecDepth 100000 in
theorem ct_X4_reckon (l : Launch) (D : va_G) (cy : Nat → ClassId) (a : Nat → Nat) (z : Nat → Int) (g : Nat → Int → Int) (p0 p1 : Int) (hz : xBz z) (hg : xBg g) (h0 : iR p0) (h1 : iR p1) : MI l yX4_reckon cX4_reckon 10 .boolean (rm_X4_reckon) D cy (xw cy a z g) [.ref (a 36), vI p0, vI p1] (fun (v : Int) (u : sX) => (∃ (rp rq : Int) (fs fp fm : Int → Int), u.1 = uZ (uZ z 18 rp) 19 rq ∧ u.2 = uZ (uZ (uZ g 37 fs) 38 fp) 39 fm ∧ ((v = 0 ∧ (wT (ciX g p1) (gdX g) (mkX g) p0 (z 17)) < 1) ∨ (v = 1 ∧ 1 ≤ (wT (ciX g p1) (gdX g) (mkX g) p0 (z 17)) ∧ low (wV (ciX g p1) (gdX g) (mkX g) (g 25) p0 (z 17)) ((wT (ciX g p1) (gdX g) (mkX g) p0 (z 17)) * (wC (ciX g p1) (gdX g) (z 17))) rp rq))) ∧ xBz u.1 ∧ xBg u.2) (fun u => xw cy a u.1 u.2) 0 0 := by
  refine go_i (by decide +kernel) (Nat.le_of_ble_eq_true rfl) (Or.inr (fun v u h => nb01 (by omega))) ?_
  intro p e s m args below meth c Q A ls C hnm hA w hl hend
  have hx := C.1
  have hb := C.2.1
  have b17_ := xZ17 hz
  have hWF : WF (wN (ciX g p1) (gdX g) (z 17)) (wS (ciX g p1) (gdX g) (g 25) (z 17)) (wO (ciX g p1) (gdX g) (mkX g) p0 (z 17)) (wP (ciX g p1) (gdX g) (mkX g) (g 25) p0 (z 17)) := wf_of b17_ (xB25 hg)
  have hCb : 1 ≤ (wC (ciX g p1) (gdX g) (z 17)) ∧ (wC (ciX g p1) (gdX g) (z 17)) ≤ 25600000000 := by have := prI_b hWF (i := 4) (by omega); unfold wC; omega
  have hMb := MpF_b (c := ciX g p1) (mk := mkX g) (xB25 hg) p0 (i := z 17) (by omega)
  have hTb : ∀ i, 0 ≤ i → i ≤ 4 → 0 ≤ sumI (wO (ciX g p1) (gdX g) (mkX g) p0 (z 17)) i ∧ sumI (wO (ciX g p1) (gdX g) (mkX g) p0 (z 17)) i ≤ i * 400 := fun i h1 h2 => sumI_b h1 (fun j _ _ => by have := hWF j; omega)
  have hM4 : (sumI (MpF (ciX g p1) (mkX g) (g 25) p0) (z 17)) = sumI (wP (ciX g p1) (gdX g) (mkX g) (g 25) p0 (z 17)) 4 := wP_4 (fun s => by have := xB15 hg (g 21 s); show 0 ≤ g 15 (g 21 s) ∧ g 15 (g 21 s) < 4; omega)
  have hMC := mul_b (x := (sumI (MpF (ciX g p1) (mkX g) (g 25) p0) (z 17))) (y := (wC (ciX g p1) (gdX g) (z 17))) (a := 3999600) (b := 25600000000) ⟨by omega, by omega⟩ ⟨by omega, by omega⟩
  have hTC := mul_b (x := (wT (ciX g p1) (gdX g) (mkX g) p0 (z 17))) (y := (wC (ciX g p1) (gdX g) (z 17))) (a := 1600) (b := 25600000000) (by have := hTb 4 (by omega) (by omega); unfold wT; omega) ⟨by omega, by omega⟩
  have hTM : ∀ i, 0 ≤ i → i ≤ 4 → 0 ≤ sumI (tmF (wN (ciX g p1) (gdX g) (z 17)) (wS (ciX g p1) (gdX g) (g 25) (z 17)) (wO (ciX g p1) (gdX g) (mkX g) p0 (z 17)) (wC (ciX g p1) (gdX g) (z 17))) i ∧ sumI (tmF (wN (ciX g p1) (gdX g) (z 17)) (wS (ciX g p1) (gdX g) (g 25) (z 17)) (wO (ciX g p1) (gdX g) (mkX g) p0 (z 17)) (wC (ciX g p1) (gdX g) (z 17))) i ≤ i * 102389760000000000 := fun i h1 h2 => sumI_b h1 (fun j _ _ => tm_b hWF hCb j)
  have J74 : ∀ N : Nat, ∀ (i : Int) (fs : Int → Int) (fp : Int → Int) (fm : Int → Int) (up : Int), ((-9223372036854775808 : Int) ≤ up ∧ up ≤ 9223372036854775807) → (∀ j : Int, (-9223372036854775808 : Int) ≤ fs j ∧ fs j ≤ 9223372036854775807) → (∀ j : Int, (-9223372036854775808 : Int) ≤ fp j ∧ fp j ≤ 9223372036854775807) → (∀ j : Int, (-9223372036854775808 : Int) ≤ fm j ∧ fm j ≤ 9223372036854775807) → (∀ q, 0 ≤ q → q < 4 → fs q = (wN (ciX g p1) (gdX g) (z 17)) q) → (∀ q, 0 ≤ q → q < 4 → fp q = (wS (ciX g p1) (gdX g) (g 25) (z 17)) q) → (∀ q, 0 ≤ q → q < 4 → fm q = (wO (ciX g p1) (gdX g) (mkX g) p0 (z 17)) q) → (0 ≤ i ∧ i ≤ 4) → (1 ≤ (wT (ciX g p1) (gdX g) (mkX g) p0 (z 17))) → (up = (sumI (MpF (ciX g p1) (mkX g) (g 25) p0) (z 17)) * (wC (ciX g p1) (gdX g) (z 17)) - sumI (tmF (wN (ciX g p1) (gdX g) (z 17)) (wS (ciX g p1) (gdX g) (g 25) (z 17)) (wO (ciX g p1) (gdX g) (mkX g) p0 (z 17)) (wC (ciX g p1) (gdX g) (z 17))) i) → ((4 - i).toNat) < N → ∀ (H : Heap) (locs : List Loc) (ls : Array Slot), wd D A s.heap (xw cy a (uZ z 18 up) (uZ (uZ (uZ g 37 fs) 38 fp) 39 fm)) H locs → lv_has ls 10 [(0, .ref (a 36)), (3, vL (wT (ciX g p1) (gdX g) (mkX g) p0 (z 17))), (7, vL (wC (ciX g p1) (gdX g) (z 17))), (9, vI i)] → W p l e (rm_X4_reckon) s m args below meth c H locs 0 0 Q (F0 m 74 ls []) := by
    intro N
    induction N with
    | zero => intro i fs fp fm up bup bfs bfp bfm hfs hfp hfm hi hT1 hup hN9; exact absurd hN9 (Nat.not_lt_zero _)
    | succ N ih74 =>
      intro i fs fp fm up bup bfs bfp bfm hfs hfp hfm hi hT1 hup hN74 H locs ls w hl
      have hTMi := hTM i hi.1 hi.2
      refine lv_iload hx hb dX4_reckon_74 (lv_at hl 3 rfl) ?_
      refine r_iconst hx hb dX4_reckon_76 ?_
      refine r_icmp_ge (tgt := 125) hx hb dX4_reckon_77 (by decide) (by omega) (by omega) (fun c77 => ?_) (fun c77 => ?_)
      · skip
        refine lv_aload_n hx hb dX4_reckon_125 rfl (lv_at hl 0 rfl) ?_
        refine lv_lload_n hx hb dX4_reckon_126 rfl (lv_at hl 1 rfl) ?_
        refine lv_lload hx hb dX4_reckon_127 (lv_at hl 2 rfl) ?_
        refine r_lmul hx hb dX4_reckon_129 ?_
        refine r_put C w 36 tyX4 tyX4_ok nmX4 rfl rfl 6 (by decide) inX4 kf_X4_43 rfl rfl rfl (Nat.le_of_ble_eq_true rfl) (ws' := xw cy a (uZ (uZ z 18 up) 19 ((wT (ciX g p1) (gdX g) (mkX g) p0 (z 17)) * (wC (ciX g p1) (gdX g) (z 17)))) (uZ (uZ (uZ g 37 fs) 38 fp) 39 fm)) (xw_z19 cy a (uZ z 18 up) (uZ (uZ (uZ g 37 fs) 38 fp) 39 fm) ((wT (ciX g p1) (gdX g) (mkX g) p0 (z 17)) * (wC (ciX g p1) (gdX g) (z 17)))) dX4_reckon_130 (fun H locs w => ?_)
        have bz1 : (-9223372036854775808 : Int) ≤ ((wT (ciX g p1) (gdX g) (mkX g) p0 (z 17)) * (wC (ciX g p1) (gdX g) (z 17))) ∧ (((wT (ciX g p1) (gdX g) (mkX g) p0 (z 17)) * (wC (ciX g p1) (gdX g) (z 17))) : Int) ≤ 9223372036854775807 := (by exact ⟨by omega, by omega⟩)
        refine lv_aload_n hx hb dX4_reckon_133 rfl (lv_at hl 0 rfl) ?_
        refine cVV C w hA (ct_X4_reduce l D cy a (uZ (uZ z 18 up) 19 ((wT (ciX g p1) (gdX g) (mkX g) p0 (z 17)) * (wC (ciX g p1) (gdX g) (z 17)))) (uZ (uZ (uZ g 37 fs) 38 fp) 39 fm)  (xBz_u (xBz_u hz 18 bup) 19 bz1) (xBg_u (xBg_u (xBg_u hg 37 bfs) 38 bfp) 39 bfm) (by have := Int.mul_le_mul hT1 hCb.1 (by omega) (show 0 ≤ (wT (ciX g p1) (gdX g) (mkX g) p0 (z 17)) by omega); show 1 ≤ (wT (ciX g p1) (gdX g) (mkX g) p0 (z 17)) * (wC (ciX g p1) (gdX g) (z 17)) ∧ (wT (ciX g p1) (gdX g) (mkX g) p0 (z 17)) * (wC (ciX g p1) (gdX g) (z 17)) ≤ 4611686018427387904; omega) (by show -4611686018427387904 ≤ up ∧ up ≤ 4611686018427387904; omega)) ok_X4_reduce km_X4_46 ⟨rfl, rfl⟩ ⟨by decide, by decide⟩ ⟨by decide, by decide⟩ rfl 36 rfl rfl hl.1 rfl (Nat.le_of_ble_eq_true rfl) dX4_reckon_134 (fun uv_1 H locs w hp_1 => ?_)
        obtain ⟨zc_1, gc_1⟩ := uv_1
        obtain ⟨hp_1, hzc_1, hgc_1⟩ := hp_1
        replace w : wd D A s.heap (xw cy a zc_1 gc_1) H locs := w
        replace hzc_1 : xBz zc_1 := hzc_1
        replace hgc_1 : xBg gc_1 := hgc_1
        try dsimp only at hp_1
        refine r_iconst hx hb dX4_reckon_137 ?_
        exact hend 1 (zc_1, gc_1) _ _ _ _ dX4_reckon_138 w ⟨(by obtain ⟨rp, rq, e1, e2, e3⟩ := hp_1; refine ⟨rp, rq, fs, fp, fm, ?_, e2, Or.inr ⟨rfl, hT1, ?_⟩⟩; exact e1.trans (uZ_2 z _ _ _ _); have hu : up = (wV (ciX g p1) (gdX g) (mkX g) (g 25) p0 (z 17)) := (by rw [hup, show i = 4 by omega, hM4]; exact vW_4 hWF); rw [← hu]; exact e3), hzc_1, hgc_1⟩
      · skip
        refine lv_aload_n hx hb dX4_reckon_80 rfl (lv_at hl 0 rfl) ?_
        refine lv_dup hx hb dX4_reckon_81 rfl ?_
        refine r_get C w 36 (v := vL up) rfl rfl 5 (by decide) inX4 kf_X4_39 rfl dX4_reckon_82 ?_
        refine lv_aload_n hx hb dX4_reckon_85 rfl (lv_at hl 0 rfl) ?_
        refine r_get C w 36 (v := .ref (a 39)) rfl rfl 4 (by decide) inX4 kf_X4_18 rfl dX4_reckon_86 ?_
        refine lv_iload hx hb dX4_reckon_89 (lv_at hl 3 rfl) ?_
        refine r_lald C w 39 (f := fm) rfl (by omega) (by omega) (by decide) dX4_reckon_91 ?_
        refine r_asL (v := ((wO (ciX g p1) (gdX g) (mkX g) p0 (z 17)) i)) (by exact hfm i hi.1 (by omega)) ?_
        refine lv_aload_n hx hb dX4_reckon_92 rfl (lv_at hl 0 rfl) ?_
        refine r_get C w 36 (v := .ref (a 38)) rfl rfl 3 (by decide) inX4 kf_X4_15 rfl dX4_reckon_93 ?_
        refine lv_iload hx hb dX4_reckon_96 (lv_at hl 3 rfl) ?_
        refine r_lald C w 38 (f := fp) rfl (by omega) (by omega) (by decide) dX4_reckon_98 ?_
        refine r_asL (v := ((wS (ciX g p1) (gdX g) (g 25) (z 17)) i)) (by exact hfp i hi.1 (by omega)) ?_
        refine r_lmul hx hb dX4_reckon_99 ?_
        refine lv_lload hx hb dX4_reckon_100 (lv_at hl 2 rfl) ?_
        refine lv_aload_n hx hb dX4_reckon_102 rfl (lv_at hl 0 rfl) ?_
        refine r_get C w 36 (v := .ref (a 37)) rfl rfl 2 (by decide) inX4 kf_X4_9 rfl dX4_reckon_103 ?_
        refine lv_iload hx hb dX4_reckon_106 (lv_at hl 3 rfl) ?_
        refine r_lald C w 37 (f := fs) rfl (by omega) (by omega) (by decide) dX4_reckon_108 ?_
        have hNi := hWF i
        have hn1 := n1_b hNi.1
        refine r_asL (v := ((wN (ciX g p1) (gdX g) (z 17)) i)) (by exact hfs i hi.1 (by omega)) ?_
        refine r_lconst (z := 1) hx hb dX4_reckon_109 (by decide) ?_
        refine r_mmaxL C km_X4_33 hl.1 (by decide) (Nat.le_of_ble_eq_true rfl) ⟨by decide, by decide⟩ (by exact ⟨by omega, by omega⟩) (by exact ⟨by omega, by omega⟩) dX4_reckon_110 (fun rv_2 hp_2 => ?_)
        refine r_asL (v := (n1 ((wN (ciX g p1) (gdX g) (z 17)) i))) (by refine n1_mx ?_; omega) ?_
        refine r_ldiv hx hb dX4_reckon_113 (by exact ⟨by omega, by omega⟩) (by exact ⟨by omega, by omega⟩) (by omega) ?_
        refine r_asL (v := ((wC (ciX g p1) (gdX g) (z 17)) / n1 ((wN (ciX g p1) (gdX g) (z 17)) i))) (by exact tdv (by omega)) ?_
        refine r_lmul hx hb dX4_reckon_114 ?_
        refine r_lsub hx hb dX4_reckon_115 ?_
        refine r_put C w 36 tyX4 tyX4_ok nmX4 rfl rfl 5 (by decide) inX4 kf_X4_39 rfl rfl rfl (Nat.le_of_ble_eq_true rfl) (ws' := xw cy a (uZ z 18 (up - ((((wO (ciX g p1) (gdX g) (mkX g) p0 (z 17)) i) * ((wS (ciX g p1) (gdX g) (g 25) (z 17)) i)) * ((wC (ciX g p1) (gdX g) (z 17)) / n1 ((wN (ciX g p1) (gdX g) (z 17)) i))))) (uZ (uZ (uZ g 37 fs) 38 fp) 39 fm)) rfl dX4_reckon_116 (fun H locs w => ?_)
        have bz2 : (-9223372036854775808 : Int) ≤ (up - ((((wO (ciX g p1) (gdX g) (mkX g) p0 (z 17)) i) * ((wS (ciX g p1) (gdX g) (g 25) (z 17)) i)) * ((wC (ciX g p1) (gdX g) (z 17)) / n1 ((wN (ciX g p1) (gdX g) (z 17)) i)))) ∧ ((up - ((((wO (ciX g p1) (gdX g) (mkX g) p0 (z 17)) i) * ((wS (ciX g p1) (gdX g) (g 25) (z 17)) i)) * ((wC (ciX g p1) (gdX g) (z 17)) / n1 ((wN (ciX g p1) (gdX g) (z 17)) i)))) : Int) ≤ 9223372036854775807 := (by have e : up - (wO (ciX g p1) (gdX g) (mkX g) p0 (z 17)) i * (wS (ciX g p1) (gdX g) (g 25) (z 17)) i * ((wC (ciX g p1) (gdX g) (z 17)) / n1 ((wN (ciX g p1) (gdX g) (z 17)) i)) = (sumI (MpF (ciX g p1) (mkX g) (g 25) p0) (z 17)) * (wC (ciX g p1) (gdX g) (z 17)) - sumI (tmF (wN (ciX g p1) (gdX g) (z 17)) (wS (ciX g p1) (gdX g) (g 25) (z 17)) (wO (ciX g p1) (gdX g) (mkX g) p0 (z 17)) (wC (ciX g p1) (gdX g) (z 17))) (i + 1) := (by rw [sumI_s _ hi.1, hup]; unfold tmF; omega); rw [e]; have := hTM (i + 1) (by omega) (by omega); exact ⟨by omega, by omega⟩)
        refine r_iinc (lv' := [(9, vI (i + 1)), (0, .ref (a 36)), (3, vL (wT (ciX g p1) (gdX g) (mkX g) p0 (z 17))), (7, vL (wC (ciX g p1) (gdX g) (z 17)))]) hx hb dX4_reckon_119 hl (k := 3) rfl (by decide) rfl (fun ls hl => ?_)
        refine lv_goto (tgt := 74) hx hb dX4_reckon_122 (by decide) ?_
        exact ih74 (i + 1) fs fp fm (up - ((((wO (ciX g p1) (gdX g) (mkX g) p0 (z 17)) i) * ((wS (ciX g p1) (gdX g) (g 25) (z 17)) i)) * ((wC (ciX g p1) (gdX g) (z 17)) / n1 ((wN (ciX g p1) (gdX g) (z 17)) i)))) bz2 (by exact bfs) (by exact bfp) (by exact bfm) (by exact hfs) (by exact hfp) (by exact hfm) (by omega) (by exact hT1) (by rw [sumI_s _ hi.1, hup]; unfold tmF; omega) (by omega) _ _ _ w (lv_sub hl [1, 2, 3, 0] rfl)
  have J16 : ∀ N : Nat, ∀ (om : Int) (cm : Int) (i : Int) (fs : Int → Int) (fp : Int → Int) (fm : Int → Int), (∀ j : Int, (-9223372036854775808 : Int) ≤ fs j ∧ fs j ≤ 9223372036854775807) → (∀ j : Int, (-9223372036854775808 : Int) ≤ fp j ∧ fp j ≤ 9223372036854775807) → (∀ j : Int, (-9223372036854775808 : Int) ≤ fm j ∧ fm j ≤ 9223372036854775807) → (∀ q, 0 ≤ q → q < 4 → fs q = (wN (ciX g p1) (gdX g) (z 17)) q) → (∀ q, 0 ≤ q → q < 4 → fp q = (wS (ciX g p1) (gdX g) (g 25) (z 17)) q) → (∀ q, 0 ≤ q → q < 4 → fm q = (wO (ciX g p1) (gdX g) (mkX g) p0 (z 17)) q) → (0 ≤ i ∧ i ≤ 4) → (om = sumI (wO (ciX g p1) (gdX g) (mkX g) p0 (z 17)) i) → (cm = prI (wN (ciX g p1) (gdX g) (z 17)) i) → ((4 - i).toNat) < N → ∀ (H : Heap) (locs : List Loc) (ls : Array Slot), wd D A s.heap (xw cy a z (uZ (uZ (uZ g 37 fs) 38 fp) 39 fm)) H locs → lv_has ls 10 [(0, .ref (a 36)), (3, vL om), (5, vL (sumI (MpF (ciX g p1) (mkX g) (g 25) p0) (z 17))), (7, vL cm), (9, vI i)] → W p l e (rm_X4_reckon) s m args below meth c H locs 0 0 Q (F0 m 16 ls []) := by
    intro N
    induction N with
    | zero => intro om cm i fs fp fm bfs bfp bfm hfs hfp hfm hi hom hcm hN9; exact absurd hN9 (Nat.not_lt_zero _)
    | succ N ih16 =>
      intro om cm i fs fp fm bfs bfp bfm hfs hfp hfm hi hom hcm hN16 H locs ls w hl
      have hTi := hTb i hi.1 hi.2
      refine lv_iload hx hb dX4_reckon_16 (lv_at hl 4 rfl) ?_
      refine r_iconst hx hb dX4_reckon_18 ?_
      refine r_icmp_ge (tgt := 54) hx hb dX4_reckon_19 (by decide) (by omega) (by omega) (fun c19 => ?_) (fun c19 => ?_)
      · skip
        refine lv_lload_n hx hb dX4_reckon_54 rfl (lv_at hl 1 rfl) ?_
        refine r_lconst (z := 1) hx hb dX4_reckon_55 (by decide) ?_
        refine r_lcif_ge (tgt := 62) hx hb dX4_reckon_56 dX4_reckon_57 (by decide) (by exact ⟨by omega, by omega⟩) (by exact ⟨by omega, by omega⟩) (fun c56 => ?_) (fun c56 => ?_)
        · skip
          have hT1 : 1 ≤ (wT (ciX g p1) (gdX g) (mkX g) p0 (z 17)) := by unfold wT; rw [show (4 : Int) = i by omega]; omega
          have eT : om = (wT (ciX g p1) (gdX g) (mkX g) p0 (z 17)) := by rw [hom, show i = 4 by omega]; rfl
          have eC : cm = (wC (ciX g p1) (gdX g) (z 17)) := by rw [hcm, show i = 4 by omega]; rfl
          skip
          refine lv_aload_n hx hb dX4_reckon_62 rfl (lv_at hl 0 rfl) ?_
          refine lv_lload hx hb dX4_reckon_63 (lv_at hl 2 rfl) ?_
          refine lv_lload hx hb dX4_reckon_65 (lv_at hl 3 rfl) ?_
          refine r_lmul hx hb dX4_reckon_67 ?_
          refine r_put C w 36 tyX4 tyX4_ok nmX4 rfl rfl 5 (by decide) inX4 kf_X4_39 rfl rfl rfl (Nat.le_of_ble_eq_true rfl) (ws' := xw cy a (uZ z 18 ((sumI (MpF (ciX g p1) (mkX g) (g 25) p0) (z 17)) * cm)) (uZ (uZ (uZ g 37 fs) 38 fp) 39 fm)) (xw_z18 cy a z (uZ (uZ (uZ g 37 fs) 38 fp) 39 fm) ((sumI (MpF (ciX g p1) (mkX g) (g 25) p0) (z 17)) * cm)) dX4_reckon_68 (fun H locs w => ?_)
          have bz3 : (-9223372036854775808 : Int) ≤ ((sumI (MpF (ciX g p1) (mkX g) (g 25) p0) (z 17)) * cm) ∧ (((sumI (MpF (ciX g p1) (mkX g) (g 25) p0) (z 17)) * cm) : Int) ≤ 9223372036854775807 := (by rw [eC]; exact ⟨by omega, by omega⟩)
          refine r_iconst hx hb dX4_reckon_71 ?_
          refine lv_istore (lv' := [(9, vI 0), (0, .ref (a 36)), (3, vL om), (5, vL (sumI (MpF (ciX g p1) (mkX g) (g 25) p0) (z 17))), (7, vL cm)]) hx hb dX4_reckon_72 hl (by decide) rfl (fun ls hl => ?_)
          rw [eT, eC] at hl
          exact J74 _ 0 fs fp fm ((sumI (MpF (ciX g p1) (mkX g) (g 25) p0) (z 17)) * cm) bz3 (by exact bfs) (by exact bfp) (by exact bfm) (by exact hfs) (by exact hfp) (by exact hfm) (by omega) (by exact hT1) (by rw [eC]; show _ = _ - 0; omega) (Nat.lt_succ_self _) _ _ _ w (lv_sub hl [1, 2, 4, 0] rfl)
        · skip
          have hT0 : (wT (ciX g p1) (gdX g) (mkX g) p0 (z 17)) < 1 := by unfold wT; rw [show (4 : Int) = i by omega]; omega
          refine r_iconst hx hb dX4_reckon_60 ?_
          exact hend 0 (z, (uZ (uZ (uZ g 37 fs) 38 fp) 39 fm)) _ _ _ _ dX4_reckon_61 w ⟨(by exact ⟨z 18, z 19, fs, fp, fm, by rw [uZ_id, uZ_id], rfl, Or.inl ⟨rfl, hT0⟩⟩), hz, (xBg_u (xBg_u (xBg_u hg 37 bfs) 38 bfp) 39 bfm)⟩
      · skip
        refine lv_lload_n hx hb dX4_reckon_22 rfl (lv_at hl 1 rfl) ?_
        refine lv_aload_n hx hb dX4_reckon_23 rfl (lv_at hl 0 rfl) ?_
        refine r_get C w 36 (v := .ref (a 39)) rfl rfl 4 (by decide) inX4 kf_X4_18 rfl dX4_reckon_24 ?_
        refine lv_iload hx hb dX4_reckon_27 (lv_at hl 4 rfl) ?_
        refine r_lald C w 39 (f := fm) rfl (by omega) (by omega) (by decide) dX4_reckon_29 ?_
        refine r_asL (v := ((wO (ciX g p1) (gdX g) (mkX g) p0 (z 17)) i)) (by exact hfm i hi.1 (by omega)) ?_
        refine r_ladd hx hb dX4_reckon_30 ?_
        refine lv_lstore_n (lv' := [(3, vL (om + ((wO (ciX g p1) (gdX g) (mkX g) p0 (z 17)) i))), (0, .ref (a 36)), (5, vL (sumI (MpF (ciX g p1) (mkX g) (g 25) p0) (z 17))), (7, vL cm), (9, vI i)]) hx hb dX4_reckon_31 rfl hl (by decide) rfl (fun ls hl => ?_)
        refine lv_lload hx hb dX4_reckon_32 (lv_at hl 3 rfl) ?_
        refine lv_aload_n hx hb dX4_reckon_34 rfl (lv_at hl 1 rfl) ?_
        refine r_get C w 36 (v := .ref (a 37)) rfl rfl 2 (by decide) inX4 kf_X4_9 rfl dX4_reckon_35 ?_
        refine lv_iload hx hb dX4_reckon_38 (lv_at hl 4 rfl) ?_
        refine r_lald C w 37 (f := fs) rfl (by omega) (by omega) (by decide) dX4_reckon_40 ?_
        have hNi := hWF i
        refine r_asL (v := ((wN (ciX g p1) (gdX g) (z 17)) i)) (by exact hfs i hi.1 (by omega)) ?_
        refine r_lconst (z := 1) hx hb dX4_reckon_41 (by decide) ?_
        refine r_mmaxL C km_X4_33 hl.1 (by decide) (Nat.le_of_ble_eq_true rfl) ⟨by decide, by decide⟩ (by exact ⟨by omega, by omega⟩) (by exact ⟨by omega, by omega⟩) dX4_reckon_42 (fun rv_3 hp_3 => ?_)
        refine r_asL (v := (n1 ((wN (ciX g p1) (gdX g) (z 17)) i))) (by refine n1_mx ?_; omega) ?_
        refine r_lmul hx hb dX4_reckon_45 ?_
        refine lv_lstore (lv' := [(7, vL (cm * (n1 ((wN (ciX g p1) (gdX g) (z 17)) i)))), (3, vL (om + ((wO (ciX g p1) (gdX g) (mkX g) p0 (z 17)) i))), (0, .ref (a 36)), (5, vL (sumI (MpF (ciX g p1) (mkX g) (g 25) p0) (z 17))), (9, vI i)]) hx hb dX4_reckon_46 hl (by decide) rfl (fun ls hl => ?_)
        refine r_iinc (lv' := [(9, vI (i + 1)), (7, vL (cm * (n1 ((wN (ciX g p1) (gdX g) (z 17)) i)))), (3, vL (om + ((wO (ciX g p1) (gdX g) (mkX g) p0 (z 17)) i))), (0, .ref (a 36)), (5, vL (sumI (MpF (ciX g p1) (mkX g) (g 25) p0) (z 17)))]) hx hb dX4_reckon_48 hl (k := 4) rfl (by decide) rfl (fun ls hl => ?_)
        refine lv_goto (tgt := 16) hx hb dX4_reckon_51 (by decide) ?_
        exact ih16 (om + ((wO (ciX g p1) (gdX g) (mkX g) p0 (z 17)) i)) (cm * (n1 ((wN (ciX g p1) (gdX g) (z 17)) i))) (i + 1) fs fp fm (by exact bfs) (by exact bfp) (by exact bfm) (by exact hfs) (by exact hfp) (by exact hfm) (by omega) (by rw [sumI_s _ hi.1, hom]) (by rw [prI_s _ hi.1, hcm]) (by omega) _ _ _ w (lv_sub hl [3, 2, 4, 1, 0] rfl)
  replace hl : lv_has ls 10 [(0, .ref (a 36)), (1, vI p0), (2, vI p1)] := hl
  refine r_lconst (z := 0) hx hb dX4_reckon_0 (by decide) ?_
  refine lv_lstore_n (lv' := [(3, vL 0), (0, .ref (a 36)), (1, vI p0), (2, vI p1)]) hx hb dX4_reckon_1 rfl hl (by decide) rfl (fun ls hl => ?_)
  refine lv_aload_n hx hb dX4_reckon_2 rfl (lv_at hl 1 rfl) ?_
  refine lv_iload_n hx hb dX4_reckon_3 rfl (lv_at hl 2 rfl) ?_
  refine lv_iload_n hx hb dX4_reckon_4 rfl (lv_at hl 3 rfl) ?_
  refine cVL C w hA (ct_X4_gather l D cy a z g p0 p1 hz hg (by show iR p0; omega) (by show iR p1; omega)) ok_X4_gather km_X4_29 ⟨rfl, rfl⟩ ⟨by decide, by decide⟩ ⟨by decide, by decide⟩ rfl 36 rfl rfl hl.1 rfl (Nat.le_of_ble_eq_true rfl) dX4_reckon_5 (fun rv_4 uv_4 H locs w hp_4 => ?_)
  obtain ⟨zc_4, gc_4⟩ := uv_4
  have hgc9 : xBg gc_4 := hp_4.2.2
  obtain ⟨hp_4, -, -⟩ := hp_4
  obtain ⟨ea_4, eb_4, fs, fp, fm, ec_4, hfs, hfp, hfm⟩ := hp_4
  replace eb_4 : z = zc_4 := eb_4.symm
  replace ec_4 : gc_4 = uZ (uZ (uZ g 37 fs) 38 fp) 39 fm := ec_4
  subst eb_4
  subst ec_4
  replace ea_4 : rv_4 = sumI (MpF (ciX g p1) (mkX g) (g 25) p0) (z 17) := ea_4
  have bfs : ∀ j : Int, (-9223372036854775808 : Int) ≤ fs j ∧ fs j ≤ 9223372036854775807 := fun j => by have q := hgc9 37 (by decide) j; exact q
  have bfp : ∀ j : Int, (-9223372036854775808 : Int) ≤ fp j ∧ fp j ≤ 9223372036854775807 := fun j => by have q := hgc9 38 (by decide) j; exact q
  have bfm : ∀ j : Int, (-9223372036854775808 : Int) ≤ fm j ∧ fm j ≤ 9223372036854775807 := fun j => by have q := hgc9 39 (by decide) j; exact q
  replace w : wd D A s.heap (xw cy a z (uZ (uZ (uZ g 37 fs) 38 fp) 39 fm)) H locs := w
  refine r_asL (v := (sumI (MpF (ciX g p1) (mkX g) (g 25) p0) (z 17))) (by assumption) ?_
  refine lv_lstore (lv' := [(5, vL (sumI (MpF (ciX g p1) (mkX g) (g 25) p0) (z 17))), (3, vL 0), (0, .ref (a 36)), (1, vI p0), (2, vI p1)]) hx hb dX4_reckon_8 hl (by decide) rfl (fun ls hl => ?_)
  refine r_lconst (z := 1) hx hb dX4_reckon_10 (by decide) ?_
  refine lv_lstore (lv' := [(7, vL 1), (5, vL (sumI (MpF (ciX g p1) (mkX g) (g 25) p0) (z 17))), (3, vL 0), (0, .ref (a 36)), (1, vI p0), (2, vI p1)]) hx hb dX4_reckon_11 hl (by decide) rfl (fun ls hl => ?_)
  refine r_iconst hx hb dX4_reckon_13 ?_
  refine lv_istore (lv' := [(9, vI 0), (7, vL 1), (5, vL (sumI (MpF (ciX g p1) (mkX g) (g 25) p0) (z 17))), (3, vL 0), (0, .ref (a 36)), (1, vI p0), (2, vI p1)]) hx hb dX4_reckon_14 hl (by decide) rfl (fun ls hl => ?_)
  exact J16 _ 0 1 0 fs fp fm (by exact bfs) (by exact bfp) (by exact bfm) (by exact hfs) (by exact hfp) (by exact hfm) (by omega) (by rfl) (by rfl) (Nat.lt_succ_self _) _ _ _ w (lv_sub hl [4, 3, 2, 1, 0] rfl)

abbrev rm_X10_common : Room := { frames := 0, cells := 0, slots := 0, locals := 0 }
set_option maxHeartbeats 4000000 in
set_option maxRecDepth 100000 in
theorem ct_X10_common (l : Launch) (D : va_G) (cy : Nat → ClassId) (a : Nat → Nat) (z : Nat → Int) (g : Nat → Int → Int) (p0 p1 : Int) (h0 : lR p0 ∧ -9223372036854775807 ≤ p0) (h1 : 1 ≤ p1 ∧ p1 ≤ 9223372036854775807) : ML l yX10_common cX10_common 10 (rm_X10_common) D cy (mw cy a z g) [vL p0, vL p1] (fun (v : Int) (u : Unit) => v = (Int.gcd p0 p1 : Int)) (fun _ => mw cy a z g) 0 0 := by
  refine go_l (by decide +kernel) (Nat.le_of_ble_eq_true rfl) ?_
  intro p e s m args below meth c Q A ls C hnm hA w hl hend
  have hx := C.1
  have hb := C.2.1
  have J17 : ∀ N : Nat, ∀ (x : Int) (y : Int), (0 ≤ x ∧ 0 ≤ y ∧ x ≤ 9223372036854775807 ∧ y ≤ 9223372036854775807) → (Int.gcd x y = Int.gcd p0 p1) → (y.toNat) < N → ∀ (H : Heap) (locs : List Loc) (ls : Array Slot), wd D A s.heap (mw cy a z g) H locs → lv_has ls 10 [(4, vL x), (6, vL y)] → W p l e (rm_X10_common) s m args below meth c H locs 0 0 Q (F0 m 17 ls []) := by
    intro N
    induction N with
    | zero => intro x y hxy hgc hN9; exact absurd hN9 (Nat.not_lt_zero _)
    | succ N ih17 =>
      intro x y hxy hgc hN17 H locs ls w hl
      refine lv_lload hx hb dX10_common_17 (lv_at hl 1 rfl) ?_
      refine r_lconst (z := 0) hx hb dX10_common_19 (by decide) ?_
      refine r_lcif_eq (tgt := 42) hx hb dX10_common_20 dX10_common_21 (by decide) (by exact ⟨by omega, by omega⟩) (by exact ⟨by omega, by omega⟩) (fun c20 => ?_) (fun c20 => ?_)
      · skip
        refine lv_lload hx hb dX10_common_42 (lv_at hl 0 rfl) ?_
        exact hend x () _ _ _ _ dX10_common_44 w (by rw [← hgc, show y = 0 by omega, Int.gcd_zero_right]; omega)
      · skip
        refine lv_lload hx hb dX10_common_24 (lv_at hl 0 rfl) ?_
        refine lv_lload hx hb dX10_common_26 (lv_at hl 1 rfl) ?_
        refine r_lrem hx hb dX10_common_28 (by exact ⟨by omega, by omega⟩) (by exact ⟨by omega, by omega⟩) (by omega) ?_
        refine lv_lstore (lv' := [(8, vL (Int.tmod x y)), (4, vL x), (6, vL y)]) hx hb dX10_common_29 hl (by decide) rfl (fun ls hl => ?_)
        refine lv_lload hx hb dX10_common_31 (lv_at hl 2 rfl) ?_
        refine lv_lstore (lv' := [(4, vL y), (8, vL (Int.tmod x y)), (6, vL y)]) hx hb dX10_common_33 hl (by decide) rfl (fun ls hl => ?_)
        refine lv_lload hx hb dX10_common_35 (lv_at hl 1 rfl) ?_
        refine lv_lstore (lv' := [(6, vL (Int.tmod x y)), (4, vL y), (8, vL (Int.tmod x y))]) hx hb dX10_common_37 hl (by decide) rfl (fun ls hl => ?_)
        refine lv_goto (tgt := 17) hx hb dX10_common_39 (by decide) ?_
        exact ih17 y (Int.tmod x y) (by rw [tmd hxy.1]; have q1 := Int.emod_nonneg x (show y ≠ 0 by omega); have q2 := Int.emod_lt_of_pos x (show 0 < y by omega); omega) (by rw [gcd_st hxy.1 hxy.2.1]; exact hgc) (by rw [tmd hxy.1]; have q1 := Int.emod_nonneg x (show y ≠ 0 by omega); have q2 := Int.emod_lt_of_pos x (show 0 < y by omega); omega) _ _ _ w (lv_sub hl [1, 0] rfl)
  replace hl : lv_has ls 10 [(0, vL p0), (2, vL p1)] := hl
  refine lv_lload_n hx hb dX10_common_0 rfl (lv_at hl 0 rfl) ?_
  refine r_lconst (z := 0) hx hb dX10_common_1 (by decide) ?_
  refine r_lcif_ge (tgt := 11) hx hb dX10_common_2 dX10_common_3 (by decide) (by exact ⟨by unfold lR at h0; omega, by unfold lR at h0; omega⟩) (by exact ⟨by omega, by omega⟩) (fun c2 => ?_) (fun c2 => ?_)
  · skip
    refine lv_lload_n hx hb dX10_common_11 rfl (lv_at hl 0 rfl) ?_
    refine lv_lstore (lv' := [(4, vL p0), (0, vL p0), (2, vL p1)]) hx hb dX10_common_12 hl (by decide) rfl (fun ls hl => ?_)
    refine lv_lload_n hx hb dX10_common_14 rfl (lv_at hl 2 rfl) ?_
    refine lv_lstore (lv' := [(6, vL p1), (4, vL p0), (0, vL p0), (2, vL p1)]) hx hb dX10_common_15 hl (by decide) rfl (fun ls hl => ?_)
    exact J17 _ p0 p1 (by unfold lR at h0; omega) (by first | rfl | exact Int.neg_gcd) (Nat.lt_succ_self _) _ _ _ w (lv_sub hl [1, 0] rfl)
  · skip
    refine lv_lload_n hx hb dX10_common_6 rfl (lv_at hl 0 rfl) ?_
    refine r_lneg hx hb dX10_common_7 ?_
    refine lv_goto (tgt := 12) hx hb dX10_common_8 (by decide) ?_
    refine lv_lstore (lv' := [(4, vL (-p0)), (0, vL p0), (2, vL p1)]) hx hb dX10_common_12 hl (by decide) rfl (fun ls hl => ?_)
    refine lv_lload_n hx hb dX10_common_14 rfl (lv_at hl 2 rfl) ?_
    refine lv_lstore (lv' := [(6, vL p1), (4, vL (-p0)), (0, vL p0), (2, vL p1)]) hx hb dX10_common_15 hl (by decide) rfl (fun ls hl => ?_)
    exact J17 _ (-p0) p1 (by unfold lR at h0; omega) (by first | rfl | exact Int.neg_gcd) (Nat.lt_succ_self _) _ _ _ w (lv_sub hl [1, 0] rfl)
