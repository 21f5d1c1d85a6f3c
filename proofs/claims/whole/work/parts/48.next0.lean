/-! rules of the reference: tokens -/
theorem lI_n64 (n : Nat) : Int64.ofNat n = lI n := Int64.ofInt_eq_ofNat.symm
theorem lI_shl8 (a : Int) : lI a <<< ((iI 8).toInt64 &&& 63) = lI (a * 256) := by
  have h : ((iI 8).toInt64 &&& 63) = 8 := by decide
  rw [h, ← lI_mul]
  apply Int64.toBitVec_inj.mp
  show (lI a).toBitVec <<< ((8 : Int64).toBitVec.smod 64) = (lI a).toBitVec * (lI 256).toBitVec
  rw [show ((8 : Int64).toBitVec.smod 64) = 8#64 by decide, BitVec.shiftLeft_eq', show (8#64).toNat = 8 from rfl, BitVec.shiftLeft_eq_mul_twoPow, show BitVec.twoPow 64 8 = (lI 256).toBitVec by decide]
theorem lI_or8 {a b : Int} (ha : 0 ≤ a) (hb : 0 ≤ b) (h : b < 256) : lI (a * 256) ||| lI b = lI (a * 256 + b) := by
  obtain ⟨n, rfl⟩ := Int.eq_ofNat_of_zero_le ha
  obtain ⟨q, rfl⟩ := Int.eq_ofNat_of_zero_le hb
  have hq : q < 2 ^ 8 := by omega
  have e1 : (n : Int) * 256 = ((2 ^ 8 * n : Nat) : Int) := by omega
  rw [e1, ← lI_n64, ← lI_n64, show ((2 ^ 8 * n : Nat) : Int) + (q : Int) = ((2 ^ 8 * n + q : Nat) : Int) by omega, ← lI_n64]
  apply Int64.toBitVec_inj.mp
  show BitVec.ofNat 64 _ ||| BitVec.ofNat 64 _ = BitVec.ofNat 64 _
  rw [Nat.two_pow_add_eq_or_of_lt hq]
  apply BitVec.eq_of_getLsbD_eq
  intro i hi
  simp [hi]
section RL8
variable {p : Program} {l : Launch} {e : Env} {R : Room} {s : State} {m : MethodId} {args : Array Value} {below : List Frame} {meth : Method} {c : Code} {H : Heap} {locs : List Loc} {cells slots : Nat} {Q : State → Prop}
variable {cc : ByteArray} {pc : Nat} {ls : Array Slot} {rest : List Value}
theorem r_lshl8 (hx : p.tables.exec = Jvm.exec) (hb : c.code = cc) {a : Int} (hdg : decode cc pc = .ok (.lshl, 1)) (kk : W p l e R s m args below meth c H locs cells slots Q (F0 m (pc + 1) ls (vL (a * 256) :: rest))) : W p l e R s m args below meth c H locs cells slots Q (F0 m pc ls (vI 8 :: vL a :: rest)) := lv_lshl hx hb hdg (lI_shl8 a) kk
theorem r_lor8 (hx : p.tables.exec = Jvm.exec) (hb : c.code = cc) {a b : Int} (hdg : decode cc pc = .ok (.lor, 1)) (ha : 0 ≤ a) (hb2 : 0 ≤ b ∧ b < 256) (kk : W p l e R s m args below meth c H locs cells slots Q (F0 m (pc + 1) ls (vL (a * 256 + b) :: rest))) : W p l e R s m args below meth c H locs cells slots Q (F0 m pc ls (vL b :: vL (a * 256) :: rest)) := lv_lor hx hb hdg (by rw [lI_or8 ha hb2.1 hb2.2]; exact kk)
end RL8
abbrev bM (z : Nat → Int) (g : Nat → Int → Int) : Int → Int := bt (fun j => g 1 j % 256) (z 2)
theorem bM_b (z : Nat → Int) (g : Nat → Int → Int) (j : Int) : 0 ≤ bM z g j ∧ bM z g j ≤ 255 := by
  unfold bM bt
  by_cases h : 0 ≤ j ∧ j < z 2
  · rw [if_pos h]
    show 0 ≤ g 1 j % 256 ∧ g 1 j % 256 ≤ 255
    omega
  · rw [if_neg h]
    omega
theorem peek_1 {z : Nat → Int} {g : Nat → Int → Int} (h0 : 0 ≤ z 3) (h : z 3 < z 2) : g 1 (z 3) % 2 ^ 8 = bM z g (z 3) := by
  unfold bM
  rw [bt_in ⟨h0, h⟩]
  show g 1 (z 3) % 2 ^ 8 = g 1 (z 3) % 256
  omega
theorem nvZ_c {b : Int → Int} {s : Int} : ∀ {m : Nat}, (∀ j, s ≤ j → j < s + m → isLD (b j)) → 0 ≤ nvZ b s m ∧ nvZ b s m ≤ 9 * 10 ^ m - 9
  | 0, _ => by simp [nvZ]
  | m + 1, h => by
    have ih := nvZ_c (b := b) (s := s) (m := m) (fun j h1 h2 => h j h1 (by omega))
    have h1 := h (s + m) (by omega) (by omega)
    show 0 ≤ nvZ b s m * 10 + b (s + m) - 48 ∧ nvZ b s m * 10 + b (s + m) - 48 ≤ 9 * 10 ^ (m + 1) - 9
    rw [Int.pow_succ]
    omega
theorem nv_c {b : Int → Int} {s e : Int} (h0 : s ≤ e) (h1 : e - s ≤ 4) (h : ∀ j, s ≤ j → j < e → isLD (b j)) : 0 ≤ nv b s e ∧ nv b s e ≤ 89991 := by
  have := nvZ_c (b := b) (s := s) (m := (e - s).toNat) (fun j h1 h2 => h j h1 (by omega))
  unfold nv
  rcases (show (e - s).toNat = 0 ∨ (e - s).toNat = 1 ∨ (e - s).toNat = 2 ∨ (e - s).toNat = 3 ∨ (e - s).toNat = 4 by omega) with q | q | q | q | q <;> rw [q] at this ⊢ <;> simp at this ⊢ <;> omega
theorem pwd_b {b : Int → Int} {s e : Int} (h0 : s ≤ e) (h1 : e - s ≤ 8) (h : ∀ j, s ≤ j → j < e → isLD (b j)) : 0 ≤ pwd b s e ∧ pwd b s e ≤ 9223372036854775807 := by
  have := pkZ_b (b := b) (s := s) (m := (e - s).toNat) (fun j h1 h2 => by have := h j h1 (by omega); omega)
  unfold pwd
  rcases (show (e - s).toNat = 0 ∨ (e - s).toNat = 1 ∨ (e - s).toNat = 2 ∨ (e - s).toNat = 3 ∨ (e - s).toNat = 4 ∨ (e - s).toNat = 5 ∨ (e - s).toNat = 6 ∨ (e - s).toNat = 7 ∨ (e - s).toNat = 8 by omega) with q | q | q | q | q | q | q | q | q <;> rw [q] at this ⊢ <;> simp at this ⊢ <;> omega
def frB (f z : Nat → Int) : Prop := ∀ k, k < 3 ∨ (6 < k ∧ k < 10) ∨ 10 < k → f k = z k
theorem frB_0 (z : Nat → Int) : frB z z := fun _ _ => rfl
theorem frB_u {f z : Nat → Int} (h : frB f z) {j : Nat} {v : Int} (h1 : (3 ≤ j ∧ j ≤ 6) ∨ j = 10) : frB (uZ f j v) z := fun k hk => by rw [uZ_n _ _ (by omega)]; exact h k hk
def isI (b : Int → Int) (s p sm is : Int) : Prop := (is = 1 ∧ sm = 1 ∧ ∀ j, s ≤ j → j < p → isLt (b j)) ∨ (is = 1 ∧ sm = 0 ∧ ∀ j, s ≤ j → j < p → isDg (b j)) ∨ (is = 0 ∧ (∃ j, s ≤ j ∧ j < p ∧ isLt (b j)) ∧ ∃ j, s ≤ j ∧ j < p ∧ isDg (b j))
theorem isI_b {b : Int → Int} {s p sm is : Int} (h : isI b s p sm is) : is = 0 ∨ is = 1 := by
  rcases h with h | h | h <;> omega
theorem isI_0 {b : Int → Int} {s sm : Int} (h : sm = 0 ∨ sm = 1) : isI b s s sm 1 := by
  rcases h with h | h
  · exact Or.inr (Or.inl ⟨rfl, h, fun j h1 h2 => by omega⟩)
  · exact Or.inl ⟨rfl, h, fun j h1 h2 => by omega⟩
theorem isI_st {b : Int → Int} {s p sm is is2 t : Int} (h : isI b s p sm is) (hs : s ≤ p) (hsm : (sm = 1 ∧ isLt (b s)) ∨ (sm = 0 ∧ isDg (b s))) (ht : (t = 1 ∧ isLt (b p)) ∨ (t = 0 ∧ isDg (b p))) (h2 : (is = 0 ∧ is2 = 0) ∨ (is ≠ 0 ∧ t = sm ∧ is2 = 1) ∨ (is ≠ 0 ∧ t ≠ sm ∧ is2 = 0)) : isI b s (p + 1) sm is2 := by
  rcases h with ⟨a1, a2, a3⟩ | ⟨a1, a2, a3⟩ | ⟨a1, ⟨j, j1, j2, j3⟩, k, k1, k2, k3⟩
  · by_cases q : t = sm
    · exact Or.inl ⟨by omega, a2, al_s a3 (by omega)⟩
    · refine Or.inr (Or.inr ⟨by omega, ⟨s, by omega, by omega, by omega⟩, p, hs, by omega, by omega⟩)
  · by_cases q : t = sm
    · exact Or.inr (Or.inl ⟨by omega, a2, al_s a3 (by omega)⟩)
    · refine Or.inr (Or.inr ⟨by omega, ⟨p, hs, by omega, by omega⟩, s, by omega, by omega, by omega⟩)
  · exact Or.inr (Or.inr ⟨by omega, ⟨j, j1, by omega, j3⟩, k, k1, by omega, k3⟩)
theorem isI_k {b : Int → Int} {s p sm is k : Int} (h : isI b s p sm is) (hs : s < p) (hsm : (sm = 1 ∧ isLt (b s)) ∨ (sm = 0 ∧ isDg (b s))) (hk : (is = 0 ∧ k = 4) ∨ (is ≠ 0 ∧ sm = 0 ∧ 4 < p - s ∧ k = 4) ∨ (is ≠ 0 ∧ sm = 0 ∧ p - s ≤ 4 ∧ k = 2) ∨ (is ≠ 0 ∧ sm ≠ 0 ∧ k = 1)) : kRun b s p k := by
  rcases h with ⟨a1, a2, a3⟩ | ⟨a1, a2, a3⟩ | ⟨a1, ⟨j, j1, j2, j3⟩, q, k1, k2, k3⟩
  · exact Or.inl ⟨by omega, a3⟩
  · by_cases h4 : p - s ≤ 4
    · exact Or.inr (Or.inl ⟨by omega, a3, h4⟩)
    · refine Or.inr (Or.inr ⟨by omega, fun z => ?_, fun z => h4 z.2⟩)
      have := z s (by omega) hs
      omega
  · refine Or.inr (Or.inr ⟨by omega, fun z => ?_, fun z => ?_⟩)
    · have := z q k1 k2
      omega
    · have := z.1 j j1 j2
      omega
def isSt (b : Int → Int) (n p s : Int) : Prop := p ≤ s ∧ s < n ∧ (∀ j, p ≤ j → j < s → b j = 32 ∨ b j = 10) ∧ isLD (b s)
def wdI (b : Int → Int) (s p w : Int) : Prop := p - s ≤ 8 → w = pwd b s p
def nmI (b : Int → Int) (s p n : Int) : Prop := p - s ≤ 4 → n = nv b s p

abbrev rm_X10_peek : Room := { frames := 0, cells := 0, slots := 0, locals := 0 }
set_option maxHeartbeats 4000000 in
set_option maxRecDepth 100000 in
theorem ct_X10_peek (l : Launch) (D : va_G) (cy : Nat → ClassId) (a : Nat → Nat) (z : Nat → Int) (g : Nat → Int → Int)  (hz : mBz z) (hg : mBg g) : MI l yX10_peek cX10_peek 1 .int (rm_X10_peek) D cy (mw cy a z g) [.ref (a 0)] (fun (v : Int) (u : Unit) => (z 3 < z 2 ∧ v = bM z g (z 3)) ∨ (z 2 ≤ z 3 ∧ v = -1)) (fun _ => mw cy a z g) 0 0 := by
  refine go_i (by decide +kernel) (Nat.le_of_ble_eq_true rfl) (Or.inl rfl) ?_
  intro p e s m args below meth c Q A ls C hnm hA w hl hend
  have hx := C.1
  have hb := C.2.1
  have b3_ := mZ3 hz
  have b2_ := mZ2 hz
  replace hl : lv_has ls 1 [(0, .ref (a 0))] := hl
  refine lv_aload_n hx hb dX10_peek_0 rfl (lv_at hl 0 rfl) ?_
  refine r_get C w 0 (v := vI (z 3)) rfl rfl 4 (by decide) inX10 kf_X10_111 rfl dX10_peek_1 ?_
  have qz1 := mZ3 hz
  refine lv_aload_n hx hb dX10_peek_4 rfl (lv_at hl 0 rfl) ?_
  refine r_get C w 0 (v := vI (z 2)) rfl rfl 3 (by decide) inX10 kf_X10_108 rfl dX10_peek_5 ?_
  have qz2 := mZ2 hz
  refine r_icmp_ge (tgt := 27) hx hb dX10_peek_8 (by decide) (by omega) (by omega) (fun c8 => ?_) (fun c8 => ?_)
  · skip
    refine r_iconst hx hb dX10_peek_27 ?_
    exact hend (-1) () _ _ _ _ dX10_peek_28 w (by first | exact Or.inl ⟨c8, peek_1 b3_.1 c8⟩ | exact Or.inr ⟨c8, rfl⟩)
  · skip
    refine lv_aload_n hx hb dX10_peek_11 rfl (lv_at hl 0 rfl) ?_
    refine r_get C w 0 (v := .ref (a 1)) rfl rfl 1 (by decide) inX10 kf_X10_7 rfl dX10_peek_12 ?_
    refine lv_aload_n hx hb dX10_peek_15 rfl (lv_at hl 0 rfl) ?_
    refine r_get C w 0 (v := vI (z 3)) rfl rfl 4 (by decide) inX10 kf_X10_111 rfl dX10_peek_16 ?_
    have qz3 := mZ3 hz
    refine r_bald C w 1 (f := (g 1)) rfl (by omega) (by omega) (by decide) dX10_peek_19 ?_
    have qg4 := mB1 hg (z 3)
    refine r_sipush hx hb dX10_peek_20 (by decide) ?_
    refine r_iand hx hb 8 dX10_peek_23 rfl (by decide) ?_
    refine lv_goto (tgt := 28) hx hb dX10_peek_24 (by decide) ?_
    exact hend (((g 1) (z 3)) % 2 ^ 8) () _ _ _ _ dX10_peek_28 w (by first | exact Or.inl ⟨c8, peek_1 b3_.1 c8⟩ | exact Or.inr ⟨c8, rfl⟩)

abbrev rm_X10_isSmall : Room := { frames := 0, cells := 0, slots := 0, locals := 0 }
set_option maxHeartbeats 4000000 in
set_option maxRecDepth 100000 in
theorem ct_X10_isSmall (l : Launch) (D : va_G) (cy : Nat → ClassId) (a : Nat → Nat) (z : Nat → Int) (g : Nat → Int → Int) (p0 : Int) (h0 : iR p0) : MI l yX10_isSmall cX10_isSmall 1 .boolean (rm_X10_isSmall) D cy (mw cy a z g) [vI p0] (fun (v : Int) (u : Unit) => (v = 1 ∧ 97 ≤ p0 ∧ p0 ≤ 122) ∨ (v = 0 ∧ ¬ (97 ≤ p0 ∧ p0 ≤ 122))) (fun _ => mw cy a z g) 0 0 := by
  refine go_i (by decide +kernel) (Nat.le_of_ble_eq_true rfl) (Or.inr (fun v u h => nb01 (by omega))) ?_
  intro p e s m args below meth c Q A ls C hnm hA w hl hend
  have hx := C.1
  have hb := C.2.1
  replace hl : lv_has ls 1 [(0, vI p0)] := hl
  refine lv_iload_n hx hb dX10_isSmall_0 rfl (lv_at hl 0 rfl) ?_
  refine r_bipush hx hb dX10_isSmall_1 (by decide) ?_
  refine r_icmp_lt (tgt := 16) hx hb dX10_isSmall_3 (by decide) (by omega) (by omega) (fun c3 => ?_) (fun c3 => ?_)
  · skip
    refine r_iconst hx hb dX10_isSmall_16 ?_
    exact hend 0 () _ _ _ _ dX10_isSmall_17 w (by omega)
  · skip
    refine lv_iload_n hx hb dX10_isSmall_6 rfl (lv_at hl 0 rfl) ?_
    refine r_bipush hx hb dX10_isSmall_7 (by decide) ?_
    refine r_icmp_gt (tgt := 16) hx hb dX10_isSmall_9 (by decide) (by omega) (by omega) (fun c9 => ?_) (fun c9 => ?_)
    · skip
      refine r_iconst hx hb dX10_isSmall_16 ?_
      exact hend 0 () _ _ _ _ dX10_isSmall_17 w (by omega)
    · skip
      refine r_iconst hx hb dX10_isSmall_12 ?_
      refine lv_goto (tgt := 17) hx hb dX10_isSmall_13 (by decide) ?_
      exact hend 1 () _ _ _ _ dX10_isSmall_17 w (by omega)

abbrev rm_X10_isDigit : Room := { frames := 0, cells := 0, slots := 0, locals := 0 }
set_option maxHeartbeats 4000000 in
set_option maxRecDepth 100000 in
theorem ct_X10_isDigit (l : Launch) (D : va_G) (cy : Nat → ClassId) (a : Nat → Nat) (z : Nat → Int) (g : Nat → Int → Int) (p0 : Int) (h0 : iR p0) : MI l yX10_isDigit cX10_isDigit 1 .boolean (rm_X10_isDigit) D cy (mw cy a z g) [vI p0] (fun (v : Int) (u : Unit) => (v = 1 ∧ 48 ≤ p0 ∧ p0 ≤ 57) ∨ (v = 0 ∧ ¬ (48 ≤ p0 ∧ p0 ≤ 57))) (fun _ => mw cy a z g) 0 0 := by
  refine go_i (by decide +kernel) (Nat.le_of_ble_eq_true rfl) (Or.inr (fun v u h => nb01 (by omega))) ?_
  intro p e s m args below meth c Q A ls C hnm hA w hl hend
  have hx := C.1
  have hb := C.2.1
  replace hl : lv_has ls 1 [(0, vI p0)] := hl
  refine lv_iload_n hx hb dX10_isDigit_0 rfl (lv_at hl 0 rfl) ?_
  refine r_bipush hx hb dX10_isDigit_1 (by decide) ?_
  refine r_icmp_lt (tgt := 16) hx hb dX10_isDigit_3 (by decide) (by omega) (by omega) (fun c3 => ?_) (fun c3 => ?_)
  · skip
    refine r_iconst hx hb dX10_isDigit_16 ?_
    exact hend 0 () _ _ _ _ dX10_isDigit_17 w (by omega)
  · skip
    refine lv_iload_n hx hb dX10_isDigit_6 rfl (lv_at hl 0 rfl) ?_
    refine r_bipush hx hb dX10_isDigit_7 (by decide) ?_
    refine r_icmp_gt (tgt := 16) hx hb dX10_isDigit_9 (by decide) (by omega) (by omega) (fun c9 => ?_) (fun c9 => ?_)
    · skip
      refine r_iconst hx hb dX10_isDigit_16 ?_
      exact hend 0 () _ _ _ _ dX10_isDigit_17 w (by omega)
    · skip
      refine r_iconst hx hb dX10_isDigit_12 ?_
      refine lv_goto (tgt := 17) hx hb dX10_isDigit_13 (by decide) ?_
      exact hend 1 () _ _ _ _ dX10_isDigit_17 w (by omega)

theorem wrv_1a {b : Int → Int} {s p w : Int} (h : p - s ≤ 8) (hw : wdI b s p w) : w = wrv b s p := by
  unfold wrv
  rw [if_pos h]
  exact hw h
theorem wrv_1b {b : Int → Int} {s p : Int} (h : ¬ p - s ≤ 8) : 0 = wrv b s p := by
  unfold wrv
  rw [if_neg h]
abbrev rm_X10_next0 : Room := { frames := 1, cells := 0, slots := 0, locals := 20 }
set_option maxHeartbeats 4000000 in
set_option maxRecDepth 100000 in
theorem ct_X10_next0 (l : Launch) (D : va_G) (cy : Nat → ClassId) (a : Nat → Nat) (z : Nat → Int) (g : Nat → Int → Int)  (hz : mBz z) (hg : mBg g) (h3 : z 3 ≤ z 2) : MV l yX10_next0 cX10_next0 5 (rm_X10_next0) D cy (mw cy a z g) [.ref (a 0)] (fun (u : sX) => (∃ s e k : Int, isTok (bM z g) (z 2) (z 3) s e k ∧ u.2 = g ∧ u.1 5 = s ∧ u.1 3 = e ∧ u.1 4 = k ∧ (k = 2 → u.1 6 = nv (bM z g) s e) ∧ (k = 1 → u.1 10 = wrv (bM z g) s e) ∧ frB u.1 z) ∧ mBz u.1 ∧ mBg u.2) (fun u => mw cy a u.1 u.2) 0 0 := by
  refine go_v (by decide +kernel) (Nat.le_of_ble_eq_true rfl) ?_
  intro p e s m args below meth c Q A ls C hnm hA w hl hend
  have hx := C.1
  have hb := C.2.1
  have b2_ := mZ2 hz
  have b3_ := mZ3 hz
  have J114 : ∀ N : Nat, ∀ (sm : Int) (is : Int) (nn : Int) (s1 : Int) (p2 : Int) (num : Int) (wq : Int), ((0 : Int) ≤ p2 ∧ p2 ≤ 200) → ((-2147483648 : Int) ≤ num ∧ num ≤ 2147483647) → ((-9223372036854775808 : Int) ≤ wq ∧ wq ≤ 9223372036854775807) → ((0 : Int) ≤ s1 ∧ s1 ≤ 200) → (isSt (bM z g) (z 2) (z 3) s1) → ((sm = 1 ∧ isLt (bM z g s1)) ∨ (sm = 0 ∧ isDg (bM z g s1))) → (s1 ≤ p2 ∧ p2 ≤ z 2) → (nn = p2 - s1) → (∀ j, s1 ≤ j → j < p2 → isLD (bM z g j)) → (isI (bM z g) s1 p2 sm is) → (nmI (bM z g) s1 p2 num) → (wdI (bM z g) s1 p2 wq) → ((z 2 - p2).toNat) < N → ∀ (H : Heap) (locs : List Loc) (ls : Array Slot), wd D A s.heap (mw cy a (uZ (uZ (uZ (uZ z 5 s1) 3 p2) 6 num) 10 wq) g) H locs → lv_has ls 5 [(0, .ref (a 0)), (2, vI sm), (3, vI is), (4, vI nn)] → W p l e (rm_X10_next0) s m args below meth c H locs 0 0 Q (F0 m 114 ls []) := by
    intro N
    induction N with
    | zero => intro sm is nn s1 p2 num wq bp2 bnum bwq bs1 hst hsm hp2 hnn hall hI hnm hwd hN9; exact absurd hN9 (Nat.not_lt_zero _)
    | succ N ih114 =>
      intro sm is nn s1 p2 num wq bp2 bnum bwq bs1 hst hsm hp2 hnn hall hI hnm hwd hN114 H locs ls w hl
      have hst1 := hst.1
      have hst2 := hst.2.1
      have hIb := isI_b hI
      have J204 : ∀ (is3 : Int) (wd3 : Int) (num3 : Int), ((-9223372036854775808 : Int) ≤ wd3 ∧ wd3 ≤ 9223372036854775807) → ((-2147483648 : Int) ≤ num3 ∧ num3 ≤ 2147483647) → (p2 < z 2 ∧ isLD (bM z g p2)) → (isI (bM z g) s1 (p2 + 1) sm is3) → (wdI (bM z g) s1 (p2 + 1) wd3) → (nmI (bM z g) s1 (p2 + 1) num3) → ∀ (H : Heap) (locs : List Loc) (ls : Array Slot), wd D A s.heap (mw cy a (uZ (uZ (uZ (uZ z 5 s1) 3 p2) 10 wd3) 6 num3) g) H locs → lv_has ls 5 [(0, .ref (a 0)), (2, vI sm), (3, vI is3), (4, vI nn)] → W p l e (rm_X10_next0) s m args below meth c H locs 0 0 Q (F0 m 204 ls []) := by
        intro is3 wd3 num3 bwd3 bnum3 hc2 hI3 hwd3 hnm3 H locs ls w hl
        refine r_iinc (lv' := [(4, vI (nn + 1)), (0, .ref (a 0)), (2, vI sm), (3, vI is3)]) hx hb dX10_next0_204 hl (k := 3) rfl (by decide) rfl (fun ls hl => ?_)
        refine lv_aload_n hx hb dX10_next0_207 rfl (lv_at hl 1 rfl) ?_
        refine lv_dup hx hb dX10_next0_208 rfl ?_
        refine r_get C w 0 (v := vI p2) rfl rfl 4 (by decide) inX10 kf_X10_111 rfl dX10_next0_209 ?_
        refine r_iconst hx hb dX10_next0_212 ?_
        refine r_iadd hx hb dX10_next0_213 ?_
        refine r_put C w 0 tyX10 tyX10_ok nmX10 rfl rfl 4 (by decide) inX10 kf_X10_111 rfl rfl rfl (Nat.le_of_ble_eq_true rfl) (ws' := mw cy a (uZ (uZ (uZ (uZ z 5 s1) 3 (p2 + 1)) 10 wd3) 6 num3) g) rfl dX10_next0_214 (fun H locs w => ?_)
        have bz1 : (0 : Int) ≤ (p2 + 1) ∧ ((p2 + 1) : Int) ≤ 200 := (by omega)
        refine lv_goto (tgt := 114) hx hb dX10_next0_217 (by decide) ?_
        exact ih114 sm is3 (nn + 1) s1 (p2 + 1) num3 wd3 bz1 bnum3 bwd3 (by exact bs1) (by exact hst) (by exact hsm) (by omega) (by omega) (by exact al_s hall hc2.2) (by exact hI3) (by exact hnm3) (by exact hwd3) (by omega) _ _ _ w (lv_sub hl [1, 2, 3, 0] rfl)
      have J179 : ∀ (is3 : Int) (wd3 : Int), ((-9223372036854775808 : Int) ≤ wd3 ∧ wd3 ≤ 9223372036854775807) → (p2 < z 2 ∧ isLD (bM z g p2)) → (isI (bM z g) s1 (p2 + 1) sm is3) → (wdI (bM z g) s1 (p2 + 1) wd3) → ∀ (H : Heap) (locs : List Loc) (ls : Array Slot), wd D A s.heap (mw cy a (uZ (uZ (uZ (uZ z 5 s1) 3 p2) 6 num) 10 wd3) g) H locs → lv_has ls 5 [(0, .ref (a 0)), (2, vI sm), (3, vI is3), (4, vI nn)] → W p l e (rm_X10_next0) s m args below meth c H locs 0 0 Q (F0 m 179 ls []) := by
        intro is3 wd3 bwd3 hc2 hI3 hwd3 H locs ls w hl
        have hBc := bM_b z g p2
        refine lv_iload hx hb dX10_next0_179 (lv_at hl 3 rfl) ?_
        refine r_iconst hx hb dX10_next0_181 ?_
        refine r_icmp_ge (tgt := 204) hx hb dX10_next0_182 (by decide) (by omega) (by omega) (fun c182 => ?_) (fun c182 => ?_)
        · skip
          exact J204 is3 wd3 num bwd3 bnum (by exact ⟨by omega, by omega⟩) (by exact hI3) (by exact hwd3) (by intro q; omega) _ _ _ w (lv_sub hl [0, 1, 2, 3] rfl)
        · skip
          have hnv := hnm (by omega)
          have hnb := nv_c hp2.1 (by omega) hall
          have hns := nv_s (bM z g) hp2.1
          refine lv_aload_n hx hb dX10_next0_185 rfl (lv_at hl 0 rfl) ?_
          refine r_bipush hx hb dX10_next0_186 (by decide) ?_
          refine lv_aload_n hx hb dX10_next0_188 rfl (lv_at hl 0 rfl) ?_
          refine r_get C w 0 (v := vI num) rfl rfl 10 (by decide) inX10 kf_X10_135 rfl dX10_next0_189 ?_
          refine r_imul hx hb dX10_next0_192 ?_
          refine lv_aload_n hx hb dX10_next0_193 rfl (lv_at hl 0 rfl) ?_
          refine cVI C w hA (ct_X10_peek l D cy a (uZ (uZ (uZ (uZ z 5 s1) 3 p2) 6 num) 10 wd3) g  (mBz_u (mBz_u (mBz_u (mBz_u hz 5 bs1) 3 bp2) 6 bnum) 10 bwd3) hg) ok_X10_peek km_X10_114 ⟨rfl, rfl⟩ ⟨by decide, by decide⟩ ⟨by decide, by decide⟩ rfl 0 rfl rfl hl.1 rfl (Nat.le_of_ble_eq_true rfl) dX10_next0_194 (fun rv_1 uv_1 H locs w hp_1 => ?_)
          replace hp_1 : (p2 < (z 2) ∧ rv_1 = bM z g p2) ∨ ((z 2) ≤ p2 ∧ rv_1 = -1) := hp_1
          replace w : wd D A s.heap (mw cy a (uZ (uZ (uZ (uZ z 5 s1) 3 p2) 6 num) 10 wd3) g) H locs := w
          have hBb1 := bM_b z g p2
          refine r_iadd hx hb dX10_next0_197 ?_
          refine r_bipush hx hb dX10_next0_198 (by decide) ?_
          refine r_isub hx hb dX10_next0_200 ?_
          refine r_put C w 0 tyX10 tyX10_ok nmX10 rfl rfl 10 (by decide) inX10 kf_X10_135 rfl rfl rfl (Nat.le_of_ble_eq_true rfl) (ws' := mw cy a (uZ (uZ (uZ (uZ z 5 s1) 3 p2) 6 (((10 * num) + rv_1) - 48)) 10 wd3) g) rfl dX10_next0_201 (fun H locs w => ?_)
          have bz2 : (-2147483648 : Int) ≤ (((10 * num) + rv_1) - 48) ∧ ((((10 * num) + rv_1) - 48) : Int) ≤ 2147483647 := (by rw [hnv]; exact ⟨by omega, by omega⟩)
          exact J204 is3 wd3 (((10 * num) + rv_1) - 48) bwd3 bz2 (by exact ⟨by omega, by omega⟩) (by exact hI3) (by exact hwd3) (by intro q; rw [hns, ← hnv]; omega) _ _ _ w (lv_sub hl [0, 1, 2, 3] rfl)
      have J155 : ∀ (is3 : Int), (p2 < z 2 ∧ isLD (bM z g p2)) → (isI (bM z g) s1 (p2 + 1) sm is3) → ∀ (H : Heap) (locs : List Loc) (ls : Array Slot), wd D A s.heap (mw cy a (uZ (uZ (uZ (uZ z 5 s1) 3 p2) 6 num) 10 wq) g) H locs → lv_has ls 5 [(0, .ref (a 0)), (2, vI sm), (3, vI is3), (4, vI nn)] → W p l e (rm_X10_next0) s m args below meth c H locs 0 0 Q (F0 m 155 ls []) := by
        intro is3 hc2 hI3 H locs ls w hl
        have hBc := bM_b z g p2
        refine lv_iload hx hb dX10_next0_155 (lv_at hl 3 rfl) ?_
        refine r_bipush hx hb dX10_next0_157 (by decide) ?_
        refine r_icmp_ge (tgt := 179) hx hb dX10_next0_159 (by decide) (by omega) (by omega) (fun c159 => ?_) (fun c159 => ?_)
        · skip
          exact J179 is3 wq bwq (by exact ⟨by omega, by omega⟩) (by exact hI3) (by intro q; omega) _ _ _ w (lv_sub hl [0, 1, 2, 3] rfl)
        · skip
          have hwv := hwd (by omega)
          have hwb := pwd_b hp2.1 (by omega) hall
          have hwb2 := pwd_b (e := p2 + 1) (by omega) (by omega) (al_s hall hc2.2)
          have hws := pwd_s (bM z g) hp2.1
          refine lv_aload_n hx hb dX10_next0_162 rfl (lv_at hl 0 rfl) ?_
          refine lv_aload_n hx hb dX10_next0_163 rfl (lv_at hl 0 rfl) ?_
          refine r_get C w 0 (v := vL wq) rfl rfl 14 (by decide) inX10 kf_X10_131 rfl dX10_next0_164 ?_
          refine r_bipush hx hb dX10_next0_167 (by decide) ?_
          refine r_lshl8 hx hb dX10_next0_169 ?_
          refine lv_aload_n hx hb dX10_next0_170 rfl (lv_at hl 0 rfl) ?_
          refine cVI C w hA (ct_X10_peek l D cy a (uZ (uZ (uZ (uZ z 5 s1) 3 p2) 6 num) 10 wq) g  (mBz_u (mBz_u (mBz_u (mBz_u hz 5 bs1) 3 bp2) 6 bnum) 10 bwq) hg) ok_X10_peek km_X10_114 ⟨rfl, rfl⟩ ⟨by decide, by decide⟩ ⟨by decide, by decide⟩ rfl 0 rfl rfl hl.1 rfl (Nat.le_of_ble_eq_true rfl) dX10_next0_171 (fun rv_2 uv_2 H locs w hp_2 => ?_)
          replace hp_2 : (p2 < (z 2) ∧ rv_2 = bM z g p2) ∨ ((z 2) ≤ p2 ∧ rv_2 = -1) := hp_2
          replace w : wd D A s.heap (mw cy a (uZ (uZ (uZ (uZ z 5 s1) 3 p2) 6 num) 10 wq) g) H locs := w
          have hBb2 := bM_b z g p2
          refine r_i2l hx hb dX10_next0_174 (by omega) ?_
          refine r_lor8 hx hb dX10_next0_175 (by omega) (by exact ⟨by omega, by omega⟩) ?_
          refine r_put C w 0 tyX10 tyX10_ok nmX10 rfl rfl 14 (by decide) inX10 kf_X10_131 rfl rfl rfl (Nat.le_of_ble_eq_true rfl) (ws' := mw cy a (uZ (uZ (uZ (uZ z 5 s1) 3 p2) 6 num) 10 ((wq * 256) + rv_2)) g) rfl dX10_next0_176 (fun H locs w => ?_)
          have bz3 : (-9223372036854775808 : Int) ≤ ((wq * 256) + rv_2) ∧ (((wq * 256) + rv_2) : Int) ≤ 9223372036854775807 := (by rw [hwv] at *; exact ⟨by omega, by omega⟩)
          exact J179 is3 ((wq * 256) + rv_2) bz3 (by exact ⟨by omega, by omega⟩) (by exact hI3) (by intro q; rw [hws, ← hwv]; omega) _ _ _ w (lv_sub hl [0, 1, 2, 3] rfl)
      refine lv_aload_n hx hb dX10_next0_114 rfl (lv_at hl 0 rfl) ?_
      refine cVI C w hA (ct_X10_peek l D cy a (uZ (uZ (uZ (uZ z 5 s1) 3 p2) 6 num) 10 wq) g  (mBz_u (mBz_u (mBz_u (mBz_u hz 5 bs1) 3 bp2) 6 bnum) 10 bwq) hg) ok_X10_peek km_X10_114 ⟨rfl, rfl⟩ ⟨by decide, by decide⟩ ⟨by decide, by decide⟩ rfl 0 rfl rfl hl.1 rfl (Nat.le_of_ble_eq_true rfl) dX10_next0_115 (fun rv_3 uv_3 H locs w hp_3 => ?_)
      replace hp_3 : (p2 < (z 2) ∧ rv_3 = bM z g p2) ∨ ((z 2) ≤ p2 ∧ rv_3 = -1) := hp_3
      replace w : wd D A s.heap (mw cy a (uZ (uZ (uZ (uZ z 5 s1) 3 p2) 6 num) 10 wq) g) H locs := w
      have hBb3 := bM_b z g p2
      refine cSI C w hA (ct_X10_isSmall l D cy a (uZ (uZ (uZ (uZ z 5 s1) 3 p2) 6 num) 10 wq) g rv_3 (by show iR rv_3; omega)) ok_X10_isSmall km_X10_124 ⟨rfl, rfl⟩ ⟨by decide, by decide⟩ ⟨by decide, by decide⟩ rfl hl.1 rfl (Nat.le_of_ble_eq_true rfl) dX10_next0_118 (fun rv_4 uv_4 H locs w hp_4 => ?_)
      replace hp_4 : (rv_4 = 1 ∧ 97 ≤ rv_3 ∧ rv_3 ≤ 122) ∨ (rv_4 = 0 ∧ ¬ (97 ≤ rv_3 ∧ rv_3 ≤ 122)) := hp_4
      replace w : wd D A s.heap (mw cy a (uZ (uZ (uZ (uZ z 5 s1) 3 p2) 6 num) 10 wq) g) H locs := w
      refine r_if_ne (tgt := 134) hx hb dX10_next0_121 (by decide) (by omega) (fun c121 => ?_) (fun c121 => ?_)
      · skip
        refine lv_iload_n hx hb dX10_next0_134 rfl (lv_at hl 2 rfl) ?_
        refine r_if_eq (tgt := 153) hx hb dX10_next0_135 (by decide) (by omega) (fun c135 => ?_) (fun c135 => ?_)
        · skip
          refine r_iconst hx hb dX10_next0_153 ?_
          refine lv_istore_n (lv' := [(3, vI 0), (0, .ref (a 0)), (2, vI sm), (4, vI nn)]) hx hb dX10_next0_154 rfl hl (by decide) rfl (fun ls hl => ?_)
          exact J155 0 (by exact ⟨by omega, by omega⟩) (by first | exact isI_st (t := rv_A) hI hp2.1 hsm (by omega) (by omega) | exact isI_st (t := if isLt (bM z g p2) then 1 else 0) hI hp2.1 hsm (by by_cases q : isLt (bM z g p2); (rw [if_pos q]; exact Or.inl ⟨rfl, q⟩); (rw [if_neg q]; exact Or.inr ⟨rfl, by omega⟩)) (by by_cases q : isLt (bM z g p2); (rw [if_pos q]; omega); (rw [if_neg q]; omega))) _ _ _ w (lv_sub hl [1, 2, 0, 3] rfl)
        · skip
          refine lv_aload_n hx hb dX10_next0_138 rfl (lv_at hl 0 rfl) ?_
          refine cVI C w hA (ct_X10_peek l D cy a (uZ (uZ (uZ (uZ z 5 s1) 3 p2) 6 num) 10 wq) g  (mBz_u (mBz_u (mBz_u (mBz_u hz 5 bs1) 3 bp2) 6 bnum) 10 bwq) hg) ok_X10_peek km_X10_114 ⟨rfl, rfl⟩ ⟨by decide, by decide⟩ ⟨by decide, by decide⟩ rfl 0 rfl rfl hl.1 rfl (Nat.le_of_ble_eq_true rfl) dX10_next0_139 (fun rv_5 uv_5 H locs w hp_5 => ?_)
          replace hp_5 : (p2 < (z 2) ∧ rv_5 = bM z g p2) ∨ ((z 2) ≤ p2 ∧ rv_5 = -1) := hp_5
          replace w : wd D A s.heap (mw cy a (uZ (uZ (uZ (uZ z 5 s1) 3 p2) 6 num) 10 wq) g) H locs := w
          have hBb5 := bM_b z g p2
          refine cSI C w hA (ct_X10_isSmall l D cy a (uZ (uZ (uZ (uZ z 5 s1) 3 p2) 6 num) 10 wq) g rv_5 (by show iR rv_5; omega)) ok_X10_isSmall km_X10_124 ⟨rfl, rfl⟩ ⟨by decide, by decide⟩ ⟨by decide, by decide⟩ rfl hl.1 rfl (Nat.le_of_ble_eq_true rfl) dX10_next0_142 (fun rv_6 uv_6 H locs w hp_6 => ?_)
          replace hp_6 : (rv_6 = 1 ∧ 97 ≤ rv_5 ∧ rv_5 ≤ 122) ∨ (rv_6 = 0 ∧ ¬ (97 ≤ rv_5 ∧ rv_5 ≤ 122)) := hp_6
          replace w : wd D A s.heap (mw cy a (uZ (uZ (uZ (uZ z 5 s1) 3 p2) 6 num) 10 wq) g) H locs := w
          refine lv_iload_n hx hb dX10_next0_145 rfl (lv_at hl 1 rfl) ?_
          refine r_icmp_ne (tgt := 153) hx hb dX10_next0_146 (by decide) (by omega) (by omega) (fun c146 => ?_) (fun c146 => ?_)
          · skip
            refine r_iconst hx hb dX10_next0_153 ?_
            refine lv_istore_n (lv' := [(3, vI 0), (0, .ref (a 0)), (2, vI sm), (4, vI nn)]) hx hb dX10_next0_154 rfl hl (by decide) rfl (fun ls hl => ?_)
            exact J155 0 (by exact ⟨by omega, by omega⟩) (by first | exact isI_st (t := rv_A) hI hp2.1 hsm (by omega) (by omega) | exact isI_st (t := if isLt (bM z g p2) then 1 else 0) hI hp2.1 hsm (by by_cases q : isLt (bM z g p2); (rw [if_pos q]; exact Or.inl ⟨rfl, q⟩); (rw [if_neg q]; exact Or.inr ⟨rfl, by omega⟩)) (by by_cases q : isLt (bM z g p2); (rw [if_pos q]; omega); (rw [if_neg q]; omega))) _ _ _ w (lv_sub hl [1, 2, 0, 3] rfl)
          · skip
            refine r_iconst hx hb dX10_next0_149 ?_
            refine lv_goto (tgt := 154) hx hb dX10_next0_150 (by decide) ?_
            refine lv_istore_n (lv' := [(3, vI 1), (0, .ref (a 0)), (2, vI sm), (4, vI nn)]) hx hb dX10_next0_154 rfl hl (by decide) rfl (fun ls hl => ?_)
            exact J155 1 (by exact ⟨by omega, by omega⟩) (by first | exact isI_st (t := rv_A) hI hp2.1 hsm (by omega) (by omega) | exact isI_st (t := if isLt (bM z g p2) then 1 else 0) hI hp2.1 hsm (by by_cases q : isLt (bM z g p2); (rw [if_pos q]; exact Or.inl ⟨rfl, q⟩); (rw [if_neg q]; exact Or.inr ⟨rfl, by omega⟩)) (by by_cases q : isLt (bM z g p2); (rw [if_pos q]; omega); (rw [if_neg q]; omega))) _ _ _ w (lv_sub hl [1, 2, 0, 3] rfl)
      · skip
        refine lv_aload_n hx hb dX10_next0_124 rfl (lv_at hl 0 rfl) ?_
        refine cVI C w hA (ct_X10_peek l D cy a (uZ (uZ (uZ (uZ z 5 s1) 3 p2) 6 num) 10 wq) g  (mBz_u (mBz_u (mBz_u (mBz_u hz 5 bs1) 3 bp2) 6 bnum) 10 bwq) hg) ok_X10_peek km_X10_114 ⟨rfl, rfl⟩ ⟨by decide, by decide⟩ ⟨by decide, by decide⟩ rfl 0 rfl rfl hl.1 rfl (Nat.le_of_ble_eq_true rfl) dX10_next0_125 (fun rv_7 uv_7 H locs w hp_7 => ?_)
        replace hp_7 : (p2 < (z 2) ∧ rv_7 = bM z g p2) ∨ ((z 2) ≤ p2 ∧ rv_7 = -1) := hp_7
        replace w : wd D A s.heap (mw cy a (uZ (uZ (uZ (uZ z 5 s1) 3 p2) 6 num) 10 wq) g) H locs := w
        have hBb7 := bM_b z g p2
        refine cSI C w hA (ct_X10_isDigit l D cy a (uZ (uZ (uZ (uZ z 5 s1) 3 p2) 6 num) 10 wq) g rv_7 (by show iR rv_7; omega)) ok_X10_isDigit km_X10_128 ⟨rfl, rfl⟩ ⟨by decide, by decide⟩ ⟨by decide, by decide⟩ rfl hl.1 rfl (Nat.le_of_ble_eq_true rfl) dX10_next0_128 (fun rv_8 uv_8 H locs w hp_8 => ?_)
        replace hp_8 : (rv_8 = 1 ∧ 48 ≤ rv_7 ∧ rv_7 ≤ 57) ∨ (rv_8 = 0 ∧ ¬ (48 ≤ rv_7 ∧ rv_7 ≤ 57)) := hp_8
        replace w : wd D A s.heap (mw cy a (uZ (uZ (uZ (uZ z 5 s1) 3 p2) 6 num) 10 wq) g) H locs := w
        refine r_if_eq (tgt := 220) hx hb dX10_next0_131 (by decide) (by omega) (fun c131 => ?_) (fun c131 => ?_)
        · skip
          have hex : p2 = z 2 ∨ ¬ isLD (bM z g p2) := by omega
          have hne := run_ne hp2.1 hst2 hst.2.2.2 hex
          refine lv_iload hx hb dX10_next0_220 (lv_at hl 3 rfl) ?_
          refine r_bipush hx hb dX10_next0_222 (by decide) ?_
          refine r_icmp_le (tgt := 232) hx hb dX10_next0_224 (by decide) (by omega) (by omega) (fun c224 => ?_) (fun c224 => ?_)
          · skip
            refine lv_aload_n hx hb dX10_next0_232 rfl (lv_at hl 0 rfl) ?_
            refine lv_iload_n hx hb dX10_next0_233 rfl (lv_at hl 2 rfl) ?_
            refine r_if_eq (tgt := 247) hx hb dX10_next0_234 (by decide) (by omega) (fun c234 => ?_) (fun c234 => ?_)
            · skip
              refine r_iconst hx hb dX10_next0_247 ?_
              refine lv_goto (tgt := 260) hx hb dX10_next0_248 (by decide) ?_
              refine r_put C w 0 tyX10 tyX10_ok nmX10 rfl rfl 8 (by decide) inX10 kf_X10_121 rfl rfl rfl (Nat.le_of_ble_eq_true rfl) (ws' := mw cy a (uZ (uZ (uZ (uZ (uZ z 5 s1) 3 p2) 6 num) 10 wq) 4 4) g) (mw_z4 cy a (uZ (uZ (uZ (uZ z 5 s1) 3 p2) 6 num) 10 wq) g 4) dX10_next0_260 (fun H locs w => ?_)
              have bz4 : (0 : Int) ≤ 4 ∧ (4 : Int) ≤ 4 := (by omega)
              exact hend ((uZ (uZ (uZ (uZ (uZ z 5 s1) 3 p2) 6 num) 10 wq) 4 4), g) _ _ _ _ dX10_next0_263 w ⟨(by first | exact ⟨s1, p2, 4, ⟨hst1, by omega, hst.2.2.1, Or.inr (Or.inr ⟨hst2, hst.2.2.2, hne, hp2.2, hall, hex, isI_k hI hne hsm (by omega)⟩)⟩, rfl, rfl, rfl, rfl, fun h => absurd h (by decide), fun h => absurd h (by decide), (by repeat (first | assumption | exact frB_0 _ | refine frB_u ?_ (by decide)))⟩ | exact ⟨s1, p2, 2, ⟨hst1, by omega, hst.2.2.1, Or.inr (Or.inr ⟨hst2, hst.2.2.2, hne, hp2.2, hall, hex, isI_k hI hne hsm (by omega)⟩)⟩, rfl, rfl, rfl, rfl, fun h => hnm (by omega), fun h => absurd h (by decide), (by repeat (first | assumption | exact frB_0 _ | refine frB_u ?_ (by decide)))⟩ | exact ⟨s1, p2, 1, ⟨hst1, by omega, hst.2.2.1, Or.inr (Or.inr ⟨hst2, hst.2.2.2, hne, hp2.2, hall, hex, isI_k hI hne hsm (by omega)⟩)⟩, rfl, rfl, rfl, rfl, fun h => absurd h (by decide), fun h => wrv_1a (by omega) hwd, (by repeat (first | assumption | exact frB_0 _ | refine frB_u ?_ (by decide)))⟩ | exact ⟨s1, p2, 1, ⟨hst1, by omega, hst.2.2.1, Or.inr (Or.inr ⟨hst2, hst.2.2.2, hne, hp2.2, hall, hex, isI_k hI hne hsm (by omega)⟩)⟩, rfl, rfl, rfl, rfl, fun h => absurd h (by decide), fun h => wrv_1b (by omega), (by repeat (first | assumption | exact frB_0 _ | refine frB_u ?_ (by decide)))⟩), (mBz_u (mBz_u (mBz_u (mBz_u (mBz_u hz 5 bs1) 3 bp2) 6 bnum) 10 bwq) 4 bz4), hg⟩
            · skip
              refine lv_iload_n hx hb dX10_next0_237 rfl (lv_at hl 1 rfl) ?_
              refine r_if_ne (tgt := 251) hx hb dX10_next0_238 (by decide) (by omega) (fun c238 => ?_) (fun c238 => ?_)
              · skip
                refine lv_iload_n hx hb dX10_next0_251 rfl (lv_at hl 1 rfl) ?_
                refine r_if_eq (tgt := 259) hx hb dX10_next0_252 (by decide) (by omega) (fun c252 => ?_) (fun c252 => ?_)
                · skip
                  refine r_iconst hx hb dX10_next0_259 ?_
                  refine r_put C w 0 tyX10 tyX10_ok nmX10 rfl rfl 8 (by decide) inX10 kf_X10_121 rfl rfl rfl (Nat.le_of_ble_eq_true rfl) (ws' := mw cy a (uZ (uZ (uZ (uZ (uZ z 5 s1) 3 p2) 6 num) 10 wq) 4 2) g) (mw_z4 cy a (uZ (uZ (uZ (uZ z 5 s1) 3 p2) 6 num) 10 wq) g 2) dX10_next0_260 (fun H locs w => ?_)
                  have bz5 : (0 : Int) ≤ 2 ∧ (2 : Int) ≤ 4 := (by omega)
                  exact hend ((uZ (uZ (uZ (uZ (uZ z 5 s1) 3 p2) 6 num) 10 wq) 4 2), g) _ _ _ _ dX10_next0_263 w ⟨(by first | exact ⟨s1, p2, 4, ⟨hst1, by omega, hst.2.2.1, Or.inr (Or.inr ⟨hst2, hst.2.2.2, hne, hp2.2, hall, hex, isI_k hI hne hsm (by omega)⟩)⟩, rfl, rfl, rfl, rfl, fun h => absurd h (by decide), fun h => absurd h (by decide), (by repeat (first | assumption | exact frB_0 _ | refine frB_u ?_ (by decide)))⟩ | exact ⟨s1, p2, 2, ⟨hst1, by omega, hst.2.2.1, Or.inr (Or.inr ⟨hst2, hst.2.2.2, hne, hp2.2, hall, hex, isI_k hI hne hsm (by omega)⟩)⟩, rfl, rfl, rfl, rfl, fun h => hnm (by omega), fun h => absurd h (by decide), (by repeat (first | assumption | exact frB_0 _ | refine frB_u ?_ (by decide)))⟩ | exact ⟨s1, p2, 1, ⟨hst1, by omega, hst.2.2.1, Or.inr (Or.inr ⟨hst2, hst.2.2.2, hne, hp2.2, hall, hex, isI_k hI hne hsm (by omega)⟩)⟩, rfl, rfl, rfl, rfl, fun h => absurd h (by decide), fun h => wrv_1a (by omega) hwd, (by repeat (first | assumption | exact frB_0 _ | refine frB_u ?_ (by decide)))⟩ | exact ⟨s1, p2, 1, ⟨hst1, by omega, hst.2.2.1, Or.inr (Or.inr ⟨hst2, hst.2.2.2, hne, hp2.2, hall, hex, isI_k hI hne hsm (by omega)⟩)⟩, rfl, rfl, rfl, rfl, fun h => absurd h (by decide), fun h => wrv_1b (by omega), (by repeat (first | assumption | exact frB_0 _ | refine frB_u ?_ (by decide)))⟩), (mBz_u (mBz_u (mBz_u (mBz_u (mBz_u hz 5 bs1) 3 bp2) 6 bnum) 10 bwq) 4 bz5), hg⟩
                · skip
                  refine r_iconst hx hb dX10_next0_255 ?_
                  refine lv_goto (tgt := 260) hx hb dX10_next0_256 (by decide) ?_
                  refine r_put C w 0 tyX10 tyX10_ok nmX10 rfl rfl 8 (by decide) inX10 kf_X10_121 rfl rfl rfl (Nat.le_of_ble_eq_true rfl) (ws' := mw cy a (uZ (uZ (uZ (uZ (uZ z 5 s1) 3 p2) 6 num) 10 wq) 4 1) g) (mw_z4 cy a (uZ (uZ (uZ (uZ z 5 s1) 3 p2) 6 num) 10 wq) g 1) dX10_next0_260 (fun H locs w => ?_)
                  have bz6 : (0 : Int) ≤ 1 ∧ (1 : Int) ≤ 4 := (by omega)
                  exact hend ((uZ (uZ (uZ (uZ (uZ z 5 s1) 3 p2) 6 num) 10 wq) 4 1), g) _ _ _ _ dX10_next0_263 w ⟨(by first | exact ⟨s1, p2, 4, ⟨hst1, by omega, hst.2.2.1, Or.inr (Or.inr ⟨hst2, hst.2.2.2, hne, hp2.2, hall, hex, isI_k hI hne hsm (by omega)⟩)⟩, rfl, rfl, rfl, rfl, fun h => absurd h (by decide), fun h => absurd h (by decide), (by repeat (first | assumption | exact frB_0 _ | refine frB_u ?_ (by decide)))⟩ | exact ⟨s1, p2, 2, ⟨hst1, by omega, hst.2.2.1, Or.inr (Or.inr ⟨hst2, hst.2.2.2, hne, hp2.2, hall, hex, isI_k hI hne hsm (by omega)⟩)⟩, rfl, rfl, rfl, rfl, fun h => hnm (by omega), fun h => absurd h (by decide), (by repeat (first | assumption | exact frB_0 _ | refine frB_u ?_ (by decide)))⟩ | exact ⟨s1, p2, 1, ⟨hst1, by omega, hst.2.2.1, Or.inr (Or.inr ⟨hst2, hst.2.2.2, hne, hp2.2, hall, hex, isI_k hI hne hsm (by omega)⟩)⟩, rfl, rfl, rfl, rfl, fun h => absurd h (by decide), fun h => wrv_1a (by omega) hwd, (by repeat (first | assumption | exact frB_0 _ | refine frB_u ?_ (by decide)))⟩ | exact ⟨s1, p2, 1, ⟨hst1, by omega, hst.2.2.1, Or.inr (Or.inr ⟨hst2, hst.2.2.2, hne, hp2.2, hall, hex, isI_k hI hne hsm (by omega)⟩)⟩, rfl, rfl, rfl, rfl, fun h => absurd h (by decide), fun h => wrv_1b (by omega), (by repeat (first | assumption | exact frB_0 _ | refine frB_u ?_ (by decide)))⟩), (mBz_u (mBz_u (mBz_u (mBz_u (mBz_u hz 5 bs1) 3 bp2) 6 bnum) 10 bwq) 4 bz6), hg⟩
              · skip
                refine lv_iload hx hb dX10_next0_241 (lv_at hl 3 rfl) ?_
                refine r_iconst hx hb dX10_next0_243 ?_
                refine r_icmp_le (tgt := 251) hx hb dX10_next0_244 (by decide) (by omega) (by omega) (fun c244 => ?_) (fun c244 => ?_)
                · skip
                  refine lv_iload_n hx hb dX10_next0_251 rfl (lv_at hl 1 rfl) ?_
                  refine r_if_eq (tgt := 259) hx hb dX10_next0_252 (by decide) (by omega) (fun c252 => ?_) (fun c252 => ?_)
                  · skip
                    refine r_iconst hx hb dX10_next0_259 ?_
                    refine r_put C w 0 tyX10 tyX10_ok nmX10 rfl rfl 8 (by decide) inX10 kf_X10_121 rfl rfl rfl (Nat.le_of_ble_eq_true rfl) (ws' := mw cy a (uZ (uZ (uZ (uZ (uZ z 5 s1) 3 p2) 6 num) 10 wq) 4 2) g) (mw_z4 cy a (uZ (uZ (uZ (uZ z 5 s1) 3 p2) 6 num) 10 wq) g 2) dX10_next0_260 (fun H locs w => ?_)
                    have bz7 : (0 : Int) ≤ 2 ∧ (2 : Int) ≤ 4 := (by omega)
                    exact hend ((uZ (uZ (uZ (uZ (uZ z 5 s1) 3 p2) 6 num) 10 wq) 4 2), g) _ _ _ _ dX10_next0_263 w ⟨(by first | exact ⟨s1, p2, 4, ⟨hst1, by omega, hst.2.2.1, Or.inr (Or.inr ⟨hst2, hst.2.2.2, hne, hp2.2, hall, hex, isI_k hI hne hsm (by omega)⟩)⟩, rfl, rfl, rfl, rfl, fun h => absurd h (by decide), fun h => absurd h (by decide), (by repeat (first | assumption | exact frB_0 _ | refine frB_u ?_ (by decide)))⟩ | exact ⟨s1, p2, 2, ⟨hst1, by omega, hst.2.2.1, Or.inr (Or.inr ⟨hst2, hst.2.2.2, hne, hp2.2, hall, hex, isI_k hI hne hsm (by omega)⟩)⟩, rfl, rfl, rfl, rfl, fun h => hnm (by omega), fun h => absurd h (by decide), (by repeat (first | assumption | exact frB_0 _ | refine frB_u ?_ (by decide)))⟩ | exact ⟨s1, p2, 1, ⟨hst1, by omega, hst.2.2.1, Or.inr (Or.inr ⟨hst2, hst.2.2.2, hne, hp2.2, hall, hex, isI_k hI hne hsm (by omega)⟩)⟩, rfl, rfl, rfl, rfl, fun h => absurd h (by decide), fun h => wrv_1a (by omega) hwd, (by repeat (first | assumption | exact frB_0 _ | refine frB_u ?_ (by decide)))⟩ | exact ⟨s1, p2, 1, ⟨hst1, by omega, hst.2.2.1, Or.inr (Or.inr ⟨hst2, hst.2.2.2, hne, hp2.2, hall, hex, isI_k hI hne hsm (by omega)⟩)⟩, rfl, rfl, rfl, rfl, fun h => absurd h (by decide), fun h => wrv_1b (by omega), (by repeat (first | assumption | exact frB_0 _ | refine frB_u ?_ (by decide)))⟩), (mBz_u (mBz_u (mBz_u (mBz_u (mBz_u hz 5 bs1) 3 bp2) 6 bnum) 10 bwq) 4 bz7), hg⟩
                  · skip
                    refine r_iconst hx hb dX10_next0_255 ?_
                    refine lv_goto (tgt := 260) hx hb dX10_next0_256 (by decide) ?_
                    refine r_put C w 0 tyX10 tyX10_ok nmX10 rfl rfl 8 (by decide) inX10 kf_X10_121 rfl rfl rfl (Nat.le_of_ble_eq_true rfl) (ws' := mw cy a (uZ (uZ (uZ (uZ (uZ z 5 s1) 3 p2) 6 num) 10 wq) 4 1) g) (mw_z4 cy a (uZ (uZ (uZ (uZ z 5 s1) 3 p2) 6 num) 10 wq) g 1) dX10_next0_260 (fun H locs w => ?_)
                    have bz8 : (0 : Int) ≤ 1 ∧ (1 : Int) ≤ 4 := (by omega)
                    exact hend ((uZ (uZ (uZ (uZ (uZ z 5 s1) 3 p2) 6 num) 10 wq) 4 1), g) _ _ _ _ dX10_next0_263 w ⟨(by first | exact ⟨s1, p2, 4, ⟨hst1, by omega, hst.2.2.1, Or.inr (Or.inr ⟨hst2, hst.2.2.2, hne, hp2.2, hall, hex, isI_k hI hne hsm (by omega)⟩)⟩, rfl, rfl, rfl, rfl, fun h => absurd h (by decide), fun h => absurd h (by decide), (by repeat (first | assumption | exact frB_0 _ | refine frB_u ?_ (by decide)))⟩ | exact ⟨s1, p2, 2, ⟨hst1, by omega, hst.2.2.1, Or.inr (Or.inr ⟨hst2, hst.2.2.2, hne, hp2.2, hall, hex, isI_k hI hne hsm (by omega)⟩)⟩, rfl, rfl, rfl, rfl, fun h => hnm (by omega), fun h => absurd h (by decide), (by repeat (first | assumption | exact frB_0 _ | refine frB_u ?_ (by decide)))⟩ | exact ⟨s1, p2, 1, ⟨hst1, by omega, hst.2.2.1, Or.inr (Or.inr ⟨hst2, hst.2.2.2, hne, hp2.2, hall, hex, isI_k hI hne hsm (by omega)⟩)⟩, rfl, rfl, rfl, rfl, fun h => absurd h (by decide), fun h => wrv_1a (by omega) hwd, (by repeat (first | assumption | exact frB_0 _ | refine frB_u ?_ (by decide)))⟩ | exact ⟨s1, p2, 1, ⟨hst1, by omega, hst.2.2.1, Or.inr (Or.inr ⟨hst2, hst.2.2.2, hne, hp2.2, hall, hex, isI_k hI hne hsm (by omega)⟩)⟩, rfl, rfl, rfl, rfl, fun h => absurd h (by decide), fun h => wrv_1b (by omega), (by repeat (first | assumption | exact frB_0 _ | refine frB_u ?_ (by decide)))⟩), (mBz_u (mBz_u (mBz_u (mBz_u (mBz_u hz 5 bs1) 3 bp2) 6 bnum) 10 bwq) 4 bz8), hg⟩
                · skip
                  refine r_iconst hx hb dX10_next0_247 ?_
                  refine lv_goto (tgt := 260) hx hb dX10_next0_248 (by decide) ?_
                  refine r_put C w 0 tyX10 tyX10_ok nmX10 rfl rfl 8 (by decide) inX10 kf_X10_121 rfl rfl rfl (Nat.le_of_ble_eq_true rfl) (ws' := mw cy a (uZ (uZ (uZ (uZ (uZ z 5 s1) 3 p2) 6 num) 10 wq) 4 4) g) (mw_z4 cy a (uZ (uZ (uZ (uZ z 5 s1) 3 p2) 6 num) 10 wq) g 4) dX10_next0_260 (fun H locs w => ?_)
                  have bz9 : (0 : Int) ≤ 4 ∧ (4 : Int) ≤ 4 := (by omega)
                  exact hend ((uZ (uZ (uZ (uZ (uZ z 5 s1) 3 p2) 6 num) 10 wq) 4 4), g) _ _ _ _ dX10_next0_263 w ⟨(by first | exact ⟨s1, p2, 4, ⟨hst1, by omega, hst.2.2.1, Or.inr (Or.inr ⟨hst2, hst.2.2.2, hne, hp2.2, hall, hex, isI_k hI hne hsm (by omega)⟩)⟩, rfl, rfl, rfl, rfl, fun h => absurd h (by decide), fun h => absurd h (by decide), (by repeat (first | assumption | exact frB_0 _ | refine frB_u ?_ (by decide)))⟩ | exact ⟨s1, p2, 2, ⟨hst1, by omega, hst.2.2.1, Or.inr (Or.inr ⟨hst2, hst.2.2.2, hne, hp2.2, hall, hex, isI_k hI hne hsm (by omega)⟩)⟩, rfl, rfl, rfl, rfl, fun h => hnm (by omega), fun h => absurd h (by decide), (by repeat (first | assumption | exact frB_0 _ | refine frB_u ?_ (by decide)))⟩ | exact ⟨s1, p2, 1, ⟨hst1, by omega, hst.2.2.1, Or.inr (Or.inr ⟨hst2, hst.2.2.2, hne, hp2.2, hall, hex, isI_k hI hne hsm (by omega)⟩)⟩, rfl, rfl, rfl, rfl, fun h => absurd h (by decide), fun h => wrv_1a (by omega) hwd, (by repeat (first | assumption | exact frB_0 _ | refine frB_u ?_ (by decide)))⟩ | exact ⟨s1, p2, 1, ⟨hst1, by omega, hst.2.2.1, Or.inr (Or.inr ⟨hst2, hst.2.2.2, hne, hp2.2, hall, hex, isI_k hI hne hsm (by omega)⟩)⟩, rfl, rfl, rfl, rfl, fun h => absurd h (by decide), fun h => wrv_1b (by omega), (by repeat (first | assumption | exact frB_0 _ | refine frB_u ?_ (by decide)))⟩), (mBz_u (mBz_u (mBz_u (mBz_u (mBz_u hz 5 bs1) 3 bp2) 6 bnum) 10 bwq) 4 bz9), hg⟩
          · skip
            refine lv_aload_n hx hb dX10_next0_227 rfl (lv_at hl 0 rfl) ?_
            refine r_lconst (z := 0) hx hb dX10_next0_228 (by decide) ?_
            refine r_put C w 0 tyX10 tyX10_ok nmX10 rfl rfl 14 (by decide) inX10 kf_X10_131 rfl rfl rfl (Nat.le_of_ble_eq_true rfl) (ws' := mw cy a (uZ (uZ (uZ (uZ z 5 s1) 3 p2) 6 num) 10 0) g) rfl dX10_next0_229 (fun H locs w => ?_)
            have bz10 : (-9223372036854775808 : Int) ≤ 0 ∧ (0 : Int) ≤ 9223372036854775807 := (by omega)
            refine lv_aload_n hx hb dX10_next0_232 rfl (lv_at hl 0 rfl) ?_
            refine lv_iload_n hx hb dX10_next0_233 rfl (lv_at hl 2 rfl) ?_
            refine r_if_eq (tgt := 247) hx hb dX10_next0_234 (by decide) (by omega) (fun c234 => ?_) (fun c234 => ?_)
            · skip
              refine r_iconst hx hb dX10_next0_247 ?_
              refine lv_goto (tgt := 260) hx hb dX10_next0_248 (by decide) ?_
              refine r_put C w 0 tyX10 tyX10_ok nmX10 rfl rfl 8 (by decide) inX10 kf_X10_121 rfl rfl rfl (Nat.le_of_ble_eq_true rfl) (ws' := mw cy a (uZ (uZ (uZ (uZ (uZ z 5 s1) 3 p2) 6 num) 10 0) 4 4) g) (mw_z4 cy a (uZ (uZ (uZ (uZ z 5 s1) 3 p2) 6 num) 10 0) g 4) dX10_next0_260 (fun H locs w => ?_)
              have bz11 : (0 : Int) ≤ 4 ∧ (4 : Int) ≤ 4 := (by omega)
              exact hend ((uZ (uZ (uZ (uZ (uZ z 5 s1) 3 p2) 6 num) 10 0) 4 4), g) _ _ _ _ dX10_next0_263 w ⟨(by first | exact ⟨s1, p2, 4, ⟨hst1, by omega, hst.2.2.1, Or.inr (Or.inr ⟨hst2, hst.2.2.2, hne, hp2.2, hall, hex, isI_k hI hne hsm (by omega)⟩)⟩, rfl, rfl, rfl, rfl, fun h => absurd h (by decide), fun h => absurd h (by decide), (by repeat (first | assumption | exact frB_0 _ | refine frB_u ?_ (by decide)))⟩ | exact ⟨s1, p2, 2, ⟨hst1, by omega, hst.2.2.1, Or.inr (Or.inr ⟨hst2, hst.2.2.2, hne, hp2.2, hall, hex, isI_k hI hne hsm (by omega)⟩)⟩, rfl, rfl, rfl, rfl, fun h => hnm (by omega), fun h => absurd h (by decide), (by repeat (first | assumption | exact frB_0 _ | refine frB_u ?_ (by decide)))⟩ | exact ⟨s1, p2, 1, ⟨hst1, by omega, hst.2.2.1, Or.inr (Or.inr ⟨hst2, hst.2.2.2, hne, hp2.2, hall, hex, isI_k hI hne hsm (by omega)⟩)⟩, rfl, rfl, rfl, rfl, fun h => absurd h (by decide), fun h => wrv_1a (by omega) hwd, (by repeat (first | assumption | exact frB_0 _ | refine frB_u ?_ (by decide)))⟩ | exact ⟨s1, p2, 1, ⟨hst1, by omega, hst.2.2.1, Or.inr (Or.inr ⟨hst2, hst.2.2.2, hne, hp2.2, hall, hex, isI_k hI hne hsm (by omega)⟩)⟩, rfl, rfl, rfl, rfl, fun h => absurd h (by decide), fun h => wrv_1b (by omega), (by repeat (first | assumption | exact frB_0 _ | refine frB_u ?_ (by decide)))⟩), (mBz_u (mBz_u (mBz_u (mBz_u (mBz_u hz 5 bs1) 3 bp2) 6 bnum) 10 bz10) 4 bz11), hg⟩
            · skip
              refine lv_iload_n hx hb dX10_next0_237 rfl (lv_at hl 1 rfl) ?_
              refine r_if_ne (tgt := 251) hx hb dX10_next0_238 (by decide) (by omega) (fun c238 => ?_) (fun c238 => ?_)
              · skip
                refine lv_iload_n hx hb dX10_next0_251 rfl (lv_at hl 1 rfl) ?_
                refine r_if_eq (tgt := 259) hx hb dX10_next0_252 (by decide) (by omega) (fun c252 => ?_) (fun c252 => ?_)
                · skip
                  refine r_iconst hx hb dX10_next0_259 ?_
                  refine r_put C w 0 tyX10 tyX10_ok nmX10 rfl rfl 8 (by decide) inX10 kf_X10_121 rfl rfl rfl (Nat.le_of_ble_eq_true rfl) (ws' := mw cy a (uZ (uZ (uZ (uZ (uZ z 5 s1) 3 p2) 6 num) 10 0) 4 2) g) (mw_z4 cy a (uZ (uZ (uZ (uZ z 5 s1) 3 p2) 6 num) 10 0) g 2) dX10_next0_260 (fun H locs w => ?_)
                  have bz12 : (0 : Int) ≤ 2 ∧ (2 : Int) ≤ 4 := (by omega)
                  exact hend ((uZ (uZ (uZ (uZ (uZ z 5 s1) 3 p2) 6 num) 10 0) 4 2), g) _ _ _ _ dX10_next0_263 w ⟨(by first | exact ⟨s1, p2, 4, ⟨hst1, by omega, hst.2.2.1, Or.inr (Or.inr ⟨hst2, hst.2.2.2, hne, hp2.2, hall, hex, isI_k hI hne hsm (by omega)⟩)⟩, rfl, rfl, rfl, rfl, fun h => absurd h (by decide), fun h => absurd h (by decide), (by repeat (first | assumption | exact frB_0 _ | refine frB_u ?_ (by decide)))⟩ | exact ⟨s1, p2, 2, ⟨hst1, by omega, hst.2.2.1, Or.inr (Or.inr ⟨hst2, hst.2.2.2, hne, hp2.2, hall, hex, isI_k hI hne hsm (by omega)⟩)⟩, rfl, rfl, rfl, rfl, fun h => hnm (by omega), fun h => absurd h (by decide), (by repeat (first | assumption | exact frB_0 _ | refine frB_u ?_ (by decide)))⟩ | exact ⟨s1, p2, 1, ⟨hst1, by omega, hst.2.2.1, Or.inr (Or.inr ⟨hst2, hst.2.2.2, hne, hp2.2, hall, hex, isI_k hI hne hsm (by omega)⟩)⟩, rfl, rfl, rfl, rfl, fun h => absurd h (by decide), fun h => wrv_1a (by omega) hwd, (by repeat (first | assumption | exact frB_0 _ | refine frB_u ?_ (by decide)))⟩ | exact ⟨s1, p2, 1, ⟨hst1, by omega, hst.2.2.1, Or.inr (Or.inr ⟨hst2, hst.2.2.2, hne, hp2.2, hall, hex, isI_k hI hne hsm (by omega)⟩)⟩, rfl, rfl, rfl, rfl, fun h => absurd h (by decide), fun h => wrv_1b (by omega), (by repeat (first | assumption | exact frB_0 _ | refine frB_u ?_ (by decide)))⟩), (mBz_u (mBz_u (mBz_u (mBz_u (mBz_u hz 5 bs1) 3 bp2) 6 bnum) 10 bz10) 4 bz12), hg⟩
                · skip
                  refine r_iconst hx hb dX10_next0_255 ?_
                  refine lv_goto (tgt := 260) hx hb dX10_next0_256 (by decide) ?_
                  refine r_put C w 0 tyX10 tyX10_ok nmX10 rfl rfl 8 (by decide) inX10 kf_X10_121 rfl rfl rfl (Nat.le_of_ble_eq_true rfl) (ws' := mw cy a (uZ (uZ (uZ (uZ (uZ z 5 s1) 3 p2) 6 num) 10 0) 4 1) g) (mw_z4 cy a (uZ (uZ (uZ (uZ z 5 s1) 3 p2) 6 num) 10 0) g 1) dX10_next0_260 (fun H locs w => ?_)
                  have bz13 : (0 : Int) ≤ 1 ∧ (1 : Int) ≤ 4 := (by omega)
                  exact hend ((uZ (uZ (uZ (uZ (uZ z 5 s1) 3 p2) 6 num) 10 0) 4 1), g) _ _ _ _ dX10_next0_263 w ⟨(by first | exact ⟨s1, p2, 4, ⟨hst1, by omega, hst.2.2.1, Or.inr (Or.inr ⟨hst2, hst.2.2.2, hne, hp2.2, hall, hex, isI_k hI hne hsm (by omega)⟩)⟩, rfl, rfl, rfl, rfl, fun h => absurd h (by decide), fun h => absurd h (by decide), (by repeat (first | assumption | exact frB_0 _ | refine frB_u ?_ (by decide)))⟩ | exact ⟨s1, p2, 2, ⟨hst1, by omega, hst.2.2.1, Or.inr (Or.inr ⟨hst2, hst.2.2.2, hne, hp2.2, hall, hex, isI_k hI hne hsm (by omega)⟩)⟩, rfl, rfl, rfl, rfl, fun h => hnm (by omega), fun h => absurd h (by decide), (by repeat (first | assumption | exact frB_0 _ | refine frB_u ?_ (by decide)))⟩ | exact ⟨s1, p2, 1, ⟨hst1, by omega, hst.2.2.1, Or.inr (Or.inr ⟨hst2, hst.2.2.2, hne, hp2.2, hall, hex, isI_k hI hne hsm (by omega)⟩)⟩, rfl, rfl, rfl, rfl, fun h => absurd h (by decide), fun h => wrv_1a (by omega) hwd, (by repeat (first | assumption | exact frB_0 _ | refine frB_u ?_ (by decide)))⟩ | exact ⟨s1, p2, 1, ⟨hst1, by omega, hst.2.2.1, Or.inr (Or.inr ⟨hst2, hst.2.2.2, hne, hp2.2, hall, hex, isI_k hI hne hsm (by omega)⟩)⟩, rfl, rfl, rfl, rfl, fun h => absurd h (by decide), fun h => wrv_1b (by omega), (by repeat (first | assumption | exact frB_0 _ | refine frB_u ?_ (by decide)))⟩), (mBz_u (mBz_u (mBz_u (mBz_u (mBz_u hz 5 bs1) 3 bp2) 6 bnum) 10 bz10) 4 bz13), hg⟩
              · skip
                refine lv_iload hx hb dX10_next0_241 (lv_at hl 3 rfl) ?_
                refine r_iconst hx hb dX10_next0_243 ?_
                refine r_icmp_le (tgt := 251) hx hb dX10_next0_244 (by decide) (by omega) (by omega) (fun c244 => ?_) (fun c244 => ?_)
                · skip
                  refine lv_iload_n hx hb dX10_next0_251 rfl (lv_at hl 1 rfl) ?_
                  refine r_if_eq (tgt := 259) hx hb dX10_next0_252 (by decide) (by omega) (fun c252 => ?_) (fun c252 => ?_)
                  · skip
                    refine r_iconst hx hb dX10_next0_259 ?_
                    refine r_put C w 0 tyX10 tyX10_ok nmX10 rfl rfl 8 (by decide) inX10 kf_X10_121 rfl rfl rfl (Nat.le_of_ble_eq_true rfl) (ws' := mw cy a (uZ (uZ (uZ (uZ (uZ z 5 s1) 3 p2) 6 num) 10 0) 4 2) g) (mw_z4 cy a (uZ (uZ (uZ (uZ z 5 s1) 3 p2) 6 num) 10 0) g 2) dX10_next0_260 (fun H locs w => ?_)
                    have bz14 : (0 : Int) ≤ 2 ∧ (2 : Int) ≤ 4 := (by omega)
                    exact hend ((uZ (uZ (uZ (uZ (uZ z 5 s1) 3 p2) 6 num) 10 0) 4 2), g) _ _ _ _ dX10_next0_263 w ⟨(by first | exact ⟨s1, p2, 4, ⟨hst1, by omega, hst.2.2.1, Or.inr (Or.inr ⟨hst2, hst.2.2.2, hne, hp2.2, hall, hex, isI_k hI hne hsm (by omega)⟩)⟩, rfl, rfl, rfl, rfl, fun h => absurd h (by decide), fun h => absurd h (by decide), (by repeat (first | assumption | exact frB_0 _ | refine frB_u ?_ (by decide)))⟩ | exact ⟨s1, p2, 2, ⟨hst1, by omega, hst.2.2.1, Or.inr (Or.inr ⟨hst2, hst.2.2.2, hne, hp2.2, hall, hex, isI_k hI hne hsm (by omega)⟩)⟩, rfl, rfl, rfl, rfl, fun h => hnm (by omega), fun h => absurd h (by decide), (by repeat (first | assumption | exact frB_0 _ | refine frB_u ?_ (by decide)))⟩ | exact ⟨s1, p2, 1, ⟨hst1, by omega, hst.2.2.1, Or.inr (Or.inr ⟨hst2, hst.2.2.2, hne, hp2.2, hall, hex, isI_k hI hne hsm (by omega)⟩)⟩, rfl, rfl, rfl, rfl, fun h => absurd h (by decide), fun h => wrv_1a (by omega) hwd, (by repeat (first | assumption | exact frB_0 _ | refine frB_u ?_ (by decide)))⟩ | exact ⟨s1, p2, 1, ⟨hst1, by omega, hst.2.2.1, Or.inr (Or.inr ⟨hst2, hst.2.2.2, hne, hp2.2, hall, hex, isI_k hI hne hsm (by omega)⟩)⟩, rfl, rfl, rfl, rfl, fun h => absurd h (by decide), fun h => wrv_1b (by omega), (by repeat (first | assumption | exact frB_0 _ | refine frB_u ?_ (by decide)))⟩), (mBz_u (mBz_u (mBz_u (mBz_u (mBz_u hz 5 bs1) 3 bp2) 6 bnum) 10 bz10) 4 bz14), hg⟩
                  · skip
                    refine r_iconst hx hb dX10_next0_255 ?_
                    refine lv_goto (tgt := 260) hx hb dX10_next0_256 (by decide) ?_
                    refine r_put C w 0 tyX10 tyX10_ok nmX10 rfl rfl 8 (by decide) inX10 kf_X10_121 rfl rfl rfl (Nat.le_of_ble_eq_true rfl) (ws' := mw cy a (uZ (uZ (uZ (uZ (uZ z 5 s1) 3 p2) 6 num) 10 0) 4 1) g) (mw_z4 cy a (uZ (uZ (uZ (uZ z 5 s1) 3 p2) 6 num) 10 0) g 1) dX10_next0_260 (fun H locs w => ?_)
                    have bz15 : (0 : Int) ≤ 1 ∧ (1 : Int) ≤ 4 := (by omega)
                    exact hend ((uZ (uZ (uZ (uZ (uZ z 5 s1) 3 p2) 6 num) 10 0) 4 1), g) _ _ _ _ dX10_next0_263 w ⟨(by first | exact ⟨s1, p2, 4, ⟨hst1, by omega, hst.2.2.1, Or.inr (Or.inr ⟨hst2, hst.2.2.2, hne, hp2.2, hall, hex, isI_k hI hne hsm (by omega)⟩)⟩, rfl, rfl, rfl, rfl, fun h => absurd h (by decide), fun h => absurd h (by decide), (by repeat (first | assumption | exact frB_0 _ | refine frB_u ?_ (by decide)))⟩ | exact ⟨s1, p2, 2, ⟨hst1, by omega, hst.2.2.1, Or.inr (Or.inr ⟨hst2, hst.2.2.2, hne, hp2.2, hall, hex, isI_k hI hne hsm (by omega)⟩)⟩, rfl, rfl, rfl, rfl, fun h => hnm (by omega), fun h => absurd h (by decide), (by repeat (first | assumption | exact frB_0 _ | refine frB_u ?_ (by decide)))⟩ | exact ⟨s1, p2, 1, ⟨hst1, by omega, hst.2.2.1, Or.inr (Or.inr ⟨hst2, hst.2.2.2, hne, hp2.2, hall, hex, isI_k hI hne hsm (by omega)⟩)⟩, rfl, rfl, rfl, rfl, fun h => absurd h (by decide), fun h => wrv_1a (by omega) hwd, (by repeat (first | assumption | exact frB_0 _ | refine frB_u ?_ (by decide)))⟩ | exact ⟨s1, p2, 1, ⟨hst1, by omega, hst.2.2.1, Or.inr (Or.inr ⟨hst2, hst.2.2.2, hne, hp2.2, hall, hex, isI_k hI hne hsm (by omega)⟩)⟩, rfl, rfl, rfl, rfl, fun h => absurd h (by decide), fun h => wrv_1b (by omega), (by repeat (first | assumption | exact frB_0 _ | refine frB_u ?_ (by decide)))⟩), (mBz_u (mBz_u (mBz_u (mBz_u (mBz_u hz 5 bs1) 3 bp2) 6 bnum) 10 bz10) 4 bz15), hg⟩
                · skip
                  refine r_iconst hx hb dX10_next0_247 ?_
                  refine lv_goto (tgt := 260) hx hb dX10_next0_248 (by decide) ?_
                  refine r_put C w 0 tyX10 tyX10_ok nmX10 rfl rfl 8 (by decide) inX10 kf_X10_121 rfl rfl rfl (Nat.le_of_ble_eq_true rfl) (ws' := mw cy a (uZ (uZ (uZ (uZ (uZ z 5 s1) 3 p2) 6 num) 10 0) 4 4) g) (mw_z4 cy a (uZ (uZ (uZ (uZ z 5 s1) 3 p2) 6 num) 10 0) g 4) dX10_next0_260 (fun H locs w => ?_)
                  have bz16 : (0 : Int) ≤ 4 ∧ (4 : Int) ≤ 4 := (by omega)
                  exact hend ((uZ (uZ (uZ (uZ (uZ z 5 s1) 3 p2) 6 num) 10 0) 4 4), g) _ _ _ _ dX10_next0_263 w ⟨(by first | exact ⟨s1, p2, 4, ⟨hst1, by omega, hst.2.2.1, Or.inr (Or.inr ⟨hst2, hst.2.2.2, hne, hp2.2, hall, hex, isI_k hI hne hsm (by omega)⟩)⟩, rfl, rfl, rfl, rfl, fun h => absurd h (by decide), fun h => absurd h (by decide), (by repeat (first | assumption | exact frB_0 _ | refine frB_u ?_ (by decide)))⟩ | exact ⟨s1, p2, 2, ⟨hst1, by omega, hst.2.2.1, Or.inr (Or.inr ⟨hst2, hst.2.2.2, hne, hp2.2, hall, hex, isI_k hI hne hsm (by omega)⟩)⟩, rfl, rfl, rfl, rfl, fun h => hnm (by omega), fun h => absurd h (by decide), (by repeat (first | assumption | exact frB_0 _ | refine frB_u ?_ (by decide)))⟩ | exact ⟨s1, p2, 1, ⟨hst1, by omega, hst.2.2.1, Or.inr (Or.inr ⟨hst2, hst.2.2.2, hne, hp2.2, hall, hex, isI_k hI hne hsm (by omega)⟩)⟩, rfl, rfl, rfl, rfl, fun h => absurd h (by decide), fun h => wrv_1a (by omega) hwd, (by repeat (first | assumption | exact frB_0 _ | refine frB_u ?_ (by decide)))⟩ | exact ⟨s1, p2, 1, ⟨hst1, by omega, hst.2.2.1, Or.inr (Or.inr ⟨hst2, hst.2.2.2, hne, hp2.2, hall, hex, isI_k hI hne hsm (by omega)⟩)⟩, rfl, rfl, rfl, rfl, fun h => absurd h (by decide), fun h => wrv_1b (by omega), (by repeat (first | assumption | exact frB_0 _ | refine frB_u ?_ (by decide)))⟩), (mBz_u (mBz_u (mBz_u (mBz_u (mBz_u hz 5 bs1) 3 bp2) 6 bnum) 10 bz10) 4 bz16), hg⟩
        · skip
          refine lv_iload_n hx hb dX10_next0_134 rfl (lv_at hl 2 rfl) ?_
          refine r_if_eq (tgt := 153) hx hb dX10_next0_135 (by decide) (by omega) (fun c135 => ?_) (fun c135 => ?_)
          · skip
            refine r_iconst hx hb dX10_next0_153 ?_
            refine lv_istore_n (lv' := [(3, vI 0), (0, .ref (a 0)), (2, vI sm), (4, vI nn)]) hx hb dX10_next0_154 rfl hl (by decide) rfl (fun ls hl => ?_)
            exact J155 0 (by exact ⟨by omega, by omega⟩) (by first | exact isI_st (t := rv_A) hI hp2.1 hsm (by omega) (by omega) | exact isI_st (t := if isLt (bM z g p2) then 1 else 0) hI hp2.1 hsm (by by_cases q : isLt (bM z g p2); (rw [if_pos q]; exact Or.inl ⟨rfl, q⟩); (rw [if_neg q]; exact Or.inr ⟨rfl, by omega⟩)) (by by_cases q : isLt (bM z g p2); (rw [if_pos q]; omega); (rw [if_neg q]; omega))) _ _ _ w (lv_sub hl [1, 2, 0, 3] rfl)
          · skip
            refine lv_aload_n hx hb dX10_next0_138 rfl (lv_at hl 0 rfl) ?_
            refine cVI C w hA (ct_X10_peek l D cy a (uZ (uZ (uZ (uZ z 5 s1) 3 p2) 6 num) 10 wq) g  (mBz_u (mBz_u (mBz_u (mBz_u hz 5 bs1) 3 bp2) 6 bnum) 10 bwq) hg) ok_X10_peek km_X10_114 ⟨rfl, rfl⟩ ⟨by decide, by decide⟩ ⟨by decide, by decide⟩ rfl 0 rfl rfl hl.1 rfl (Nat.le_of_ble_eq_true rfl) dX10_next0_139 (fun rv_9 uv_9 H locs w hp_9 => ?_)
            replace hp_9 : (p2 < (z 2) ∧ rv_9 = bM z g p2) ∨ ((z 2) ≤ p2 ∧ rv_9 = -1) := hp_9
            replace w : wd D A s.heap (mw cy a (uZ (uZ (uZ (uZ z 5 s1) 3 p2) 6 num) 10 wq) g) H locs := w
            have hBb9 := bM_b z g p2
            refine cSI C w hA (ct_X10_isSmall l D cy a (uZ (uZ (uZ (uZ z 5 s1) 3 p2) 6 num) 10 wq) g rv_9 (by show iR rv_9; omega)) ok_X10_isSmall km_X10_124 ⟨rfl, rfl⟩ ⟨by decide, by decide⟩ ⟨by decide, by decide⟩ rfl hl.1 rfl (Nat.le_of_ble_eq_true rfl) dX10_next0_142 (fun rv_10 uv_10 H locs w hp_10 => ?_)
            replace hp_10 : (rv_10 = 1 ∧ 97 ≤ rv_9 ∧ rv_9 ≤ 122) ∨ (rv_10 = 0 ∧ ¬ (97 ≤ rv_9 ∧ rv_9 ≤ 122)) := hp_10
            replace w : wd D A s.heap (mw cy a (uZ (uZ (uZ (uZ z 5 s1) 3 p2) 6 num) 10 wq) g) H locs := w
            refine lv_iload_n hx hb dX10_next0_145 rfl (lv_at hl 1 rfl) ?_
            refine r_icmp_ne (tgt := 153) hx hb dX10_next0_146 (by decide) (by omega) (by omega) (fun c146 => ?_) (fun c146 => ?_)
            · skip
              refine r_iconst hx hb dX10_next0_153 ?_
              refine lv_istore_n (lv' := [(3, vI 0), (0, .ref (a 0)), (2, vI sm), (4, vI nn)]) hx hb dX10_next0_154 rfl hl (by decide) rfl (fun ls hl => ?_)
              exact J155 0 (by exact ⟨by omega, by omega⟩) (by first | exact isI_st (t := rv_A) hI hp2.1 hsm (by omega) (by omega) | exact isI_st (t := if isLt (bM z g p2) then 1 else 0) hI hp2.1 hsm (by by_cases q : isLt (bM z g p2); (rw [if_pos q]; exact Or.inl ⟨rfl, q⟩); (rw [if_neg q]; exact Or.inr ⟨rfl, by omega⟩)) (by by_cases q : isLt (bM z g p2); (rw [if_pos q]; omega); (rw [if_neg q]; omega))) _ _ _ w (lv_sub hl [1, 2, 0, 3] rfl)
            · skip
              refine r_iconst hx hb dX10_next0_149 ?_
              refine lv_goto (tgt := 154) hx hb dX10_next0_150 (by decide) ?_
              refine lv_istore_n (lv' := [(3, vI 1), (0, .ref (a 0)), (2, vI sm), (4, vI nn)]) hx hb dX10_next0_154 rfl hl (by decide) rfl (fun ls hl => ?_)
              exact J155 1 (by exact ⟨by omega, by omega⟩) (by first | exact isI_st (t := rv_A) hI hp2.1 hsm (by omega) (by omega) | exact isI_st (t := if isLt (bM z g p2) then 1 else 0) hI hp2.1 hsm (by by_cases q : isLt (bM z g p2); (rw [if_pos q]; exact Or.inl ⟨rfl, q⟩); (rw [if_neg q]; exact Or.inr ⟨rfl, by omega⟩)) (by by_cases q : isLt (bM z g p2); (rw [if_pos q]; omega); (rw [if_neg q]; omega))) _ _ _ w (lv_sub hl [1, 2, 0, 3] rfl)
  have J0 : ∀ N : Nat, ∀ (s9 : Int), ((0 : Int) ≤ s9 ∧ s9 ≤ 200) → (z 3 ≤ s9 ∧ s9 ≤ z 2) → (∀ j, z 3 ≤ j → j < s9 → bM z g j = 32 ∨ bM z g j = 10) → ((z 2 - s9).toNat) < N → ∀ (H : Heap) (locs : List Loc) (ls : Array Slot), wd D A s.heap (mw cy a (uZ z 3 s9) g) H locs → lv_has ls 5 [(0, .ref (a 0))] → W p l e (rm_X10_next0) s m args below meth c H locs 0 0 Q (F0 m 0 ls []) := by
    intro N
    induction N with
    | zero => intro s9 bs9 hs hbl hN9; exact absurd hN9 (Nat.not_lt_zero _)
    | succ N ih0 =>
      intro s9 bs9 hs hbl hN0 H locs ls w hl
      refine lv_aload_n hx hb dX10_next0_0 rfl (lv_at hl 0 rfl) ?_
      refine cVI C w hA (ct_X10_peek l D cy a (uZ z 3 s9) g  (mBz_u hz 3 bs9) hg) ok_X10_peek km_X10_114 ⟨rfl, rfl⟩ ⟨by decide, by decide⟩ ⟨by decide, by decide⟩ rfl 0 rfl rfl hl.1 rfl (Nat.le_of_ble_eq_true rfl) dX10_next0_1 (fun rv_11 uv_11 H locs w hp_11 => ?_)
      replace hp_11 : (s9 < (z 2) ∧ rv_11 = bM z g s9) ∨ ((z 2) ≤ s9 ∧ rv_11 = -1) := hp_11
      replace w : wd D A s.heap (mw cy a (uZ z 3 s9) g) H locs := w
      have hBb11 := bM_b z g s9
      refine r_bipush hx hb dX10_next0_4 (by decide) ?_
      refine r_icmp_eq (tgt := 18) hx hb dX10_next0_6 (by decide) (by omega) (by omega) (fun c6 => ?_) (fun c6 => ?_)
      · skip
        refine lv_aload_n hx hb dX10_next0_18 rfl (lv_at hl 0 rfl) ?_
        refine lv_dup hx hb dX10_next0_19 rfl ?_
        refine r_get C w 0 (v := vI s9) rfl rfl 4 (by decide) inX10 kf_X10_111 rfl dX10_next0_20 ?_
        refine r_iconst hx hb dX10_next0_23 ?_
        refine r_iadd hx hb dX10_next0_24 ?_
        refine r_put C w 0 tyX10 tyX10_ok nmX10 rfl rfl 4 (by decide) inX10 kf_X10_111 rfl rfl rfl (Nat.le_of_ble_eq_true rfl) (ws' := mw cy a (uZ z 3 (s9 + 1)) g) rfl dX10_next0_25 (fun H locs w => ?_)
        have bz17 : (0 : Int) ≤ (s9 + 1) ∧ ((s9 + 1) : Int) ≤ 200 := (by omega)
        refine lv_goto (tgt := 0) hx hb dX10_next0_28 (by decide) ?_
        exact ih0 (s9 + 1) bz17 (by omega) (by first | exact al_s hbl (by omega) | (intro j h1 h2; omega)) (by omega) _ _ _ w (lv_sub hl [0] rfl)
      · skip
        refine lv_aload_n hx hb dX10_next0_9 rfl (lv_at hl 0 rfl) ?_
        refine cVI C w hA (ct_X10_peek l D cy a (uZ z 3 s9) g  (mBz_u hz 3 bs9) hg) ok_X10_peek km_X10_114 ⟨rfl, rfl⟩ ⟨by decide, by decide⟩ ⟨by decide, by decide⟩ rfl 0 rfl rfl hl.1 rfl (Nat.le_of_ble_eq_true rfl) dX10_next0_10 (fun rv_12 uv_12 H locs w hp_12 => ?_)
        replace hp_12 : (s9 < (z 2) ∧ rv_12 = bM z g s9) ∨ ((z 2) ≤ s9 ∧ rv_12 = -1) := hp_12
        replace w : wd D A s.heap (mw cy a (uZ z 3 s9) g) H locs := w
        have hBb12 := bM_b z g s9
        refine r_bipush hx hb dX10_next0_13 (by decide) ?_
        refine r_icmp_ne (tgt := 31) hx hb dX10_next0_15 (by decide) (by omega) (by omega) (fun c15 => ?_) (fun c15 => ?_)
        · skip
          have hnb : s9 = z 2 ∨ ¬ (bM z g s9 = 32 ∨ bM z g s9 = 10) := by omega
          refine lv_aload_n hx hb dX10_next0_31 rfl (lv_at hl 0 rfl) ?_
          refine lv_aload_n hx hb dX10_next0_32 rfl (lv_at hl 0 rfl) ?_
          refine r_get C w 0 (v := vI s9) rfl rfl 4 (by decide) inX10 kf_X10_111 rfl dX10_next0_33 ?_
          refine r_put C w 0 tyX10 tyX10_ok nmX10 rfl rfl 9 (by decide) inX10 kf_X10_118 rfl rfl rfl (Nat.le_of_ble_eq_true rfl) (ws' := mw cy a (uZ (uZ z 3 s9) 5 s9) g) (mw_z5 cy a (uZ z 3 s9) g s9) dX10_next0_36 (fun H locs w => ?_)
          have bz18 : (0 : Int) ≤ s9 ∧ (s9 : Int) ≤ 200 := (by omega)
          refine lv_aload_n hx hb dX10_next0_39 rfl (lv_at hl 0 rfl) ?_
          refine cVI C w hA (ct_X10_peek l D cy a (uZ (uZ z 3 s9) 5 s9) g  (mBz_u (mBz_u hz 3 bs9) 5 bz18) hg) ok_X10_peek km_X10_114 ⟨rfl, rfl⟩ ⟨by decide, by decide⟩ ⟨by decide, by decide⟩ rfl 0 rfl rfl hl.1 rfl (Nat.le_of_ble_eq_true rfl) dX10_next0_40 (fun rv_13 uv_13 H locs w hp_13 => ?_)
          replace hp_13 : (s9 < (z 2) ∧ rv_13 = bM z g s9) ∨ ((z 2) ≤ s9 ∧ rv_13 = -1) := hp_13
          replace w : wd D A s.heap (mw cy a (uZ (uZ z 3 s9) 5 s9) g) H locs := w
          have hBb13 := bM_b z g s9
          refine lv_istore_n (lv' := [(1, vI rv_13), (0, .ref (a 0))]) hx hb dX10_next0_43 rfl hl (by decide) rfl (fun ls hl => ?_)
          refine lv_iload_n hx hb dX10_next0_44 rfl (lv_at hl 0 rfl) ?_
          refine r_if_ge (tgt := 54) hx hb dX10_next0_45 (by decide) (by omega) (fun c45 => ?_) (fun c45 => ?_)
          · skip
            refine lv_iload_n hx hb dX10_next0_54 rfl (lv_at hl 0 rfl) ?_
            refine cSI C w hA (ct_X10_isSmall l D cy a (uZ (uZ z 3 s9) 5 s9) g rv_13 (by show iR rv_13; omega)) ok_X10_isSmall km_X10_124 ⟨rfl, rfl⟩ ⟨by decide, by decide⟩ ⟨by decide, by decide⟩ rfl hl.1 rfl (Nat.le_of_ble_eq_true rfl) dX10_next0_55 (fun rv_14 uv_14 H locs w hp_14 => ?_)
            replace hp_14 : (rv_14 = 1 ∧ 97 ≤ rv_13 ∧ rv_13 ≤ 122) ∨ (rv_14 = 0 ∧ ¬ (97 ≤ rv_13 ∧ rv_13 ≤ 122)) := hp_14
            replace w : wd D A s.heap (mw cy a (uZ (uZ z 3 s9) 5 s9) g) H locs := w
            refine r_if_ne (tgt := 94) hx hb dX10_next0_58 (by decide) (by omega) (fun c58 => ?_) (fun c58 => ?_)
            · skip
              refine lv_iload_n hx hb dX10_next0_94 rfl (lv_at hl 0 rfl) ?_
              refine cSI C w hA (ct_X10_isSmall l D cy a (uZ (uZ z 3 s9) 5 s9) g rv_13 (by show iR rv_13; omega)) ok_X10_isSmall km_X10_124 ⟨rfl, rfl⟩ ⟨by decide, by decide⟩ ⟨by decide, by decide⟩ rfl hl.1 rfl (Nat.le_of_ble_eq_true rfl) dX10_next0_95 (fun rv_15 uv_15 H locs w hp_15 => ?_)
              replace hp_15 : (rv_15 = 1 ∧ 97 ≤ rv_13 ∧ rv_13 ≤ 122) ∨ (rv_15 = 0 ∧ ¬ (97 ≤ rv_13 ∧ rv_13 ≤ 122)) := hp_15
              replace w : wd D A s.heap (mw cy a (uZ (uZ z 3 s9) 5 s9) g) H locs := w
              refine lv_istore_n (lv' := [(2, vI rv_15), (1, vI rv_13), (0, .ref (a 0))]) hx hb dX10_next0_98 rfl hl (by decide) rfl (fun ls hl => ?_)
              refine r_iconst hx hb dX10_next0_99 ?_
              refine lv_istore_n (lv' := [(3, vI 1), (2, vI rv_15), (1, vI rv_13), (0, .ref (a 0))]) hx hb dX10_next0_100 rfl hl (by decide) rfl (fun ls hl => ?_)
              refine r_iconst hx hb dX10_next0_101 ?_
              refine lv_istore (lv' := [(4, vI 0), (3, vI 1), (2, vI rv_15), (1, vI rv_13), (0, .ref (a 0))]) hx hb dX10_next0_102 hl (by decide) rfl (fun ls hl => ?_)
              refine lv_aload_n hx hb dX10_next0_104 rfl (lv_at hl 4 rfl) ?_
              refine r_lconst (z := 0) hx hb dX10_next0_105 (by decide) ?_
              refine r_put C w 0 tyX10 tyX10_ok nmX10 rfl rfl 14 (by decide) inX10 kf_X10_131 rfl rfl rfl (Nat.le_of_ble_eq_true rfl) (ws' := mw cy a (uZ (uZ (uZ z 3 s9) 5 s9) 10 0) g) (mw_z10 cy a (uZ (uZ z 3 s9) 5 s9) g 0) dX10_next0_106 (fun H locs w => ?_)
              have bz19 : (-9223372036854775808 : Int) ≤ 0 ∧ (0 : Int) ≤ 9223372036854775807 := (by omega)
              refine lv_aload_n hx hb dX10_next0_109 rfl (lv_at hl 4 rfl) ?_
              refine r_iconst hx hb dX10_next0_110 ?_
              refine r_put C w 0 tyX10 tyX10_ok nmX10 rfl rfl 10 (by decide) inX10 kf_X10_135 rfl rfl rfl (Nat.le_of_ble_eq_true rfl) (ws' := mw cy a (uZ (uZ (uZ (uZ z 3 s9) 5 s9) 10 0) 6 0) g) (mw_z6 cy a (uZ (uZ (uZ z 3 s9) 5 s9) 10 0) g 0) dX10_next0_111 (fun H locs w => ?_)
              have bz20 : (-2147483648 : Int) ≤ 0 ∧ (0 : Int) ≤ 2147483647 := (by omega)
              exact J114 _ rv_15 1 0 s9 s9 0 0 bs9 bz20 bz19 (by omega) (by exact ⟨hs.1, by omega, hbl, by omega⟩) (by omega) (by omega) (by omega) (by intro j h1 h2; omega) (by exact isI_0 (by omega)) (by intro q; rw [nv_0]) (by intro q; rw [pwd_0]) (Nat.lt_succ_self _) _ _ _ w (lv_sub hl [4, 2, 1, 0] rfl)
            · skip
              refine lv_iload_n hx hb dX10_next0_61 rfl (lv_at hl 0 rfl) ?_
              refine cSI C w hA (ct_X10_isDigit l D cy a (uZ (uZ z 3 s9) 5 s9) g rv_13 (by show iR rv_13; omega)) ok_X10_isDigit km_X10_128 ⟨rfl, rfl⟩ ⟨by decide, by decide⟩ ⟨by decide, by decide⟩ rfl hl.1 rfl (Nat.le_of_ble_eq_true rfl) dX10_next0_62 (fun rv_16 uv_16 H locs w hp_16 => ?_)
              replace hp_16 : (rv_16 = 1 ∧ 48 ≤ rv_13 ∧ rv_13 ≤ 57) ∨ (rv_16 = 0 ∧ ¬ (48 ≤ rv_13 ∧ rv_13 ≤ 57)) := hp_16
              replace w : wd D A s.heap (mw cy a (uZ (uZ z 3 s9) 5 s9) g) H locs := w
              refine r_if_ne (tgt := 94) hx hb dX10_next0_65 (by decide) (by omega) (fun c65 => ?_) (fun c65 => ?_)
              · skip
                refine lv_iload_n hx hb dX10_next0_94 rfl (lv_at hl 0 rfl) ?_
                refine cSI C w hA (ct_X10_isSmall l D cy a (uZ (uZ z 3 s9) 5 s9) g rv_13 (by show iR rv_13; omega)) ok_X10_isSmall km_X10_124 ⟨rfl, rfl⟩ ⟨by decide, by decide⟩ ⟨by decide, by decide⟩ rfl hl.1 rfl (Nat.le_of_ble_eq_true rfl) dX10_next0_95 (fun rv_17 uv_17 H locs w hp_17 => ?_)
                replace hp_17 : (rv_17 = 1 ∧ 97 ≤ rv_13 ∧ rv_13 ≤ 122) ∨ (rv_17 = 0 ∧ ¬ (97 ≤ rv_13 ∧ rv_13 ≤ 122)) := hp_17
                replace w : wd D A s.heap (mw cy a (uZ (uZ z 3 s9) 5 s9) g) H locs := w
                refine lv_istore_n (lv' := [(2, vI rv_17), (1, vI rv_13), (0, .ref (a 0))]) hx hb dX10_next0_98 rfl hl (by decide) rfl (fun ls hl => ?_)
                refine r_iconst hx hb dX10_next0_99 ?_
                refine lv_istore_n (lv' := [(3, vI 1), (2, vI rv_17), (1, vI rv_13), (0, .ref (a 0))]) hx hb dX10_next0_100 rfl hl (by decide) rfl (fun ls hl => ?_)
                refine r_iconst hx hb dX10_next0_101 ?_
                refine lv_istore (lv' := [(4, vI 0), (3, vI 1), (2, vI rv_17), (1, vI rv_13), (0, .ref (a 0))]) hx hb dX10_next0_102 hl (by decide) rfl (fun ls hl => ?_)
                refine lv_aload_n hx hb dX10_next0_104 rfl (lv_at hl 4 rfl) ?_
                refine r_lconst (z := 0) hx hb dX10_next0_105 (by decide) ?_
                refine r_put C w 0 tyX10 tyX10_ok nmX10 rfl rfl 14 (by decide) inX10 kf_X10_131 rfl rfl rfl (Nat.le_of_ble_eq_true rfl) (ws' := mw cy a (uZ (uZ (uZ z 3 s9) 5 s9) 10 0) g) (mw_z10 cy a (uZ (uZ z 3 s9) 5 s9) g 0) dX10_next0_106 (fun H locs w => ?_)
                have bz21 : (-9223372036854775808 : Int) ≤ 0 ∧ (0 : Int) ≤ 9223372036854775807 := (by omega)
                refine lv_aload_n hx hb dX10_next0_109 rfl (lv_at hl 4 rfl) ?_
                refine r_iconst hx hb dX10_next0_110 ?_
                refine r_put C w 0 tyX10 tyX10_ok nmX10 rfl rfl 10 (by decide) inX10 kf_X10_135 rfl rfl rfl (Nat.le_of_ble_eq_true rfl) (ws' := mw cy a (uZ (uZ (uZ (uZ z 3 s9) 5 s9) 10 0) 6 0) g) (mw_z6 cy a (uZ (uZ (uZ z 3 s9) 5 s9) 10 0) g 0) dX10_next0_111 (fun H locs w => ?_)
                have bz22 : (-2147483648 : Int) ≤ 0 ∧ (0 : Int) ≤ 2147483647 := (by omega)
                exact J114 _ rv_17 1 0 s9 s9 0 0 bs9 bz22 bz21 (by omega) (by exact ⟨hs.1, by omega, hbl, by omega⟩) (by omega) (by omega) (by omega) (by intro j h1 h2; omega) (by exact isI_0 (by omega)) (by intro q; rw [nv_0]) (by intro q; rw [pwd_0]) (Nat.lt_succ_self _) _ _ _ w (lv_sub hl [4, 2, 1, 0] rfl)
              · skip
                refine lv_aload_n hx hb dX10_next0_68 rfl (lv_at hl 1 rfl) ?_
                refine lv_iload_n hx hb dX10_next0_69 rfl (lv_at hl 0 rfl) ?_
                refine r_bipush hx hb dX10_next0_70 (by decide) ?_
                refine r_icmp_ne (tgt := 79) hx hb dX10_next0_72 (by decide) (by omega) (by omega) (fun c72 => ?_) (fun c72 => ?_)
                · skip
                  refine r_iconst hx hb dX10_next0_79 ?_
                  refine r_put C w 0 tyX10 tyX10_ok nmX10 rfl rfl 8 (by decide) inX10 kf_X10_121 rfl rfl rfl (Nat.le_of_ble_eq_true rfl) (ws' := mw cy a (uZ (uZ (uZ z 3 s9) 5 s9) 4 4) g) (mw_z4 cy a (uZ (uZ z 3 s9) 5 s9) g 4) dX10_next0_80 (fun H locs w => ?_)
                  have bz23 : (0 : Int) ≤ 4 ∧ (4 : Int) ≤ 4 := (by omega)
                  refine lv_aload_n hx hb dX10_next0_83 rfl (lv_at hl 1 rfl) ?_
                  refine lv_dup hx hb dX10_next0_84 rfl ?_
                  refine r_get C w 0 (v := vI s9) rfl rfl 4 (by decide) inX10 kf_X10_111 rfl dX10_next0_85 ?_
                  refine r_iconst hx hb dX10_next0_88 ?_
                  refine r_iadd hx hb dX10_next0_89 ?_
                  refine r_put C w 0 tyX10 tyX10_ok nmX10 rfl rfl 4 (by decide) inX10 kf_X10_111 rfl rfl rfl (Nat.le_of_ble_eq_true rfl) (ws' := mw cy a (uZ (uZ (uZ z 3 (s9 + 1)) 5 s9) 4 4) g) rfl dX10_next0_90 (fun H locs w => ?_)
                  have bz24 : (0 : Int) ≤ (s9 + 1) ∧ ((s9 + 1) : Int) ≤ 200 := (by omega)
                  exact hend ((uZ (uZ (uZ z 3 (s9 + 1)) 5 s9) 4 4), g) _ _ _ _ dX10_next0_93 w ⟨(by first | exact ⟨s9, s9 + 1, 3, ⟨hs.1, hs.2, hbl, Or.inr (Or.inl ⟨by omega, by omega, by omega, rfl, by omega⟩)⟩, rfl, rfl, rfl, rfl, fun h => absurd h (by decide), fun h => absurd h (by decide), (by repeat (first | assumption | exact frB_0 _ | refine frB_u ?_ (by decide)))⟩ | exact ⟨s9, s9 + 1, 4, ⟨hs.1, hs.2, hbl, Or.inr (Or.inl ⟨by omega, by omega, by omega, rfl, by omega⟩)⟩, rfl, rfl, rfl, rfl, fun h => absurd h (by decide), fun h => absurd h (by decide), (by repeat (first | assumption | exact frB_0 _ | refine frB_u ?_ (by decide)))⟩), (mBz_u (mBz_u (mBz_u hz 3 bz24) 5 bz18) 4 bz23), hg⟩
                · skip
                  refine r_iconst hx hb dX10_next0_75 ?_
                  refine lv_goto (tgt := 80) hx hb dX10_next0_76 (by decide) ?_
                  refine r_put C w 0 tyX10 tyX10_ok nmX10 rfl rfl 8 (by decide) inX10 kf_X10_121 rfl rfl rfl (Nat.le_of_ble_eq_true rfl) (ws' := mw cy a (uZ (uZ (uZ z 3 s9) 5 s9) 4 3) g) (mw_z4 cy a (uZ (uZ z 3 s9) 5 s9) g 3) dX10_next0_80 (fun H locs w => ?_)
                  have bz25 : (0 : Int) ≤ 3 ∧ (3 : Int) ≤ 4 := (by omega)
                  refine lv_aload_n hx hb dX10_next0_83 rfl (lv_at hl 1 rfl) ?_
                  refine lv_dup hx hb dX10_next0_84 rfl ?_
                  refine r_get C w 0 (v := vI s9) rfl rfl 4 (by decide) inX10 kf_X10_111 rfl dX10_next0_85 ?_
                  refine r_iconst hx hb dX10_next0_88 ?_
                  refine r_iadd hx hb dX10_next0_89 ?_
                  refine r_put C w 0 tyX10 tyX10_ok nmX10 rfl rfl 4 (by decide) inX10 kf_X10_111 rfl rfl rfl (Nat.le_of_ble_eq_true rfl) (ws' := mw cy a (uZ (uZ (uZ z 3 (s9 + 1)) 5 s9) 4 3) g) rfl dX10_next0_90 (fun H locs w => ?_)
                  have bz26 : (0 : Int) ≤ (s9 + 1) ∧ ((s9 + 1) : Int) ≤ 200 := (by omega)
                  exact hend ((uZ (uZ (uZ z 3 (s9 + 1)) 5 s9) 4 3), g) _ _ _ _ dX10_next0_93 w ⟨(by first | exact ⟨s9, s9 + 1, 3, ⟨hs.1, hs.2, hbl, Or.inr (Or.inl ⟨by omega, by omega, by omega, rfl, by omega⟩)⟩, rfl, rfl, rfl, rfl, fun h => absurd h (by decide), fun h => absurd h (by decide), (by repeat (first | assumption | exact frB_0 _ | refine frB_u ?_ (by decide)))⟩ | exact ⟨s9, s9 + 1, 4, ⟨hs.1, hs.2, hbl, Or.inr (Or.inl ⟨by omega, by omega, by omega, rfl, by omega⟩)⟩, rfl, rfl, rfl, rfl, fun h => absurd h (by decide), fun h => absurd h (by decide), (by repeat (first | assumption | exact frB_0 _ | refine frB_u ?_ (by decide)))⟩), (mBz_u (mBz_u (mBz_u hz 3 bz26) 5 bz18) 4 bz25), hg⟩
          · skip
            refine lv_aload_n hx hb dX10_next0_48 rfl (lv_at hl 1 rfl) ?_
            refine r_iconst hx hb dX10_next0_49 ?_
            refine r_put C w 0 tyX10 tyX10_ok nmX10 rfl rfl 8 (by decide) inX10 kf_X10_121 rfl rfl rfl (Nat.le_of_ble_eq_true rfl) (ws' := mw cy a (uZ (uZ (uZ z 3 s9) 5 s9) 4 0) g) (mw_z4 cy a (uZ (uZ z 3 s9) 5 s9) g 0) dX10_next0_50 (fun H locs w => ?_)
            have bz27 : (0 : Int) ≤ 0 ∧ (0 : Int) ≤ 4 := (by omega)
            exact hend ((uZ (uZ (uZ z 3 s9) 5 s9) 4 0), g) _ _ _ _ dX10_next0_53 w ⟨(by exact ⟨s9, s9, 0, ⟨hs.1, hs.2, hbl, Or.inl ⟨by omega, rfl, rfl⟩⟩, rfl, rfl, rfl, rfl, fun h => absurd h (by decide), fun h => absurd h (by decide), (by repeat (first | assumption | exact frB_0 _ | refine frB_u ?_ (by decide)))⟩), (mBz_u (mBz_u (mBz_u hz 3 bs9) 5 bz18) 4 bz27), hg⟩
        · skip
          refine lv_aload_n hx hb dX10_next0_18 rfl (lv_at hl 0 rfl) ?_
          refine lv_dup hx hb dX10_next0_19 rfl ?_
          refine r_get C w 0 (v := vI s9) rfl rfl 4 (by decide) inX10 kf_X10_111 rfl dX10_next0_20 ?_
          refine r_iconst hx hb dX10_next0_23 ?_
          refine r_iadd hx hb dX10_next0_24 ?_
          refine r_put C w 0 tyX10 tyX10_ok nmX10 rfl rfl 4 (by decide) inX10 kf_X10_111 rfl rfl rfl (Nat.le_of_ble_eq_true rfl) (ws' := mw cy a (uZ z 3 (s9 + 1)) g) rfl dX10_next0_25 (fun H locs w => ?_)
          have bz28 : (0 : Int) ≤ (s9 + 1) ∧ ((s9 + 1) : Int) ≤ 200 := (by omega)
          refine lv_goto (tgt := 0) hx hb dX10_next0_28 (by decide) ?_
          exact ih0 (s9 + 1) bz28 (by omega) (by first | exact al_s hbl (by omega) | (intro j h1 h2; omega)) (by omega) _ _ _ w (lv_sub hl [0] rfl)
  replace hl : lv_has ls 5 [(0, .ref (a 0))] := hl
  exact J0 _ (z 3) (mZ3 hz) (by omega) (by first | exact al_s hbl (by omega) | (intro j h1 h2; omega)) (Nat.lt_succ_self _) _ _ _ w (lv_sub hl [0] rfl)

