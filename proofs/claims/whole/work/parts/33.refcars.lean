/-! cars: the reference tries all ways -/
theorem iI_shl {a q : Int} (k : Nat) (ha : 0 ≤ a ∧ a * 2 ^ k < 4294967296) (hs : ((iI q &&& 31).toBitVec.smod 32).toNat = k) : iI a <<< (iI q &&& 31) = iI (a * 2 ^ k) := by
  obtain ⟨n, rfl⟩ := Int.eq_ofNat_of_zero_le ha.1
  have e : (n : Int) * 2 ^ k = ((n * 2 ^ k : Nat) : Int) := by simp
  rw [e, ← iI_nat, ← iI_nat]
  exact pk_shlN _ k hs (by have := ha.2; rw [e] at this; omega)
section RX
variable {p : Program} {l : Launch} {e : Env} {R : Room} {s : State} {m : MethodId} {args : Array Value} {below : List Frame} {meth : Method} {c : Code} {H : Heap} {locs : List Loc} {cells slots : Nat} {Q : State → Prop}
variable {cc : ByteArray} {pc : Nat} {ls : Array Slot} {rest : List Value}
theorem r_ishl (hx : p.tables.exec = Jvm.exec) (hb : c.code = cc) {a q : Int} (k : Nat) (hdg : decode cc pc = .ok (.ishl, 1)) (ha : 0 ≤ a ∧ a * 2 ^ k < 4294967296) (hs : ((iI q &&& 31).toBitVec.smod 32).toNat = k) (kk : W p l e R s m args below meth c H locs cells slots Q (F0 m (pc + 1) ls (vI (a * 2 ^ k) :: rest))) : W p l e R s m args below meth c H locs cells slots Q (F0 m pc ls (vI q :: vI a :: rest)) := lv_ishl hx hb hdg (by rw [iI_shl k ha hs]; exact kk)
theorem r_ior (hx : p.tables.exec = Jvm.exec) (hb : c.code = cc) {a b : Int} (k : Nat) (hdg : decode cc pc = .ok (.ior, 1)) (ha : 0 ≤ a) (hb2 : 0 ≤ b ∧ b < 2 ^ k) (kk : W p l e R s m args below meth c H locs cells slots Q (F0 m (pc + 1) ls (vI (a * 2 ^ k + b) :: rest))) : W p l e R s m args below meth c H locs cells slots Q (F0 m pc ls (vI b :: vI (a * 2 ^ k) :: rest)) := lv_ior hx hb hdg (by rw [iI_orS k ha hb2.1 hb2.2]; exact kk)
end RX
abbrev pHM (g : Nat → Int → Int) : Int → Int := fun h => g 1 (4 * h) % 2 ^ 8 * 2 ^ 8 + g 1 (4 * h + 1) % 2 ^ 8
abbrev fHM (g : Nat → Int → Int) : Int → Int := fun h => g 1 (4 * h + 2) % 2 ^ 8 * 2 ^ 8 + g 1 (4 * h + 3) % 2 ^ 8
theorem pHM_b (g : Nat → Int → Int) (h : Int) : 0 ≤ pHM g h ∧ pHM g h ≤ 65535 := by
  show 0 ≤ g 1 (4 * h) % 2 ^ 8 * 2 ^ 8 + g 1 (4 * h + 1) % 2 ^ 8 ∧ g 1 (4 * h) % 2 ^ 8 * 2 ^ 8 + g 1 (4 * h + 1) % 2 ^ 8 ≤ 65535
  omega
theorem fHM_b (g : Nat → Int → Int) (h : Int) : 0 ≤ fHM g h ∧ fHM g h ≤ 65535 := by
  show 0 ≤ g 1 (4 * h + 2) % 2 ^ 8 * 2 ^ 8 + g 1 (4 * h + 3) % 2 ^ 8 ∧ g 1 (4 * h + 2) % 2 ^ 8 * 2 ^ 8 + g 1 (4 * h + 3) % 2 ^ 8 ≤ 65535
  omega
def SM (g : Nat → Int → Int) (h k : Int) : Int := sumI (wv (pHM g h) (fHM g h)) k
theorem wv_b {p f k : Int} (hp : 0 ≤ p ∧ p ≤ 65535) (hf : 0 ≤ f) (hk : 0 ≤ k) : 0 ≤ wv p f k ∧ wv p f k ≤ 65535 := by
  have := Int.mul_nonneg hk hf
  unfold wv mx
  split <;> omega
theorem SM_b (g : Nat → Int → Int) (h : Int) {k : Int} (hk : 0 ≤ k) : 0 ≤ SM g h k ∧ SM g h k ≤ k * 65535 := sumI_b hk (fun j h1 _ => wv_b (pHM_b g h) (fHM_b g h).1 h1)
theorem SM_s (g : Nat → Int → Int) (h : Int) {k v : Int} (hk : 0 ≤ k) (hv : (k * fHM g h < pHM g h ∧ v = pHM g h - k * fHM g h) ∨ (pHM g h ≤ k * fHM g h ∧ v = 0)) : SM g h k + v = SM g h (k + 1) := by
  unfold SM
  rw [sumI_s _ hk]
  congr 1
  unfold wv mx
  split <;> omega
def TM (g : Nat → Int → Int) (n a b c : Int) : Int := SM g 0 a + SM g 1 b + SM g 2 c + SM g 3 (n - a - b - c)
abbrev vl3 (n a b c : Int) : Prop := 0 ≤ a ∧ 0 ≤ b ∧ 0 ≤ c ∧ a + b + c ≤ n
abbrev lx3 (a b c x y w : Int) : Prop := a < x ∨ (a = x ∧ (b < y ∨ (b = y ∧ c ≤ w)))
def OpS (g : Nat → Int → Int) (n : Int) (P : Int → Int → Int → Prop) (v : Int) (x : Int → Int) : Prop :=
  (v = -1 ∧ ∀ a b c, vl3 n a b c → ¬ P a b c) ∨ (vl3 n (x 0) (x 1) (x 2) ∧ P (x 0) (x 1) (x 2) ∧ x 3 = n - x 0 - x 1 - x 2 ∧ v = TM g n (x 0) (x 1) (x 2) ∧ ∀ a b c, vl3 n a b c → P a b c → TM g n a b c ≤ v ∧ (TM g n a b c = v → lx3 a b c (x 0) (x 1) (x 2)))
theorem OpS_cg {g : Nat → Int → Int} {n v : Int} {P Q : Int → Int → Int → Prop} {x : Int → Int} (h : OpS g n P v x) (hq : ∀ a b c, vl3 n a b c → (P a b c ↔ Q a b c)) : OpS g n Q v x := by
  rcases h with ⟨h1, h2⟩ | ⟨h1, h2, h3, h4, h5⟩
  · exact Or.inl ⟨h1, fun a b c a1 a2 => h2 a b c a1 ((hq a b c a1).mpr a2)⟩
  · exact Or.inr ⟨h1, (hq _ _ _ h1).mp h2, h3, h4, fun a b c a1 a2 => h5 a b c a1 ((hq a b c a1).mpr a2)⟩
abbrev P207 (a b c : Int) : Int → Int → Int → Prop := fun x y w => a < x ∨ (a = x ∧ (b < y ∨ (b = y ∧ c < w)))
abbrev P194 (a b : Int) : Int → Int → Int → Prop := fun x y _ => a < x ∨ (a = x ∧ b < y)
abbrev P185 (a : Int) : Int → Int → Int → Prop := fun x _ _ => a < x
theorem OpS_kp {g : Nat → Int → Int} {n v a b c : Int} {x : Int → Int} (h : OpS g n (P207 a b c) v x) (hv : vl3 n a b c) (ht : TM g n a b c ≤ v) (h0 : 0 ≤ TM g n a b c) : OpS g n (P207 a b (c + -1)) v x := by
  rcases h with ⟨h1, h2⟩ | ⟨h1, h2, h3, h4, h5⟩
  · omega
  · refine Or.inr ⟨h1, by show P207 a b (c + -1) (x 0) (x 1) (x 2); omega, h3, h4, fun d e f a1 a2 => ?_⟩
    by_cases q : P207 a b c d e f
    · exact h5 d e f a1 q
    · have e1 : d = a := by omega
      have e2 : e = b := by omega
      have e3 : f = c := by omega
      subst e1; subst e2; subst e3
      exact ⟨ht, fun _ => by omega⟩
theorem OpS_up {g : Nat → Int → Int} {n v a b c : Int} {x : Int → Int} (h : OpS g n (P207 a b c) v x) (hv : vl3 n a b c) (ht : v < TM g n a b c) (h0 : 0 ≤ TM g n a b c) : OpS g n (P207 a b (c + -1)) (TM g n a b c) (uI (uI (uI (uI x 0 a) 1 b) 2 c) 3 (n - a - b - c)) := by
  have e0 : uI (uI (uI (uI x 0 a) 1 b) 2 c) 3 (n - a - b - c) 0 = a := rfl
  have e1 : uI (uI (uI (uI x 0 a) 1 b) 2 c) 3 (n - a - b - c) 1 = b := rfl
  have e2 : uI (uI (uI (uI x 0 a) 1 b) 2 c) 3 (n - a - b - c) 2 = c := rfl
  have e3 : uI (uI (uI (uI x 0 a) 1 b) 2 c) 3 (n - a - b - c) 3 = n - a - b - c := rfl
  unfold OpS
  rw [e0, e1, e2, e3]
  refine Or.inr ⟨hv, by show P207 a b (c + -1) a b c; omega, rfl, rfl, fun d e f a1 a2 => ?_⟩
  by_cases q : P207 a b c d e f
  · rcases h with ⟨h1, h2⟩ | ⟨h1, h2, h3, h4, h5⟩
    · exact absurd q (h2 d e f a1)
    · have := (h5 d e f a1 q).1
      exact ⟨by omega, fun z => by omega⟩
  · rw [show d = a by omega, show e = b by omega, show f = c by omega]
    exact ⟨Int.le_refl _, fun _ => by omega⟩
/-- the outcome of trying all ways -/
def Op (g : Nat → Int → Int) (n v : Int) (x : Int → Int) : Prop := vl3 n (x 0) (x 1) (x 2) ∧ x 3 = n - x 0 - x 1 - x 2 ∧ v = TM g n (x 0) (x 1) (x 2) ∧ ∀ a b c, vl3 n a b c → TM g n a b c ≤ v ∧ (TM g n a b c = v → lx3 a b c (x 0) (x 1) (x 2))
theorem OpS_fin {g : Nat → Int → Int} {n v a : Int} {x : Int → Int} (hn : 0 ≤ n) (ha : a < 0) (h : OpS g n (P185 a) v x) : Op g n v x := by
  rcases h with ⟨h1, h2⟩ | ⟨h1, h2, h3, h4, h5⟩
  · exact absurd (show P185 a 0 0 0 by omega) (h2 0 0 0 (by omega))
  · exact ⟨h1, h3, h4, fun d e f a1 => h5 d e f a1 (by show a < d; omega)⟩
def WoI (g : Nat → Int → Int) (n i : Int) (wo : Int → Int) : Prop := ∀ h k, 0 ≤ h → h < i → 0 ≤ k → k ≤ n → wo (41 * h + k) = SM g h k
theorem WoI_st {g : Nat → Int → Int} {n i k v : Int} {wo : Int → Int} (hi : 0 ≤ i) (hn : n ≤ 40) (hk : 0 ≤ k ∧ k < n) (hW : WoI g n i wo) (hI : ∀ j, 0 ≤ j → j ≤ k → wo (41 * i + j) = SM g i j) (hv : wo (41 * i + k) + v = SM g i (k + 1)) : WoI g n i (uI wo (41 * i + k + 1) (wo (41 * i + k) + v)) ∧ ∀ j, 0 ≤ j → j ≤ k + 1 → uI wo (41 * i + k + 1) (wo (41 * i + k) + v) (41 * i + j) = SM g i j := by
  constructor
  · intro h j h1 h2 h3 h4
    rw [uI_n _ _ (by omega)]
    exact hW h j h1 h2 h3 h4
  · intro j h1 h2
    by_cases e : j = k + 1
    · rw [e, show 41 * i + (k + 1) = 41 * i + k + 1 by omega, uI_s, hv]
    · rw [uI_n _ _ (by omega)]
      exact hI j h1 (by omega)
theorem WoI_in {g : Nat → Int → Int} {n i : Int} {wo : Int → Int} (hi : 0 ≤ i) (hn : n ≤ 40) (hW : WoI g n i wo) : WoI g n i (uI wo (41 * i) 0) ∧ ∀ j, 0 ≤ j → j ≤ 0 → uI wo (41 * i) 0 (41 * i + j) = SM g i j := by
  constructor
  · intro h j h1 h2 h3 h4
    rw [uI_n _ _ (by omega)]
    exact hW h j h1 h2 h3 h4
  · intro j h1 h2
    rw [show j = 0 by omega, Int.add_zero, uI_s]
    rfl
theorem WoI_up {g : Nat → Int → Int} {n i : Int} {wo : Int → Int} (hW : WoI g n i wo) (hI : ∀ j, 0 ≤ j → j ≤ n → wo (41 * i + j) = SM g i j) : WoI g n (i + 1) wo := by
  intro h j h1 h2 h3 h4
  by_cases e : h = i
  · rw [e]; exact hI j h3 h4
  · exact hW h j h1 (by omega) h3 h4

abbrev rm_X10_taken : Room := { frames := 0, cells := 0, slots := 0, locals := 0 }
set_option maxHeartbeats 4000000 in
set_option maxRecDepth 100000 in
theorem ct_X10_taken (l : Launch) (D : va_G) (cy : Nat → ClassId) (a : Nat → Nat) (z : Nat → Int) (g : Nat → Int → Int)  (hz : mBz z) (hg : mBg g) : MV l yX10_taken cX10_taken 1 (rm_X10_taken) D cy (mw cy a z g) [.ref (a 0)] (fun (u : sX) => (u = (uZ (uZ (uZ z 2 (z 1)) 1 0) 3 0, g)) ∧ mBz u.1 ∧ mBg u.2) (fun u => mw cy a u.1 u.2) 0 0 := by
  refine go_v (by decide +kernel) (Nat.le_of_ble_eq_true rfl) ?_
  intro p e s m args below meth c Q A ls C hnm hA w hl hend
  have hx := C.1
  have hb := C.2.1
  replace hl : lv_has ls 1 [(0, .ref (a 0))] := hl
  refine lv_aload_n hx hb dX10_taken_0 rfl (lv_at hl 0 rfl) ?_
  refine lv_aload_n hx hb dX10_taken_1 rfl (lv_at hl 0 rfl) ?_
  refine r_get C w 0 (v := vI (z 1)) rfl rfl 2 (by decide) inX10 kf_X10_101 rfl dX10_taken_2 ?_
  have qz1 := mZ1 hz
  refine r_put C w 0 tyX10 tyX10_ok nmX10 rfl rfl 3 (by decide) inX10 kf_X10_108 rfl rfl rfl (Nat.le_of_ble_eq_true rfl) (ws' := mw cy a (uZ z 2 (z 1)) g) (mw_z2 cy a z g (z 1)) dX10_taken_5 (fun H locs w => ?_)
  have bz2 : (0 : Int) ≤ (z 1) ∧ ((z 1) : Int) ≤ 200 := (by omega)
  refine lv_aload_n hx hb dX10_taken_8 rfl (lv_at hl 0 rfl) ?_
  refine r_iconst hx hb dX10_taken_9 ?_
  refine r_put C w 0 tyX10 tyX10_ok nmX10 rfl rfl 2 (by decide) inX10 kf_X10_101 rfl rfl rfl (Nat.le_of_ble_eq_true rfl) (ws' := mw cy a (uZ (uZ z 2 (z 1)) 1 0) g) (mw_z1 cy a (uZ z 2 (z 1)) g 0) dX10_taken_10 (fun H locs w => ?_)
  have bz3 : (0 : Int) ≤ 0 ∧ (0 : Int) ≤ 200 := (by omega)
  refine lv_aload_n hx hb dX10_taken_13 rfl (lv_at hl 0 rfl) ?_
  refine r_iconst hx hb dX10_taken_14 ?_
  refine r_put C w 0 tyX10 tyX10_ok nmX10 rfl rfl 4 (by decide) inX10 kf_X10_111 rfl rfl rfl (Nat.le_of_ble_eq_true rfl) (ws' := mw cy a (uZ (uZ (uZ z 2 (z 1)) 1 0) 3 0) g) (mw_z3 cy a (uZ (uZ z 2 (z 1)) 1 0) g 0) dX10_taken_15 (fun H locs w => ?_)
  have bz4 : (0 : Int) ≤ 0 ∧ (0 : Int) ≤ 200 := (by omega)
  exact hend ((uZ (uZ (uZ z 2 (z 1)) 1 0) 3 0), g) _ _ _ _ dX10_taken_18 w ⟨(by rfl), (mBz_u (mBz_u (mBz_u hz 2 bz2) 1 bz3) 3 bz4), hg⟩

abbrev rm_X10_cars : Room := { frames := 1, cells := 0, slots := 0, locals := 20 }
set_option maxHeartbeats 4000000 in
set_option maxRecDepth 100000 in
theorem ct_X10_cars (l : Launch) (D : va_G) (cy : Nat → ClassId) (a : Nat → Nat) (z : Nat → Int) (g : Nat → Int → Int) (p0 : Int) (hz : mBz z) (hg : mBg g) (h0 : iR p0) : MI l yX10_cars cX10_cars 7 .int (rm_X10_cars) D cy (mw cy a z g) [.ref (a 0), vI p0] (fun (v : Int) (u : sX) => ((¬ (z 1 = 16 ∧ 1 ≤ p0 ∧ p0 ≤ 40) ∧ v = -1 ∧ u = (uZ (uZ (uZ (uZ z 0 0) 2 (z 1)) 1 0) 3 0, g)) ∨ ((z 1 = 16 ∧ 1 ≤ p0 ∧ p0 ≤ 40) ∧ u.1 = uZ (uZ (uZ (uZ (uZ z 0 0) 2 (z 1)) 1 0) 3 0) 14 1 ∧ ∃ f1 f2 : Int → Int, u.2 = uZ (uZ g 27 f1) 28 f2 ∧ Op g p0 v f2)) ∧ mBz u.1 ∧ mBg u.2) (fun u => mw cy a u.1 u.2) 0 0 := by
  refine go_i (by decide +kernel) (Nat.le_of_ble_eq_true rfl) (Or.inl rfl) ?_
  intro p e s m args below meth c Q A ls C hnm hA w hl hend
  have hx := C.1
  have hb := C.2.1
  have bz0 : (0 : Int) ≤ 0 ∧ (0 : Int) ≤ 1 := by omega
  have bz200 : (0 : Int) ≤ 0 ∧ (0 : Int) ≤ 200 := by omega
  have bzs := mZ1 hz
  have J185 : ∀ N : Nat, ∀ (v2 : Int) (a3 : Int) (wo : Int → Int) (se : Int → Int), (∀ j : Int, (0 : Int) ≤ se j ∧ se j ≤ 40) → (z 1 = 16 ∧ 1 ≤ p0 ∧ p0 ≤ 40) → (-1 ≤ a3 ∧ a3 ≤ p0) → (∀ j : Int, (-2147483648 : Int) ≤ wo j ∧ wo j ≤ 2147483647) → (WoI g p0 4 wo) → (-1 ≤ v2 ∧ v2 ≤ 10485760) → (OpS g p0 (P185 a3) v2 se) → ((a3 + 1).toNat) < N → ∀ (H : Heap) (locs : List Loc) (ls : Array Slot), wd D A s.heap (mw cy a (uZ (uZ (uZ (uZ z 0 0) 2 (z 1)) 1 0) 3 0) (uZ (uZ g 27 wo) 28 se)) H locs → lv_has ls 7 [(0, .ref (a 0)), (1, vI p0), (2, vI v2), (3, vI a3)] → W p l e (rm_X10_cars) s m args below meth c H locs 0 0 Q (F0 m 185 ls []) := by
    intro N
    induction N with
    | zero => intro v2 a3 wo se bse hc ha3 hbw hW hv2 hO hN9; exact absurd hN9 (Nat.not_lt_zero _)
    | succ N ih185 =>
      intro v2 a3 wo se bse hc ha3 hbw hW hv2 hO hN185 H locs ls w hl
      have J194 : ∀ N : Nat, ∀ (v2b : Int) (b4 : Int) (se2 : Int → Int), (∀ j : Int, (0 : Int) ≤ se2 j ∧ se2 j ≤ 40) → (0 ≤ a3) → (-1 ≤ b4 ∧ b4 ≤ p0 - a3) → (-1 ≤ v2b ∧ v2b ≤ 10485760) → (OpS g p0 (P194 a3 b4) v2b se2) → ((b4 + 1).toNat) < N → ∀ (H : Heap) (locs : List Loc) (ls : Array Slot), wd D A s.heap (mw cy a (uZ (uZ (uZ (uZ z 0 0) 2 (z 1)) 1 0) 3 0) (uZ (uZ g 27 wo) 28 se2)) H locs → lv_has ls 7 [(0, .ref (a 0)), (1, vI p0), (2, vI v2b), (3, vI a3), (4, vI b4)] → W p l e (rm_X10_cars) s m args below meth c H locs 0 0 Q (F0 m 194 ls []) := by
        intro N
        induction N with
        | zero => intro v2b b4 se2 bse2 hla hb4 hv2b hO2 hN9; exact absurd hN9 (Nat.not_lt_zero _)
        | succ N ih194 =>
          intro v2b b4 se2 bse2 hla hb4 hv2b hO2 hN194 H locs ls w hl
          have J207 : ∀ N : Nat, ∀ (v2c : Int) (c5 : Int) (se3 : Int → Int), (∀ j : Int, (0 : Int) ≤ se3 j ∧ se3 j ≤ 40) → (0 ≤ b4) → (-1 ≤ c5 ∧ c5 ≤ p0 - a3 - b4) → (-1 ≤ v2c ∧ v2c ≤ 10485760) → (OpS g p0 (P207 a3 b4 c5) v2c se3) → ((c5 + 1).toNat) < N → ∀ (H : Heap) (locs : List Loc) (ls : Array Slot), wd D A s.heap (mw cy a (uZ (uZ (uZ (uZ z 0 0) 2 (z 1)) 1 0) 3 0) (uZ (uZ g 27 wo) 28 se3)) H locs → lv_has ls 7 [(0, .ref (a 0)), (1, vI p0), (2, vI v2c), (3, vI a3), (4, vI b4), (5, vI c5)] → W p l e (rm_X10_cars) s m args below meth c H locs 0 0 Q (F0 m 207 ls []) := by
            intro N
            induction N with
            | zero => intro v2c c5 se3 bse3 hlb hc5 hv2c hO3 hN9; exact absurd hN9 (Nat.not_lt_zero _)
            | succ N ih207 =>
              intro v2c c5 se3 bse3 hlb hc5 hv2c hO3 hN207 H locs ls w hl
              refine lv_iload hx hb dX10_cars_207 (lv_at hl 5 rfl) ?_
              refine r_if_lt (tgt := 316) hx hb dX10_cars_209 (by decide) (by omega) (fun c209 => ?_) (fun c209 => ?_)
              · skip
                refine r_iinc (lv' := [(4, vI (b4 + (-1))), (0, .ref (a 0)), (1, vI p0), (2, vI v2c), (3, vI a3), (5, vI c5)]) hx hb dX10_cars_316 hl (k := 4) rfl (by decide) rfl (fun ls hl => ?_)
                refine lv_goto (tgt := 194) hx hb dX10_cars_319 (by decide) ?_
                exact ih194 v2c (b4 + (-1)) se3 bse3 (by omega) (by omega) (by omega) (by exact OpS_cg hO3 (fun a b c h1 => by show (a3 < a ∨ (a3 = a ∧ (b4 < b ∨ (b4 = b ∧ c5 < c)))) ↔ (a3 < a ∨ (a3 = a ∧ b4 + -1 < b)); omega)) (by omega) _ _ _ w (lv_sub hl [1, 2, 3, 4, 0] rfl)
              · skip
                have e0_ : wo a3 = SM g 0 a3 := by have q := hW 0 a3 (by omega) (by omega) (by omega) (by omega); rw [show 41 * 0 + a3 = a3 by omega] at q; exact q
                have e1_ : wo (41 + b4) = SM g 1 b4 := by have q := hW 1 b4 (by omega) (by omega) (by omega) (by omega); rw [show 41 * 1 + b4 = 41 + b4 by omega] at q; exact q
                have e2_ : wo (82 + c5) = SM g 2 c5 := by have q := hW 2 c5 (by omega) (by omega) (by omega) (by omega); rw [show 41 * 2 + c5 = 82 + c5 by omega] at q; exact q
                have e3_ : wo (123 + p0 - a3 - b4 - c5) = SM g 3 (p0 - a3 - b4 - c5) := by have q := hW 3 (p0 - a3 - b4 - c5) (by omega) (by omega) (by omega) (by omega); rw [show 41 * 3 + (p0 - a3 - b4 - c5) = 123 + p0 - a3 - b4 - c5 by omega] at q; exact q
                have s0_ := SM_b g 0 (k := a3) (by omega)
                have s1_ := SM_b g 1 (k := b4) (by omega)
                have s2_ := SM_b g 2 (k := c5) (by omega)
                have s3_ := SM_b g 3 (k := p0 - a3 - b4 - c5) (by omega)
                have hTM : TM g p0 a3 b4 c5 = wo a3 + wo (41 + b4) + wo (82 + c5) + wo (123 + p0 - a3 - b4 - c5) := by unfold TM; rw [e0_, e1_, e2_, e3_]
                refine lv_aload_n hx hb dX10_cars_212 rfl (lv_at hl 0 rfl) ?_
                refine r_get C w 0 (v := .ref (a 27)) rfl rfl 40 (by decide) inX10 kf_X10_91 rfl dX10_cars_213 ?_
                refine lv_iload_n hx hb dX10_cars_216 rfl (lv_at hl 3 rfl) ?_
                refine r_iald C w 27 (f := wo) rfl (by omega) (by omega) (by decide) dX10_cars_217 ?_
                have qg1 := hbw a3
                refine lv_aload_n hx hb dX10_cars_218 rfl (lv_at hl 0 rfl) ?_
                refine r_get C w 0 (v := .ref (a 27)) rfl rfl 40 (by decide) inX10 kf_X10_91 rfl dX10_cars_219 ?_
                refine r_bipush hx hb dX10_cars_222 (by decide) ?_
                refine lv_iload hx hb dX10_cars_224 (lv_at hl 4 rfl) ?_
                refine r_iadd hx hb dX10_cars_226 ?_
                refine r_iald C w 27 (f := wo) rfl (by omega) (by omega) (by decide) dX10_cars_227 ?_
                have qg2 := hbw (41 + b4)
                refine r_iadd hx hb dX10_cars_228 ?_
                refine lv_aload_n hx hb dX10_cars_229 rfl (lv_at hl 0 rfl) ?_
                refine r_get C w 0 (v := .ref (a 27)) rfl rfl 40 (by decide) inX10 kf_X10_91 rfl dX10_cars_230 ?_
                refine r_bipush hx hb dX10_cars_233 (by decide) ?_
                refine lv_iload hx hb dX10_cars_235 (lv_at hl 5 rfl) ?_
                refine r_iadd hx hb dX10_cars_237 ?_
                refine r_iald C w 27 (f := wo) rfl (by omega) (by omega) (by decide) dX10_cars_238 ?_
                have qg3 := hbw (82 + c5)
                refine r_iadd hx hb dX10_cars_239 ?_
                refine lv_aload_n hx hb dX10_cars_240 rfl (lv_at hl 0 rfl) ?_
                refine r_get C w 0 (v := .ref (a 27)) rfl rfl 40 (by decide) inX10 kf_X10_91 rfl dX10_cars_241 ?_
                refine r_bipush hx hb dX10_cars_244 (by decide) ?_
                refine lv_iload_n hx hb dX10_cars_246 rfl (lv_at hl 1 rfl) ?_
                refine r_iadd hx hb dX10_cars_247 ?_
                refine lv_iload_n hx hb dX10_cars_248 rfl (lv_at hl 3 rfl) ?_
                refine r_isub hx hb dX10_cars_249 ?_
                refine lv_iload hx hb dX10_cars_250 (lv_at hl 4 rfl) ?_
                refine r_isub hx hb dX10_cars_252 ?_
                refine lv_iload hx hb dX10_cars_253 (lv_at hl 5 rfl) ?_
                refine r_isub hx hb dX10_cars_255 ?_
                refine r_iald C w 27 (f := wo) rfl (by omega) (by omega) (by decide) dX10_cars_256 ?_
                have qg4 := hbw ((((123 + p0) - a3) - b4) - c5)
                refine r_iadd hx hb dX10_cars_257 ?_
                refine r_as (v := (TM g p0 a3 b4 c5)) (by exact hTM.symm) ?_
                refine lv_istore (lv' := [(6, vI (TM g p0 a3 b4 c5)), (0, .ref (a 0)), (1, vI p0), (2, vI v2c), (3, vI a3), (4, vI b4), (5, vI c5)]) hx hb dX10_cars_258 hl (by decide) rfl (fun ls hl => ?_)
                refine lv_iload hx hb dX10_cars_260 (lv_at hl 0 rfl) ?_
                refine lv_iload_n hx hb dX10_cars_262 rfl (lv_at hl 3 rfl) ?_
                refine r_icmp_gt (tgt := 269) hx hb dX10_cars_263 (by decide) (by omega) (by omega) (fun c263 => ?_) (fun c263 => ?_)
                · skip
                  refine lv_iload hx hb dX10_cars_269 (lv_at hl 0 rfl) ?_
                  refine lv_istore_n (lv' := [(2, vI (TM g p0 a3 b4 c5)), (6, vI (TM g p0 a3 b4 c5)), (0, .ref (a 0)), (1, vI p0), (3, vI a3), (4, vI b4), (5, vI c5)]) hx hb dX10_cars_271 rfl hl (by decide) rfl (fun ls hl => ?_)
                  refine lv_aload_n hx hb dX10_cars_272 rfl (lv_at hl 2 rfl) ?_
                  refine r_get C w 0 (v := .ref (a 28)) rfl rfl 41 (by decide) inX10 kf_X10_94 rfl dX10_cars_273 ?_
                  refine r_iconst hx hb dX10_cars_276 ?_
                  refine lv_iload_n hx hb dX10_cars_277 rfl (lv_at hl 4 rfl) ?_
                  refine r_iast C w 28 (f := se3) rfl (by omega) (by omega) (by decide) (ws' := mw cy a (uZ (uZ (uZ (uZ z 0 0) 2 (z 1)) 1 0) 3 0) (uZ (uZ g 27 wo) 28 (uI se3 0 a3))) rfl dX10_cars_278 (fun H locs w => ?_)
                  have bg5 : ∀ j : Int, (0 : Int) ≤ (uI se3 0 a3) j ∧ (uI se3 0 a3) j ≤ 40 := uI_b bse3 (by omega)
                  refine lv_aload_n hx hb dX10_cars_279 rfl (lv_at hl 2 rfl) ?_
                  refine r_get C w 0 (v := .ref (a 28)) rfl rfl 41 (by decide) inX10 kf_X10_94 rfl dX10_cars_280 ?_
                  refine r_iconst hx hb dX10_cars_283 ?_
                  refine lv_iload hx hb dX10_cars_284 (lv_at hl 5 rfl) ?_
                  refine r_iast C w 28 (f := (uI se3 0 a3)) rfl (by omega) (by omega) (by decide) (ws' := mw cy a (uZ (uZ (uZ (uZ z 0 0) 2 (z 1)) 1 0) 3 0) (uZ (uZ g 27 wo) 28 (uI (uI se3 0 a3) 1 b4))) rfl dX10_cars_286 (fun H locs w => ?_)
                  have bg6 : ∀ j : Int, (0 : Int) ≤ (uI (uI se3 0 a3) 1 b4) j ∧ (uI (uI se3 0 a3) 1 b4) j ≤ 40 := uI_b bg5 (by omega)
                  refine lv_aload_n hx hb dX10_cars_287 rfl (lv_at hl 2 rfl) ?_
                  refine r_get C w 0 (v := .ref (a 28)) rfl rfl 41 (by decide) inX10 kf_X10_94 rfl dX10_cars_288 ?_
                  refine r_iconst hx hb dX10_cars_291 ?_
                  refine lv_iload hx hb dX10_cars_292 (lv_at hl 6 rfl) ?_
                  refine r_iast C w 28 (f := (uI (uI se3 0 a3) 1 b4)) rfl (by omega) (by omega) (by decide) (ws' := mw cy a (uZ (uZ (uZ (uZ z 0 0) 2 (z 1)) 1 0) 3 0) (uZ (uZ g 27 wo) 28 (uI (uI (uI se3 0 a3) 1 b4) 2 c5))) rfl dX10_cars_294 (fun H locs w => ?_)
                  have bg7 : ∀ j : Int, (0 : Int) ≤ (uI (uI (uI se3 0 a3) 1 b4) 2 c5) j ∧ (uI (uI (uI se3 0 a3) 1 b4) 2 c5) j ≤ 40 := uI_b bg6 (by omega)
                  refine lv_aload_n hx hb dX10_cars_295 rfl (lv_at hl 2 rfl) ?_
                  refine r_get C w 0 (v := .ref (a 28)) rfl rfl 41 (by decide) inX10 kf_X10_94 rfl dX10_cars_296 ?_
                  refine r_iconst hx hb dX10_cars_299 ?_
                  refine lv_iload_n hx hb dX10_cars_300 rfl (lv_at hl 3 rfl) ?_
                  refine lv_iload_n hx hb dX10_cars_301 rfl (lv_at hl 4 rfl) ?_
                  refine r_isub hx hb dX10_cars_302 ?_
                  refine lv_iload hx hb dX10_cars_303 (lv_at hl 5 rfl) ?_
                  refine r_isub hx hb dX10_cars_305 ?_
                  refine lv_iload hx hb dX10_cars_306 (lv_at hl 6 rfl) ?_
                  refine r_isub hx hb dX10_cars_308 ?_
                  refine r_iast C w 28 (f := (uI (uI (uI se3 0 a3) 1 b4) 2 c5)) rfl (by omega) (by omega) (by decide) (ws' := mw cy a (uZ (uZ (uZ (uZ z 0 0) 2 (z 1)) 1 0) 3 0) (uZ (uZ g 27 wo) 28 (uI (uI (uI (uI se3 0 a3) 1 b4) 2 c5) 3 (((p0 - a3) - b4) - c5)))) rfl dX10_cars_309 (fun H locs w => ?_)
                  have bg8 : ∀ j : Int, (0 : Int) ≤ (uI (uI (uI (uI se3 0 a3) 1 b4) 2 c5) 3 (((p0 - a3) - b4) - c5)) j ∧ (uI (uI (uI (uI se3 0 a3) 1 b4) 2 c5) 3 (((p0 - a3) - b4) - c5)) j ≤ 40 := uI_b bg7 (by omega)
                  refine r_iinc (lv' := [(5, vI (c5 + (-1))), (2, vI (TM g p0 a3 b4 c5)), (6, vI (TM g p0 a3 b4 c5)), (0, .ref (a 0)), (1, vI p0), (3, vI a3), (4, vI b4)]) hx hb dX10_cars_310 hl (k := 6) rfl (by decide) rfl (fun ls hl => ?_)
                  refine lv_goto (tgt := 207) hx hb dX10_cars_313 (by decide) ?_
                  exact ih207 (TM g p0 a3 b4 c5) (c5 + (-1)) (uI (uI (uI (uI se3 0 a3) 1 b4) 2 c5) 3 (((p0 - a3) - b4) - c5)) bg8 (by omega) (by omega) (by omega) (by first | exact OpS_kp hO3 (by omega) (by omega) (by omega) | exact OpS_up hO3 (by omega) (by omega) (by omega)) (by omega) _ _ _ w (lv_sub hl [3, 4, 1, 5, 6, 0] rfl)
                · skip
                  refine lv_goto (tgt := 310) hx hb dX10_cars_266 (by decide) ?_
                  refine r_iinc (lv' := [(5, vI (c5 + (-1))), (6, vI (TM g p0 a3 b4 c5)), (0, .ref (a 0)), (1, vI p0), (2, vI v2c), (3, vI a3), (4, vI b4)]) hx hb dX10_cars_310 hl (k := 6) rfl (by decide) rfl (fun ls hl => ?_)
                  refine lv_goto (tgt := 207) hx hb dX10_cars_313 (by decide) ?_
                  exact ih207 v2c (c5 + (-1)) se3 bse3 (by omega) (by omega) (by omega) (by first | exact OpS_kp hO3 (by omega) (by omega) (by omega) | exact OpS_up hO3 (by omega) (by omega) (by omega)) (by omega) _ _ _ w (lv_sub hl [2, 3, 4, 5, 6, 0] rfl)
          refine lv_iload hx hb dX10_cars_194 (lv_at hl 4 rfl) ?_
          refine r_if_lt (tgt := 322) hx hb dX10_cars_196 (by decide) (by omega) (fun c196 => ?_) (fun c196 => ?_)
          · skip
            refine r_iinc (lv' := [(3, vI (a3 + (-1))), (0, .ref (a 0)), (1, vI p0), (2, vI v2b), (4, vI b4)]) hx hb dX10_cars_322 hl (k := 3) rfl (by decide) rfl (fun ls hl => ?_)
            refine lv_goto (tgt := 185) hx hb dX10_cars_325 (by decide) ?_
            exact ih185 v2b (a3 + (-1)) wo se2 bse2 (by omega) (by omega) (by exact hbw) (by exact hW) (by omega) (by exact OpS_cg hO2 (fun a b c h1 => by show (a3 < a ∨ (a3 = a ∧ b4 < b)) ↔ a3 + -1 < a; omega)) (by omega) _ _ _ w (lv_sub hl [1, 2, 3, 0] rfl)
          · skip
            refine lv_iload_n hx hb dX10_cars_199 rfl (lv_at hl 1 rfl) ?_
            refine lv_iload_n hx hb dX10_cars_200 rfl (lv_at hl 3 rfl) ?_
            refine r_isub hx hb dX10_cars_201 ?_
            refine lv_iload hx hb dX10_cars_202 (lv_at hl 4 rfl) ?_
            refine r_isub hx hb dX10_cars_204 ?_
            refine lv_istore (lv' := [(5, vI ((p0 - a3) - b4)), (0, .ref (a 0)), (1, vI p0), (2, vI v2b), (3, vI a3), (4, vI b4)]) hx hb dX10_cars_205 hl (by decide) rfl (fun ls hl => ?_)
            exact J207 _ v2b ((p0 - a3) - b4) se2 bse2 (by omega) (by omega) (by omega) (by exact OpS_cg hO2 (fun a b c h1 => by show (a3 < a ∨ (a3 = a ∧ b4 < b)) ↔ (a3 < a ∨ (a3 = a ∧ (b4 < b ∨ (b4 = b ∧ p0 - a3 - b4 < c)))); omega)) (Nat.lt_succ_self _) _ _ _ w (lv_sub hl [1, 2, 3, 4, 5, 0] rfl)
      refine lv_iload_n hx hb dX10_cars_185 rfl (lv_at hl 3 rfl) ?_
      refine r_if_lt (tgt := 328) hx hb dX10_cars_186 (by decide) (by omega) (fun c186 => ?_) (fun c186 => ?_)
      · skip
        refine lv_aload_n hx hb dX10_cars_328 rfl (lv_at hl 0 rfl) ?_
        refine r_iconst hx hb dX10_cars_329 ?_
        refine r_put C w 0 tyX10 tyX10_ok nmX10 rfl rfl 42 (by decide) inX10 kf_X10_231 rfl (nb01 (by omega)) (fb01 (by omega)) (Nat.le_of_ble_eq_true rfl) (ws' := mw cy a (uZ (uZ (uZ (uZ (uZ z 0 0) 2 (z 1)) 1 0) 3 0) 14 1) (uZ (uZ g 27 wo) 28 se)) (mw_z14 cy a (uZ (uZ (uZ (uZ z 0 0) 2 (z 1)) 1 0) 3 0) (uZ (uZ g 27 wo) 28 se) 1) dX10_cars_330 (fun H locs w => ?_)
        have bz9 : (0 : Int) ≤ 1 ∧ (1 : Int) ≤ 1 := (by omega)
        refine lv_iload_n hx hb dX10_cars_333 rfl (lv_at hl 2 rfl) ?_
        exact hend v2 ((uZ (uZ (uZ (uZ (uZ z 0 0) 2 (z 1)) 1 0) 3 0) 14 1), (uZ (uZ g 27 wo) 28 se)) _ _ _ _ dX10_cars_334 w ⟨(by exact Or.inr ⟨hc, rfl, wo, se, rfl, OpS_fin (by omega) (by omega) hO⟩), (mBz_u (mBz_u (mBz_u (mBz_u (mBz_u hz 0 bz0) 2 bzs) 1 bz200) 3 bz200) 14 bz9), (mBg_u (mBg_u hg 27 hbw) 28 bse)⟩
      · skip
        refine lv_iload_n hx hb dX10_cars_189 rfl (lv_at hl 1 rfl) ?_
        refine lv_iload_n hx hb dX10_cars_190 rfl (lv_at hl 3 rfl) ?_
        refine r_isub hx hb dX10_cars_191 ?_
        refine lv_istore (lv' := [(4, vI (p0 - a3)), (0, .ref (a 0)), (1, vI p0), (2, vI v2), (3, vI a3)]) hx hb dX10_cars_192 hl (by decide) rfl (fun ls hl => ?_)
        exact J194 _ v2 (p0 - a3) se bse (by omega) (by omega) (by omega) (by exact OpS_cg hO (fun a b c h1 => by show a3 < a ↔ (a3 < a ∨ (a3 = a ∧ p0 - a3 < b)); omega)) (Nat.lt_succ_self _) _ _ _ w (lv_sub hl [1, 2, 3, 4, 0] rfl)
  have J33 : ∀ N : Nat, ∀ (i2 : Int) (wo : Int → Int), (∀ j : Int, (-2147483648 : Int) ≤ wo j ∧ wo j ≤ 2147483647) → (z 1 = 16 ∧ 1 ≤ p0 ∧ p0 ≤ 40) → (0 ≤ i2 ∧ i2 ≤ 4) → (WoI g p0 i2 wo) → ((4 - i2).toNat) < N → ∀ (H : Heap) (locs : List Loc) (ls : Array Slot), wd D A s.heap (mw cy a (uZ (uZ (uZ (uZ z 0 0) 2 (z 1)) 1 0) 3 0) (uZ g 27 wo)) H locs → lv_has ls 7 [(0, .ref (a 0)), (1, vI p0), (2, vI i2)] → W p l e (rm_X10_cars) s m args below meth c H locs 0 0 Q (F0 m 33 ls []) := by
    intro N
    induction N with
    | zero => intro i2 wo bwo hc hi2 hW hN9; exact absurd hN9 (Nat.not_lt_zero _)
    | succ N ih33 =>
      intro i2 wo bwo hc hi2 hW hN33 H locs ls w hl
      have J116 : ∀ N : Nat, ∀ (k5 : Int) (wo2 : Int → Int), (∀ j : Int, (-2147483648 : Int) ≤ wo2 j ∧ wo2 j ≤ 2147483647) → (i2 < 4) → (0 ≤ k5 ∧ k5 ≤ p0) → (WoI g p0 i2 wo2 ∧ ∀ j, 0 ≤ j → j ≤ k5 → wo2 (41 * i2 + j) = SM g i2 j) → ((p0 - k5).toNat) < N → ∀ (H : Heap) (locs : List Loc) (ls : Array Slot), wd D A s.heap (mw cy a (uZ (uZ (uZ (uZ z 0 0) 2 (z 1)) 1 0) 3 0) (uZ g 27 wo2)) H locs → lv_has ls 7 [(0, .ref (a 0)), (1, vI p0), (2, vI i2), (3, vI (pHM g i2)), (4, vI (fHM g i2)), (5, vI k5)] → W p l e (rm_X10_cars) s m args below meth c H locs 0 0 Q (F0 m 116 ls []) := by
        intro N
        induction N with
        | zero => intro k5 wo2 bwo2 hlt hk5 hW2 hN9; exact absurd hN9 (Nat.not_lt_zero _)
        | succ N ih116 =>
          intro k5 wo2 bwo2 hlt hk5 hW2 hN116 H locs ls w hl
          have hpb := pHM_b g i2
          have hfb := fHM_b g i2
          have hkf := mul_b (x := k5) (a := 40) ⟨hk5.1, by omega⟩ hfb
          have hcur := hW2.2 k5 hk5.1 (Int.le_refl _)
          have hsb := SM_b g i2 hk5.1
          have hsb2 := SM_b g i2 (k := k5 + 1) (by omega)
          refine lv_iload hx hb dX10_cars_116 (lv_at hl 5 rfl) ?_
          refine lv_iload_n hx hb dX10_cars_118 rfl (lv_at hl 1 rfl) ?_
          refine r_icmp_ge (tgt := 175) hx hb dX10_cars_119 (by decide) (by omega) (by omega) (fun c119 => ?_) (fun c119 => ?_)
          · skip
            refine r_iinc (lv' := [(2, vI (i2 + 1)), (0, .ref (a 0)), (1, vI p0), (3, vI (pHM g i2)), (4, vI (fHM g i2)), (5, vI k5)]) hx hb dX10_cars_175 hl (k := 2) rfl (by decide) rfl (fun ls hl => ?_)
            refine lv_goto (tgt := 33) hx hb dX10_cars_178 (by decide) ?_
            exact ih33 (i2 + 1) wo2 bwo2 (by omega) (by omega) (by exact WoI_up hW2.1 (by rw [← show k5 = p0 by omega]; exact hW2.2)) (by omega) _ _ _ w (lv_sub hl [1, 2, 0] rfl)
          · skip
            refine lv_aload_n hx hb dX10_cars_122 rfl (lv_at hl 0 rfl) ?_
            refine r_get C w 0 (v := .ref (a 27)) rfl rfl 40 (by decide) inX10 kf_X10_91 rfl dX10_cars_123 ?_
            refine r_bipush hx hb dX10_cars_126 (by decide) ?_
            refine lv_iload_n hx hb dX10_cars_128 rfl (lv_at hl 2 rfl) ?_
            refine r_imul hx hb dX10_cars_129 ?_
            refine lv_iload hx hb dX10_cars_130 (lv_at hl 5 rfl) ?_
            refine r_iadd hx hb dX10_cars_132 ?_
            refine r_iconst hx hb dX10_cars_133 ?_
            refine r_iadd hx hb dX10_cars_134 ?_
            refine lv_aload_n hx hb dX10_cars_135 rfl (lv_at hl 0 rfl) ?_
            refine r_get C w 0 (v := .ref (a 27)) rfl rfl 40 (by decide) inX10 kf_X10_91 rfl dX10_cars_136 ?_
            refine r_bipush hx hb dX10_cars_139 (by decide) ?_
            refine lv_iload_n hx hb dX10_cars_141 rfl (lv_at hl 2 rfl) ?_
            refine r_imul hx hb dX10_cars_142 ?_
            refine lv_iload hx hb dX10_cars_143 (lv_at hl 5 rfl) ?_
            refine r_iadd hx hb dX10_cars_145 ?_
            refine r_iald C w 27 (f := wo2) rfl (by omega) (by omega) (by decide) dX10_cars_146 ?_
            have qg10 := bwo2 ((41 * i2) + k5)
            refine lv_iload_n hx hb dX10_cars_147 rfl (lv_at hl 3 rfl) ?_
            refine lv_iload hx hb dX10_cars_148 (lv_at hl 5 rfl) ?_
            refine lv_iload hx hb dX10_cars_150 (lv_at hl 4 rfl) ?_
            refine r_imul hx hb dX10_cars_152 ?_
            refine r_icmp_le (tgt := 166) hx hb dX10_cars_153 (by decide) (by omega) (by omega) (fun c153 => ?_) (fun c153 => ?_)
            · skip
              refine r_iconst hx hb dX10_cars_166 ?_
              refine r_iadd hx hb dX10_cars_167 ?_
              refine r_iast C w 27 (f := wo2) rfl (by omega) (by omega) (by decide) (ws' := mw cy a (uZ (uZ (uZ (uZ z 0 0) 2 (z 1)) 1 0) 3 0) (uZ g 27 (uI wo2 (((41 * i2) + k5) + 1) ((wo2 ((41 * i2) + k5)) + 0)))) rfl dX10_cars_168 (fun H locs w => ?_)
              have bg11 : ∀ j : Int, (-2147483648 : Int) ≤ (uI wo2 (((41 * i2) + k5) + 1) ((wo2 ((41 * i2) + k5)) + 0)) j ∧ (uI wo2 (((41 * i2) + k5) + 1) ((wo2 ((41 * i2) + k5)) + 0)) j ≤ 2147483647 := uI_b bwo2 (by first | (rw [hcur, SM_s g i2 hk5.1 (Or.inl ⟨c153, rfl⟩)]; omega) | (rw [hcur, SM_s g i2 hk5.1 (Or.inr ⟨c153, rfl⟩)]; omega))
              refine r_iinc (lv' := [(5, vI (k5 + 1)), (0, .ref (a 0)), (1, vI p0), (2, vI i2), (3, vI (pHM g i2)), (4, vI (fHM g i2))]) hx hb dX10_cars_169 hl (k := 5) rfl (by decide) rfl (fun ls hl => ?_)
              refine lv_goto (tgt := 116) hx hb dX10_cars_172 (by decide) ?_
              exact ih116 (k5 + 1) (uI wo2 (((41 * i2) + k5) + 1) ((wo2 ((41 * i2) + k5)) + 0)) bg11 (by omega) (by omega) (by first | exact WoI_st hi2.1 (by omega) ⟨hk5.1, by omega⟩ hW2.1 hW2.2 (by rw [hcur]; exact SM_s g i2 hk5.1 (Or.inl ⟨c153, rfl⟩)) | exact WoI_st hi2.1 (by omega) ⟨hk5.1, by omega⟩ hW2.1 hW2.2 (by rw [hcur]; exact SM_s g i2 hk5.1 (Or.inr ⟨c153, rfl⟩))) (by omega) _ _ _ w (lv_sub hl [1, 2, 3, 4, 5, 0] rfl)
            · skip
              refine lv_iload_n hx hb dX10_cars_156 rfl (lv_at hl 3 rfl) ?_
              refine lv_iload hx hb dX10_cars_157 (lv_at hl 5 rfl) ?_
              refine lv_iload hx hb dX10_cars_159 (lv_at hl 4 rfl) ?_
              refine r_imul hx hb dX10_cars_161 ?_
              refine r_isub hx hb dX10_cars_162 ?_
              refine lv_goto (tgt := 167) hx hb dX10_cars_163 (by decide) ?_
              refine r_iadd hx hb dX10_cars_167 ?_
              refine r_iast C w 27 (f := wo2) rfl (by omega) (by omega) (by decide) (ws' := mw cy a (uZ (uZ (uZ (uZ z 0 0) 2 (z 1)) 1 0) 3 0) (uZ g 27 (uI wo2 (((41 * i2) + k5) + 1) ((wo2 ((41 * i2) + k5)) + ((pHM g i2) - (k5 * (fHM g i2))))))) rfl dX10_cars_168 (fun H locs w => ?_)
              have bg12 : ∀ j : Int, (-2147483648 : Int) ≤ (uI wo2 (((41 * i2) + k5) + 1) ((wo2 ((41 * i2) + k5)) + ((pHM g i2) - (k5 * (fHM g i2))))) j ∧ (uI wo2 (((41 * i2) + k5) + 1) ((wo2 ((41 * i2) + k5)) + ((pHM g i2) - (k5 * (fHM g i2))))) j ≤ 2147483647 := uI_b bwo2 (by first | (rw [hcur, SM_s g i2 hk5.1 (Or.inl ⟨c153, rfl⟩)]; omega) | (rw [hcur, SM_s g i2 hk5.1 (Or.inr ⟨c153, rfl⟩)]; omega))
              refine r_iinc (lv' := [(5, vI (k5 + 1)), (0, .ref (a 0)), (1, vI p0), (2, vI i2), (3, vI (pHM g i2)), (4, vI (fHM g i2))]) hx hb dX10_cars_169 hl (k := 5) rfl (by decide) rfl (fun ls hl => ?_)
              refine lv_goto (tgt := 116) hx hb dX10_cars_172 (by decide) ?_
              exact ih116 (k5 + 1) (uI wo2 (((41 * i2) + k5) + 1) ((wo2 ((41 * i2) + k5)) + ((pHM g i2) - (k5 * (fHM g i2))))) bg12 (by omega) (by omega) (by first | exact WoI_st hi2.1 (by omega) ⟨hk5.1, by omega⟩ hW2.1 hW2.2 (by rw [hcur]; exact SM_s g i2 hk5.1 (Or.inl ⟨c153, rfl⟩)) | exact WoI_st hi2.1 (by omega) ⟨hk5.1, by omega⟩ hW2.1 hW2.2 (by rw [hcur]; exact SM_s g i2 hk5.1 (Or.inr ⟨c153, rfl⟩))) (by omega) _ _ _ w (lv_sub hl [1, 2, 3, 4, 5, 0] rfl)
      refine lv_iload_n hx hb dX10_cars_33 rfl (lv_at hl 2 rfl) ?_
      refine r_iconst hx hb dX10_cars_34 ?_
      refine r_icmp_ge (tgt := 181) hx hb dX10_cars_35 (by decide) (by omega) (by omega) (fun c35 => ?_) (fun c35 => ?_)
      · skip
        refine r_iconst hx hb dX10_cars_181 ?_
        refine lv_istore_n (lv' := [(2, vI (-1)), (0, .ref (a 0)), (1, vI p0)]) hx hb dX10_cars_182 rfl hl (by decide) rfl (fun ls hl => ?_)
        refine lv_iload_n hx hb dX10_cars_183 rfl (lv_at hl 2 rfl) ?_
        refine lv_istore_n (lv' := [(3, vI p0), (2, vI (-1)), (0, .ref (a 0)), (1, vI p0)]) hx hb dX10_cars_184 rfl hl (by decide) rfl (fun ls hl => ?_)
        exact J185 _ (-1) p0 wo (g 28) (mB28 hg) (by omega) (by omega) (by exact bwo) (by rw [← show i2 = 4 by omega]; exact hW) (by omega) (by exact Or.inl ⟨rfl, fun a b c h1 h2 => by omega⟩) (Nat.lt_succ_self _) _ _ _ w (lv_sub hl [2, 3, 1, 0] rfl)
      · skip
        refine lv_aload_n hx hb dX10_cars_38 rfl (lv_at hl 0 rfl) ?_
        refine r_get C w 0 (v := .ref (a 1)) rfl rfl 1 (by decide) inX10 kf_X10_7 rfl dX10_cars_39 ?_
        refine r_iconst hx hb dX10_cars_42 ?_
        refine lv_iload_n hx hb dX10_cars_43 rfl (lv_at hl 2 rfl) ?_
        refine r_imul hx hb dX10_cars_44 ?_
        refine r_bald C w 1 (f := (g 1)) rfl (by omega) (by omega) (by decide) dX10_cars_45 ?_
        have qg13 := mB1 hg (4 * i2)
        refine r_sipush hx hb dX10_cars_46 (by decide) ?_
        refine r_iand hx hb 8 dX10_cars_49 rfl (by decide) ?_
        refine r_bipush hx hb dX10_cars_50 (by decide) ?_
        refine r_ishl hx hb 8 dX10_cars_52 (by omega) (by decide) ?_
        refine lv_aload_n hx hb dX10_cars_53 rfl (lv_at hl 0 rfl) ?_
        refine r_get C w 0 (v := .ref (a 1)) rfl rfl 1 (by decide) inX10 kf_X10_7 rfl dX10_cars_54 ?_
        refine r_iconst hx hb dX10_cars_57 ?_
        refine lv_iload_n hx hb dX10_cars_58 rfl (lv_at hl 2 rfl) ?_
        refine r_imul hx hb dX10_cars_59 ?_
        refine r_iconst hx hb dX10_cars_60 ?_
        refine r_iadd hx hb dX10_cars_61 ?_
        refine r_bald C w 1 (f := (g 1)) rfl (by omega) (by omega) (by decide) dX10_cars_62 ?_
        have qg14 := mB1 hg ((4 * i2) + 1)
        refine r_sipush hx hb dX10_cars_63 (by decide) ?_
        refine r_iand hx hb 8 dX10_cars_66 rfl (by decide) ?_
        refine r_ior hx hb 8 dX10_cars_67 (by omega) (by omega) ?_
        refine lv_istore_n (lv' := [(3, vI (((((g 1) (4 * i2)) % 2 ^ 8) * 2 ^ 8) + (((g 1) ((4 * i2) + 1)) % 2 ^ 8))), (0, .ref (a 0)), (1, vI p0), (2, vI i2)]) hx hb dX10_cars_68 rfl hl (by decide) rfl (fun ls hl => ?_)
        refine lv_aload_n hx hb dX10_cars_69 rfl (lv_at hl 1 rfl) ?_
        refine r_get C w 0 (v := .ref (a 1)) rfl rfl 1 (by decide) inX10 kf_X10_7 rfl dX10_cars_70 ?_
        refine r_iconst hx hb dX10_cars_73 ?_
        refine lv_iload_n hx hb dX10_cars_74 rfl (lv_at hl 3 rfl) ?_
        refine r_imul hx hb dX10_cars_75 ?_
        refine r_iconst hx hb dX10_cars_76 ?_
        refine r_iadd hx hb dX10_cars_77 ?_
        refine r_bald C w 1 (f := (g 1)) rfl (by omega) (by omega) (by decide) dX10_cars_78 ?_
        have qg15 := mB1 hg ((4 * i2) + 2)
        refine r_sipush hx hb dX10_cars_79 (by decide) ?_
        refine r_iand hx hb 8 dX10_cars_82 rfl (by decide) ?_
        refine r_bipush hx hb dX10_cars_83 (by decide) ?_
        refine r_ishl hx hb 8 dX10_cars_85 (by omega) (by decide) ?_
        refine lv_aload_n hx hb dX10_cars_86 rfl (lv_at hl 1 rfl) ?_
        refine r_get C w 0 (v := .ref (a 1)) rfl rfl 1 (by decide) inX10 kf_X10_7 rfl dX10_cars_87 ?_
        refine r_iconst hx hb dX10_cars_90 ?_
        refine lv_iload_n hx hb dX10_cars_91 rfl (lv_at hl 3 rfl) ?_
        refine r_imul hx hb dX10_cars_92 ?_
        refine r_iconst hx hb dX10_cars_93 ?_
        refine r_iadd hx hb dX10_cars_94 ?_
        refine r_bald C w 1 (f := (g 1)) rfl (by omega) (by omega) (by decide) dX10_cars_95 ?_
        have qg16 := mB1 hg ((4 * i2) + 3)
        refine r_sipush hx hb dX10_cars_96 (by decide) ?_
        refine r_iand hx hb 8 dX10_cars_99 rfl (by decide) ?_
        refine r_ior hx hb 8 dX10_cars_100 (by omega) (by omega) ?_
        refine lv_istore (lv' := [(4, vI (((((g 1) ((4 * i2) + 2)) % 2 ^ 8) * 2 ^ 8) + (((g 1) ((4 * i2) + 3)) % 2 ^ 8))), (3, vI (((((g 1) (4 * i2)) % 2 ^ 8) * 2 ^ 8) + (((g 1) ((4 * i2) + 1)) % 2 ^ 8))), (0, .ref (a 0)), (1, vI p0), (2, vI i2)]) hx hb dX10_cars_101 hl (by decide) rfl (fun ls hl => ?_)
        refine lv_aload_n hx hb dX10_cars_103 rfl (lv_at hl 2 rfl) ?_
        refine r_get C w 0 (v := .ref (a 27)) rfl rfl 40 (by decide) inX10 kf_X10_91 rfl dX10_cars_104 ?_
        refine r_bipush hx hb dX10_cars_107 (by decide) ?_
        refine lv_iload_n hx hb dX10_cars_109 rfl (lv_at hl 4 rfl) ?_
        refine r_imul hx hb dX10_cars_110 ?_
        refine r_iconst hx hb dX10_cars_111 ?_
        refine r_iast C w 27 (f := wo) rfl (by omega) (by omega) (by decide) (ws' := mw cy a (uZ (uZ (uZ (uZ z 0 0) 2 (z 1)) 1 0) 3 0) (uZ g 27 (uI wo (41 * i2) 0))) rfl dX10_cars_112 (fun H locs w => ?_)
        have bg17 : ∀ j : Int, (-2147483648 : Int) ≤ (uI wo (41 * i2) 0) j ∧ (uI wo (41 * i2) 0) j ≤ 2147483647 := uI_b bwo (by omega)
        refine r_iconst hx hb dX10_cars_113 ?_
        refine lv_istore (lv' := [(5, vI 0), (4, vI (((((g 1) ((4 * i2) + 2)) % 2 ^ 8) * 2 ^ 8) + (((g 1) ((4 * i2) + 3)) % 2 ^ 8))), (3, vI (((((g 1) (4 * i2)) % 2 ^ 8) * 2 ^ 8) + (((g 1) ((4 * i2) + 1)) % 2 ^ 8))), (0, .ref (a 0)), (1, vI p0), (2, vI i2)]) hx hb dX10_cars_114 hl (by decide) rfl (fun ls hl => ?_)
        exact J116 _ 0 (uI wo (41 * i2) 0) bg17 (by omega) (by omega) (by exact WoI_in hi2.1 (by omega) hW) (Nat.lt_succ_self _) _ _ _ w (lv_sub hl [3, 4, 5, 2, 1, 0] rfl)
  replace hl : lv_has ls 7 [(0, .ref (a 0)), (1, vI p0)] := hl
  refine lv_aload_n hx hb dX10_cars_0 rfl (lv_at hl 0 rfl) ?_
  refine r_iconst hx hb dX10_cars_1 ?_
  refine r_put C w 0 tyX10 tyX10_ok nmX10 rfl rfl 0 (by decide) inX10 kf_X10_97 rfl rfl rfl (Nat.le_of_ble_eq_true rfl) (ws' := mw cy a (uZ z 0 0) g) (mw_z0 cy a z g 0) dX10_cars_2 (fun H locs w => ?_)
  have bz18 : (0 : Int) ≤ 0 ∧ (0 : Int) ≤ 1 := (by omega)
  refine lv_aload_n hx hb dX10_cars_5 rfl (lv_at hl 0 rfl) ?_
  refine cVV C w hA (ct_X10_taken l D cy a (uZ z 0 0) g  (mBz_u hz 0 bz18) hg) ok_X10_taken km_X10_148 ⟨rfl, rfl⟩ ⟨by decide, by decide⟩ ⟨by decide, by decide⟩ rfl 0 rfl rfl hl.1 rfl (Nat.le_of_ble_eq_true rfl) dX10_cars_6 (fun uv_1 H locs w hp_1 => ?_)
  obtain ⟨zc_1, gc_1⟩ := uv_1
  obtain ⟨hp_1, -, -⟩ := hp_1
  obtain ⟨ea_1, eb_1⟩ := Prod.mk.inj hp_1
  subst ea_1
  replace eb_1 := eb_1.symm
  subst eb_1
  have bz19 : (0 : Int) ≤ (z 1) ∧ ((z 1) : Int) ≤ 200 := (mZ1 hz)
  have bz20 : (0 : Int) ≤ 0 ∧ (0 : Int) ≤ 200 := (by omega)
  have bz21 : (0 : Int) ≤ 0 ∧ (0 : Int) ≤ 200 := (by omega)
  replace w : wd D A s.heap (mw cy a (uZ (uZ (uZ (uZ z 0 0) 2 (z 1)) 1 0) 3 0) g) H locs := w
  refine lv_aload_n hx hb dX10_cars_9 rfl (lv_at hl 0 rfl) ?_
  refine r_get C w 0 (v := vI (z 1)) rfl rfl 3 (by decide) inX10 kf_X10_108 rfl dX10_cars_10 ?_
  refine r_bipush hx hb dX10_cars_13 (by decide) ?_
  refine r_icmp_ne (tgt := 29) hx hb dX10_cars_15 (by decide) (by omega) (by omega) (fun c15 => ?_) (fun c15 => ?_)
  · skip
    refine r_iconst hx hb dX10_cars_29 ?_
    exact hend (-1) ((uZ (uZ (uZ (uZ z 0 0) 2 (z 1)) 1 0) 3 0), g) _ _ _ _ dX10_cars_30 w ⟨(by exact Or.inl ⟨by omega, rfl, rfl⟩), (mBz_u (mBz_u (mBz_u (mBz_u hz 0 bz18) 2 bz19) 1 bz20) 3 bz21), hg⟩
  · skip
    refine lv_iload_n hx hb dX10_cars_18 rfl (lv_at hl 1 rfl) ?_
    refine r_iconst hx hb dX10_cars_19 ?_
    refine r_icmp_lt (tgt := 29) hx hb dX10_cars_20 (by decide) (by omega) (by omega) (fun c20 => ?_) (fun c20 => ?_)
    · skip
      refine r_iconst hx hb dX10_cars_29 ?_
      exact hend (-1) ((uZ (uZ (uZ (uZ z 0 0) 2 (z 1)) 1 0) 3 0), g) _ _ _ _ dX10_cars_30 w ⟨(by exact Or.inl ⟨by omega, rfl, rfl⟩), (mBz_u (mBz_u (mBz_u (mBz_u hz 0 bz18) 2 bz19) 1 bz20) 3 bz21), hg⟩
    · skip
      refine lv_iload_n hx hb dX10_cars_23 rfl (lv_at hl 1 rfl) ?_
      refine r_bipush hx hb dX10_cars_24 (by decide) ?_
      refine r_icmp_le (tgt := 31) hx hb dX10_cars_26 (by decide) (by omega) (by omega) (fun c26 => ?_) (fun c26 => ?_)
      · skip
        refine r_iconst hx hb dX10_cars_31 ?_
        refine lv_istore_n (lv' := [(2, vI 0), (0, .ref (a 0)), (1, vI p0)]) hx hb dX10_cars_32 rfl hl (by decide) rfl (fun ls hl => ?_)
        exact J33 _ 0 (g 27) (mB27 hg) (by omega) (by omega) (by intro h k h1 h2; omega) (Nat.lt_succ_self _) _ _ _ w (lv_sub hl [1, 2, 0] rfl)
      · skip
        refine r_iconst hx hb dX10_cars_29 ?_
        exact hend (-1) ((uZ (uZ (uZ (uZ z 0 0) 2 (z 1)) 1 0) 3 0), g) _ _ _ _ dX10_cars_30 w ⟨(by exact Or.inl ⟨by omega, rfl, rfl⟩), (mBz_u (mBz_u (mBz_u (mBz_u hz 0 bz18) 2 bz19) 1 bz20) 3 bz21), hg⟩
