/-! worth: lowest terms -/
theorem gcd_st {d r : Int} (hd : 0 ≤ d) (hr : 0 ≤ r) : Int.gcd r (d.tmod r) = Int.gcd d r := by
  obtain ⟨D, rfl⟩ := Int.eq_ofNat_of_zero_le hd
  obtain ⟨R, rfl⟩ := Int.eq_ofNat_of_zero_le hr
  rw [Int.tmod_eq_emod_of_nonneg hd, ← Int.natCast_emod, Int.gcd_natCast_natCast, Int.gcd_natCast_natCast, Nat.gcd_comm D R, Nat.gcd_rec R D, Nat.gcd_comm]
def low (a b p q : Int) : Prop := 1 ≤ q ∧ p * b = a * q ∧ Int.gcd p q = 1
theorem low_of {a b d : Int} (hb : 1 ≤ b) (hd : d = Int.gcd a b) : low a b (a.tdiv d) (b.tdiv d) := by
  have h0 : Int.gcd a b ≠ 0 := fun z => by
    have := (Int.gcd_eq_zero_iff.mp z).2
    omega
  have h1 : (d : Int) ∣ a := hd ▸ Int.gcd_dvd_left ..
  have h2 : (d : Int) ∣ b := hd ▸ Int.gcd_dvd_right ..
  have h3 : 0 < d := by omega
  obtain ⟨x, hx⟩ := h1
  obtain ⟨y, hy⟩ := h2
  have ex : a.tdiv d = x := by rw [hx]; exact Int.mul_tdiv_cancel_left _ (by omega)
  have ey : b.tdiv d = y := by rw [hy]; exact Int.mul_tdiv_cancel_left _ (by omega)
  rw [ex, ey]
  refine ⟨?_, ?_, ?_⟩
  · by_cases q : 1 ≤ y
    · exact q
    · have := Int.mul_nonpos_of_nonneg_of_nonpos (Int.le_of_lt h3) (show y ≤ 0 by omega)
      omega
  · rw [hx, hy]; grind
  · have h4 : Int.gcd a b = d.natAbs * Int.gcd x y := by rw [hx, hy, Int.gcd_mul_left]
    have h5 : d.natAbs = Int.gcd a b := by omega
    rw [h5] at h4
    exact Nat.eq_of_mul_eq_mul_left (Nat.pos_of_ne_zero h0) (by omega)
theorem dvd_co {p q x : Int} (h : q ∣ p * x) (hc : Int.gcd p q = 1) : q ∣ x := by
  refine Int.natAbs_dvd_natAbs.mp (Nat.Coprime.dvd_of_dvd_mul_left (m := p.natAbs) ?_ ?_)
  · show Nat.gcd q.natAbs p.natAbs = 1
    rw [Nat.gcd_comm]; exact hc
  · rw [← Int.natAbs_mul]
    exact Int.natAbs_dvd_natAbs.mpr h
theorem low_eq {a b a' b' p q p' q' : Int} (h : low a b p q) (h' : low a' b' p' q') (hb : 1 ≤ b) (hb' : 1 ≤ b') (hc : a * b' = a' * b) : p = p' ∧ q = q' := by
  obtain ⟨h1, h2, h3⟩ := h
  obtain ⟨h4, h5, h6⟩ := h'
  have e : p * q' = p' * q := by
    have : (b * b') * (p * q') = (b * b') * (p' * q) := by
      have e1 : (b * b') * (p * q') = (p * b) * (b' * q') := by grind
      have e2 : (b * b') * (p' * q) = (p' * b') * (b * q) := by grind
      rw [e1, e2, h2, h5]
      have e3 : a * q * (b' * q') = (a * b') * (q * q') := by grind
      rw [e3, hc]
      grind
    exact Int.eq_of_mul_eq_mul_left (Int.mul_ne_zero (by omega) (by omega)) this
  have d1 : q ∣ q' := by
    have : q ∣ p * q' := ⟨p', by rw [e]; grind⟩
    exact dvd_co this h3
  have d2 : q' ∣ q := by
    have : q' ∣ p' * q := ⟨p, by rw [← e]; grind⟩
    exact dvd_co this h6
  have eq : q = q' := Int.dvd_antisymm (by omega) (by omega) d1 d2
  refine ⟨?_, eq⟩
  rw [eq] at e
  exact Int.eq_of_mul_eq_mul_right (by omega) e
def eu (D R d r i : Int) : Prop := 1 ≤ d ∧ 0 ≤ r ∧ Int.gcd d r = Int.gcd D R ∧ d ≤ 4611686018427387904 ∧ r ≤ 4611686018427387904 ∧ d * r * 2 ^ i.toNat ≤ 2 ^ 125 ∧ (1 ≤ i → r ≤ d) ∧ (i = 0 → d * r ≤ 2 ^ 124)
theorem eu_0 {D R : Int} (h1 : 1 ≤ D) (h2 : 0 ≤ R) (h3 : D ≤ 4611686018427387904) (h4 : R ≤ 4611686018427387904) : eu D R D R 0 := by
  have : D * R ≤ 4611686018427387904 * 4611686018427387904 := Int.mul_le_mul h3 h4 h2 (by omega)
  refine ⟨h1, h2, rfl, h3, h4, ?_, fun h => absurd h (by omega), fun _ => ?_⟩
  · rw [show (0 : Int).toNat = 0 from rfl, Int.pow_zero, Int.mul_one]
    exact Int.le_trans this (by decide)
  · exact Int.le_trans this (by decide)
theorem eu_st {D R d r i : Int} (hi : 0 ≤ i) (h : eu D R d r i) (hr : r ≠ 0) : eu D R r (d.tmod r) (i + 1) := by
  obtain ⟨h1, h2, h3, h4, h5, h6, h7, h8⟩ := h
  have hm : d.tmod r = d % r := Int.tmod_eq_emod_of_nonneg (by omega)
  have m1 := Int.emod_nonneg d hr
  have m2 := Int.emod_lt_of_pos d (show 0 < r by omega)
  refine ⟨by omega, by omega, by rw [← h3]; exact gcd_st (by omega) h2, h5, by omega, ?_, fun _ => by omega, fun h => absurd h (by omega)⟩
  rw [hm, show (i + 1).toNat = i.toNat + 1 by omega, Int.pow_succ]
  have hp : (0 : Int) ≤ 2 ^ i.toNat := Int.le_of_lt (Int.pow_pos (by decide))
  by_cases hi0 : i = 0
  · have h9 := h8 hi0
    have e : r * (d % r) ≤ d * r := by
      rw [Int.mul_comm d r]
      exact Int.mul_le_mul_of_nonneg_left (by have := Int.emod_add_mul_ediv d r; have := Int.mul_nonneg h2 (Int.ediv_nonneg (show 0 ≤ d by omega) h2); omega) h2
    rw [hi0]
    show r * (d % r) * 2 ≤ 2 ^ 125
    have h9' : d * r ≤ 21267647932558653966460912964485513216 := Int.le_trans h9 (by decide)
    have : (2 : Int) ^ 125 = 42535295865117307932921825928971026432 := by decide
    rw [this]
    omega
  · have h9 := h7 (by omega)
    have e : r * (d % r) * 2 ≤ d * r := by
      have h10 : 2 * (d % r) ≤ d := by
        have := Int.emod_add_mul_ediv d r
        have h11 : 1 ≤ d / r := Int.le_ediv_of_mul_le (by omega) (by omega)
        have := Int.mul_le_mul_of_nonneg_left h11 h2
        omega
      have := Int.mul_le_mul_of_nonneg_left h10 h2
      have e2 : r * (2 * (d % r)) = r * (d % r) * 2 := by grind
      rw [Int.mul_comm d r]
      omega
    have := Int.mul_le_mul_of_nonneg_right e hp
    have e2 : r * (d % r) * 2 * 2 ^ i.toNat = r * (d % r) * (2 ^ i.toNat * 2) := by grind
    omega
theorem eu_e {D R d r i : Int} (h : eu D R d r i) (hr : r = 0 ∨ 200 ≤ i) : d = Int.gcd D R := by
  obtain ⟨h1, h2, h3, h4, h5, h6, h7, h8⟩ := h
  have hr0 : r = 0 := by
    rcases hr with q | q
    · exact q
    · by_cases e : r = 0
      · exact e
      · exfalso
        have e1 : 1 * 1 ≤ d * r := Int.mul_le_mul h1 (by omega) (by omega) (by omega)
        have e2 : (2 : Int) ^ 200 ≤ 2 ^ i.toNat := by
          have := Nat.pow_le_pow_right (n := 2) (by decide) (show 200 ≤ i.toNat by omega)
          exact_mod_cast this
        have e3 := Int.mul_le_mul e1 e2 (Int.le_of_lt (Int.pow_pos (by decide))) (by omega)
        have e4 := Int.le_trans e3 h6
        exact absurd e4 (by decide)
  rw [hr0, Int.gcd_zero_right] at h3
  rw [← h3]
  omega
theorem tdiv_r {a d : Int} (h : lR a) (hd : 1 ≤ d) : lR (a.tdiv d) := by
  have h1 := Int.natAbs_tdiv_le_natAbs a d
  have h2 : 0 ≤ a → 0 ≤ a.tdiv d := fun h => Int.tdiv_nonneg h (by omega)
  have h3 : a ≤ 0 → a.tdiv d ≤ 0 := fun h => by
    have := Int.tdiv_nonneg (show 0 ≤ -a by omega) (show 0 ≤ d by omega)
    rw [Int.neg_tdiv] at this
    omega
  unfold lR at *
  omega
theorem gcd_ab {a b x : Int} (h : (0 ≤ a ∧ x = a) ∨ (a ≤ 0 ∧ x = -a)) : Int.gcd b x = Int.gcd a b := by
  rw [Int.gcd_comm]
  rcases h with ⟨_, e⟩ | ⟨_, e⟩
  · rw [e]
  · rw [e, Int.neg_gcd]
theorem low_1 {a b : Int} (hb : 1 ≤ b) (hd : (1 : Int) = Int.gcd a b) : low a b a b := by
  have := low_of hb hd
  rwa [Int.tdiv_one, Int.tdiv_one] at this

abbrev rm_X4_reduce : Room := { frames := 1, cells := 0, slots := 0, locals := 13 }
set_option maxHeartbeats 4000000 in
set_option maxRecDepth 100000 in
theorem ct_X4_reduce (l : Launch) (D : va_G) (cy : Nat → ClassId) (a : Nat → Nat) (z : Nat → Int) (g : Nat → Int → Int)  (hz : xBz z) (hg : xBg g) (h19 : 1 ≤ z 19 ∧ z 19 ≤ 4611686018427387904) (h18 : -4611686018427387904 ≤ z 18 ∧ z 18 ≤ 4611686018427387904) : MV l yX4_reduce cX4_reduce 8 (rm_X4_reduce) D cy (xw cy a z g) [.ref (a 36)] (fun (u : sX) => (∃ p q : Int, u.1 = uZ (uZ z 18 p) 19 q ∧ u.2 = g ∧ low (z 18) (z 19) p q) ∧ xBz u.1 ∧ xBg u.2) (fun u => xw cy a u.1 u.2) 0 0 := by
  refine go_v (by decide +kernel) (Nat.le_of_ble_eq_true rfl) ?_
  intro p e s m args below meth c Q A ls C hnm hA w hl hend
  have hx := C.1
  have hb := C.2.1
  obtain ⟨r0, hr0⟩ : ∃ r0 : Int, (0 ≤ z 18 ∧ r0 = z 18) ∨ (z 18 ≤ 0 ∧ r0 = -z 18) := by rcases Int.le_total 0 (z 18) with h | h; exact ⟨_, Or.inl ⟨h, rfl⟩⟩; exact ⟨_, Or.inr ⟨h, rfl⟩⟩
  have J16 : ∀ N : Nat, ∀ (d : Int) (r : Int) (i : Int), (0 ≤ i ∧ i ≤ 200) → (eu (z 19) r0 d r i) → ((200 - i).toNat) < N → ∀ (H : Heap) (locs : List Loc) (ls : Array Slot), wd D A s.heap (xw cy a z g) H locs → lv_has ls 8 [(0, .ref (a 36)), (1, vL d), (3, vL r), (5, vI i)] → W p l e (rm_X4_reduce) s m args below meth c H locs 0 0 Q (F0 m 16 ls []) := by
    intro N
    induction N with
    | zero => intro d r i hi he hN9; exact absurd hN9 (Nat.not_lt_zero _)
    | succ N ih16 =>
      intro d r i hi he hN16 H locs ls w hl
      refine lv_iload hx hb dX4_reduce_16 (lv_at hl 3 rfl) ?_
      refine r_sipush hx hb dX4_reduce_18 (by decide) ?_
      refine r_icmp_ge (tgt := 46) hx hb dX4_reduce_21 (by decide) (by omega) (by omega) (fun c21 => ?_) (fun c21 => ?_)
      · skip
        have hg0 := eu_e he (by omega)
        have hE := he
        unfold eu at hE
        rw [gcd_ab hr0] at hg0
        have hl0 := low_of h19.1 hg0
        refine lv_lload_n hx hb dX4_reduce_46 rfl (lv_at hl 1 rfl) ?_
        refine r_lconst (z := 1) hx hb dX4_reduce_47 (by decide) ?_
        refine r_lcif_le (tgt := 72) hx hb dX4_reduce_48 dX4_reduce_49 (by decide) (by omega) (by omega) (fun c48 => ?_) (fun c48 => ?_)
        · skip
          exact hend (z, g) _ _ _ _ dX4_reduce_72 w ⟨(by first | exact ⟨_, _, rfl, rfl, hl0⟩ | exact ⟨z 18, z 19, by rw [uZ_id, uZ_id], rfl, low_1 h19.1 (by omega)⟩), hz, hg⟩
        · skip
          refine lv_aload_n hx hb dX4_reduce_52 rfl (lv_at hl 0 rfl) ?_
          refine lv_dup hx hb dX4_reduce_53 rfl ?_
          refine r_get C w 36 (v := vL (z 18)) rfl rfl 5 (by decide) inX4 kf_X4_39 rfl dX4_reduce_54 ?_
          refine lv_lload_n hx hb dX4_reduce_57 rfl (lv_at hl 1 rfl) ?_
          refine r_ldiv hx hb dX4_reduce_58 (by omega) (by omega) (by omega) ?_
          refine r_put C w 36 tyX4 tyX4_ok nmX4 rfl rfl 5 (by decide) inX4 kf_X4_39 rfl rfl rfl (Nat.le_of_ble_eq_true rfl) (ws' := xw cy a (uZ z 18 (Int.tdiv (z 18) d)) g) (xw_z18 cy a z g (Int.tdiv (z 18) d)) dX4_reduce_59 (fun H locs w => ?_)
          have bz1 : (-9223372036854775808 : Int) ≤ (Int.tdiv (z 18) d) ∧ ((Int.tdiv (z 18) d) : Int) ≤ 9223372036854775807 := (by exact tdiv_r (xZ18 hz) hE.1)
          refine lv_aload_n hx hb dX4_reduce_62 rfl (lv_at hl 0 rfl) ?_
          refine lv_dup hx hb dX4_reduce_63 rfl ?_
          refine r_get C w 36 (v := vL (z 19)) rfl rfl 6 (by decide) inX4 kf_X4_43 rfl dX4_reduce_64 ?_
          refine lv_lload_n hx hb dX4_reduce_67 rfl (lv_at hl 1 rfl) ?_
          refine r_ldiv hx hb dX4_reduce_68 (by omega) (by omega) (by omega) ?_
          refine r_put C w 36 tyX4 tyX4_ok nmX4 rfl rfl 6 (by decide) inX4 kf_X4_43 rfl rfl rfl (Nat.le_of_ble_eq_true rfl) (ws' := xw cy a (uZ (uZ z 18 (Int.tdiv (z 18) d)) 19 (Int.tdiv (z 19) d)) g) (xw_z19 cy a (uZ z 18 (Int.tdiv (z 18) d)) g (Int.tdiv (z 19) d)) dX4_reduce_69 (fun H locs w => ?_)
          have bz2 : (-9223372036854775808 : Int) ≤ (Int.tdiv (z 19) d) ∧ ((Int.tdiv (z 19) d) : Int) ≤ 9223372036854775807 := (by exact tdiv_r (xZ19 hz) hE.1)
          exact hend ((uZ (uZ z 18 (Int.tdiv (z 18) d)) 19 (Int.tdiv (z 19) d)), g) _ _ _ _ dX4_reduce_72 w ⟨(by first | exact ⟨_, _, rfl, rfl, hl0⟩ | exact ⟨z 18, z 19, by rw [uZ_id, uZ_id], rfl, low_1 h19.1 (by omega)⟩), (xBz_u (xBz_u hz 18 bz1) 19 bz2), hg⟩
      · skip
        have hE := he
        unfold eu at hE
        refine lv_lload_n hx hb dX4_reduce_24 rfl (lv_at hl 2 rfl) ?_
        refine r_lconst (z := 0) hx hb dX4_reduce_25 (by decide) ?_
        refine r_lcif_eq (tgt := 46) hx hb dX4_reduce_26 dX4_reduce_27 (by decide) (by omega) (by omega) (fun c26 => ?_) (fun c26 => ?_)
        · skip
          have hg0 := eu_e he (by omega)
          have hE := he
          unfold eu at hE
          rw [gcd_ab hr0] at hg0
          have hl0 := low_of h19.1 hg0
          refine lv_lload_n hx hb dX4_reduce_46 rfl (lv_at hl 1 rfl) ?_
          refine r_lconst (z := 1) hx hb dX4_reduce_47 (by decide) ?_
          refine r_lcif_le (tgt := 72) hx hb dX4_reduce_48 dX4_reduce_49 (by decide) (by omega) (by omega) (fun c48 => ?_) (fun c48 => ?_)
          · skip
            exact hend (z, g) _ _ _ _ dX4_reduce_72 w ⟨(by first | exact ⟨_, _, rfl, rfl, hl0⟩ | exact ⟨z 18, z 19, by rw [uZ_id, uZ_id], rfl, low_1 h19.1 (by omega)⟩), hz, hg⟩
          · skip
            refine lv_aload_n hx hb dX4_reduce_52 rfl (lv_at hl 0 rfl) ?_
            refine lv_dup hx hb dX4_reduce_53 rfl ?_
            refine r_get C w 36 (v := vL (z 18)) rfl rfl 5 (by decide) inX4 kf_X4_39 rfl dX4_reduce_54 ?_
            refine lv_lload_n hx hb dX4_reduce_57 rfl (lv_at hl 1 rfl) ?_
            refine r_ldiv hx hb dX4_reduce_58 (by omega) (by omega) (by omega) ?_
            refine r_put C w 36 tyX4 tyX4_ok nmX4 rfl rfl 5 (by decide) inX4 kf_X4_39 rfl rfl rfl (Nat.le_of_ble_eq_true rfl) (ws' := xw cy a (uZ z 18 (Int.tdiv (z 18) d)) g) (xw_z18 cy a z g (Int.tdiv (z 18) d)) dX4_reduce_59 (fun H locs w => ?_)
            have bz3 : (-9223372036854775808 : Int) ≤ (Int.tdiv (z 18) d) ∧ ((Int.tdiv (z 18) d) : Int) ≤ 9223372036854775807 := (by exact tdiv_r (xZ18 hz) hE.1)
            refine lv_aload_n hx hb dX4_reduce_62 rfl (lv_at hl 0 rfl) ?_
            refine lv_dup hx hb dX4_reduce_63 rfl ?_
            refine r_get C w 36 (v := vL (z 19)) rfl rfl 6 (by decide) inX4 kf_X4_43 rfl dX4_reduce_64 ?_
            refine lv_lload_n hx hb dX4_reduce_67 rfl (lv_at hl 1 rfl) ?_
            refine r_ldiv hx hb dX4_reduce_68 (by omega) (by omega) (by omega) ?_
            refine r_put C w 36 tyX4 tyX4_ok nmX4 rfl rfl 6 (by decide) inX4 kf_X4_43 rfl rfl rfl (Nat.le_of_ble_eq_true rfl) (ws' := xw cy a (uZ (uZ z 18 (Int.tdiv (z 18) d)) 19 (Int.tdiv (z 19) d)) g) (xw_z19 cy a (uZ z 18 (Int.tdiv (z 18) d)) g (Int.tdiv (z 19) d)) dX4_reduce_69 (fun H locs w => ?_)
            have bz4 : (-9223372036854775808 : Int) ≤ (Int.tdiv (z 19) d) ∧ ((Int.tdiv (z 19) d) : Int) ≤ 9223372036854775807 := (by exact tdiv_r (xZ19 hz) hE.1)
            exact hend ((uZ (uZ z 18 (Int.tdiv (z 18) d)) 19 (Int.tdiv (z 19) d)), g) _ _ _ _ dX4_reduce_72 w ⟨(by first | exact ⟨_, _, rfl, rfl, hl0⟩ | exact ⟨z 18, z 19, by rw [uZ_id, uZ_id], rfl, low_1 h19.1 (by omega)⟩), (xBz_u (xBz_u hz 18 bz3) 19 bz4), hg⟩
        · skip
          refine lv_lload_n hx hb dX4_reduce_30 rfl (lv_at hl 1 rfl) ?_
          refine lv_lload_n hx hb dX4_reduce_31 rfl (lv_at hl 2 rfl) ?_
          refine r_lrem hx hb dX4_reduce_32 (by omega) (by omega) (by omega) ?_
          refine lv_lstore (lv' := [(6, vL (Int.tmod d r)), (0, .ref (a 36)), (1, vL d), (3, vL r), (5, vI i)]) hx hb dX4_reduce_33 hl (by decide) rfl (fun ls hl => ?_)
          refine lv_lload_n hx hb dX4_reduce_35 rfl (lv_at hl 3 rfl) ?_
          refine lv_lstore_n (lv' := [(1, vL r), (6, vL (Int.tmod d r)), (0, .ref (a 36)), (3, vL r), (5, vI i)]) hx hb dX4_reduce_36 rfl hl (by decide) rfl (fun ls hl => ?_)
          refine lv_lload hx hb dX4_reduce_37 (lv_at hl 1 rfl) ?_
          refine lv_lstore_n (lv' := [(3, vL (Int.tmod d r)), (1, vL r), (6, vL (Int.tmod d r)), (0, .ref (a 36)), (5, vI i)]) hx hb dX4_reduce_39 rfl hl (by decide) rfl (fun ls hl => ?_)
          refine r_iinc (lv' := [(5, vI (i + 1)), (3, vL (Int.tmod d r)), (1, vL r), (6, vL (Int.tmod d r)), (0, .ref (a 36))]) hx hb dX4_reduce_40 hl (k := 4) rfl (by decide) rfl (fun ls hl => ?_)
          refine lv_goto (tgt := 16) hx hb dX4_reduce_43 (by decide) ?_
          exact ih16 r (Int.tmod d r) (i + 1) (by omega) (by exact eu_st hi.1 he (by omega)) (by omega) _ _ _ w (lv_sub hl [4, 2, 1, 0] rfl)
  replace hl : lv_has ls 8 [(0, .ref (a 36))] := hl
  refine lv_aload_n hx hb dX4_reduce_0 rfl (lv_at hl 0 rfl) ?_
  refine r_get C w 36 (v := vL (z 19)) rfl rfl 6 (by decide) inX4 kf_X4_43 rfl dX4_reduce_1 ?_
  refine lv_lstore_n (lv' := [(1, vL (z 19)), (0, .ref (a 36))]) hx hb dX4_reduce_4 rfl hl (by decide) rfl (fun ls hl => ?_)
  refine lv_aload_n hx hb dX4_reduce_5 rfl (lv_at hl 1 rfl) ?_
  refine r_get C w 36 (v := vL (z 18)) rfl rfl 5 (by decide) inX4 kf_X4_39 rfl dX4_reduce_6 ?_
  refine r_mabsL C km_X4_74 hl.1 (by decide) (Nat.le_of_ble_eq_true rfl) ⟨by decide, by decide⟩ (by omega) dX4_reduce_9 (fun rv_1 hp_1 => ?_)
  refine lv_lstore_n (lv' := [(3, vL rv_1), (1, vL (z 19)), (0, .ref (a 36))]) hx hb dX4_reduce_12 rfl hl (by decide) rfl (fun ls hl => ?_)
  refine r_iconst hx hb dX4_reduce_13 ?_
  refine lv_istore (lv' := [(5, vI 0), (3, vL rv_1), (1, vL (z 19)), (0, .ref (a 36))]) hx hb dX4_reduce_14 hl (by decide) rfl (fun ls hl => ?_)
  exact J16 _ (z 19) rv_1 0 (by omega) (by have e : rv_1 = r0 := (by omega); rw [e]; exact eu_0 h19.1 (by omega) h19.2 (by omega)) (Nat.lt_succ_self _) _ _ _ w (lv_sub hl [3, 2, 1, 0] rfl)
