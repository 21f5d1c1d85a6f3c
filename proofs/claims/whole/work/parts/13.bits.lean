/-! bits: shifts and masks over integers -/
theorem iI_bn (p : Int) : (iI p).toBitVec.toNat = (p % 4294967296).toNat := by
  show (BitVec.ofInt 32 p).toNat = _
  rw [BitVec.toNat_ofInt]
  rfl
theorem iI_nat (n : Nat) : nI n = iI (n : Int) := (Int32.ofInt_eq_ofNat).symm
theorem lI_nat (n : Nat) : lN n = lI (n : Int) := (Int64.ofInt_eq_ofNat).symm
theorem iI_and {p m : Int} (k : Nat) (hm : (iI m).toBitVec.toNat = 2 ^ k - 1) (hk : k ≤ 31) : iI p &&& iI m = iI (p % 2 ^ k) := by
  rw [pk_and (iI p) k hm, iI_bn, iI_nat]
  congr 1
  have h2 : (2 : Int) ^ k ∣ 4294967296 := by
    have : (4294967296 : Int) = 2 ^ 32 := by decide
    rw [this]
    exact ⟨2 ^ (32 - k), by rw [← Int.pow_add]; congr 1; omega⟩
  rw [Int.natCast_emod, Int.toNat_of_nonneg (Int.emod_nonneg _ (by decide))]
  have e2 : ((2 ^ k : Nat) : Int) = (2 : Int) ^ k := by simp
  rw [e2]
  exact Int.emod_emod_of_dvd p h2
theorem iI_inj_bn {x y : Int32} (h : x.toBitVec.toNat = y.toBitVec.toNat) : x = y := by
  have : x.toBitVec = y.toBitVec := BitVec.eq_of_toNat_eq h
  exact Int32.toBitVec_inj.mp this
theorem iI_ushr {p q : Int} (k : Nat) (hs : (((iI q).toUInt32 &&& Int32.toUInt32 31).toBitVec % 32).toNat = k) : ((iI p).toUInt32 >>> ((iI q).toUInt32 &&& Int32.toUInt32 31)).toInt32 = iI (p % 4294967296 / 2 ^ k) := by
  apply iI_inj_bn
  rw [pk_ushr (iI p) (iI q) k hs, iI_bn, iI_bn]
  have h0 : 0 ≤ p % 4294967296 := Int.emod_nonneg _ (by decide)
  have h1 : p % 4294967296 < 4294967296 := Int.emod_lt_of_pos _ (by decide)
  have h2 : 0 ≤ p % 4294967296 / 2 ^ k := Int.ediv_nonneg h0 (Int.pow_nonneg (by decide))
  have h3 : p % 4294967296 / 2 ^ k ≤ p % 4294967296 := Int.ediv_le_self _ h0
  rw [Int.emod_eq_of_lt h2 (by omega)]
  apply Int.ofNat.inj
  show (((p % 4294967296).toNat / 2 ^ k : Nat) : Int) = ((p % 4294967296 / 2 ^ k).toNat : Int)
  rw [Int.natCast_ediv, Int.toNat_of_nonneg h0, Int.toNat_of_nonneg h2]
  simp
theorem iI_shr {p q : Int} (hp : iR p) (k : Nat) (hs : ((iI q &&& 31).toBitVec.smod 32).toNat = k) : iI p >>> (iI q &&& 31) = iI (p / 2 ^ k) := by
  apply Int32.toInt_inj.mp
  rw [pk_shr (iI p) (iI q &&& 31) k hs, iI_toInt hp, Int.shiftRight_eq_div_pow]
  have e2 : ((2 ^ k : Nat) : Int) = (2 : Int) ^ k := by simp
  rw [e2, iI_toInt]
  have hk : (0 : Int) < 2 ^ k := Int.pow_pos (by decide)
  have h1 : -2147483648 ≤ p / 2 ^ k := by
    rw [Int.le_ediv_iff_mul_le hk]
    have : (1 : Int) ≤ 2 ^ k := hk
    have : (-2147483648 : Int) * 2 ^ k ≤ -2147483648 * 1 := Int.mul_le_mul_of_nonpos_left (by decide) this
    have := hp.1
    omega
  have h2 : p / 2 ^ k ≤ 2147483647 := by
    have h3 : p / 2 ^ k < 2147483648 := by
      rw [Int.ediv_lt_iff_lt_mul hk]
      have : (1 : Int) ≤ 2 ^ k := hk
      have : (2147483648 : Int) * 1 ≤ 2147483648 * 2 ^ k := Int.mul_le_mul_of_nonneg_left this (by decide)
      have := hp.2
      omega
    omega
  exact ⟨h1, h2⟩
theorem iI_b8 (p : Int) : (iI p).toInt8.toInt32 = iI (p.bmod 256) := by
  apply Int32.toInt_inj.mp
  rw [Int8.toInt_toInt32, Int32.toInt_toInt8]
  have e : (iI p).toInt = p.bmod 4294967296 := Int32.toInt_ofInt
  rw [e]
  have b1 : (p.bmod 4294967296).bmod 256 = p.bmod 256 := Int.bmod_bmod_of_dvd (show 256 ∣ 4294967296 by decide)
  show (p.bmod 4294967296).bmod 256 = _
  rw [b1, iI_toInt]
  have h1 := Int.le_bmod (x := p) (m := 256) (by decide)
  have h2 := Int.bmod_lt (x := p) (m := 256) (by decide)
  constructor <;> omega
theorem iI_nb8 {p : Int} (h : -128 ≤ p ∧ p ≤ 127) : vp_nar .byte (iI p) = iI p := by
  rw [vp_nar_byte, iI_b8]
  congr 1
  exact Int.bmod_eq_of_le (by omega) (by omega)
theorem iI_orS {a b : Int} (k : Nat) (ha : 0 ≤ a) (hb : 0 ≤ b) (h : b < 2 ^ k) : iI (a * 2 ^ k) ||| iI b = iI (a * 2 ^ k + b) := by
  obtain ⟨n, rfl⟩ := Int.eq_ofNat_of_zero_le ha
  obtain ⟨q, rfl⟩ := Int.eq_ofNat_of_zero_le hb
  have hq : q < 2 ^ k := by
    have e2 : ((2 ^ k : Nat) : Int) = (2 : Int) ^ k := by simp
    omega
  have e1 : (n : Int) * 2 ^ k = ((2 ^ k * n : Nat) : Int) := by
    simp [Int.mul_comm]
  rw [e1, ← iI_nat, ← iI_nat, show ((2 ^ k * n : Nat) : Int) + (q : Int) = ((2 ^ k * n + q : Nat) : Int) by simp, ← iI_nat]
  apply Int32.toBitVec_inj.mp
  show BitVec.ofNat 32 _ ||| BitVec.ofNat 32 _ = BitVec.ofNat 32 _
  rw [Nat.two_pow_add_eq_or_of_lt hq]
  apply BitVec.eq_of_getLsbD_eq
  intro i hi
  simp [hi]
section RB
variable {p : Program} {l : Launch} {e : Env} {R : Room} {s : State} {m : MethodId} {args : Array Value} {below : List Frame} {meth : Method} {c : Code} {H : Heap} {locs : List Loc} {cells slots : Nat} {Q : State → Prop}
variable {cc : ByteArray} {pc : Nat} {ls : Array Slot} {rest : List Value}
theorem r_iand (hx : p.tables.exec = Jvm.exec) (hb : c.code = cc) {a q : Int} (k : Nat) (hdg : decode cc pc = .ok (.iand, 1)) (hm : (iI q).toBitVec.toNat = 2 ^ k - 1) (hk : k ≤ 31) (kk : W p l e R s m args below meth c H locs cells slots Q (F0 m (pc + 1) ls (vI (a % 2 ^ k) :: rest))) : W p l e R s m args below meth c H locs cells slots Q (F0 m pc ls (vI q :: vI a :: rest)) := lv_iand hx hb hdg (by rw [iI_and k hm hk]; exact kk)
theorem r_iushr (hx : p.tables.exec = Jvm.exec) (hb : c.code = cc) {a q : Int} (k : Nat) (hdg : decode cc pc = .ok (.iushr, 1)) (hs : (((iI q).toUInt32 &&& Int32.toUInt32 31).toBitVec % 32).toNat = k) (kk : W p l e R s m args below meth c H locs cells slots Q (F0 m (pc + 1) ls (vI (a % 4294967296 / 2 ^ k) :: rest))) : W p l e R s m args below meth c H locs cells slots Q (F0 m pc ls (vI q :: vI a :: rest)) := lv_iushr hx hb hdg (iI_ushr k hs) kk
theorem r_ishr (hx : p.tables.exec = Jvm.exec) (hb : c.code = cc) {a q : Int} (k : Nat) (hdg : decode cc pc = .ok (.ishr, 1)) (ha : iR a) (hs : ((iI q &&& 31).toBitVec.smod 32).toNat = k) (kk : W p l e R s m args below meth c H locs cells slots Q (F0 m (pc + 1) ls (vI (a / 2 ^ k) :: rest))) : W p l e R s m args below meth c H locs cells slots Q (F0 m pc ls (vI q :: vI a :: rest)) := lv_ishr hx hb hdg (by rw [iI_shr ha k hs]; exact kk)
theorem r_i2b (hx : p.tables.exec = Jvm.exec) (hb : c.code = cc) {a : Int} (hdg : decode cc pc = .ok (.i2b, 1)) (kk : W p l e R s m args below meth c H locs cells slots Q (F0 m (pc + 1) ls (vI (a.bmod 256) :: rest))) : W p l e R s m args below meth c H locs cells slots Q (F0 m pc ls (vI a :: rest)) := lv_i2b hx hb hdg (iI_b8 a) kk
end RB
