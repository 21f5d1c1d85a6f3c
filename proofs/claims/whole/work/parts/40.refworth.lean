/-! worth of the reference -/
def ciM (g : Nat → Int → Int) (t : Int) : Int → Int := fun s => if cntM g t s then 1 else 0
abbrev gdM (g : Nat → Int → Int) : Int → Int := fun s => g 7 (g 16 s)
abbrev mkM (g : Nat → Int → Int) : Int → Int := fun s => g 6 (g 16 s)
theorem ciM_1 {g : Nat → Int → Int} {t s : Int} (h : cntM g t s) : ciM g t s = 1 := if_pos h
theorem ciM_n {g : Nat → Int → Int} {t s : Int} (h : ¬ cntM g t s) : ciM g t s ≠ 1 := by
  rw [show ciM g t s = 0 from if_neg h]
  omega
theorem Ns_1 {c gd : Int → Int} {q s : Int} (h1 : c s = 1) (h2 : gd s = q) : NsF c gd q s = 1 := if_pos ⟨h1, h2⟩
theorem Ns_0 {c gd : Int → Int} {q s : Int} (h : c s ≠ 1 ∨ gd s ≠ q) : NsF c gd q s = 0 := if_neg (fun z => h.elim (fun y => y z.1) (fun y => y z.2))
theorem Sp_1 {c gd pr : Int → Int} {q s : Int} (h1 : c s = 1) (h2 : gd s = q) : SpF c gd pr q s = pr s := if_pos ⟨h1, h2⟩
theorem Sp_0 {c gd pr : Int → Int} {q s : Int} (h : c s ≠ 1 ∨ gd s ≠ q) : SpF c gd pr q s = 0 := if_neg (fun z => h.elim (fun y => y z.1) (fun y => y z.2))
theorem Os_1 {c gd mk : Int → Int} {m q s : Int} (h1 : c s = 1) (h2 : gd s = q) (h3 : mk s = m) : OsF c gd mk m q s = 1 := if_pos ⟨h1, h2, h3⟩
theorem Os_0 {c gd mk : Int → Int} {m q s : Int} (h : c s ≠ 1 ∨ gd s ≠ q ∨ mk s ≠ m) : OsF c gd mk m q s = 0 := if_neg (fun z => h.elim (fun y => y z.1) (fun y => y.elim (fun y => y z.2.1) (fun y => y z.2.2)))
theorem Op_1 {c gd mk pr : Int → Int} {m q s : Int} (h1 : c s = 1) (h2 : gd s = q) (h3 : mk s = m) : OpF c gd mk pr m q s = pr s := if_pos ⟨h1, h2, h3⟩
theorem Op_0 {c gd mk pr : Int → Int} {m q s : Int} (h : c s ≠ 1 ∨ gd s ≠ q ∨ mk s ≠ m) : OpF c gd mk pr m q s = 0 := if_neg (fun z => h.elim (fun y => y z.1) (fun y => y.elim (fun y => y z.2.1) (fun y => y z.2.2)))
theorem ov_b {ov un C V B : Int} (h : ov * C = V * un) (hu : 1 ≤ un ∧ un ≤ C) (hV : -B ≤ V ∧ V ≤ B) (hB : 0 ≤ B) : -B ≤ ov ∧ ov ≤ B := by
  have h1 := Int.mul_le_mul_of_nonneg_right hV.2 (show 0 ≤ un by omega)
  have h2 := Int.mul_le_mul_of_nonneg_right hV.1 (show 0 ≤ un by omega)
  have h3 := Int.mul_le_mul_of_nonneg_left hu.2 hB
  rw [Int.neg_mul] at h2
  refine ⟨Int.le_of_mul_le_mul_right (a := C) ?_ (by omega), Int.le_of_mul_le_mul_right (a := C) ?_ (by omega)⟩
  · rw [Int.neg_mul]
    omega
  · omega
theorem low_tr {a b a' b' p q : Int} (h : low a b p q) (hb : 1 ≤ b) (hc : a * b' = a' * b) : low a' b' p q := by
  obtain ⟨h1, h2, h3⟩ := h
  refine ⟨h1, ?_, h3⟩
  have : b * (p * b') = b * (a' * q) := by
    have e1 : b * (p * b') = (p * b) * b' := by grind
    have e2 : b * (a' * q) = (a' * b) * q := by grind
    rw [e1, e2, h2, ← hc]
    grind
  exact Int.eq_of_mul_eq_mul_left (by omega) this
theorem w_st {ov un C V d : Int} (h : ov * C = V * un) (hu : 1 ≤ un ∧ un ≤ C) (hd : d = Int.gcd ov un) : (1 ≤ un.tdiv d ∧ un.tdiv d ≤ C) ∧ ov.tdiv d * C = V * un.tdiv d := by
  have hl := low_of hu.1 hd
  have ht := low_tr hl hu.1 h
  refine ⟨⟨hl.1, ?_⟩, ht.2.1⟩
  rw [tdv (by omega)]
  have := Int.ediv_le_self d (show 0 ≤ un by omega)
  omega
theorem w_up {ov un C V al os ow su : Int} (h : ov * C = V * un) : (ov * al + (os * al - ow * su) * un) * (C * al) = (V * al + (os * al - ow * su) * C) * (un * al) := by
  have e1 : (ov * al + (os * al - ow * su) * un) * (C * al) = (ov * C) * (al * al) + (os * al - ow * su) * un * (C * al) := by grind
  rw [e1, h]
  grind
theorem w_kp {ov un C V a : Int} (h : ov * C = V * un) : ov * (C * a) = (V * a + (0 * a - 0) * C) * un := by
  have e1 : ov * (C * a) = (ov * C) * a := by grind
  rw [e1, h]
  grind
theorem m1_b {a b : Int} (h : 1 ≤ a ∧ a ≤ 25600000000) (k : 1 ≤ b ∧ b ≤ 1600) : 1 ≤ a * b ∧ a * b ≤ 9223372036854775807 := by
  have h1 : 1 * 1 ≤ a * b := Int.mul_le_mul h.1 k.1 (by decide) (by omega)
  have h2 : a * b ≤ 25600000000 * 1600 := Int.mul_le_mul h.2 k.2 (by omega) (by decide)
  omega
theorem m1_c {ov C V un mn : Int} (h : ov * C = V * un) : ov * (mn * C) = V * (un * mn) := by
  have e : ov * (mn * C) = (ov * C) * mn := by grind
  rw [e, h]
  grind
theorem gcd_1 {a b : Int} (hb : 1 ≤ b) (hb2 : b ≤ 9223372036854775807) : 1 ≤ (Int.gcd a b : Int) ∧ (Int.gcd a b : Int) ≤ 9223372036854775807 := by
  have h0 : Int.gcd a b ≠ 0 := fun z => by
    have := (Int.gcd_eq_zero_iff.mp z).2
    omega
  have h2 := Int.gcd_dvd_right a b
  have := Int.le_of_dvd (by omega) h2
  omega

abbrev rm_X10_worth : Room := { frames := 1, cells := 0, slots := 0, locals := 29 }
set_option maxHeartbeats 4000000 in
set_option maxRecDepth 100000 in
theorem ct_X10_worth (l : Launch) (D : va_G) (cy : Nat → ClassId) (a : Nat → Nat) (z : Nat → Int) (g : Nat → Int → Int) (p0 p1 p2 : Int) (hz : mBz z) (hg : mBg g) (h0 : iR p0) (h1 : iR p1) (h2 : iR p2) : ML l yX10_worth cX10_worth 22 (rm_X10_worth) D cy (mw cy a z g) [.ref (a 0), vI p0, vI p1, vI p2] (fun (v : Int) (u : sX) => (((¬ ((0 ≤ p0 ∧ p0 ≤ 5) ∧ (0 ≤ p2 ∧ p2 ≤ 1)) ∨ (wT (ciM g p1) (gdM g) (mkM g) p0 (z 13)) < 1) ∧ v = 0 ∧ u = (uZ z 0 1, g)) ∨ (((0 ≤ p0 ∧ p0 ≤ 5) ∧ (0 ≤ p2 ∧ p2 ≤ 1)) ∧ 1 ≤ (wT (ciM g p1) (gdM g) (mkM g) p0 (z 13)) ∧ u = (uZ z 0 0, g) ∧ ∃ rp rq : Int, low (wV (ciM g p1) (gdM g) (mkM g) (g 20) p0 (z 13)) ((wT (ciM g p1) (gdM g) (mkM g) p0 (z 13)) * (wC (ciM g p1) (gdM g) (z 13))) rp rq ∧ v = if p2 = 0 then rp else rq)) ∧ mBz u.1 ∧ mBg u.2) (fun u => mw cy a u.1 u.2) 0 0 := by
  refine go_l (by decide +kernel) (Nat.le_of_ble_eq_true rfl) ?_
  intro p e s m args below meth c Q A ls C hnm hA w hl hend
  have hx := C.1
  have hb := C.2.1
  have b13_ := mZ13 hz
  have hWF : WF (wN (ciM g p1) (gdM g) (z 13)) (wS (ciM g p1) (gdM g) (g 20) (z 13)) (wO (ciM g p1) (gdM g) (mkM g) p0 (z 13)) (wP (ciM g p1) (gdM g) (mkM g) (g 20) p0 (z 13)) := wf_of b13_ (mB20 hg)
  have hTb : ∀ i, 0 ≤ i → i ≤ 4 → 0 ≤ sumI (wO (ciM g p1) (gdM g) (mkM g) p0 (z 13)) i ∧ sumI (wO (ciM g p1) (gdM g) (mkM g) p0 (z 13)) i ≤ i * 400 := fun i h1 h2 => sumI_b h1 (fun j _ _ => by have := hWF j; omega)
  have J37 : ∀ N : Nat, ∀ (ov : Int) (un : Int) (mn : Int) (mv : Int) (i : Int), (0 ≤ i ∧ i ≤ 4) → ((mv = 1 ∧ ((0 ≤ p0 ∧ p0 ≤ 5) ∧ (0 ≤ p2 ∧ p2 ≤ 1))) ∨ (mv = 0 ∧ ¬ ((0 ≤ p0 ∧ p0 ≤ 5) ∧ (0 ≤ p2 ∧ p2 ≤ 1)) ∧ i = 0)) → (mn = sumI (wO (ciM g p1) (gdM g) (mkM g) p0 (z 13)) i) → (1 ≤ un ∧ un ≤ prI (wN (ciM g p1) (gdM g) (z 13)) i) → (ov * prI (wN (ciM g p1) (gdM g) (z 13)) i = vW (wN (ciM g p1) (gdM g) (z 13)) (wS (ciM g p1) (gdM g) (g 20) (z 13)) (wO (ciM g p1) (gdM g) (mkM g) p0 (z 13)) (wP (ciM g p1) (gdM g) (mkM g) (g 20) p0 (z 13)) i * un) → ((4 - i).toNat) < N → ∀ (H : Heap) (locs : List Loc) (ls : Array Slot), wd D A s.heap (mw cy a z g) H locs → lv_has ls 22 [(0, .ref (a 0)), (1, vI p0), (2, vI p1), (3, vI p2), (4, vL ov), (6, vL un), (8, vL mn), (10, vI mv), (11, vI i)] → W p l e (rm_X10_worth) s m args below meth c H locs 0 0 Q (F0 m 37 ls []) := by
    intro N
    induction N with
    | zero => intro ov un mn mv i hi hmv hmn hun hov hN9; exact absurd hN9 (Nat.not_lt_zero _)
    | succ N ih37 =>
      intro ov un mn mv i hi hmv hmn hun hov hN37 H locs ls w hl
      have hTi := hTb i hi.1 hi.2
      have hCi := prI_b hWF hi
      have hVi := vW_l hWF hi
      have hob := ov_b (B := 409559040000000000) hov hun ⟨by omega, by omega⟩ (by omega)
      have J63 : ∀ N : Nat, ∀ (al : Int) (su : Int) (ow : Int) (os : Int) (k : Int), (i < 4 ∧ mv ≠ 0) → (0 ≤ k ∧ k ≤ z 13) → (al = sumI (NsF (ciM g p1) (gdM g) i) k) → (su = sumI (SpF (ciM g p1) (gdM g) (g 20) i) k) → (ow = sumI (OsF (ciM g p1) (gdM g) (mkM g) p0 i) k) → (os = sumI (OpF (ciM g p1) (gdM g) (mkM g) (g 20) p0 i) k) → ((z 13 - k).toNat) < N → ∀ (H : Heap) (locs : List Loc) (ls : Array Slot), wd D A s.heap (mw cy a z g) H locs → lv_has ls 22 [(0, .ref (a 0)), (1, vI p0), (2, vI p1), (3, vI p2), (4, vL ov), (6, vL un), (8, vL mn), (10, vI mv), (11, vI i), (12, vL al), (14, vL su), (16, vL ow), (18, vL os), (20, vI k)] → W p l e (rm_X10_worth) s m args below meth c H locs 0 0 Q (F0 m 63 ls []) := by
        intro N
        induction N with
        | zero => intro al su ow os k hlt hk hal hsu how hos hN9; exact absurd hN9 (Nat.not_lt_zero _)
        | succ N ih63 =>
          intro al su ow os k hlt hk hal hsu how hos hN63 H locs ls w hl
          have hwb := OsF_b (ciM g p1) (gdM g) (mkM g) p0 i hk.1
          refine lv_iload hx hb dX10_worth_63 (lv_at hl 13 rfl) ?_
          refine lv_aload_n hx hb dX10_worth_65 rfl (lv_at hl 0 rfl) ?_
          refine r_get C w 0 (v := vI (z 13)) rfl rfl 34 (by decide) inX10 kf_X10_198 rfl dX10_worth_66 ?_
          have qz1 := mZ13 hz
          refine r_icmp_ge (tgt := 187) hx hb dX10_worth_69 (by decide) (by omega) (by omega) (fun c69 => ?_) (fun c69 => ?_)
          · skip
            have hk17 : k = z 13 := by omega
            have eN : al = (wN (ciM g p1) (gdM g) (z 13)) i := by rw [hal, hk17]
            have eS : su = (wS (ciM g p1) (gdM g) (g 20) (z 13)) i := by rw [hsu, hk17]
            have eO : ow = (wO (ciM g p1) (gdM g) (mkM g) p0 (z 13)) i := by rw [how, hk17]
            have eP : os = (wP (ciM g p1) (gdM g) (mkM g) (g 20) p0 (z 13)) i := by rw [hos, hk17]
            have hWi := hWF i
            have hni := n1_b hWi.1
            have hC1 := prI_b hWF (i := i + 1) (by omega)
            have hV1 := vW_l hWF (i := i + 1) (by omega)
            have eC1 := prI_s (wN (ciM g p1) (gdM g) (z 13)) hi.1
            have eV1 := vW_s (wN (ciM g p1) (gdM g) (z 13)) (wS (ciM g p1) (gdM g) (g 20) (z 13)) (wO (ciM g p1) (gdM g) (mkM g) p0 (z 13)) (wP (ciM g p1) (gdM g) (mkM g) (g 20) p0 (z 13)) hi.1
            refine lv_lload hx hb dX10_worth_187 (lv_at hl 11 rfl) ?_
            refine r_lconst (z := 0) hx hb dX10_worth_189 (by decide) ?_
            refine r_lcif_ne (tgt := 197) hx hb dX10_worth_190 dX10_worth_191 (by decide) (by exact ⟨by omega, by omega⟩) (by exact ⟨by omega, by omega⟩) (fun c190 => ?_) (fun c190 => ?_)
            · skip
              have en1 : n1 ((wN (ciM g p1) (gdM g) (z 13)) i) = al := by unfold n1; rw [if_neg (by omega), eN]
              rw [en1] at eC1 eV1
              rw [← eP, ← eO, ← eS] at eV1
              have hup := w_up (al := al) (os := os) (ow := ow) (su := su) hov
              rw [← eC1, ← eV1] at hup
              refine lv_lload hx hb dX10_worth_197 (lv_at hl 6 rfl) ?_
              refine lv_lload hx hb dX10_worth_199 (lv_at hl 11 rfl) ?_
              refine r_ladd hx hb dX10_worth_201 ?_
              refine lv_lstore (lv' := [(8, vL (mn + ow)), (0, .ref (a 0)), (1, vI p0), (2, vI p1), (3, vI p2), (4, vL ov), (6, vL un), (10, vI mv), (11, vI i), (12, vL al), (14, vL su), (16, vL ow), (18, vL os), (20, vI k)]) hx hb dX10_worth_202 hl (by decide) rfl (fun ls hl => ?_)
              refine lv_lload hx hb dX10_worth_204 (lv_at hl 5 rfl) ?_
              refine lv_lload hx hb dX10_worth_206 (lv_at hl 9 rfl) ?_
              refine r_lmul hx hb dX10_worth_208 ?_
              refine lv_lload hx hb dX10_worth_209 (lv_at hl 12 rfl) ?_
              refine lv_lload hx hb dX10_worth_211 (lv_at hl 9 rfl) ?_
              refine r_lmul hx hb dX10_worth_213 ?_
              refine lv_lload hx hb dX10_worth_214 (lv_at hl 11 rfl) ?_
              refine lv_lload hx hb dX10_worth_216 (lv_at hl 10 rfl) ?_
              refine r_lmul hx hb dX10_worth_218 ?_
              refine r_lsub hx hb dX10_worth_219 ?_
              refine lv_lload hx hb dX10_worth_220 (lv_at hl 6 rfl) ?_
              refine r_lmul hx hb dX10_worth_222 ?_
              refine r_ladd hx hb dX10_worth_223 ?_
              refine r_nmL (fun ov2 hov2 => ?_)
              refine lv_lstore (lv' := [(4, vL ov2), (8, vL (mn + ow)), (0, .ref (a 0)), (1, vI p0), (2, vI p1), (3, vI p2), (6, vL un), (10, vI mv), (11, vI i), (12, vL al), (14, vL su), (16, vL ow), (18, vL os), (20, vI k)]) hx hb dX10_worth_224 hl (by decide) rfl (fun ls hl => ?_)
              refine lv_lload hx hb dX10_worth_226 (lv_at hl 6 rfl) ?_
              refine lv_lload hx hb dX10_worth_228 (lv_at hl 9 rfl) ?_
              refine r_lmul hx hb dX10_worth_230 ?_
              refine r_nmL (fun un2 hun2 => ?_)
              rw [← hov2, ← hun2] at hup
              have hu2 : 1 ≤ un2 ∧ un2 ≤ prI (wN (ciM g p1) (gdM g) (z 13)) (i + 1) := by rw [hun2, eC1]; exact ⟨Int.le_trans (show (1 : Int) ≤ 1 * 1 by decide) (Int.mul_le_mul hun.1 (show 1 ≤ al by omega) (by decide) (by omega)), Int.mul_le_mul_of_nonneg_right hun.2 (by omega)⟩
              have hob2 := ov_b (B := 409559040000000000) hup hu2 ⟨by omega, by omega⟩ (by omega)
              refine lv_lstore (lv' := [(6, vL un2), (4, vL ov2), (8, vL (mn + ow)), (0, .ref (a 0)), (1, vI p0), (2, vI p1), (3, vI p2), (10, vI mv), (11, vI i), (12, vL al), (14, vL su), (16, vL ow), (18, vL os), (20, vI k)]) hx hb dX10_worth_231 hl (by decide) rfl (fun ls hl => ?_)
              refine lv_lload hx hb dX10_worth_233 (lv_at hl 1 rfl) ?_
              refine lv_lload hx hb dX10_worth_235 (lv_at hl 0 rfl) ?_
              refine cSL C w hA (ct_X10_common l D cy a z g ov2 un2 (by exact ⟨⟨by omega, by omega⟩, by omega⟩) (by exact ⟨by omega, by omega⟩)) ok_X10_common km_X10_227 ⟨rfl, rfl⟩ ⟨by decide, by decide⟩ ⟨by decide, by decide⟩ rfl hl.1 rfl (Nat.le_of_ble_eq_true rfl) dX10_worth_237 (fun rv_1 uv_1 H locs w hp_1 => ?_)
              replace hp_1 : rv_1 = (Int.gcd ov2 un2 : Int) := hp_1
              replace w : wd D A s.heap (mw cy a z g) H locs := w
              have hg1 := gcd_1 (a := ov2) hu2.1 (by omega)
              have hws := w_st hup hu2 hp_1
              refine lv_lstore (lv' := [(20, vL rv_1), (6, vL un2), (4, vL ov2), (8, vL (mn + ow)), (0, .ref (a 0)), (1, vI p0), (2, vI p1), (3, vI p2), (10, vI mv), (11, vI i), (12, vL al), (14, vL su), (16, vL ow), (18, vL os)]) hx hb dX10_worth_240 hl (by decide) rfl (fun ls hl => ?_)
              refine lv_lload hx hb dX10_worth_242 (lv_at hl 2 rfl) ?_
              refine lv_lload hx hb dX10_worth_244 (lv_at hl 0 rfl) ?_
              refine r_ldiv hx hb dX10_worth_246 (by exact ⟨by omega, by omega⟩) (by exact ⟨by omega, by omega⟩) (by omega) ?_
              refine lv_lstore (lv' := [(4, vL (Int.tdiv ov2 rv_1)), (20, vL rv_1), (6, vL un2), (8, vL (mn + ow)), (0, .ref (a 0)), (1, vI p0), (2, vI p1), (3, vI p2), (10, vI mv), (11, vI i), (12, vL al), (14, vL su), (16, vL ow), (18, vL os)]) hx hb dX10_worth_247 hl (by decide) rfl (fun ls hl => ?_)
              refine lv_lload hx hb dX10_worth_249 (lv_at hl 2 rfl) ?_
              refine lv_lload hx hb dX10_worth_251 (lv_at hl 1 rfl) ?_
              refine r_ldiv hx hb dX10_worth_253 (by exact ⟨by omega, by omega⟩) (by exact ⟨by omega, by omega⟩) (by omega) ?_
              refine lv_lstore (lv' := [(6, vL (Int.tdiv un2 rv_1)), (4, vL (Int.tdiv ov2 rv_1)), (20, vL rv_1), (8, vL (mn + ow)), (0, .ref (a 0)), (1, vI p0), (2, vI p1), (3, vI p2), (10, vI mv), (11, vI i), (12, vL al), (14, vL su), (16, vL ow), (18, vL os)]) hx hb dX10_worth_254 hl (by decide) rfl (fun ls hl => ?_)
              refine r_iinc (lv' := [(11, vI (i + 1)), (6, vL (Int.tdiv un2 rv_1)), (4, vL (Int.tdiv ov2 rv_1)), (20, vL rv_1), (8, vL (mn + ow)), (0, .ref (a 0)), (1, vI p0), (2, vI p1), (3, vI p2), (10, vI mv), (12, vL al), (14, vL su), (16, vL ow), (18, vL os)]) hx hb dX10_worth_256 hl (k := 9) rfl (by decide) rfl (fun ls hl => ?_)
              refine lv_goto (tgt := 37) hx hb dX10_worth_259 (by decide) ?_
              exact ih37 (Int.tdiv ov2 rv_1) (Int.tdiv un2 rv_1) (mn + ow) mv (i + 1) (by omega) (by omega) (by rw [sumI_s _ hi.1, ← hmn, ← eO] <;> omega) (by first | exact hws.1 | (rw [eC1]; exact ⟨hun.1, Int.le_trans hun.2 (Int.le_trans (Int.le_of_eq (Int.mul_one _).symm) (Int.mul_le_mul_of_nonneg_left hni.1 (by omega)))⟩)) (by first | exact hws.2 | (rw [eC1, eV1, show (wP (ciM g p1) (gdM g) (mkM g) (g 20) p0 (z 13)) i = 0 by omega, show (wO (ciM g p1) (gdM g) (mkM g) p0 (z 13)) i = 0 by omega, Int.zero_mul (wS (ciM g p1) (gdM g) (g 20) (z 13) i)]; exact w_kp hov)) (by omega) _ _ _ w (lv_sub hl [5, 6, 7, 8, 2, 1, 4, 9, 0] rfl)
            · skip
              refine lv_goto (tgt := 256) hx hb dX10_worth_194 (by decide) ?_
              refine r_iinc (lv' := [(11, vI (i + 1)), (0, .ref (a 0)), (1, vI p0), (2, vI p1), (3, vI p2), (4, vL ov), (6, vL un), (8, vL mn), (10, vI mv), (12, vL al), (14, vL su), (16, vL ow), (18, vL os), (20, vI k)]) hx hb dX10_worth_256 hl (k := 8) rfl (by decide) rfl (fun ls hl => ?_)
              refine lv_goto (tgt := 37) hx hb dX10_worth_259 (by decide) ?_
              exact ih37 ov un mn mv (i + 1) (by omega) (by omega) (by rw [sumI_s _ hi.1, ← hmn, ← eO] <;> omega) (by first | exact hws.1 | (rw [eC1]; exact ⟨hun.1, Int.le_trans hun.2 (Int.le_trans (Int.le_of_eq (Int.mul_one _).symm) (Int.mul_le_mul_of_nonneg_left hni.1 (by omega)))⟩)) (by first | exact hws.2 | (rw [eC1, eV1, show (wP (ciM g p1) (gdM g) (mkM g) (g 20) p0 (z 13)) i = 0 by omega, show (wO (ciM g p1) (gdM g) (mkM g) p0 (z 13)) i = 0 by omega, Int.zero_mul (wS (ciM g p1) (gdM g) (g 20) (z 13) i)]; exact w_kp hov)) (by omega) _ _ _ w (lv_sub hl [1, 2, 3, 4, 5, 6, 7, 8, 0] rfl)
          · skip
            refine lv_aload_n hx hb dX10_worth_72 rfl (lv_at hl 0 rfl) ?_
            refine lv_iload hx hb dX10_worth_73 (lv_at hl 13 rfl) ?_
            refine lv_iload_n hx hb dX10_worth_75 rfl (lv_at hl 2 rfl) ?_
            refine cVI C w hA (ct_X10_counts l D cy a z g k p1 hz hg (by show 0 ≤ k ∧ k < 400; omega) (by show iR p1; omega)) ok_X10_counts km_X10_218 ⟨rfl, rfl⟩ ⟨by decide, by decide⟩ ⟨by decide, by decide⟩ rfl 0 rfl rfl hl.1 rfl (Nat.le_of_ble_eq_true rfl) dX10_worth_76 (fun rv_2 uv_2 H locs w hp_2 => ?_)
            replace hp_2 : (rv_2 = 1 ∧ (g 18) k ≤ p1 ∧ ((g 21) k = -1 ∨ p1 < (g 21) k)) ∨ (rv_2 = 0 ∧ ¬ ((g 18) k ≤ p1 ∧ ((g 21) k = -1 ∨ p1 < (g 21) k))) := hp_2
            replace w : wd D A s.heap (mw cy a z g) H locs := w
            refine r_if_eq (tgt := 181) hx hb dX10_worth_79 (by decide) (by omega) (fun c79 => ?_) (fun c79 => ?_)
            · skip
              have hc0 : ciM g p1 k ≠ 1 := ciM_n (by omega)
              refine r_iinc (lv' := [(20, vI (k + 1)), (0, .ref (a 0)), (1, vI p0), (2, vI p1), (3, vI p2), (4, vL ov), (6, vL un), (8, vL mn), (10, vI mv), (11, vI i), (12, vL al), (14, vL su), (16, vL ow), (18, vL os)]) hx hb dX10_worth_181 hl (k := 13) rfl (by decide) rfl (fun ls hl => ?_)
              refine lv_goto (tgt := 63) hx hb dX10_worth_184 (by decide) ?_
              exact ih63 al su ow os (k + 1) (by omega) (by omega) (by rw [sumI_s _ hk.1, ← hal]; first | rw [Ns_1 (c := ciM g p1) (gd := gdM g) (s := k) hci c96] | (rw [Ns_0 (c := ciM g p1) (gd := gdM g) (s := k) (Or.inl hc0)] <;> omega) | (rw [Ns_0 (c := ciM g p1) (gd := gdM g) (s := k) (Or.inr c96)] <;> omega)) (by rw [sumI_s _ hk.1, ← hsu]; first | rw [Sp_1 (c := ciM g p1) (gd := gdM g) (s := k) (pr := g 20) hci c96] | (rw [Sp_0 (c := ciM g p1) (gd := gdM g) (s := k) (pr := g 20) (Or.inl hc0)] <;> omega) | (rw [Sp_0 (c := ciM g p1) (gd := gdM g) (s := k) (pr := g 20) (Or.inr c96)] <;> omega)) (by rw [sumI_s _ hk.1, ← how]; first | rw [Os_1 (c := ciM g p1) (gd := gdM g) (mk := mkM g) (s := k) hci c96 c115] | (rw [Os_0 (c := ciM g p1) (gd := gdM g) (mk := mkM g) (s := k) (Or.inl hc0)] <;> omega) | (rw [Os_0 (c := ciM g p1) (gd := gdM g) (mk := mkM g) (s := k) (Or.inr (Or.inl c96))] <;> omega) | (rw [Os_0 (c := ciM g p1) (gd := gdM g) (mk := mkM g) (s := k) (Or.inr (Or.inr c115))] <;> omega)) (by rw [sumI_s _ hk.1, ← hos]; first | rw [Op_1 (c := ciM g p1) (gd := gdM g) (mk := mkM g) (s := k) (pr := g 20) hci c96 c115] | (rw [Op_0 (c := ciM g p1) (gd := gdM g) (mk := mkM g) (s := k) (pr := g 20) (Or.inl hc0)] <;> omega) | (rw [Op_0 (c := ciM g p1) (gd := gdM g) (mk := mkM g) (s := k) (pr := g 20) (Or.inr (Or.inl c96))] <;> omega) | (rw [Op_0 (c := ciM g p1) (gd := gdM g) (mk := mkM g) (s := k) (pr := g 20) (Or.inr (Or.inr c115))] <;> omega)) (by omega) _ _ _ w (lv_sub hl [1, 2, 3, 4, 5, 6, 7, 8, 9, 10, 11, 12, 13, 0] rfl)
            · skip
              have hci : ciM g p1 k = 1 := ciM_1 (by omega)
              refine lv_aload_n hx hb dX10_worth_82 rfl (lv_at hl 0 rfl) ?_
              refine r_get C w 0 (v := .ref (a 7)) rfl rfl 17 (by decide) inX10 kf_X10_30 rfl dX10_worth_83 ?_
              refine lv_aload_n hx hb dX10_worth_86 rfl (lv_at hl 0 rfl) ?_
              refine r_get C w 0 (v := .ref (a 16)) rfl rfl 28 (by decide) inX10 kf_X10_57 rfl dX10_worth_87 ?_
              refine lv_iload hx hb dX10_worth_90 (lv_at hl 13 rfl) ?_
              refine r_iald C w 16 (f := (g 16)) rfl (by omega) (by omega) (by decide) dX10_worth_92 ?_
              have qg2 := mB16 hg k
              refine r_iald C w 7 (f := (g 7)) rfl (by omega) (by omega) (by decide) dX10_worth_93 ?_
              have qg3 := mB7 hg ((g 16) k)
              refine lv_iload hx hb dX10_worth_94 (lv_at hl 8 rfl) ?_
              refine r_icmp_eq (tgt := 102) hx hb dX10_worth_96 (by decide) (by omega) (by omega) (fun c96 => ?_) (fun c96 => ?_)
              · skip
                refine lv_aload_n hx hb dX10_worth_102 rfl (lv_at hl 0 rfl) ?_
                refine r_get C w 0 (v := .ref (a 6)) rfl rfl 16 (by decide) inX10 kf_X10_27 rfl dX10_worth_103 ?_
                refine lv_aload_n hx hb dX10_worth_106 rfl (lv_at hl 0 rfl) ?_
                refine r_get C w 0 (v := .ref (a 16)) rfl rfl 28 (by decide) inX10 kf_X10_57 rfl dX10_worth_107 ?_
                refine lv_iload hx hb dX10_worth_110 (lv_at hl 13 rfl) ?_
                refine r_iald C w 16 (f := (g 16)) rfl (by omega) (by omega) (by decide) dX10_worth_112 ?_
                have qg4 := mB16 hg k
                refine r_iald C w 6 (f := (g 6)) rfl (by omega) (by omega) (by decide) dX10_worth_113 ?_
                have qg5 := mB6 hg ((g 16) k)
                refine lv_iload_n hx hb dX10_worth_114 rfl (lv_at hl 1 rfl) ?_
                refine r_icmp_ne (tgt := 122) hx hb dX10_worth_115 (by decide) (by omega) (by omega) (fun c115 => ?_) (fun c115 => ?_)
                · skip
                  refine r_iconst hx hb dX10_worth_122 ?_
                  refine lv_istore (lv' := [(21, vI 0), (0, .ref (a 0)), (1, vI p0), (2, vI p1), (3, vI p2), (4, vL ov), (6, vL un), (8, vL mn), (10, vI mv), (11, vI i), (12, vL al), (14, vL su), (16, vL ow), (18, vL os), (20, vI k)]) hx hb dX10_worth_123 hl (by decide) rfl (fun ls hl => ?_)
                  refine lv_lload hx hb dX10_worth_125 (lv_at hl 10 rfl) ?_
                  refine r_lconst (z := 1) hx hb dX10_worth_127 (by decide) ?_
                  refine r_ladd hx hb dX10_worth_128 ?_
                  refine lv_lstore (lv' := [(12, vL (al + 1)), (21, vI 0), (0, .ref (a 0)), (1, vI p0), (2, vI p1), (3, vI p2), (4, vL ov), (6, vL un), (8, vL mn), (10, vI mv), (11, vI i), (14, vL su), (16, vL ow), (18, vL os), (20, vI k)]) hx hb dX10_worth_129 hl (by decide) rfl (fun ls hl => ?_)
                  refine lv_lload hx hb dX10_worth_131 (lv_at hl 11 rfl) ?_
                  refine lv_aload_n hx hb dX10_worth_133 rfl (lv_at hl 2 rfl) ?_
                  refine r_get C w 0 (v := .ref (a 20)) rfl rfl 32 (by decide) inX10 kf_X10_69 rfl dX10_worth_134 ?_
                  refine lv_iload hx hb dX10_worth_137 (lv_at hl 14 rfl) ?_
                  refine r_iald C w 20 (f := (g 20)) rfl (by omega) (by omega) (by decide) dX10_worth_139 ?_
                  have qg6 := mB20 hg k
                  refine r_i2l hx hb dX10_worth_140 (by omega) ?_
                  refine r_ladd hx hb dX10_worth_141 ?_
                  refine lv_lstore (lv' := [(14, vL (su + ((g 20) k))), (12, vL (al + 1)), (21, vI 0), (0, .ref (a 0)), (1, vI p0), (2, vI p1), (3, vI p2), (4, vL ov), (6, vL un), (8, vL mn), (10, vI mv), (11, vI i), (16, vL ow), (18, vL os), (20, vI k)]) hx hb dX10_worth_142 hl (by decide) rfl (fun ls hl => ?_)
                  refine lv_lload hx hb dX10_worth_144 (lv_at hl 12 rfl) ?_
                  refine lv_iload hx hb dX10_worth_146 (lv_at hl 2 rfl) ?_
                  refine r_if_eq (tgt := 155) hx hb dX10_worth_148 (by decide) (by omega) (fun c148 => ?_) (fun c148 => ?_)
                  · skip
                    refine r_lconst (z := 0) hx hb dX10_worth_155 (by decide) ?_
                    refine r_ladd hx hb dX10_worth_156 ?_
                    refine lv_lstore (lv' := [(16, vL (ow + 0)), (14, vL (su + ((g 20) k))), (12, vL (al + 1)), (21, vI 0), (0, .ref (a 0)), (1, vI p0), (2, vI p1), (3, vI p2), (4, vL ov), (6, vL un), (8, vL mn), (10, vI mv), (11, vI i), (18, vL os), (20, vI k)]) hx hb dX10_worth_157 hl (by decide) rfl (fun ls hl => ?_)
                    refine lv_lload hx hb dX10_worth_159 (lv_at hl 13 rfl) ?_
                    refine lv_iload hx hb dX10_worth_161 (lv_at hl 3 rfl) ?_
                    refine r_if_eq (tgt := 177) hx hb dX10_worth_163 (by decide) (by omega) (fun c163 => ?_) (fun c163 => ?_)
                    · skip
                      refine r_lconst (z := 0) hx hb dX10_worth_177 (by decide) ?_
                      refine r_ladd hx hb dX10_worth_178 ?_
                      refine lv_lstore (lv' := [(18, vL (os + 0)), (16, vL (ow + 0)), (14, vL (su + ((g 20) k))), (12, vL (al + 1)), (21, vI 0), (0, .ref (a 0)), (1, vI p0), (2, vI p1), (3, vI p2), (4, vL ov), (6, vL un), (8, vL mn), (10, vI mv), (11, vI i), (20, vI k)]) hx hb dX10_worth_179 hl (by decide) rfl (fun ls hl => ?_)
                      refine r_iinc (lv' := [(20, vI (k + 1)), (18, vL (os + 0)), (16, vL (ow + 0)), (14, vL (su + ((g 20) k))), (12, vL (al + 1)), (21, vI 0), (0, .ref (a 0)), (1, vI p0), (2, vI p1), (3, vI p2), (4, vL ov), (6, vL un), (8, vL mn), (10, vI mv), (11, vI i)]) hx hb dX10_worth_181 hl (k := 14) rfl (by decide) rfl (fun ls hl => ?_)
                      refine lv_goto (tgt := 63) hx hb dX10_worth_184 (by decide) ?_
                      exact ih63 (al + 1) (su + ((g 20) k)) (ow + 0) (os + 0) (k + 1) (by omega) (by omega) (by rw [sumI_s _ hk.1, ← hal]; first | rw [Ns_1 (c := ciM g p1) (gd := gdM g) (s := k) hci c96] | (rw [Ns_0 (c := ciM g p1) (gd := gdM g) (s := k) (Or.inl hc0)] <;> omega) | (rw [Ns_0 (c := ciM g p1) (gd := gdM g) (s := k) (Or.inr c96)] <;> omega)) (by rw [sumI_s _ hk.1, ← hsu]; first | rw [Sp_1 (c := ciM g p1) (gd := gdM g) (s := k) (pr := g 20) hci c96] | (rw [Sp_0 (c := ciM g p1) (gd := gdM g) (s := k) (pr := g 20) (Or.inl hc0)] <;> omega) | (rw [Sp_0 (c := ciM g p1) (gd := gdM g) (s := k) (pr := g 20) (Or.inr c96)] <;> omega)) (by rw [sumI_s _ hk.1, ← how]; first | rw [Os_1 (c := ciM g p1) (gd := gdM g) (mk := mkM g) (s := k) hci c96 c115] | (rw [Os_0 (c := ciM g p1) (gd := gdM g) (mk := mkM g) (s := k) (Or.inl hc0)] <;> omega) | (rw [Os_0 (c := ciM g p1) (gd := gdM g) (mk := mkM g) (s := k) (Or.inr (Or.inl c96))] <;> omega) | (rw [Os_0 (c := ciM g p1) (gd := gdM g) (mk := mkM g) (s := k) (Or.inr (Or.inr c115))] <;> omega)) (by rw [sumI_s _ hk.1, ← hos]; first | rw [Op_1 (c := ciM g p1) (gd := gdM g) (mk := mkM g) (s := k) (pr := g 20) hci c96 c115] | (rw [Op_0 (c := ciM g p1) (gd := gdM g) (mk := mkM g) (s := k) (pr := g 20) (Or.inl hc0)] <;> omega) | (rw [Op_0 (c := ciM g p1) (gd := gdM g) (mk := mkM g) (s := k) (pr := g 20) (Or.inr (Or.inl c96))] <;> omega) | (rw [Op_0 (c := ciM g p1) (gd := gdM g) (mk := mkM g) (s := k) (pr := g 20) (Or.inr (Or.inr c115))] <;> omega)) (by omega) _ _ _ w (lv_sub hl [6, 7, 8, 9, 10, 11, 12, 13, 14, 4, 3, 2, 1, 0] rfl)
                    · skip
                      exact absurd c163 (by omega)
                  · skip
                    exact absurd c148 (by omega)
                · skip
                  refine r_iconst hx hb dX10_worth_118 ?_
                  refine lv_goto (tgt := 123) hx hb dX10_worth_119 (by decide) ?_
                  refine lv_istore (lv' := [(21, vI 1), (0, .ref (a 0)), (1, vI p0), (2, vI p1), (3, vI p2), (4, vL ov), (6, vL un), (8, vL mn), (10, vI mv), (11, vI i), (12, vL al), (14, vL su), (16, vL ow), (18, vL os), (20, vI k)]) hx hb dX10_worth_123 hl (by decide) rfl (fun ls hl => ?_)
                  refine lv_lload hx hb dX10_worth_125 (lv_at hl 10 rfl) ?_
                  refine r_lconst (z := 1) hx hb dX10_worth_127 (by decide) ?_
                  refine r_ladd hx hb dX10_worth_128 ?_
                  refine lv_lstore (lv' := [(12, vL (al + 1)), (21, vI 1), (0, .ref (a 0)), (1, vI p0), (2, vI p1), (3, vI p2), (4, vL ov), (6, vL un), (8, vL mn), (10, vI mv), (11, vI i), (14, vL su), (16, vL ow), (18, vL os), (20, vI k)]) hx hb dX10_worth_129 hl (by decide) rfl (fun ls hl => ?_)
                  refine lv_lload hx hb dX10_worth_131 (lv_at hl 11 rfl) ?_
                  refine lv_aload_n hx hb dX10_worth_133 rfl (lv_at hl 2 rfl) ?_
                  refine r_get C w 0 (v := .ref (a 20)) rfl rfl 32 (by decide) inX10 kf_X10_69 rfl dX10_worth_134 ?_
                  refine lv_iload hx hb dX10_worth_137 (lv_at hl 14 rfl) ?_
                  refine r_iald C w 20 (f := (g 20)) rfl (by omega) (by omega) (by decide) dX10_worth_139 ?_
                  have qg7 := mB20 hg k
                  refine r_i2l hx hb dX10_worth_140 (by omega) ?_
                  refine r_ladd hx hb dX10_worth_141 ?_
                  refine lv_lstore (lv' := [(14, vL (su + ((g 20) k))), (12, vL (al + 1)), (21, vI 1), (0, .ref (a 0)), (1, vI p0), (2, vI p1), (3, vI p2), (4, vL ov), (6, vL un), (8, vL mn), (10, vI mv), (11, vI i), (16, vL ow), (18, vL os), (20, vI k)]) hx hb dX10_worth_142 hl (by decide) rfl (fun ls hl => ?_)
                  refine lv_lload hx hb dX10_worth_144 (lv_at hl 12 rfl) ?_
                  refine lv_iload hx hb dX10_worth_146 (lv_at hl 2 rfl) ?_
                  refine r_if_eq (tgt := 155) hx hb dX10_worth_148 (by decide) (by omega) (fun c148 => ?_) (fun c148 => ?_)
                  · skip
                    exact absurd c148 (by omega)
                  · skip
                    refine r_lconst (z := 1) hx hb dX10_worth_151 (by decide) ?_
                    refine lv_goto (tgt := 156) hx hb dX10_worth_152 (by decide) ?_
                    refine r_ladd hx hb dX10_worth_156 ?_
                    refine lv_lstore (lv' := [(16, vL (ow + 1)), (14, vL (su + ((g 20) k))), (12, vL (al + 1)), (21, vI 1), (0, .ref (a 0)), (1, vI p0), (2, vI p1), (3, vI p2), (4, vL ov), (6, vL un), (8, vL mn), (10, vI mv), (11, vI i), (18, vL os), (20, vI k)]) hx hb dX10_worth_157 hl (by decide) rfl (fun ls hl => ?_)
                    refine lv_lload hx hb dX10_worth_159 (lv_at hl 13 rfl) ?_
                    refine lv_iload hx hb dX10_worth_161 (lv_at hl 3 rfl) ?_
                    refine r_if_eq (tgt := 177) hx hb dX10_worth_163 (by decide) (by omega) (fun c163 => ?_) (fun c163 => ?_)
                    · skip
                      exact absurd c163 (by omega)
                    · skip
                      refine lv_aload_n hx hb dX10_worth_166 rfl (lv_at hl 4 rfl) ?_
                      refine r_get C w 0 (v := .ref (a 20)) rfl rfl 32 (by decide) inX10 kf_X10_69 rfl dX10_worth_167 ?_
                      refine lv_iload hx hb dX10_worth_170 (lv_at hl 14 rfl) ?_
                      refine r_iald C w 20 (f := (g 20)) rfl (by omega) (by omega) (by decide) dX10_worth_172 ?_
                      have qg8 := mB20 hg k
                      refine r_i2l hx hb dX10_worth_173 (by omega) ?_
                      refine lv_goto (tgt := 178) hx hb dX10_worth_174 (by decide) ?_
                      refine r_ladd hx hb dX10_worth_178 ?_
                      refine lv_lstore (lv' := [(18, vL (os + ((g 20) k))), (16, vL (ow + 1)), (14, vL (su + ((g 20) k))), (12, vL (al + 1)), (21, vI 1), (0, .ref (a 0)), (1, vI p0), (2, vI p1), (3, vI p2), (4, vL ov), (6, vL un), (8, vL mn), (10, vI mv), (11, vI i), (20, vI k)]) hx hb dX10_worth_179 hl (by decide) rfl (fun ls hl => ?_)
                      refine r_iinc (lv' := [(20, vI (k + 1)), (18, vL (os + ((g 20) k))), (16, vL (ow + 1)), (14, vL (su + ((g 20) k))), (12, vL (al + 1)), (21, vI 1), (0, .ref (a 0)), (1, vI p0), (2, vI p1), (3, vI p2), (4, vL ov), (6, vL un), (8, vL mn), (10, vI mv), (11, vI i)]) hx hb dX10_worth_181 hl (k := 14) rfl (by decide) rfl (fun ls hl => ?_)
                      refine lv_goto (tgt := 63) hx hb dX10_worth_184 (by decide) ?_
                      exact ih63 (al + 1) (su + ((g 20) k)) (ow + 1) (os + ((g 20) k)) (k + 1) (by omega) (by omega) (by rw [sumI_s _ hk.1, ← hal]; first | rw [Ns_1 (c := ciM g p1) (gd := gdM g) (s := k) hci c96] | (rw [Ns_0 (c := ciM g p1) (gd := gdM g) (s := k) (Or.inl hc0)] <;> omega) | (rw [Ns_0 (c := ciM g p1) (gd := gdM g) (s := k) (Or.inr c96)] <;> omega)) (by rw [sumI_s _ hk.1, ← hsu]; first | rw [Sp_1 (c := ciM g p1) (gd := gdM g) (s := k) (pr := g 20) hci c96] | (rw [Sp_0 (c := ciM g p1) (gd := gdM g) (s := k) (pr := g 20) (Or.inl hc0)] <;> omega) | (rw [Sp_0 (c := ciM g p1) (gd := gdM g) (s := k) (pr := g 20) (Or.inr c96)] <;> omega)) (by rw [sumI_s _ hk.1, ← how]; first | rw [Os_1 (c := ciM g p1) (gd := gdM g) (mk := mkM g) (s := k) hci c96 c115] | (rw [Os_0 (c := ciM g p1) (gd := gdM g) (mk := mkM g) (s := k) (Or.inl hc0)] <;> omega) | (rw [Os_0 (c := ciM g p1) (gd := gdM g) (mk := mkM g) (s := k) (Or.inr (Or.inl c96))] <;> omega) | (rw [Os_0 (c := ciM g p1) (gd := gdM g) (mk := mkM g) (s := k) (Or.inr (Or.inr c115))] <;> omega)) (by rw [sumI_s _ hk.1, ← hos]; first | rw [Op_1 (c := ciM g p1) (gd := gdM g) (mk := mkM g) (s := k) (pr := g 20) hci c96 c115] | (rw [Op_0 (c := ciM g p1) (gd := gdM g) (mk := mkM g) (s := k) (pr := g 20) (Or.inl hc0)] <;> omega) | (rw [Op_0 (c := ciM g p1) (gd := gdM g) (mk := mkM g) (s := k) (pr := g 20) (Or.inr (Or.inl c96))] <;> omega) | (rw [Op_0 (c := ciM g p1) (gd := gdM g) (mk := mkM g) (s := k) (pr := g 20) (Or.inr (Or.inr c115))] <;> omega)) (by omega) _ _ _ w (lv_sub hl [6, 7, 8, 9, 10, 11, 12, 13, 14, 4, 3, 2, 1, 0] rfl)
              · skip
                refine lv_goto (tgt := 181) hx hb dX10_worth_99 (by decide) ?_
                refine r_iinc (lv' := [(20, vI (k + 1)), (0, .ref (a 0)), (1, vI p0), (2, vI p1), (3, vI p2), (4, vL ov), (6, vL un), (8, vL mn), (10, vI mv), (11, vI i), (12, vL al), (14, vL su), (16, vL ow), (18, vL os)]) hx hb dX10_worth_181 hl (k := 13) rfl (by decide) rfl (fun ls hl => ?_)
                refine lv_goto (tgt := 63) hx hb dX10_worth_184 (by decide) ?_
                exact ih63 al su ow os (k + 1) (by omega) (by omega) (by rw [sumI_s _ hk.1, ← hal]; first | rw [Ns_1 (c := ciM g p1) (gd := gdM g) (s := k) hci c96] | (rw [Ns_0 (c := ciM g p1) (gd := gdM g) (s := k) (Or.inl hc0)] <;> omega) | (rw [Ns_0 (c := ciM g p1) (gd := gdM g) (s := k) (Or.inr c96)] <;> omega)) (by rw [sumI_s _ hk.1, ← hsu]; first | rw [Sp_1 (c := ciM g p1) (gd := gdM g) (s := k) (pr := g 20) hci c96] | (rw [Sp_0 (c := ciM g p1) (gd := gdM g) (s := k) (pr := g 20) (Or.inl hc0)] <;> omega) | (rw [Sp_0 (c := ciM g p1) (gd := gdM g) (s := k) (pr := g 20) (Or.inr c96)] <;> omega)) (by rw [sumI_s _ hk.1, ← how]; first | rw [Os_1 (c := ciM g p1) (gd := gdM g) (mk := mkM g) (s := k) hci c96 c115] | (rw [Os_0 (c := ciM g p1) (gd := gdM g) (mk := mkM g) (s := k) (Or.inl hc0)] <;> omega) | (rw [Os_0 (c := ciM g p1) (gd := gdM g) (mk := mkM g) (s := k) (Or.inr (Or.inl c96))] <;> omega) | (rw [Os_0 (c := ciM g p1) (gd := gdM g) (mk := mkM g) (s := k) (Or.inr (Or.inr c115))] <;> omega)) (by rw [sumI_s _ hk.1, ← hos]; first | rw [Op_1 (c := ciM g p1) (gd := gdM g) (mk := mkM g) (s := k) (pr := g 20) hci c96 c115] | (rw [Op_0 (c := ciM g p1) (gd := gdM g) (mk := mkM g) (s := k) (pr := g 20) (Or.inl hc0)] <;> omega) | (rw [Op_0 (c := ciM g p1) (gd := gdM g) (mk := mkM g) (s := k) (pr := g 20) (Or.inr (Or.inl c96))] <;> omega) | (rw [Op_0 (c := ciM g p1) (gd := gdM g) (mk := mkM g) (s := k) (pr := g 20) (Or.inr (Or.inr c115))] <;> omega)) (by omega) _ _ _ w (lv_sub hl [1, 2, 3, 4, 5, 6, 7, 8, 9, 10, 11, 12, 13, 0] rfl)
      refine lv_iload hx hb dX10_worth_37 (lv_at hl 8 rfl) ?_
      refine r_iconst hx hb dX10_worth_39 ?_
      refine r_icmp_ge (tgt := 262) hx hb dX10_worth_40 (by decide) (by omega) (by omega) (fun c40 => ?_) (fun c40 => ?_)
      · skip
        refine lv_aload_n hx hb dX10_worth_262 rfl (lv_at hl 0 rfl) ?_
        refine lv_iload hx hb dX10_worth_263 (lv_at hl 7 rfl) ?_
        refine r_if_eq (tgt := 275) hx hb dX10_worth_265 (by decide) (by omega) (fun c265 => ?_) (fun c265 => ?_)
        · skip
          refine r_iconst hx hb dX10_worth_275 ?_
          refine lv_goto (tgt := 280) hx hb dX10_worth_276 (by decide) ?_
          refine cVI C w hA (ct_X10_throwsIf l D cy a z g 1 hz hg (by show 1 = 0 ∨ 1 = 1; omega)) ok_X10_throwsIf km_X10_207 ⟨rfl, rfl⟩ ⟨by decide, by decide⟩ ⟨by decide, by decide⟩ rfl 0 rfl rfl hl.1 rfl (Nat.le_of_ble_eq_true rfl) dX10_worth_280 (fun rv_3 uv_3 H locs w hp_3 => ?_)
          obtain ⟨zc_3, gc_3⟩ := uv_3
          obtain ⟨hp_3, hzc_3, hgc_3⟩ := hp_3
          replace w : wd D A s.heap (mw cy a zc_3 gc_3) H locs := w
          replace hzc_3 : mBz zc_3 := hzc_3
          replace hgc_3 : mBg gc_3 := hgc_3
          try dsimp only at hp_3
          have hth1 := hp_3.1
          have hth2 := hp_3.2
          have hzc0 := hzc_3
          refine r_if_eq (tgt := 288) hx hb dX10_worth_283 (by decide) (by omega) (fun c283 => ?_) (fun c283 => ?_)
          · skip
            have hmay : ((0 ≤ p0 ∧ p0 ≤ 5) ∧ (0 ≤ p2 ∧ p2 ≤ 1)) := by omega
            have hi4 : i = 4 := by omega
            have hT : (wT (ciM g p1) (gdM g) (mkM g) p0 (z 13)) = mn := by rw [hmn, hi4]; rfl
            have hT1 : 1 ≤ mn := by omega
            have hm1 : 1 ≤ un * mn ∧ un * mn ≤ 9223372036854775807 := m1_b ⟨hun.1, by omega⟩ ⟨hT1, by omega⟩
            have hcr : ov * ((wT (ciM g p1) (gdM g) (mkM g) p0 (z 13)) * (wC (ciM g p1) (gdM g) (z 13))) = (wV (ciM g p1) (gdM g) (mkM g) (g 20) p0 (z 13)) * (un * mn) := by rw [hT]; rw [hi4] at hov; exact m1_c hov
            refine lv_lload hx hb dX10_worth_288 (lv_at hl 5 rfl) ?_
            refine lv_lload hx hb dX10_worth_290 (lv_at hl 6 rfl) ?_
            refine r_lmul hx hb dX10_worth_292 ?_
            refine lv_lstore (lv' := [(6, vL (un * mn)), (0, .ref (a 0)), (1, vI p0), (2, vI p1), (3, vI p2), (4, vL ov), (8, vL mn), (10, vI mv), (11, vI i)]) hx hb dX10_worth_293 hl (by decide) rfl (fun ls hl => ?_)
            refine lv_lload hx hb dX10_worth_295 (lv_at hl 5 rfl) ?_
            refine lv_lload hx hb dX10_worth_297 (lv_at hl 0 rfl) ?_
            refine cSL C w hA (ct_X10_common l D cy a zc_3 gc_3 ov (un * mn) (by exact ⟨⟨by omega, by omega⟩, by omega⟩) (by exact hm1)) ok_X10_common km_X10_227 ⟨rfl, rfl⟩ ⟨by decide, by decide⟩ ⟨by decide, by decide⟩ rfl hl.1 rfl (Nat.le_of_ble_eq_true rfl) dX10_worth_299 (fun rv_4 uv_4 H locs w hp_4 => ?_)
            replace hp_4 : rv_4 = (Int.gcd ov (un * mn) : Int) := hp_4
            replace w : wd D A s.heap (mw cy a zc_3 gc_3) H locs := w
            have hlo := low_of hm1.1 hp_4
            have hg1 := gcd_1 (a := ov) hm1.1 (by omega)
            refine lv_lstore (lv' := [(11, vL rv_4), (6, vL (un * mn)), (0, .ref (a 0)), (1, vI p0), (2, vI p1), (3, vI p2), (4, vL ov), (8, vL mn), (10, vI mv)]) hx hb dX10_worth_302 hl (by decide) rfl (fun ls hl => ?_)
            refine lv_iload_n hx hb dX10_worth_304 rfl (lv_at hl 5 rfl) ?_
            refine r_if_ne (tgt := 316) hx hb dX10_worth_305 (by decide) (by omega) (fun c305 => ?_) (fun c305 => ?_)
            · skip
              refine lv_lload hx hb dX10_worth_316 (lv_at hl 1 rfl) ?_
              refine lv_lload hx hb dX10_worth_318 (lv_at hl 0 rfl) ?_
              refine r_ldiv hx hb dX10_worth_320 (by exact ⟨by omega, by omega⟩) (by exact ⟨by omega, by omega⟩) (by omega) ?_
              exact hend (Int.tdiv (un * mn) rv_4) (zc_3, gc_3) _ _ _ _ dX10_worth_321 w ⟨(by first | exact absurd hth1 (by omega) | exact Or.inr ⟨hmay, by omega, hth2, _, _, low_tr hlo hm1.1 hcr, by first | exact (if_pos c305).symm | exact (if_neg c305).symm⟩), hzc_3, hgc_3⟩
            · skip
              refine lv_lload hx hb dX10_worth_308 (lv_at hl 6 rfl) ?_
              refine lv_lload hx hb dX10_worth_310 (lv_at hl 0 rfl) ?_
              refine r_ldiv hx hb dX10_worth_312 (by exact ⟨by omega, by omega⟩) (by exact ⟨by omega, by omega⟩) (by omega) ?_
              refine lv_goto (tgt := 321) hx hb dX10_worth_313 (by decide) ?_
              exact hend (Int.tdiv ov rv_4) (zc_3, gc_3) _ _ _ _ dX10_worth_321 w ⟨(by first | exact absurd hth1 (by omega) | exact Or.inr ⟨hmay, by omega, hth2, _, _, low_tr hlo hm1.1 hcr, by first | exact (if_pos c305).symm | exact (if_neg c305).symm⟩), hzc_3, hgc_3⟩
          · skip
            refine r_lconst (z := 0) hx hb dX10_worth_286 (by decide) ?_
            exact hend 0 (zc_3, gc_3) _ _ _ _ dX10_worth_287 w ⟨(by first | exact absurd hth1 (by omega) | exact Or.inl ⟨by first | exact Or.inl (by omega) | exact Or.inr (by rw [show (wT (ciM g p1) (gdM g) (mkM g) p0 (z 13)) = mn from (by rw [hmn, show i = 4 by omega]; rfl)]; omega), rfl, hth2⟩), hzc_3, hgc_3⟩
        · skip
          refine lv_lload hx hb dX10_worth_268 (lv_at hl 6 rfl) ?_
          refine r_lconst (z := 0) hx hb dX10_worth_270 (by decide) ?_
          refine r_lcif_ne (tgt := 279) hx hb dX10_worth_271 dX10_worth_272 (by decide) (by omega) (by omega) (fun c271 => ?_) (fun c271 => ?_)
          · skip
            refine r_iconst hx hb dX10_worth_279 ?_
            refine cVI C w hA (ct_X10_throwsIf l D cy a z g 0 hz hg (by show 0 = 0 ∨ 0 = 1; omega)) ok_X10_throwsIf km_X10_207 ⟨rfl, rfl⟩ ⟨by decide, by decide⟩ ⟨by decide, by decide⟩ rfl 0 rfl rfl hl.1 rfl (Nat.le_of_ble_eq_true rfl) dX10_worth_280 (fun rv_5 uv_5 H locs w hp_5 => ?_)
            obtain ⟨zc_5, gc_5⟩ := uv_5
            obtain ⟨hp_5, hzc_5, hgc_5⟩ := hp_5
            replace w : wd D A s.heap (mw cy a zc_5 gc_5) H locs := w
            replace hzc_5 : mBz zc_5 := hzc_5
            replace hgc_5 : mBg gc_5 := hgc_5
            try dsimp only at hp_5
            have hth1 := hp_5.1
            have hth2 := hp_5.2
            have hzc0 := hzc_5
            refine r_if_eq (tgt := 288) hx hb dX10_worth_283 (by decide) (by omega) (fun c283 => ?_) (fun c283 => ?_)
            · skip
              have hmay : ((0 ≤ p0 ∧ p0 ≤ 5) ∧ (0 ≤ p2 ∧ p2 ≤ 1)) := by omega
              have hi4 : i = 4 := by omega
              have hT : (wT (ciM g p1) (gdM g) (mkM g) p0 (z 13)) = mn := by rw [hmn, hi4]; rfl
              have hT1 : 1 ≤ mn := by omega
              have hm1 : 1 ≤ un * mn ∧ un * mn ≤ 9223372036854775807 := m1_b ⟨hun.1, by omega⟩ ⟨hT1, by omega⟩
              have hcr : ov * ((wT (ciM g p1) (gdM g) (mkM g) p0 (z 13)) * (wC (ciM g p1) (gdM g) (z 13))) = (wV (ciM g p1) (gdM g) (mkM g) (g 20) p0 (z 13)) * (un * mn) := by rw [hT]; rw [hi4] at hov; exact m1_c hov
              refine lv_lload hx hb dX10_worth_288 (lv_at hl 5 rfl) ?_
              refine lv_lload hx hb dX10_worth_290 (lv_at hl 6 rfl) ?_
              refine r_lmul hx hb dX10_worth_292 ?_
              refine lv_lstore (lv' := [(6, vL (un * mn)), (0, .ref (a 0)), (1, vI p0), (2, vI p1), (3, vI p2), (4, vL ov), (8, vL mn), (10, vI mv), (11, vI i)]) hx hb dX10_worth_293 hl (by decide) rfl (fun ls hl => ?_)
              refine lv_lload hx hb dX10_worth_295 (lv_at hl 5 rfl) ?_
              refine lv_lload hx hb dX10_worth_297 (lv_at hl 0 rfl) ?_
              refine cSL C w hA (ct_X10_common l D cy a zc_5 gc_5 ov (un * mn) (by exact ⟨⟨by omega, by omega⟩, by omega⟩) (by exact hm1)) ok_X10_common km_X10_227 ⟨rfl, rfl⟩ ⟨by decide, by decide⟩ ⟨by decide, by decide⟩ rfl hl.1 rfl (Nat.le_of_ble_eq_true rfl) dX10_worth_299 (fun rv_6 uv_6 H locs w hp_6 => ?_)
              replace hp_6 : rv_6 = (Int.gcd ov (un * mn) : Int) := hp_6
              replace w : wd D A s.heap (mw cy a zc_5 gc_5) H locs := w
              have hlo := low_of hm1.1 hp_6
              have hg1 := gcd_1 (a := ov) hm1.1 (by omega)
              refine lv_lstore (lv' := [(11, vL rv_6), (6, vL (un * mn)), (0, .ref (a 0)), (1, vI p0), (2, vI p1), (3, vI p2), (4, vL ov), (8, vL mn), (10, vI mv)]) hx hb dX10_worth_302 hl (by decide) rfl (fun ls hl => ?_)
              refine lv_iload_n hx hb dX10_worth_304 rfl (lv_at hl 5 rfl) ?_
              refine r_if_ne (tgt := 316) hx hb dX10_worth_305 (by decide) (by omega) (fun c305 => ?_) (fun c305 => ?_)
              · skip
                refine lv_lload hx hb dX10_worth_316 (lv_at hl 1 rfl) ?_
                refine lv_lload hx hb dX10_worth_318 (lv_at hl 0 rfl) ?_
                refine r_ldiv hx hb dX10_worth_320 (by exact ⟨by omega, by omega⟩) (by exact ⟨by omega, by omega⟩) (by omega) ?_
                exact hend (Int.tdiv (un * mn) rv_6) (zc_5, gc_5) _ _ _ _ dX10_worth_321 w ⟨(by first | exact absurd hth1 (by omega) | exact Or.inr ⟨hmay, by omega, hth2, _, _, low_tr hlo hm1.1 hcr, by first | exact (if_pos c305).symm | exact (if_neg c305).symm⟩), hzc_5, hgc_5⟩
              · skip
                refine lv_lload hx hb dX10_worth_308 (lv_at hl 6 rfl) ?_
                refine lv_lload hx hb dX10_worth_310 (lv_at hl 0 rfl) ?_
                refine r_ldiv hx hb dX10_worth_312 (by exact ⟨by omega, by omega⟩) (by exact ⟨by omega, by omega⟩) (by omega) ?_
                refine lv_goto (tgt := 321) hx hb dX10_worth_313 (by decide) ?_
                exact hend (Int.tdiv ov rv_6) (zc_5, gc_5) _ _ _ _ dX10_worth_321 w ⟨(by first | exact absurd hth1 (by omega) | exact Or.inr ⟨hmay, by omega, hth2, _, _, low_tr hlo hm1.1 hcr, by first | exact (if_pos c305).symm | exact (if_neg c305).symm⟩), hzc_5, hgc_5⟩
            · skip
              refine r_lconst (z := 0) hx hb dX10_worth_286 (by decide) ?_
              exact hend 0 (zc_5, gc_5) _ _ _ _ dX10_worth_287 w ⟨(by first | exact absurd hth1 (by omega) | exact Or.inl ⟨by first | exact Or.inl (by omega) | exact Or.inr (by rw [show (wT (ciM g p1) (gdM g) (mkM g) p0 (z 13)) = mn from (by rw [hmn, show i = 4 by omega]; rfl)]; omega), rfl, hth2⟩), hzc_5, hgc_5⟩
          · skip
            refine r_iconst hx hb dX10_worth_275 ?_
            refine lv_goto (tgt := 280) hx hb dX10_worth_276 (by decide) ?_
            refine cVI C w hA (ct_X10_throwsIf l D cy a z g 1 hz hg (by show 1 = 0 ∨ 1 = 1; omega)) ok_X10_throwsIf km_X10_207 ⟨rfl, rfl⟩ ⟨by decide, by decide⟩ ⟨by decide, by decide⟩ rfl 0 rfl rfl hl.1 rfl (Nat.le_of_ble_eq_true rfl) dX10_worth_280 (fun rv_7 uv_7 H locs w hp_7 => ?_)
            obtain ⟨zc_7, gc_7⟩ := uv_7
            obtain ⟨hp_7, hzc_7, hgc_7⟩ := hp_7
            replace w : wd D A s.heap (mw cy a zc_7 gc_7) H locs := w
            replace hzc_7 : mBz zc_7 := hzc_7
            replace hgc_7 : mBg gc_7 := hgc_7
            try dsimp only at hp_7
            have hth1 := hp_7.1
            have hth2 := hp_7.2
            have hzc0 := hzc_7
            refine r_if_eq (tgt := 288) hx hb dX10_worth_283 (by decide) (by omega) (fun c283 => ?_) (fun c283 => ?_)
            · skip
              have hmay : ((0 ≤ p0 ∧ p0 ≤ 5) ∧ (0 ≤ p2 ∧ p2 ≤ 1)) := by omega
              have hi4 : i = 4 := by omega
              have hT : (wT (ciM g p1) (gdM g) (mkM g) p0 (z 13)) = mn := by rw [hmn, hi4]; rfl
              have hT1 : 1 ≤ mn := by omega
              have hm1 : 1 ≤ un * mn ∧ un * mn ≤ 9223372036854775807 := m1_b ⟨hun.1, by omega⟩ ⟨hT1, by omega⟩
              have hcr : ov * ((wT (ciM g p1) (gdM g) (mkM g) p0 (z 13)) * (wC (ciM g p1) (gdM g) (z 13))) = (wV (ciM g p1) (gdM g) (mkM g) (g 20) p0 (z 13)) * (un * mn) := by rw [hT]; rw [hi4] at hov; exact m1_c hov
              refine lv_lload hx hb dX10_worth_288 (lv_at hl 5 rfl) ?_
              refine lv_lload hx hb dX10_worth_290 (lv_at hl 6 rfl) ?_
              refine r_lmul hx hb dX10_worth_292 ?_
              refine lv_lstore (lv' := [(6, vL (un * mn)), (0, .ref (a 0)), (1, vI p0), (2, vI p1), (3, vI p2), (4, vL ov), (8, vL mn), (10, vI mv), (11, vI i)]) hx hb dX10_worth_293 hl (by decide) rfl (fun ls hl => ?_)
              refine lv_lload hx hb dX10_worth_295 (lv_at hl 5 rfl) ?_
              refine lv_lload hx hb dX10_worth_297 (lv_at hl 0 rfl) ?_
              refine cSL C w hA (ct_X10_common l D cy a zc_7 gc_7 ov (un * mn) (by exact ⟨⟨by omega, by omega⟩, by omega⟩) (by exact hm1)) ok_X10_common km_X10_227 ⟨rfl, rfl⟩ ⟨by decide, by decide⟩ ⟨by decide, by decide⟩ rfl hl.1 rfl (Nat.le_of_ble_eq_true rfl) dX10_worth_299 (fun rv_8 uv_8 H locs w hp_8 => ?_)
              replace hp_8 : rv_8 = (Int.gcd ov (un * mn) : Int) := hp_8
              replace w : wd D A s.heap (mw cy a zc_7 gc_7) H locs := w
              have hlo := low_of hm1.1 hp_8
              have hg1 := gcd_1 (a := ov) hm1.1 (by omega)
              refine lv_lstore (lv' := [(11, vL rv_8), (6, vL (un * mn)), (0, .ref (a 0)), (1, vI p0), (2, vI p1), (3, vI p2), (4, vL ov), (8, vL mn), (10, vI mv)]) hx hb dX10_worth_302 hl (by decide) rfl (fun ls hl => ?_)
              refine lv_iload_n hx hb dX10_worth_304 rfl (lv_at hl 5 rfl) ?_
              refine r_if_ne (tgt := 316) hx hb dX10_worth_305 (by decide) (by omega) (fun c305 => ?_) (fun c305 => ?_)
              · skip
                refine lv_lload hx hb dX10_worth_316 (lv_at hl 1 rfl) ?_
                refine lv_lload hx hb dX10_worth_318 (lv_at hl 0 rfl) ?_
                refine r_ldiv hx hb dX10_worth_320 (by exact ⟨by omega, by omega⟩) (by exact ⟨by omega, by omega⟩) (by omega) ?_
                exact hend (Int.tdiv (un * mn) rv_8) (zc_7, gc_7) _ _ _ _ dX10_worth_321 w ⟨(by first | exact absurd hth1 (by omega) | exact Or.inr ⟨hmay, by omega, hth2, _, _, low_tr hlo hm1.1 hcr, by first | exact (if_pos c305).symm | exact (if_neg c305).symm⟩), hzc_7, hgc_7⟩
              · skip
                refine lv_lload hx hb dX10_worth_308 (lv_at hl 6 rfl) ?_
                refine lv_lload hx hb dX10_worth_310 (lv_at hl 0 rfl) ?_
                refine r_ldiv hx hb dX10_worth_312 (by exact ⟨by omega, by omega⟩) (by exact ⟨by omega, by omega⟩) (by omega) ?_
                refine lv_goto (tgt := 321) hx hb dX10_worth_313 (by decide) ?_
                exact hend (Int.tdiv ov rv_8) (zc_7, gc_7) _ _ _ _ dX10_worth_321 w ⟨(by first | exact absurd hth1 (by omega) | exact Or.inr ⟨hmay, by omega, hth2, _, _, low_tr hlo hm1.1 hcr, by first | exact (if_pos c305).symm | exact (if_neg c305).symm⟩), hzc_7, hgc_7⟩
            · skip
              refine r_lconst (z := 0) hx hb dX10_worth_286 (by decide) ?_
              exact hend 0 (zc_7, gc_7) _ _ _ _ dX10_worth_287 w ⟨(by first | exact absurd hth1 (by omega) | exact Or.inl ⟨by first | exact Or.inl (by omega) | exact Or.inr (by rw [show (wT (ciM g p1) (gdM g) (mkM g) p0 (z 13)) = mn from (by rw [hmn, show i = 4 by omega]; rfl)]; omega), rfl, hth2⟩), hzc_7, hgc_7⟩
      · skip
        refine lv_iload hx hb dX10_worth_43 (lv_at hl 7 rfl) ?_
        refine r_if_eq (tgt := 262) hx hb dX10_worth_45 (by decide) (by omega) (fun c45 => ?_) (fun c45 => ?_)
        · skip
          refine lv_aload_n hx hb dX10_worth_262 rfl (lv_at hl 0 rfl) ?_
          refine lv_iload hx hb dX10_worth_263 (lv_at hl 7 rfl) ?_
          refine r_if_eq (tgt := 275) hx hb dX10_worth_265 (by decide) (by omega) (fun c265 => ?_) (fun c265 => ?_)
          · skip
            refine r_iconst hx hb dX10_worth_275 ?_
            refine lv_goto (tgt := 280) hx hb dX10_worth_276 (by decide) ?_
            refine cVI C w hA (ct_X10_throwsIf l D cy a z g 1 hz hg (by show 1 = 0 ∨ 1 = 1; omega)) ok_X10_throwsIf km_X10_207 ⟨rfl, rfl⟩ ⟨by decide, by decide⟩ ⟨by decide, by decide⟩ rfl 0 rfl rfl hl.1 rfl (Nat.le_of_ble_eq_true rfl) dX10_worth_280 (fun rv_9 uv_9 H locs w hp_9 => ?_)
            obtain ⟨zc_9, gc_9⟩ := uv_9
            obtain ⟨hp_9, hzc_9, hgc_9⟩ := hp_9
            replace w : wd D A s.heap (mw cy a zc_9 gc_9) H locs := w
            replace hzc_9 : mBz zc_9 := hzc_9
            replace hgc_9 : mBg gc_9 := hgc_9
            try dsimp only at hp_9
            have hth1 := hp_9.1
            have hth2 := hp_9.2
            have hzc0 := hzc_9
            refine r_if_eq (tgt := 288) hx hb dX10_worth_283 (by decide) (by omega) (fun c283 => ?_) (fun c283 => ?_)
            · skip
              have hmay : ((0 ≤ p0 ∧ p0 ≤ 5) ∧ (0 ≤ p2 ∧ p2 ≤ 1)) := by omega
              have hi4 : i = 4 := by omega
              have hT : (wT (ciM g p1) (gdM g) (mkM g) p0 (z 13)) = mn := by rw [hmn, hi4]; rfl
              have hT1 : 1 ≤ mn := by omega
              have hm1 : 1 ≤ un * mn ∧ un * mn ≤ 9223372036854775807 := m1_b ⟨hun.1, by omega⟩ ⟨hT1, by omega⟩
              have hcr : ov * ((wT (ciM g p1) (gdM g) (mkM g) p0 (z 13)) * (wC (ciM g p1) (gdM g) (z 13))) = (wV (ciM g p1) (gdM g) (mkM g) (g 20) p0 (z 13)) * (un * mn) := by rw [hT]; rw [hi4] at hov; exact m1_c hov
              refine lv_lload hx hb dX10_worth_288 (lv_at hl 5 rfl) ?_
              refine lv_lload hx hb dX10_worth_290 (lv_at hl 6 rfl) ?_
              refine r_lmul hx hb dX10_worth_292 ?_
              refine lv_lstore (lv' := [(6, vL (un * mn)), (0, .ref (a 0)), (1, vI p0), (2, vI p1), (3, vI p2), (4, vL ov), (8, vL mn), (10, vI mv), (11, vI i)]) hx hb dX10_worth_293 hl (by decide) rfl (fun ls hl => ?_)
              refine lv_lload hx hb dX10_worth_295 (lv_at hl 5 rfl) ?_
              refine lv_lload hx hb dX10_worth_297 (lv_at hl 0 rfl) ?_
              refine cSL C w hA (ct_X10_common l D cy a zc_9 gc_9 ov (un * mn) (by exact ⟨⟨by omega, by omega⟩, by omega⟩) (by exact hm1)) ok_X10_common km_X10_227 ⟨rfl, rfl⟩ ⟨by decide, by decide⟩ ⟨by decide, by decide⟩ rfl hl.1 rfl (Nat.le_of_ble_eq_true rfl) dX10_worth_299 (fun rv_10 uv_10 H locs w hp_10 => ?_)
              replace hp_10 : rv_10 = (Int.gcd ov (un * mn) : Int) := hp_10
              replace w : wd D A s.heap (mw cy a zc_9 gc_9) H locs := w
              have hlo := low_of hm1.1 hp_10
              have hg1 := gcd_1 (a := ov) hm1.1 (by omega)
              refine lv_lstore (lv' := [(11, vL rv_10), (6, vL (un * mn)), (0, .ref (a 0)), (1, vI p0), (2, vI p1), (3, vI p2), (4, vL ov), (8, vL mn), (10, vI mv)]) hx hb dX10_worth_302 hl (by decide) rfl (fun ls hl => ?_)
              refine lv_iload_n hx hb dX10_worth_304 rfl (lv_at hl 5 rfl) ?_
              refine r_if_ne (tgt := 316) hx hb dX10_worth_305 (by decide) (by omega) (fun c305 => ?_) (fun c305 => ?_)
              · skip
                refine lv_lload hx hb dX10_worth_316 (lv_at hl 1 rfl) ?_
                refine lv_lload hx hb dX10_worth_318 (lv_at hl 0 rfl) ?_
                refine r_ldiv hx hb dX10_worth_320 (by exact ⟨by omega, by omega⟩) (by exact ⟨by omega, by omega⟩) (by omega) ?_
                exact hend (Int.tdiv (un * mn) rv_10) (zc_9, gc_9) _ _ _ _ dX10_worth_321 w ⟨(by first | exact absurd hth1 (by omega) | exact Or.inr ⟨hmay, by omega, hth2, _, _, low_tr hlo hm1.1 hcr, by first | exact (if_pos c305).symm | exact (if_neg c305).symm⟩), hzc_9, hgc_9⟩
              · skip
                refine lv_lload hx hb dX10_worth_308 (lv_at hl 6 rfl) ?_
                refine lv_lload hx hb dX10_worth_310 (lv_at hl 0 rfl) ?_
                refine r_ldiv hx hb dX10_worth_312 (by exact ⟨by omega, by omega⟩) (by exact ⟨by omega, by omega⟩) (by omega) ?_
                refine lv_goto (tgt := 321) hx hb dX10_worth_313 (by decide) ?_
                exact hend (Int.tdiv ov rv_10) (zc_9, gc_9) _ _ _ _ dX10_worth_321 w ⟨(by first | exact absurd hth1 (by omega) | exact Or.inr ⟨hmay, by omega, hth2, _, _, low_tr hlo hm1.1 hcr, by first | exact (if_pos c305).symm | exact (if_neg c305).symm⟩), hzc_9, hgc_9⟩
            · skip
              refine r_lconst (z := 0) hx hb dX10_worth_286 (by decide) ?_
              exact hend 0 (zc_9, gc_9) _ _ _ _ dX10_worth_287 w ⟨(by first | exact absurd hth1 (by omega) | exact Or.inl ⟨by first | exact Or.inl (by omega) | exact Or.inr (by rw [show (wT (ciM g p1) (gdM g) (mkM g) p0 (z 13)) = mn from (by rw [hmn, show i = 4 by omega]; rfl)]; omega), rfl, hth2⟩), hzc_9, hgc_9⟩
          · skip
            refine lv_lload hx hb dX10_worth_268 (lv_at hl 6 rfl) ?_
            refine r_lconst (z := 0) hx hb dX10_worth_270 (by decide) ?_
            refine r_lcif_ne (tgt := 279) hx hb dX10_worth_271 dX10_worth_272 (by decide) (by omega) (by omega) (fun c271 => ?_) (fun c271 => ?_)
            · skip
              refine r_iconst hx hb dX10_worth_279 ?_
              refine cVI C w hA (ct_X10_throwsIf l D cy a z g 0 hz hg (by show 0 = 0 ∨ 0 = 1; omega)) ok_X10_throwsIf km_X10_207 ⟨rfl, rfl⟩ ⟨by decide, by decide⟩ ⟨by decide, by decide⟩ rfl 0 rfl rfl hl.1 rfl (Nat.le_of_ble_eq_true rfl) dX10_worth_280 (fun rv_11 uv_11 H locs w hp_11 => ?_)
              obtain ⟨zc_11, gc_11⟩ := uv_11
              obtain ⟨hp_11, hzc_11, hgc_11⟩ := hp_11
              replace w : wd D A s.heap (mw cy a zc_11 gc_11) H locs := w
              replace hzc_11 : mBz zc_11 := hzc_11
              replace hgc_11 : mBg gc_11 := hgc_11
              try dsimp only at hp_11
              have hth1 := hp_11.1
              have hth2 := hp_11.2
              have hzc0 := hzc_11
              refine r_if_eq (tgt := 288) hx hb dX10_worth_283 (by decide) (by omega) (fun c283 => ?_) (fun c283 => ?_)
              · skip
                have hmay : ((0 ≤ p0 ∧ p0 ≤ 5) ∧ (0 ≤ p2 ∧ p2 ≤ 1)) := by omega
                have hi4 : i = 4 := by omega
                have hT : (wT (ciM g p1) (gdM g) (mkM g) p0 (z 13)) = mn := by rw [hmn, hi4]; rfl
                have hT1 : 1 ≤ mn := by omega
                have hm1 : 1 ≤ un * mn ∧ un * mn ≤ 9223372036854775807 := m1_b ⟨hun.1, by omega⟩ ⟨hT1, by omega⟩
                have hcr : ov * ((wT (ciM g p1) (gdM g) (mkM g) p0 (z 13)) * (wC (ciM g p1) (gdM g) (z 13))) = (wV (ciM g p1) (gdM g) (mkM g) (g 20) p0 (z 13)) * (un * mn) := by rw [hT]; rw [hi4] at hov; exact m1_c hov
                refine lv_lload hx hb dX10_worth_288 (lv_at hl 5 rfl) ?_
                refine lv_lload hx hb dX10_worth_290 (lv_at hl 6 rfl) ?_
                refine r_lmul hx hb dX10_worth_292 ?_
                refine lv_lstore (lv' := [(6, vL (un * mn)), (0, .ref (a 0)), (1, vI p0), (2, vI p1), (3, vI p2), (4, vL ov), (8, vL mn), (10, vI mv), (11, vI i)]) hx hb dX10_worth_293 hl (by decide) rfl (fun ls hl => ?_)
                refine lv_lload hx hb dX10_worth_295 (lv_at hl 5 rfl) ?_
                refine lv_lload hx hb dX10_worth_297 (lv_at hl 0 rfl) ?_
                refine cSL C w hA (ct_X10_common l D cy a zc_11 gc_11 ov (un * mn) (by exact ⟨⟨by omega, by omega⟩, by omega⟩) (by exact hm1)) ok_X10_common km_X10_227 ⟨rfl, rfl⟩ ⟨by decide, by decide⟩ ⟨by decide, by decide⟩ rfl hl.1 rfl (Nat.le_of_ble_eq_true rfl) dX10_worth_299 (fun rv_12 uv_12 H locs w hp_12 => ?_)
                replace hp_12 : rv_12 = (Int.gcd ov (un * mn) : Int) := hp_12
                replace w : wd D A s.heap (mw cy a zc_11 gc_11) H locs := w
                have hlo := low_of hm1.1 hp_12
                have hg1 := gcd_1 (a := ov) hm1.1 (by omega)
                refine lv_lstore (lv' := [(11, vL rv_12), (6, vL (un * mn)), (0, .ref (a 0)), (1, vI p0), (2, vI p1), (3, vI p2), (4, vL ov), (8, vL mn), (10, vI mv)]) hx hb dX10_worth_302 hl (by decide) rfl (fun ls hl => ?_)
                refine lv_iload_n hx hb dX10_worth_304 rfl (lv_at hl 5 rfl) ?_
                refine r_if_ne (tgt := 316) hx hb dX10_worth_305 (by decide) (by omega) (fun c305 => ?_) (fun c305 => ?_)
                · skip
                  refine lv_lload hx hb dX10_worth_316 (lv_at hl 1 rfl) ?_
                  refine lv_lload hx hb dX10_worth_318 (lv_at hl 0 rfl) ?_
                  refine r_ldiv hx hb dX10_worth_320 (by exact ⟨by omega, by omega⟩) (by exact ⟨by omega, by omega⟩) (by omega) ?_
                  exact hend (Int.tdiv (un * mn) rv_12) (zc_11, gc_11) _ _ _ _ dX10_worth_321 w ⟨(by first | exact absurd hth1 (by omega) | exact Or.inr ⟨hmay, by omega, hth2, _, _, low_tr hlo hm1.1 hcr, by first | exact (if_pos c305).symm | exact (if_neg c305).symm⟩), hzc_11, hgc_11⟩
                · skip
                  refine lv_lload hx hb dX10_worth_308 (lv_at hl 6 rfl) ?_
                  refine lv_lload hx hb dX10_worth_310 (lv_at hl 0 rfl) ?_
                  refine r_ldiv hx hb dX10_worth_312 (by exact ⟨by omega, by omega⟩) (by exact ⟨by omega, by omega⟩) (by omega) ?_
                  refine lv_goto (tgt := 321) hx hb dX10_worth_313 (by decide) ?_
                  exact hend (Int.tdiv ov rv_12) (zc_11, gc_11) _ _ _ _ dX10_worth_321 w ⟨(by first | exact absurd hth1 (by omega) | exact Or.inr ⟨hmay, by omega, hth2, _, _, low_tr hlo hm1.1 hcr, by first | exact (if_pos c305).symm | exact (if_neg c305).symm⟩), hzc_11, hgc_11⟩
              · skip
                refine r_lconst (z := 0) hx hb dX10_worth_286 (by decide) ?_
                exact hend 0 (zc_11, gc_11) _ _ _ _ dX10_worth_287 w ⟨(by first | exact absurd hth1 (by omega) | exact Or.inl ⟨by first | exact Or.inl (by omega) | exact Or.inr (by rw [show (wT (ciM g p1) (gdM g) (mkM g) p0 (z 13)) = mn from (by rw [hmn, show i = 4 by omega]; rfl)]; omega), rfl, hth2⟩), hzc_11, hgc_11⟩
            · skip
              refine r_iconst hx hb dX10_worth_275 ?_
              refine lv_goto (tgt := 280) hx hb dX10_worth_276 (by decide) ?_
              refine cVI C w hA (ct_X10_throwsIf l D cy a z g 1 hz hg (by show 1 = 0 ∨ 1 = 1; omega)) ok_X10_throwsIf km_X10_207 ⟨rfl, rfl⟩ ⟨by decide, by decide⟩ ⟨by decide, by decide⟩ rfl 0 rfl rfl hl.1 rfl (Nat.le_of_ble_eq_true rfl) dX10_worth_280 (fun rv_13 uv_13 H locs w hp_13 => ?_)
              obtain ⟨zc_13, gc_13⟩ := uv_13
              obtain ⟨hp_13, hzc_13, hgc_13⟩ := hp_13
              replace w : wd D A s.heap (mw cy a zc_13 gc_13) H locs := w
              replace hzc_13 : mBz zc_13 := hzc_13
              replace hgc_13 : mBg gc_13 := hgc_13
              try dsimp only at hp_13
              have hth1 := hp_13.1
              have hth2 := hp_13.2
              have hzc0 := hzc_13
              refine r_if_eq (tgt := 288) hx hb dX10_worth_283 (by decide) (by omega) (fun c283 => ?_) (fun c283 => ?_)
              · skip
                have hmay : ((0 ≤ p0 ∧ p0 ≤ 5) ∧ (0 ≤ p2 ∧ p2 ≤ 1)) := by omega
                have hi4 : i = 4 := by omega
                have hT : (wT (ciM g p1) (gdM g) (mkM g) p0 (z 13)) = mn := by rw [hmn, hi4]; rfl
                have hT1 : 1 ≤ mn := by omega
                have hm1 : 1 ≤ un * mn ∧ un * mn ≤ 9223372036854775807 := m1_b ⟨hun.1, by omega⟩ ⟨hT1, by omega⟩
                have hcr : ov * ((wT (ciM g p1) (gdM g) (mkM g) p0 (z 13)) * (wC (ciM g p1) (gdM g) (z 13))) = (wV (ciM g p1) (gdM g) (mkM g) (g 20) p0 (z 13)) * (un * mn) := by rw [hT]; rw [hi4] at hov; exact m1_c hov
                refine lv_lload hx hb dX10_worth_288 (lv_at hl 5 rfl) ?_
                refine lv_lload hx hb dX10_worth_290 (lv_at hl 6 rfl) ?_
                refine r_lmul hx hb dX10_worth_292 ?_
                refine lv_lstore (lv' := [(6, vL (un * mn)), (0, .ref (a 0)), (1, vI p0), (2, vI p1), (3, vI p2), (4, vL ov), (8, vL mn), (10, vI mv), (11, vI i)]) hx hb dX10_worth_293 hl (by decide) rfl (fun ls hl => ?_)
                refine lv_lload hx hb dX10_worth_295 (lv_at hl 5 rfl) ?_
                refine lv_lload hx hb dX10_worth_297 (lv_at hl 0 rfl) ?_
                refine cSL C w hA (ct_X10_common l D cy a zc_13 gc_13 ov (un * mn) (by exact ⟨⟨by omega, by omega⟩, by omega⟩) (by exact hm1)) ok_X10_common km_X10_227 ⟨rfl, rfl⟩ ⟨by decide, by decide⟩ ⟨by decide, by decide⟩ rfl hl.1 rfl (Nat.le_of_ble_eq_true rfl) dX10_worth_299 (fun rv_14 uv_14 H locs w hp_14 => ?_)
                replace hp_14 : rv_14 = (Int.gcd ov (un * mn) : Int) := hp_14
                replace w : wd D A s.heap (mw cy a zc_13 gc_13) H locs := w
                have hlo := low_of hm1.1 hp_14
                have hg1 := gcd_1 (a := ov) hm1.1 (by omega)
                refine lv_lstore (lv' := [(11, vL rv_14), (6, vL (un * mn)), (0, .ref (a 0)), (1, vI p0), (2, vI p1), (3, vI p2), (4, vL ov), (8, vL mn), (10, vI mv)]) hx hb dX10_worth_302 hl (by decide) rfl (fun ls hl => ?_)
                refine lv_iload_n hx hb dX10_worth_304 rfl (lv_at hl 5 rfl) ?_
                refine r_if_ne (tgt := 316) hx hb dX10_worth_305 (by decide) (by omega) (fun c305 => ?_) (fun c305 => ?_)
                · skip
                  refine lv_lload hx hb dX10_worth_316 (lv_at hl 1 rfl) ?_
                  refine lv_lload hx hb dX10_worth_318 (lv_at hl 0 rfl) ?_
                  refine r_ldiv hx hb dX10_worth_320 (by exact ⟨by omega, by omega⟩) (by exact ⟨by omega, by omega⟩) (by omega) ?_
                  exact hend (Int.tdiv (un * mn) rv_14) (zc_13, gc_13) _ _ _ _ dX10_worth_321 w ⟨(by first | exact absurd hth1 (by omega) | exact Or.inr ⟨hmay, by omega, hth2, _, _, low_tr hlo hm1.1 hcr, by first | exact (if_pos c305).symm | exact (if_neg c305).symm⟩), hzc_13, hgc_13⟩
                · skip
                  refine lv_lload hx hb dX10_worth_308 (lv_at hl 6 rfl) ?_
                  refine lv_lload hx hb dX10_worth_310 (lv_at hl 0 rfl) ?_
                  refine r_ldiv hx hb dX10_worth_312 (by exact ⟨by omega, by omega⟩) (by exact ⟨by omega, by omega⟩) (by omega) ?_
                  refine lv_goto (tgt := 321) hx hb dX10_worth_313 (by decide) ?_
                  exact hend (Int.tdiv ov rv_14) (zc_13, gc_13) _ _ _ _ dX10_worth_321 w ⟨(by first | exact absurd hth1 (by omega) | exact Or.inr ⟨hmay, by omega, hth2, _, _, low_tr hlo hm1.1 hcr, by first | exact (if_pos c305).symm | exact (if_neg c305).symm⟩), hzc_13, hgc_13⟩
              · skip
                refine r_lconst (z := 0) hx hb dX10_worth_286 (by decide) ?_
                exact hend 0 (zc_13, gc_13) _ _ _ _ dX10_worth_287 w ⟨(by first | exact absurd hth1 (by omega) | exact Or.inl ⟨by first | exact Or.inl (by omega) | exact Or.inr (by rw [show (wT (ciM g p1) (gdM g) (mkM g) p0 (z 13)) = mn from (by rw [hmn, show i = 4 by omega]; rfl)]; omega), rfl, hth2⟩), hzc_13, hgc_13⟩
        · skip
          refine r_lconst (z := 0) hx hb dX10_worth_48 (by decide) ?_
          refine lv_lstore (lv' := [(12, vL 0), (0, .ref (a 0)), (1, vI p0), (2, vI p1), (3, vI p2), (4, vL ov), (6, vL un), (8, vL mn), (10, vI mv), (11, vI i)]) hx hb dX10_worth_49 hl (by decide) rfl (fun ls hl => ?_)
          refine r_lconst (z := 0) hx hb dX10_worth_51 (by decide) ?_
          refine lv_lstore (lv' := [(14, vL 0), (12, vL 0), (0, .ref (a 0)), (1, vI p0), (2, vI p1), (3, vI p2), (4, vL ov), (6, vL un), (8, vL mn), (10, vI mv), (11, vI i)]) hx hb dX10_worth_52 hl (by decide) rfl (fun ls hl => ?_)
          refine r_lconst (z := 0) hx hb dX10_worth_54 (by decide) ?_
          refine lv_lstore (lv' := [(16, vL 0), (14, vL 0), (12, vL 0), (0, .ref (a 0)), (1, vI p0), (2, vI p1), (3, vI p2), (4, vL ov), (6, vL un), (8, vL mn), (10, vI mv), (11, vI i)]) hx hb dX10_worth_55 hl (by decide) rfl (fun ls hl => ?_)
          refine r_lconst (z := 0) hx hb dX10_worth_57 (by decide) ?_
          refine lv_lstore (lv' := [(18, vL 0), (16, vL 0), (14, vL 0), (12, vL 0), (0, .ref (a 0)), (1, vI p0), (2, vI p1), (3, vI p2), (4, vL ov), (6, vL un), (8, vL mn), (10, vI mv), (11, vI i)]) hx hb dX10_worth_58 hl (by decide) rfl (fun ls hl => ?_)
          refine r_iconst hx hb dX10_worth_60 ?_
          refine lv_istore (lv' := [(20, vI 0), (18, vL 0), (16, vL 0), (14, vL 0), (12, vL 0), (0, .ref (a 0)), (1, vI p0), (2, vI p1), (3, vI p2), (4, vL ov), (6, vL un), (8, vL mn), (10, vI mv), (11, vI i)]) hx hb dX10_worth_61 hl (by decide) rfl (fun ls hl => ?_)
          exact J63 _ 0 0 0 0 0 (by omega) (by omega) (by rfl) (by rfl) (by rfl) (by rfl) (Nat.lt_succ_self _) _ _ _ w (lv_sub hl [5, 6, 7, 8, 9, 10, 11, 12, 13, 4, 3, 2, 1, 0] rfl)
  replace hl : lv_has ls 22 [(0, .ref (a 0)), (1, vI p0), (2, vI p1), (3, vI p2)] := hl
  refine r_lconst (z := 0) hx hb dX10_worth_0 (by decide) ?_
  refine lv_lstore (lv' := [(4, vL 0), (0, .ref (a 0)), (1, vI p0), (2, vI p1), (3, vI p2)]) hx hb dX10_worth_1 hl (by decide) rfl (fun ls hl => ?_)
  refine r_lconst (z := 1) hx hb dX10_worth_3 (by decide) ?_
  refine lv_lstore (lv' := [(6, vL 1), (4, vL 0), (0, .ref (a 0)), (1, vI p0), (2, vI p1), (3, vI p2)]) hx hb dX10_worth_4 hl (by decide) rfl (fun ls hl => ?_)
  refine r_lconst (z := 0) hx hb dX10_worth_6 (by decide) ?_
  refine lv_lstore (lv' := [(8, vL 0), (6, vL 1), (4, vL 0), (0, .ref (a 0)), (1, vI p0), (2, vI p1), (3, vI p2)]) hx hb dX10_worth_7 hl (by decide) rfl (fun ls hl => ?_)
  refine lv_iload_n hx hb dX10_worth_9 rfl (lv_at hl 4 rfl) ?_
  refine r_iconst hx hb dX10_worth_10 ?_
  refine r_iconst hx hb dX10_worth_11 ?_
  refine cSI C w hA (ct_X10_isIn l D cy a z g p0 0 5 (by show iR p0; omega) (by show iR 0; omega) (by show iR 5; omega)) ok_X10_isIn km_X10_183 ⟨rfl, rfl⟩ ⟨by decide, by decide⟩ ⟨by decide, by decide⟩ rfl hl.1 rfl (Nat.le_of_ble_eq_true rfl) dX10_worth_12 (fun rv_15 uv_15 H locs w hp_15 => ?_)
  replace hp_15 : (rv_15 = 1 ∧ 0 ≤ p0 ∧ p0 ≤ 5) ∨ (rv_15 = 0 ∧ ¬ (0 ≤ p0 ∧ p0 ≤ 5)) := hp_15
  replace w : wd D A s.heap (mw cy a z g) H locs := w
  refine r_if_eq (tgt := 31) hx hb dX10_worth_15 (by decide) (by omega) (fun c15 => ?_) (fun c15 => ?_)
  · skip
    refine r_iconst hx hb dX10_worth_31 ?_
    refine lv_istore (lv' := [(10, vI 0), (8, vL 0), (6, vL 1), (4, vL 0), (0, .ref (a 0)), (1, vI p0), (2, vI p1), (3, vI p2)]) hx hb dX10_worth_32 hl (by decide) rfl (fun ls hl => ?_)
    refine r_iconst hx hb dX10_worth_34 ?_
    refine lv_istore (lv' := [(11, vI 0), (10, vI 0), (8, vL 0), (6, vL 1), (4, vL 0), (0, .ref (a 0)), (1, vI p0), (2, vI p1), (3, vI p2)]) hx hb dX10_worth_35 hl (by decide) rfl (fun ls hl => ?_)
    exact J37 _ 0 1 0 0 0 (by omega) (by omega) (by rfl) (by exact ⟨by omega, Int.le_refl _⟩) (by rfl) (Nat.lt_succ_self _) _ _ _ w (lv_sub hl [5, 6, 7, 8, 4, 3, 2, 1, 0] rfl)
  · skip
    refine lv_iload_n hx hb dX10_worth_18 rfl (lv_at hl 6 rfl) ?_
    refine r_iconst hx hb dX10_worth_19 ?_
    refine r_iconst hx hb dX10_worth_20 ?_
    refine cSI C w hA (ct_X10_isIn l D cy a z g p2 0 1 (by show iR p2; omega) (by show iR 0; omega) (by show iR 1; omega)) ok_X10_isIn km_X10_183 ⟨rfl, rfl⟩ ⟨by decide, by decide⟩ ⟨by decide, by decide⟩ rfl hl.1 rfl (Nat.le_of_ble_eq_true rfl) dX10_worth_21 (fun rv_16 uv_16 H locs w hp_16 => ?_)
    replace hp_16 : (rv_16 = 1 ∧ 0 ≤ p2 ∧ p2 ≤ 1) ∨ (rv_16 = 0 ∧ ¬ (0 ≤ p2 ∧ p2 ≤ 1)) := hp_16
    replace w : wd D A s.heap (mw cy a z g) H locs := w
    refine r_if_eq (tgt := 31) hx hb dX10_worth_24 (by decide) (by omega) (fun c24 => ?_) (fun c24 => ?_)
    · skip
      refine r_iconst hx hb dX10_worth_31 ?_
      refine lv_istore (lv' := [(10, vI 0), (8, vL 0), (6, vL 1), (4, vL 0), (0, .ref (a 0)), (1, vI p0), (2, vI p1), (3, vI p2)]) hx hb dX10_worth_32 hl (by decide) rfl (fun ls hl => ?_)
      refine r_iconst hx hb dX10_worth_34 ?_
      refine lv_istore (lv' := [(11, vI 0), (10, vI 0), (8, vL 0), (6, vL 1), (4, vL 0), (0, .ref (a 0)), (1, vI p0), (2, vI p1), (3, vI p2)]) hx hb dX10_worth_35 hl (by decide) rfl (fun ls hl => ?_)
      exact J37 _ 0 1 0 0 0 (by omega) (by omega) (by rfl) (by exact ⟨by omega, Int.le_refl _⟩) (by rfl) (Nat.lt_succ_self _) _ _ _ w (lv_sub hl [5, 6, 7, 8, 4, 3, 2, 1, 0] rfl)
    · skip
      refine r_iconst hx hb dX10_worth_27 ?_
      refine lv_goto (tgt := 32) hx hb dX10_worth_28 (by decide) ?_
      refine lv_istore (lv' := [(10, vI 1), (8, vL 0), (6, vL 1), (4, vL 0), (0, .ref (a 0)), (1, vI p0), (2, vI p1), (3, vI p2)]) hx hb dX10_worth_32 hl (by decide) rfl (fun ls hl => ?_)
      refine r_iconst hx hb dX10_worth_34 ?_
      refine lv_istore (lv' := [(11, vI 0), (10, vI 1), (8, vL 0), (6, vL 1), (4, vL 0), (0, .ref (a 0)), (1, vI p0), (2, vI p1), (3, vI p2)]) hx hb dX10_worth_35 hl (by decide) rfl (fun ls hl => ?_)
      exact J37 _ 0 1 0 1 0 (by omega) (by omega) (by rfl) (by exact ⟨by omega, Int.le_refl _⟩) (by rfl) (Nat.lt_succ_self _) _ _ _ w (lv_sub hl [5, 6, 7, 8, 4, 3, 2, 1, 0] rfl)
