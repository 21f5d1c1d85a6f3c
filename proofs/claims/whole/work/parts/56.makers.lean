/-! rows of makers: new arrays, new objects, Object's constructor -/
theorem va_RA_one {U : State} {c1 c2 : ClassId} {ty : FieldType} (hty : ty = .int ∨ ty = .long ∨ ty = .boolean ∨ ty = .byte) (h1 : va_RA U c1 ty) (h2 : va_RA U c2 ty) : c1 = c2 := by
  rcases hty with rfl | rfl | rfl | rfl
  · exact Option.some.inj ((show U.vm.findClass _ = some c1 from h1).symm.trans (show U.vm.findClass _ = some c2 from h2))
  · exact Option.some.inj ((show U.vm.findClass _ = some c1 from h1).symm.trans (show U.vm.findClass _ = some c2 from h2))
  · exact Option.some.inj ((show U.vm.findClass _ = some c1 from h1).symm.trans (show U.vm.findClass _ = some c2 from h2))
  · exact Option.some.inj ((show U.vm.findClass _ = some c1 from h1).symm.trans (show U.vm.findClass _ = some c2 from h2))
set_option maxRecDepth 20000 in
theorem kio : Cond.instanceMethod ⟨"java/lang/Object", "<init>", "()V"⟩ ∈ wAll := wAll_t (i := 27) rfl rfl
set_option maxRecDepth 20000 in
theorem kco : Cond.code ⟨"java/lang/Object", "<init>", "()V"⟩ ⟨#[0xb1]⟩ 1 none ∈ wAll := wAll_t (i := 28) rfl rfl
set_option maxRecDepth 20000 in
theorem ka_int : Cond.arrayClass .int ∈ wAll := wAll_t (i := 44) rfl rfl
set_option maxRecDepth 20000 in
theorem ka_boolean : Cond.arrayClass .boolean ∈ wAll := wAll_t (i := 126) rfl rfl
set_option maxRecDepth 20000 in
theorem ka_long : Cond.arrayClass .long ∈ wAll := wAll_t (i := 263) rfl rfl
set_option maxRecDepth 20000 in
theorem ka_byte : Cond.arrayClass .byte ∈ wAll := wAll_t (i := 492) rfl rfl
theorem wd_perm {D : va_G} {A : Nat → Prop} {H0 H : Heap} {ws ws' : va_W} {locs : List Loc} (w : wd D A H0 ws H locs) (is : List Nat) (hn : va_nd is = true) (h1 : is.filterMap (fun i => ws[i]?) = ws') (h2 : is.map (fun i => ws[i]?) = ws'.map some) : wd D A H0 ws' H locs := ⟨w.1.sub is h1, w.2.1.sub is hn h2, w.2.2⟩
theorem ar_int (cA : ClassId) (N : Nat) : vp_cell cA (N, .inl (aI (fun _ => 0))) = arrV cA N (fun _ => defaultValue .int) := by
  show arrV cA N (fun _ => .int (iI 0)) = arrV cA N (fun _ => .int 0)
  rw [show iI 0 = 0 from by decide]
theorem ar_boolean (cA : ClassId) (N : Nat) : vp_cell cA (N, .inl (aI (fun _ => 0))) = arrV cA N (fun _ => defaultValue .boolean) := by
  show arrV cA N (fun _ => .int (iI 0)) = arrV cA N (fun _ => .int 0)
  rw [show iI 0 = 0 from by decide]
theorem ar_byte (cA : ClassId) (N : Nat) : vp_cell cA (N, .inl (aI (fun _ => 0))) = arrV cA N (fun _ => defaultValue .byte) := by
  show arrV cA N (fun _ => .int (iI 0)) = arrV cA N (fun _ => .int 0)
  rw [show iI 0 = 0 from by decide]
theorem ar_long (cA : ClassId) (N : Nat) : vp_cell cA (N, .inr (.inl (aL (fun _ => 0)))) = arrV cA N (fun _ => defaultValue .long) := by
  show arrV cA N (fun _ => .long (lI 0)) = arrV cA N (fun _ => .long 0)
  rw [show lI 0 = 0 from by decide]
section RM
variable {p : Program} {l : Launch} {e : Env} {R : Room} {s : State} {m : MethodId} {args : Array Value} {below : List Frame} {meth : Method} {c : Code} {H : Heap} {locs : List Loc} {cells slots : Nat} {Q : State → Prop}
variable {cc : ByteArray} {pc nL : Nat} {ls : Array Slot} {rest : List Value} {D : va_G} {cy : Nat → ClassId} {own : String} {A : Nat → Prop} {ws : va_W} {H0 : Heap}
theorem r_newa (C : cx p s m args meth c cc nL own D cy) (w : wd D A H0 ws H locs) (hA : ∀ q, H0.size ≤ q → A q) {atype : ArrayType} {ty : FieldType} (t : Nat) (hty : newarray.typeOf atype = ty) (ht : (tyw cy)[t]? = some (cy t, ty)) (h4 : ty = .int ∨ ty = .long ∨ ty = .boolean ∨ ty = .byte) (harr : .arrayClass ty ∈ wAll) {n : Int} {N : Nat} {a0 : vp_A} (ha : ∀ cA : ClassId, vp_cell cA a0 = arrV cA N (fun _ => defaultValue ty)) (hn : n = N) (hN : N ≤ 1000) (hby : N * componentBytes ty ≤ 536870912) {cells' slots' : Nat} (hcs : cells + 1 = cells' ∧ slots + N = slots') (hR : cells' ≤ R.cells ∧ slots' ≤ R.slots) (hdg : decode cc pc = .ok (.newarray atype, 2))
    (kk : ∀ (q : Nat) (H1 : Heap), wd D A H0 (ws ++ [(q, .inl (cy t, a0))]) H1 locs → W p l e R s m args below meth c H1 locs cells' slots' Q (F0 m (pc + 2) ls (.ref q :: rest))) : W p l e R s m args below meth c H locs cells slots Q (F0 m pc ls (vI n :: rest)) := by
  obtain ⟨rfl, rfl⟩ := hcs
  subst hn
  refine va_newa C.1 C.2.1 (ty := ty) (by rw [hty]; exact C.2.2.2.2.1 _ harr) hty C.2.2.2.2.2.1 w.1 w.2.1 w.2.2 hA (N' := N) ha ?_ ?_ hby hR.1 hR.2 hdg (fun q cA H1 hK hP hD hS => ?_)
  · intro q
    have := (iI_lt (a := (N : Int)) (b := 0) ⟨by omega, by omega⟩ ⟨by decide, by decide⟩).mp q
    omega
  · rw [iI_clamp (by omega) (by omega)]
    exact Int.toNat_natCast N
  · have e1 : cA = cy t := va_RA_one h4 (hK.2 4 _ rfl).2 (C.2.2.2.2.2.1.2 t _ ht).2
    subst e1
    exact kk q H1 ⟨hP, hD, hS⟩
theorem r_newo (C : cx p s m args meth c cc nL own D cy) (w : wd D A H0 ws H locs) (hA : ∀ q, H0.size ≤ q → A q) {Cn : String} {T : u_T} {N ci idx : Nat} (ty0 : Nat → FieldType) (hty : ∀ k, k < N → parseFieldDescriptor (T k).2.2.1 = some (ty0 k)) (hin : ∀ w ∈ u_ws Cn T N, w ∈ wAll) (hcl : .classLink own idx Cn ∈ wAll) (hinst : .instantiable Cn N ∈ wAll) (hini : .initialized Cn ∈ wAll) (hc : vwCl[ci]? = some (Cn, T, N)) {fs : List Value} (hfs : ∀ j, j < N → defaultValue (ty0 j) = vp_V fs j) {cells' slots' : Nat} (hcs : cells + 1 = cells' ∧ slots + N = slots') (hR : cells' ≤ R.cells ∧ slots' ≤ R.slots) (hdg : decode cc pc = .ok (.new idx, 3))
    (kk : ∀ (q : Nat) (H1 : Heap), wd D A H0 (ws ++ [(q, .inr (ci, fs))]) H1 locs → W p l e R s m args below meth c H1 locs cells' slots' Q (F0 m (pc + 3) ls (.ref q :: rest))) : W p l e R s m args below meth c H locs cells slots Q (F0 m pc ls rest) := by
  obtain ⟨rfl, rfl⟩ := hcs
  exact va_new C.1 C.2.1 C.2.2.2.2.1 hin ty0 hty C.2.2.2.1 (C.2.2.2.2.1 _ hcl) (C.2.2.2.2.1 _ hinst) (C.2.2.2.2.1 _ hini) C.2.2.2.2.2.1 w.1 w.2.1 w.2.2 hA hc hfs hR.1 hR.2 hdg (fun q H1 hP hD hS => kk q H1 ⟨hP, hD, hS⟩)
theorem r_oinit (C : cx p s m args meth c cc nL own D cy) {idx b : Nat} (hlk : .methodLink own idx ⟨"java/lang/Object", "<init>", "()V"⟩ ∈ wAll) (hls : ls.size = nL) (hW : (rest.map fun v => v.category).sum ≤ 8) (hR : 1 ≤ R.frames ∧ 20 ≤ R.locals) (hdg : decode cc pc = .ok (.invokespecial idx, 3))
    (kk : W p l e R s m args below meth c H locs cells slots Q (F0 m (pc + 3) ls rest)) : W p l e R s m args below meth c H locs cells slots Q (F0 m pc ls (.ref b :: rest)) :=
  W.objInit C.1 C.2.1 C.2.2.2.1 (C.2.2.2.2.1 _ hlk) (C.2.2.2.2.1 _ kio) (C.2.2.2.2.1 _ kco) rfl (hls.trans C.2.2.1.symm) rfl hdg hR.1 (Nat.le_trans (show 2 * 0 + (rest.map fun v => v.category).sum + 12 ≤ 20 by omega) hR.2) (W.eq (g2 := F0 m (pc + 3) ls rest) rfl kk)
end RM
def rw (cy : Nat → ClassId) (a : Nat → Nat) (z : Nat → Int) (g : Nat → Int → Int) : va_W := [(a 0, .inr (6, [.ref (a 1), .ref (a 2), vI (z 0), vI (z 1), vI (z 2)])), (a 1, .inl (cy 0, 4, .inl (aI (g 1)))), (a 2, .inl (cy 0, 4, .inl (aI (g 2))))]
theorem rw_z0 (cy : Nat → ClassId) (a : Nat → Nat) (z : Nat → Int) (g : Nat → Int → Int) (v : Int) : (rw cy a z g).set 0 (a 0, .inr (6, [.ref (a 1), .ref (a 2), vI v, vI (z 1), vI (z 2)])) = rw cy a (uZ z 0 v) g := rfl
theorem rw_z1 (cy : Nat → ClassId) (a : Nat → Nat) (z : Nat → Int) (g : Nat → Int → Int) (v : Int) : (rw cy a z g).set 0 (a 0, .inr (6, [.ref (a 1), .ref (a 2), vI (z 0), vI v, vI (z 2)])) = rw cy a (uZ z 1 v) g := rfl
theorem rw_z2 (cy : Nat → ClassId) (a : Nat → Nat) (z : Nat → Int) (g : Nat → Int → Int) (v : Int) : (rw cy a z g).set 0 (a 0, .inr (6, [.ref (a 1), .ref (a 2), vI (z 0), vI (z 1), vI v])) = rw cy a (uZ z 2 v) g := rfl
theorem rw_g1 (cy : Nat → ClassId) (a : Nat → Nat) (z : Nat → Int) (g : Nat → Int → Int) (f : Int → Int) : (rw cy a z g).set 1 (a 1, .inl (cy 0, 4, .inl (aI f))) = rw cy a z (uZ g 1 f) := rfl
theorem rw_g2 (cy : Nat → ClassId) (a : Nat → Nat) (z : Nat → Int) (g : Nat → Int → Int) (f : Int → Int) : (rw cy a z g).set 2 (a 2, .inl (cy 0, 4, .inl (aI f))) = rw cy a z (uZ g 2 f) := rfl
abbrev rm_X6_clear_n : Room := { frames := 0, cells := 0, slots := 0, locals := 0 }
set_option maxHeartbeats 4000000 in
set_option maxRecDepth 100000 in
theorem ct_X6_clear_n (l : Launch) (D : va_G) (cy : Nat → ClassId) (a : Nat → Nat) (z : Nat → Int) (g : Nat → Int → Int)   : MV l yX6_clear cX6_clear 2 (rm_X6_clear_n) D cy (rw cy a z g) [.ref (a 0)] (fun (u : sX) => u = (uZ (uZ (uZ z 0 0) 1 0) 2 0, uZ (uZ g 1 (uI (uI (uI (uI (g 1) 0 0) (0 + 1) 0) (0 + 1 + 1) 0) (0 + 1 + 1 + 1) 0)) 2 (uI (uI (uI (uI (g 2) 0 1) (0 + 1) 1) (0 + 1 + 1) 1) (0 + 1 + 1 + 1) 1))) (fun u => rw cy a u.1 u.2) 0 0 := by
  refine go_v (by decide +kernel) (Nat.le_of_ble_eq_true rfl) ?_
  intro p e s m args below meth c Q A ls C hnm hA w hl hend
  have hx := C.1
  have hb := C.2.1
  replace hl : lv_has ls 2 [(0, .ref (a 0))] := hl
  refine r_iconst hx hb dX6_clear_0 ?_
  refine lv_istore_n (lv' := [(1, vI 0), (0, .ref (a 0))]) hx hb dX6_clear_1 rfl hl (by decide) rfl (fun ls hl => ?_)
  refine lv_iload_n hx hb dX6_clear_2 rfl (lv_at hl 0 rfl) ?_
  refine r_iconst hx hb dX6_clear_3 ?_
  refine r_icmp_ge (tgt := 27) hx hb dX6_clear_4 (by decide) (by omega) (by omega) (fun c4 => ?_) (fun c4 => ?_)
  · skip
    exact absurd c4 (by omega)
  · skip
    refine lv_aload_n hx hb dX6_clear_7 rfl (lv_at hl 1 rfl) ?_
    refine r_get C w 0 (v := .ref (a 1)) rfl rfl 0 (by decide) inX6 kf_X6_9 rfl dX6_clear_8 ?_
    refine lv_iload_n hx hb dX6_clear_11 rfl (lv_at hl 0 rfl) ?_
    refine r_iconst hx hb dX6_clear_12 ?_
    refine r_iast C w 1 (f := (g 1)) rfl (by omega) (by omega) (by decide) (ws' := rw cy a z (uZ g 1 (uI (g 1) 0 0))) (rw_g1 cy a z g (uI (g 1) 0 0)) dX6_clear_13 (fun H locs w => ?_)
    refine lv_aload_n hx hb dX6_clear_14 rfl (lv_at hl 1 rfl) ?_
    refine r_get C w 0 (v := .ref (a 2)) rfl rfl 1 (by decide) inX6 kf_X6_15 rfl dX6_clear_15 ?_
    refine lv_iload_n hx hb dX6_clear_18 rfl (lv_at hl 0 rfl) ?_
    refine r_iconst hx hb dX6_clear_19 ?_
    refine r_iast C w 2 (f := (g 2)) rfl (by omega) (by omega) (by decide) (ws' := rw cy a z (uZ (uZ g 1 (uI (g 1) 0 0)) 2 (uI (g 2) 0 1))) (rw_g2 cy a z (uZ g 1 (uI (g 1) 0 0)) (uI (g 2) 0 1)) dX6_clear_20 (fun H locs w => ?_)
    refine r_iinc (lv' := [(1, vI (0 + 1)), (0, .ref (a 0))]) hx hb dX6_clear_21 hl (k := 0) rfl (by decide) rfl (fun ls hl => ?_)
    refine lv_goto (tgt := 2) hx hb dX6_clear_24 (by decide) ?_
    refine lv_iload_n hx hb dX6_clear_2 rfl (lv_at hl 0 rfl) ?_
    refine r_iconst hx hb dX6_clear_3 ?_
    refine r_icmp_ge (tgt := 27) hx hb dX6_clear_4 (by decide) (by omega) (by omega) (fun c4 => ?_) (fun c4 => ?_)
    · skip
      exact absurd c4 (by omega)
    · skip
      refine lv_aload_n hx hb dX6_clear_7 rfl (lv_at hl 1 rfl) ?_
      refine r_get C w 0 (v := .ref (a 1)) rfl rfl 0 (by decide) inX6 kf_X6_9 rfl dX6_clear_8 ?_
      refine lv_iload_n hx hb dX6_clear_11 rfl (lv_at hl 0 rfl) ?_
      refine r_iconst hx hb dX6_clear_12 ?_
      refine r_iast C w 1 (f := (uI (g 1) 0 0)) rfl (by omega) (by omega) (by decide) (ws' := rw cy a z (uZ (uZ g 1 (uI (uI (g 1) 0 0) (0 + 1) 0)) 2 (uI (g 2) 0 1))) rfl dX6_clear_13 (fun H locs w => ?_)
      refine lv_aload_n hx hb dX6_clear_14 rfl (lv_at hl 1 rfl) ?_
      refine r_get C w 0 (v := .ref (a 2)) rfl rfl 1 (by decide) inX6 kf_X6_15 rfl dX6_clear_15 ?_
      refine lv_iload_n hx hb dX6_clear_18 rfl (lv_at hl 0 rfl) ?_
      refine r_iconst hx hb dX6_clear_19 ?_
      refine r_iast C w 2 (f := (uI (g 2) 0 1)) rfl (by omega) (by omega) (by decide) (ws' := rw cy a z (uZ (uZ g 1 (uI (uI (g 1) 0 0) (0 + 1) 0)) 2 (uI (uI (g 2) 0 1) (0 + 1) 1))) rfl dX6_clear_20 (fun H locs w => ?_)
      refine r_iinc (lv' := [(1, vI ((0 + 1) + 1)), (0, .ref (a 0))]) hx hb dX6_clear_21 hl (k := 0) rfl (by decide) rfl (fun ls hl => ?_)
      refine lv_goto (tgt := 2) hx hb dX6_clear_24 (by decide) ?_
      refine lv_iload_n hx hb dX6_clear_2 rfl (lv_at hl 0 rfl) ?_
      refine r_iconst hx hb dX6_clear_3 ?_
      refine r_icmp_ge (tgt := 27) hx hb dX6_clear_4 (by decide) (by omega) (by omega) (fun c4 => ?_) (fun c4 => ?_)
      · skip
        exact absurd c4 (by omega)
      · skip
        refine lv_aload_n hx hb dX6_clear_7 rfl (lv_at hl 1 rfl) ?_
        refine r_get C w 0 (v := .ref (a 1)) rfl rfl 0 (by decide) inX6 kf_X6_9 rfl dX6_clear_8 ?_
        refine lv_iload_n hx hb dX6_clear_11 rfl (lv_at hl 0 rfl) ?_
        refine r_iconst hx hb dX6_clear_12 ?_
        refine r_iast C w 1 (f := (uI (uI (g 1) 0 0) (0 + 1) 0)) rfl (by omega) (by omega) (by decide) (ws' := rw cy a z (uZ (uZ g 1 (uI (uI (uI (g 1) 0 0) (0 + 1) 0) ((0 + 1) + 1) 0)) 2 (uI (uI (g 2) 0 1) (0 + 1) 1))) rfl dX6_clear_13 (fun H locs w => ?_)
        refine lv_aload_n hx hb dX6_clear_14 rfl (lv_at hl 1 rfl) ?_
        refine r_get C w 0 (v := .ref (a 2)) rfl rfl 1 (by decide) inX6 kf_X6_15 rfl dX6_clear_15 ?_
        refine lv_iload_n hx hb dX6_clear_18 rfl (lv_at hl 0 rfl) ?_
        refine r_iconst hx hb dX6_clear_19 ?_
        refine r_iast C w 2 (f := (uI (uI (g 2) 0 1) (0 + 1) 1)) rfl (by omega) (by omega) (by decide) (ws' := rw cy a z (uZ (uZ g 1 (uI (uI (uI (g 1) 0 0) (0 + 1) 0) ((0 + 1) + 1) 0)) 2 (uI (uI (uI (g 2) 0 1) (0 + 1) 1) ((0 + 1) + 1) 1))) rfl dX6_clear_20 (fun H locs w => ?_)
        refine r_iinc (lv' := [(1, vI (((0 + 1) + 1) + 1)), (0, .ref (a 0))]) hx hb dX6_clear_21 hl (k := 0) rfl (by decide) rfl (fun ls hl => ?_)
        refine lv_goto (tgt := 2) hx hb dX6_clear_24 (by decide) ?_
        refine lv_iload_n hx hb dX6_clear_2 rfl (lv_at hl 0 rfl) ?_
        refine r_iconst hx hb dX6_clear_3 ?_
        refine r_icmp_ge (tgt := 27) hx hb dX6_clear_4 (by decide) (by omega) (by omega) (fun c4 => ?_) (fun c4 => ?_)
        · skip
          exact absurd c4 (by omega)
        · skip
          refine lv_aload_n hx hb dX6_clear_7 rfl (lv_at hl 1 rfl) ?_
          refine r_get C w 0 (v := .ref (a 1)) rfl rfl 0 (by decide) inX6 kf_X6_9 rfl dX6_clear_8 ?_
          refine lv_iload_n hx hb dX6_clear_11 rfl (lv_at hl 0 rfl) ?_
          refine r_iconst hx hb dX6_clear_12 ?_
          refine r_iast C w 1 (f := (uI (uI (uI (g 1) 0 0) (0 + 1) 0) ((0 + 1) + 1) 0)) rfl (by omega) (by omega) (by decide) (ws' := rw cy a z (uZ (uZ g 1 (uI (uI (uI (uI (g 1) 0 0) (0 + 1) 0) ((0 + 1) + 1) 0) (((0 + 1) + 1) + 1) 0)) 2 (uI (uI (uI (g 2) 0 1) (0 + 1) 1) ((0 + 1) + 1) 1))) rfl dX6_clear_13 (fun H locs w => ?_)
          refine lv_aload_n hx hb dX6_clear_14 rfl (lv_at hl 1 rfl) ?_
          refine r_get C w 0 (v := .ref (a 2)) rfl rfl 1 (by decide) inX6 kf_X6_15 rfl dX6_clear_15 ?_
          refine lv_iload_n hx hb dX6_clear_18 rfl (lv_at hl 0 rfl) ?_
          refine r_iconst hx hb dX6_clear_19 ?_
          refine r_iast C w 2 (f := (uI (uI (uI (g 2) 0 1) (0 + 1) 1) ((0 + 1) + 1) 1)) rfl (by omega) (by omega) (by decide) (ws' := rw cy a z (uZ (uZ g 1 (uI (uI (uI (uI (g 1) 0 0) (0 + 1) 0) ((0 + 1) + 1) 0) (((0 + 1) + 1) + 1) 0)) 2 (uI (uI (uI (uI (g 2) 0 1) (0 + 1) 1) ((0 + 1) + 1) 1) (((0 + 1) + 1) + 1) 1))) rfl dX6_clear_20 (fun H locs w => ?_)
          refine r_iinc (lv' := [(1, vI ((((0 + 1) + 1) + 1) + 1)), (0, .ref (a 0))]) hx hb dX6_clear_21 hl (k := 0) rfl (by decide) rfl (fun ls hl => ?_)
          refine lv_goto (tgt := 2) hx hb dX6_clear_24 (by decide) ?_
          refine lv_iload_n hx hb dX6_clear_2 rfl (lv_at hl 0 rfl) ?_
          refine r_iconst hx hb dX6_clear_3 ?_
          refine r_icmp_ge (tgt := 27) hx hb dX6_clear_4 (by decide) (by omega) (by omega) (fun c4 => ?_) (fun c4 => ?_)
          · skip
            refine lv_aload_n hx hb dX6_clear_27 rfl (lv_at hl 1 rfl) ?_
            refine r_iconst hx hb dX6_clear_28 ?_
            refine r_put C w 0 tyX6 tyX6_ok nmX6 rfl rfl 2 (by decide) inX6 kf_X6_21 rfl rfl rfl (Nat.le_of_ble_eq_true rfl) (ws' := rw cy a (uZ z 0 0) (uZ (uZ g 1 (uI (uI (uI (uI (g 1) 0 0) (0 + 1) 0) ((0 + 1) + 1) 0) (((0 + 1) + 1) + 1) 0)) 2 (uI (uI (uI (uI (g 2) 0 1) (0 + 1) 1) ((0 + 1) + 1) 1) (((0 + 1) + 1) + 1) 1))) (rw_z0 cy a z (uZ (uZ g 1 (uI (uI (uI (uI (g 1) 0 0) (0 + 1) 0) ((0 + 1) + 1) 0) (((0 + 1) + 1) + 1) 0)) 2 (uI (uI (uI (uI (g 2) 0 1) (0 + 1) 1) ((0 + 1) + 1) 1) (((0 + 1) + 1) + 1) 1)) 0) dX6_clear_29 (fun H locs w => ?_)
            refine lv_aload_n hx hb dX6_clear_32 rfl (lv_at hl 1 rfl) ?_
            refine r_iconst hx hb dX6_clear_33 ?_
            refine r_put C w 0 tyX6 tyX6_ok nmX6 rfl rfl 3 (by decide) inX6 kf_X6_25 rfl (nb01 (by omega)) (fb01 (by omega)) (Nat.le_of_ble_eq_true rfl) (ws' := rw cy a (uZ (uZ z 0 0) 1 0) (uZ (uZ g 1 (uI (uI (uI (uI (g 1) 0 0) (0 + 1) 0) ((0 + 1) + 1) 0) (((0 + 1) + 1) + 1) 0)) 2 (uI (uI (uI (uI (g 2) 0 1) (0 + 1) 1) ((0 + 1) + 1) 1) (((0 + 1) + 1) + 1) 1))) (rw_z1 cy a (uZ z 0 0) (uZ (uZ g 1 (uI (uI (uI (uI (g 1) 0 0) (0 + 1) 0) ((0 + 1) + 1) 0) (((0 + 1) + 1) + 1) 0)) 2 (uI (uI (uI (uI (g 2) 0 1) (0 + 1) 1) ((0 + 1) + 1) 1) (((0 + 1) + 1) + 1) 1)) 0) dX6_clear_34 (fun H locs w => ?_)
            refine lv_aload_n hx hb dX6_clear_37 rfl (lv_at hl 1 rfl) ?_
            refine r_iconst hx hb dX6_clear_38 ?_
            refine r_put C w 0 tyX6 tyX6_ok nmX6 rfl rfl 4 (by decide) inX6 kf_X6_29 rfl rfl rfl (Nat.le_of_ble_eq_true rfl) (ws' := rw cy a (uZ (uZ (uZ z 0 0) 1 0) 2 0) (uZ (uZ g 1 (uI (uI (uI (uI (g 1) 0 0) (0 + 1) 0) ((0 + 1) + 1) 0) (((0 + 1) + 1) + 1) 0)) 2 (uI (uI (uI (uI (g 2) 0 1) (0 + 1) 1) ((0 + 1) + 1) 1) (((0 + 1) + 1) + 1) 1))) (rw_z2 cy a (uZ (uZ z 0 0) 1 0) (uZ (uZ g 1 (uI (uI (uI (uI (g 1) 0 0) (0 + 1) 0) ((0 + 1) + 1) 0) (((0 + 1) + 1) + 1) 0)) 2 (uI (uI (uI (uI (g 2) 0 1) (0 + 1) 1) ((0 + 1) + 1) 1) (((0 + 1) + 1) + 1) 1)) 0) dX6_clear_39 (fun H locs w => ?_)
            exact hend ((uZ (uZ (uZ z 0 0) 1 0) 2 0), (uZ (uZ g 1 (uI (uI (uI (uI (g 1) 0 0) (0 + 1) 0) ((0 + 1) + 1) 0) (((0 + 1) + 1) + 1) 0)) 2 (uI (uI (uI (uI (g 2) 0 1) (0 + 1) 1) ((0 + 1) + 1) 1) (((0 + 1) + 1) + 1) 1))) _ _ _ _ dX6_clear_42 w (by rfl)
          · skip
            exact absurd c4 (by omega)

abbrev rm_X8_init : Room := { frames := 1, cells := 1, slots := 200, locals := 20 }
set_option maxHeartbeats 2000000 in
set_option maxRecDepth 100000 in
theorem ct_X8_init (l : Launch) (D : va_G) (cy : Nat → ClassId) (b : Nat) : MV l yX8_init cX8_init 1 (rm_X8_init) D cy [(b, .inr (8, [.null, vI 0]))] [.ref b] (fun (u : Nat → Nat) => True) (fun (u : Nat → Nat) => [(b, .inr (8, [.ref (u 0), vI 0])), ((u 0), .inl (cy 0, 200, .inl (aI (fun _ => 0))))]) 1 200 := by
  refine go_v (by decide +kernel) (Nat.le_of_ble_eq_true rfl) ?_
  intro p e s m args below meth c Q A ls C hnm hA w hl hend
  have hx := C.1
  have hb := C.2.1
  replace hl : lv_has ls 1 [(0, .ref b)] := hl
  refine lv_aload_n hx hb dX8_init_0 rfl (lv_at hl 0 rfl) ?_
  refine r_oinit C km_X8_3 hl.1 (Nat.le_of_ble_eq_true rfl) ⟨by decide, by decide⟩ dX8_init_1 ?_
  refine lv_aload_n hx hb dX8_init_4 rfl (lv_at hl 0 rfl) ?_
  refine r_sipush hx hb dX8_init_5 (by decide) ?_
  refine r_newa (atype := .int) (ty := .int) C w hA 0 rfl rfl (Or.inl rfl) ka_int (N := 200) (a0 := (200, .inl (aI (fun _ => 0)))) (fun cA => ar_int cA 200) rfl (by decide) (by decide) (cells' := 1) (slots' := 200) ⟨rfl, rfl⟩ ⟨by decide, by decide⟩ dX8_init_8 (fun q8 H w => ?_)
  replace w : wd D A s.heap [(b, .inr (8, [.null, vI 0])), (q8, .inl (cy 0, 200, .inl (aI (fun _ => 0))))] H _ := w
  refine r_putF C hnm w 0 tyX8 tyX8_ok nmX8 rfl rfl 0 (by decide) inX8 kf_X8_9 rfl rfl rfl rfl (Nat.le_of_ble_eq_true rfl) (ws' := [(b, .inr (8, [.ref q8, vI 0])), (q8, .inl (cy 0, 200, .inl (aI (fun _ => 0))))]) rfl dX8_init_10 (fun H locs w => ?_)
  refine lv_aload_n hx hb dX8_init_13 rfl (lv_at hl 0 rfl) ?_
  refine r_iconst hx hb dX8_init_14 ?_
  refine r_put C w 0 tyX8 tyX8_ok nmX8 rfl rfl 1 (by decide) inX8 kf_X8_15 rfl rfl rfl (Nat.le_of_ble_eq_true rfl) (ws' := [(b, .inr (8, [.ref q8, vI 0])), (q8, .inl (cy 0, 200, .inl (aI (fun _ => 0))))]) rfl dX8_init_15 (fun H locs w => ?_)
  exact hend (fun k9 => match k9 with | _ => q8) _ _ _ _ dX8_init_18 w trivial
abbrev rm_X6_init : Room := { frames := 1, cells := 2, slots := 8, locals := 21 }
set_option maxHeartbeats 2000000 in
set_option maxRecDepth 100000 in
theorem ct_X6_init (l : Launch) (D : va_G) (cy : Nat → ClassId) (b : Nat) : MV l yX6_init cX6_init 1 (rm_X6_init) D cy [(b, .inr (6, [.null, .null, vI 0, vI 0, vI 0]))] [.ref b] (fun (u : Nat → Nat) => True) (fun (u : Nat → Nat) => [(b, .inr (6, [.ref (u 0), .ref (u 1), vI 0, vI 0, vI 0])), ((u 0), .inl (cy 0, 4, .inl (aI (uI (uI (uI (uI (fun _ => 0) 0 0) (0 + 1) 0) (0 + 1 + 1) 0) (0 + 1 + 1 + 1) 0)))), ((u 1), .inl (cy 0, 4, .inl (aI (uI (uI (uI (uI (fun _ => 0) 0 1) (0 + 1) 1) (0 + 1 + 1) 1) (0 + 1 + 1 + 1) 1))))]) 2 8 := by
  refine go_v (by decide +kernel) (Nat.le_of_ble_eq_true rfl) ?_
  intro p e s m args below meth c Q A ls C hnm hA w hl hend
  have hx := C.1
  have hb := C.2.1
  replace hl : lv_has ls 1 [(0, .ref b)] := hl
  refine lv_aload_n hx hb dX6_init_0 rfl (lv_at hl 0 rfl) ?_
  refine r_oinit C km_X6_3 hl.1 (Nat.le_of_ble_eq_true rfl) ⟨by decide, by decide⟩ dX6_init_1 ?_
  refine lv_aload_n hx hb dX6_init_4 rfl (lv_at hl 0 rfl) ?_
  refine r_iconst hx hb dX6_init_5 ?_
  refine r_newa (atype := .int) (ty := .int) C w hA 0 rfl rfl (Or.inl rfl) ka_int (N := 4) (a0 := (4, .inl (aI (fun _ => 0)))) (fun cA => ar_int cA 4) rfl (by decide) (by decide) (cells' := 1) (slots' := 4) ⟨rfl, rfl⟩ ⟨by decide, by decide⟩ dX6_init_6 (fun q6 H w => ?_)
  replace w : wd D A s.heap [(b, .inr (6, [.null, .null, vI 0, vI 0, vI 0])), (q6, .inl (cy 0, 4, .inl (aI (fun _ => 0))))] H _ := w
  refine r_putF C hnm w 0 tyX6 tyX6_ok nmX6 rfl rfl 0 (by decide) inX6 kf_X6_9 rfl rfl rfl rfl (Nat.le_of_ble_eq_true rfl) (ws' := [(b, .inr (6, [.ref q6, .null, vI 0, vI 0, vI 0])), (q6, .inl (cy 0, 4, .inl (aI (fun _ => 0))))]) rfl dX6_init_8 (fun H locs w => ?_)
  refine lv_aload_n hx hb dX6_init_11 rfl (lv_at hl 0 rfl) ?_
  refine r_iconst hx hb dX6_init_12 ?_
  refine r_newa (atype := .int) (ty := .int) C w hA 0 rfl rfl (Or.inl rfl) ka_int (N := 4) (a0 := (4, .inl (aI (fun _ => 0)))) (fun cA => ar_int cA 4) rfl (by decide) (by decide) (cells' := 2) (slots' := 8) ⟨rfl, rfl⟩ ⟨by decide, by decide⟩ dX6_init_13 (fun q13 H w => ?_)
  replace w : wd D A s.heap [(b, .inr (6, [.ref q6, .null, vI 0, vI 0, vI 0])), (q6, .inl (cy 0, 4, .inl (aI (fun _ => 0)))), (q13, .inl (cy 0, 4, .inl (aI (fun _ => 0))))] H _ := w
  refine r_putF C hnm w 0 tyX6 tyX6_ok nmX6 rfl rfl 1 (by decide) inX6 kf_X6_15 rfl rfl rfl rfl (Nat.le_of_ble_eq_true rfl) (ws' := [(b, .inr (6, [.ref q6, .ref q13, vI 0, vI 0, vI 0])), (q6, .inl (cy 0, 4, .inl (aI (fun _ => 0)))), (q13, .inl (cy 0, 4, .inl (aI (fun _ => 0))))]) rfl dX6_init_15 (fun H locs w => ?_)
  refine lv_aload_n hx hb dX6_init_18 rfl (lv_at hl 0 rfl) ?_
  refine cVV (ws := rw cy (fun k9 => match k9 with | 0 => b | 1 => q6 | _ => q13) (fun _ => 0) (fun _ _ => 0)) C w hA (ct_X6_clear_n l D cy (fun k9 => match k9 with | 0 => b | 1 => q6 | _ => q13) (fun _ => 0) (fun _ _ => 0)) ok_X6_clear km_X6_18 ⟨rfl, rfl⟩ ⟨by decide, by decide⟩ ⟨by decide, by decide⟩ rfl 0 rfl rfl hl.1 rfl (Nat.le_of_ble_eq_true rfl) dX6_init_19 (fun uv_1 H locs w hp_1 => ?_)
  obtain ⟨zc_1, gc_1⟩ := uv_1
  obtain ⟨ea_1, eb_1⟩ := Prod.mk.inj hp_1
  subst ea_1
  subst eb_1
  refine W.widen (k := 2) (n := 8) (by decide) (by decide) ?_
  replace w : wd D A s.heap [(b, .inr (6, [.ref q6, .ref q13, vI 0, vI 0, vI 0])), (q6, .inl (cy 0, 4, .inl (aI (uI (uI (uI (uI (fun _ => 0) 0 0) (0 + 1) 0) (0 + 1 + 1) 0) (0 + 1 + 1 + 1) 0)))), (q13, .inl (cy 0, 4, .inl (aI (uI (uI (uI (uI (fun _ => 0) 0 1) (0 + 1) 1) (0 + 1 + 1) 1) (0 + 1 + 1 + 1) 1))))] H locs := w
  exact hend (fun k9 => match k9 with | 0 => q6 | _ => q13) _ _ _ _ dX6_init_22 w trivial
abbrev rm_X2_init : Room := { frames := 1, cells := 7, slots := 700, locals := 20 }
set_option maxHeartbeats 2000000 in
set_option maxRecDepth 100000 in
theorem ct_X2_init (l : Launch) (D : va_G) (cy : Nat → ClassId) (b : Nat) : MV l yX2_init cX2_init 1 (rm_X2_init) D cy [(b, .inr (2, [.null, .null, .null, .null, .null, .null, .null, vI 0]))] [.ref b] (fun (u : Nat → Nat) => True) (fun (u : Nat → Nat) => [(b, .inr (2, [.ref (u 0), .ref (u 1), .ref (u 2), .ref (u 3), .ref (u 4), .ref (u 5), .ref (u 6), vI 0])), ((u 0), .inl (cy 0, 100, .inl (aI (fun _ => 0)))), ((u 1), .inl (cy 0, 100, .inl (aI (fun _ => 0)))), ((u 2), .inl (cy 0, 100, .inl (aI (fun _ => 0)))), ((u 3), .inl (cy 0, 100, .inl (aI (fun _ => 0)))), ((u 4), .inl (cy 0, 100, .inl (aI (fun _ => 0)))), ((u 5), .inl (cy 2, 100, .inl (aI (fun _ => 0)))), ((u 6), .inl (cy 0, 100, .inl (aI (fun _ => 0))))]) 7 700 := by
  refine go_v (by decide +kernel) (Nat.le_of_ble_eq_true rfl) ?_
  intro p e s m args below meth c Q A ls C hnm hA w hl hend
  have hx := C.1
  have hb := C.2.1
  replace hl : lv_has ls 1 [(0, .ref b)] := hl
  refine lv_aload_n hx hb dX2_init_0 rfl (lv_at hl 0 rfl) ?_
  refine r_oinit C km_X2_3 hl.1 (Nat.le_of_ble_eq_true rfl) ⟨by decide, by decide⟩ dX2_init_1 ?_
  refine lv_aload_n hx hb dX2_init_4 rfl (lv_at hl 0 rfl) ?_
  refine r_bipush hx hb dX2_init_5 (by decide) ?_
  refine r_newa (atype := .int) (ty := .int) C w hA 0 rfl rfl (Or.inl rfl) ka_int (N := 100) (a0 := (100, .inl (aI (fun _ => 0)))) (fun cA => ar_int cA 100) rfl (by decide) (by decide) (cells' := 1) (slots' := 100) ⟨rfl, rfl⟩ ⟨by decide, by decide⟩ dX2_init_7 (fun q7 H w => ?_)
  replace w : wd D A s.heap [(b, .inr (2, [.null, .null, .null, .null, .null, .null, .null, vI 0])), (q7, .inl (cy 0, 100, .inl (aI (fun _ => 0))))] H _ := w
  refine r_putF C hnm w 0 tyX2 tyX2_ok nmX2 rfl rfl 0 (by decide) inX2 kf_X2_9 rfl rfl rfl rfl (Nat.le_of_ble_eq_true rfl) (ws' := [(b, .inr (2, [.ref q7, .null, .null, .null, .null, .null, .null, vI 0])), (q7, .inl (cy 0, 100, .inl (aI (fun _ => 0))))]) rfl dX2_init_9 (fun H locs w => ?_)
  refine lv_aload_n hx hb dX2_init_12 rfl (lv_at hl 0 rfl) ?_
  refine r_bipush hx hb dX2_init_13 (by decide) ?_
  refine r_newa (atype := .int) (ty := .int) C w hA 0 rfl rfl (Or.inl rfl) ka_int (N := 100) (a0 := (100, .inl (aI (fun _ => 0)))) (fun cA => ar_int cA 100) rfl (by decide) (by decide) (cells' := 2) (slots' := 200) ⟨rfl, rfl⟩ ⟨by decide, by decide⟩ dX2_init_15 (fun q15 H w => ?_)
  replace w : wd D A s.heap [(b, .inr (2, [.ref q7, .null, .null, .null, .null, .null, .null, vI 0])), (q7, .inl (cy 0, 100, .inl (aI (fun _ => 0)))), (q15, .inl (cy 0, 100, .inl (aI (fun _ => 0))))] H _ := w
  refine r_putF C hnm w 0 tyX2 tyX2_ok nmX2 rfl rfl 1 (by decide) inX2 kf_X2_15 rfl rfl rfl rfl (Nat.le_of_ble_eq_true rfl) (ws' := [(b, .inr (2, [.ref q7, .ref q15, .null, .null, .null, .null, .null, vI 0])), (q7, .inl (cy 0, 100, .inl (aI (fun _ => 0)))), (q15, .inl (cy 0, 100, .inl (aI (fun _ => 0))))]) rfl dX2_init_17 (fun H locs w => ?_)
  refine lv_aload_n hx hb dX2_init_20 rfl (lv_at hl 0 rfl) ?_
  refine r_bipush hx hb dX2_init_21 (by decide) ?_
  refine r_newa (atype := .int) (ty := .int) C w hA 0 rfl rfl (Or.inl rfl) ka_int (N := 100) (a0 := (100, .inl (aI (fun _ => 0)))) (fun cA => ar_int cA 100) rfl (by decide) (by decide) (cells' := 3) (slots' := 300) ⟨rfl, rfl⟩ ⟨by decide, by decide⟩ dX2_init_23 (fun q23 H w => ?_)
  replace w : wd D A s.heap [(b, .inr (2, [.ref q7, .ref q15, .null, .null, .null, .null, .null, vI 0])), (q7, .inl (cy 0, 100, .inl (aI (fun _ => 0)))), (q15, .inl (cy 0, 100, .inl (aI (fun _ => 0)))), (q23, .inl (cy 0, 100, .inl (aI (fun _ => 0))))] H _ := w
  refine r_putF C hnm w 0 tyX2 tyX2_ok nmX2 rfl rfl 2 (by decide) inX2 kf_X2_18 rfl rfl rfl rfl (Nat.le_of_ble_eq_true rfl) (ws' := [(b, .inr (2, [.ref q7, .ref q15, .ref q23, .null, .null, .null, .null, vI 0])), (q7, .inl (cy 0, 100, .inl (aI (fun _ => 0)))), (q15, .inl (cy 0, 100, .inl (aI (fun _ => 0)))), (q23, .inl (cy 0, 100, .inl (aI (fun _ => 0))))]) rfl dX2_init_25 (fun H locs w => ?_)
  refine lv_aload_n hx hb dX2_init_28 rfl (lv_at hl 0 rfl) ?_
  refine r_bipush hx hb dX2_init_29 (by decide) ?_
  refine r_newa (atype := .int) (ty := .int) C w hA 0 rfl rfl (Or.inl rfl) ka_int (N := 100) (a0 := (100, .inl (aI (fun _ => 0)))) (fun cA => ar_int cA 100) rfl (by decide) (by decide) (cells' := 4) (slots' := 400) ⟨rfl, rfl⟩ ⟨by decide, by decide⟩ dX2_init_31 (fun q31 H w => ?_)
  replace w : wd D A s.heap [(b, .inr (2, [.ref q7, .ref q15, .ref q23, .null, .null, .null, .null, vI 0])), (q7, .inl (cy 0, 100, .inl (aI (fun _ => 0)))), (q15, .inl (cy 0, 100, .inl (aI (fun _ => 0)))), (q23, .inl (cy 0, 100, .inl (aI (fun _ => 0)))), (q31, .inl (cy 0, 100, .inl (aI (fun _ => 0))))] H _ := w
  refine r_putF C hnm w 0 tyX2 tyX2_ok nmX2 rfl rfl 3 (by decide) inX2 kf_X2_21 rfl rfl rfl rfl (Nat.le_of_ble_eq_true rfl) (ws' := [(b, .inr (2, [.ref q7, .ref q15, .ref q23, .ref q31, .null, .null, .null, vI 0])), (q7, .inl (cy 0, 100, .inl (aI (fun _ => 0)))), (q15, .inl (cy 0, 100, .inl (aI (fun _ => 0)))), (q23, .inl (cy 0, 100, .inl (aI (fun _ => 0)))), (q31, .inl (cy 0, 100, .inl (aI (fun _ => 0))))]) rfl dX2_init_33 (fun H locs w => ?_)
  refine lv_aload_n hx hb dX2_init_36 rfl (lv_at hl 0 rfl) ?_
  refine r_bipush hx hb dX2_init_37 (by decide) ?_
  refine r_newa (atype := .int) (ty := .int) C w hA 0 rfl rfl (Or.inl rfl) ka_int (N := 100) (a0 := (100, .inl (aI (fun _ => 0)))) (fun cA => ar_int cA 100) rfl (by decide) (by decide) (cells' := 5) (slots' := 500) ⟨rfl, rfl⟩ ⟨by decide, by decide⟩ dX2_init_39 (fun q39 H w => ?_)
  replace w : wd D A s.heap [(b, .inr (2, [.ref q7, .ref q15, .ref q23, .ref q31, .null, .null, .null, vI 0])), (q7, .inl (cy 0, 100, .inl (aI (fun _ => 0)))), (q15, .inl (cy 0, 100, .inl (aI (fun _ => 0)))), (q23, .inl (cy 0, 100, .inl (aI (fun _ => 0)))), (q31, .inl (cy 0, 100, .inl (aI (fun _ => 0)))), (q39, .inl (cy 0, 100, .inl (aI (fun _ => 0))))] H _ := w
  refine r_putF C hnm w 0 tyX2 tyX2_ok nmX2 rfl rfl 4 (by decide) inX2 kf_X2_24 rfl rfl rfl rfl (Nat.le_of_ble_eq_true rfl) (ws' := [(b, .inr (2, [.ref q7, .ref q15, .ref q23, .ref q31, .ref q39, .null, .null, vI 0])), (q7, .inl (cy 0, 100, .inl (aI (fun _ => 0)))), (q15, .inl (cy 0, 100, .inl (aI (fun _ => 0)))), (q23, .inl (cy 0, 100, .inl (aI (fun _ => 0)))), (q31, .inl (cy 0, 100, .inl (aI (fun _ => 0)))), (q39, .inl (cy 0, 100, .inl (aI (fun _ => 0))))]) rfl dX2_init_41 (fun H locs w => ?_)
  refine lv_aload_n hx hb dX2_init_44 rfl (lv_at hl 0 rfl) ?_
  refine r_bipush hx hb dX2_init_45 (by decide) ?_
  refine r_newa (atype := .boolean) (ty := .boolean) C w hA 2 rfl rfl (Or.inr (Or.inr (Or.inl rfl))) ka_boolean (N := 100) (a0 := (100, .inl (aI (fun _ => 0)))) (fun cA => ar_boolean cA 100) rfl (by decide) (by decide) (cells' := 6) (slots' := 600) ⟨rfl, rfl⟩ ⟨by decide, by decide⟩ dX2_init_47 (fun q47 H w => ?_)
  replace w : wd D A s.heap [(b, .inr (2, [.ref q7, .ref q15, .ref q23, .ref q31, .ref q39, .null, .null, vI 0])), (q7, .inl (cy 0, 100, .inl (aI (fun _ => 0)))), (q15, .inl (cy 0, 100, .inl (aI (fun _ => 0)))), (q23, .inl (cy 0, 100, .inl (aI (fun _ => 0)))), (q31, .inl (cy 0, 100, .inl (aI (fun _ => 0)))), (q39, .inl (cy 0, 100, .inl (aI (fun _ => 0)))), (q47, .inl (cy 2, 100, .inl (aI (fun _ => 0))))] H _ := w
  refine r_putF C hnm w 0 tyX2 tyX2_ok nmX2 rfl rfl 5 (by decide) inX2 kf_X2_27 rfl rfl rfl rfl (Nat.le_of_ble_eq_true rfl) (ws' := [(b, .inr (2, [.ref q7, .ref q15, .ref q23, .ref q31, .ref q39, .ref q47, .null, vI 0])), (q7, .inl (cy 0, 100, .inl (aI (fun _ => 0)))), (q15, .inl (cy 0, 100, .inl (aI (fun _ => 0)))), (q23, .inl (cy 0, 100, .inl (aI (fun _ => 0)))), (q31, .inl (cy 0, 100, .inl (aI (fun _ => 0)))), (q39, .inl (cy 0, 100, .inl (aI (fun _ => 0)))), (q47, .inl (cy 2, 100, .inl (aI (fun _ => 0))))]) rfl dX2_init_49 (fun H locs w => ?_)
  refine lv_aload_n hx hb dX2_init_52 rfl (lv_at hl 0 rfl) ?_
  refine r_bipush hx hb dX2_init_53 (by decide) ?_
  refine r_newa (atype := .int) (ty := .int) C w hA 0 rfl rfl (Or.inl rfl) ka_int (N := 100) (a0 := (100, .inl (aI (fun _ => 0)))) (fun cA => ar_int cA 100) rfl (by decide) (by decide) (cells' := 7) (slots' := 700) ⟨rfl, rfl⟩ ⟨by decide, by decide⟩ dX2_init_55 (fun q55 H w => ?_)
  replace w : wd D A s.heap [(b, .inr (2, [.ref q7, .ref q15, .ref q23, .ref q31, .ref q39, .ref q47, .null, vI 0])), (q7, .inl (cy 0, 100, .inl (aI (fun _ => 0)))), (q15, .inl (cy 0, 100, .inl (aI (fun _ => 0)))), (q23, .inl (cy 0, 100, .inl (aI (fun _ => 0)))), (q31, .inl (cy 0, 100, .inl (aI (fun _ => 0)))), (q39, .inl (cy 0, 100, .inl (aI (fun _ => 0)))), (q47, .inl (cy 2, 100, .inl (aI (fun _ => 0)))), (q55, .inl (cy 0, 100, .inl (aI (fun _ => 0))))] H _ := w
  refine r_putF C hnm w 0 tyX2 tyX2_ok nmX2 rfl rfl 6 (by decide) inX2 kf_X2_31 rfl rfl rfl rfl (Nat.le_of_ble_eq_true rfl) (ws' := [(b, .inr (2, [.ref q7, .ref q15, .ref q23, .ref q31, .ref q39, .ref q47, .ref q55, vI 0])), (q7, .inl (cy 0, 100, .inl (aI (fun _ => 0)))), (q15, .inl (cy 0, 100, .inl (aI (fun _ => 0)))), (q23, .inl (cy 0, 100, .inl (aI (fun _ => 0)))), (q31, .inl (cy 0, 100, .inl (aI (fun _ => 0)))), (q39, .inl (cy 0, 100, .inl (aI (fun _ => 0)))), (q47, .inl (cy 2, 100, .inl (aI (fun _ => 0)))), (q55, .inl (cy 0, 100, .inl (aI (fun _ => 0))))]) rfl dX2_init_57 (fun H locs w => ?_)
  refine lv_aload_n hx hb dX2_init_60 rfl (lv_at hl 0 rfl) ?_
  refine r_iconst hx hb dX2_init_61 ?_
  refine r_put C w 0 tyX2 tyX2_ok nmX2 rfl rfl 7 (by decide) inX2 kf_X2_34 rfl rfl rfl (Nat.le_of_ble_eq_true rfl) (ws' := [(b, .inr (2, [.ref q7, .ref q15, .ref q23, .ref q31, .ref q39, .ref q47, .ref q55, vI 0])), (q7, .inl (cy 0, 100, .inl (aI (fun _ => 0)))), (q15, .inl (cy 0, 100, .inl (aI (fun _ => 0)))), (q23, .inl (cy 0, 100, .inl (aI (fun _ => 0)))), (q31, .inl (cy 0, 100, .inl (aI (fun _ => 0)))), (q39, .inl (cy 0, 100, .inl (aI (fun _ => 0)))), (q47, .inl (cy 2, 100, .inl (aI (fun _ => 0)))), (q55, .inl (cy 0, 100, .inl (aI (fun _ => 0))))]) rfl dX2_init_62 (fun H locs w => ?_)
  exact hend (fun k9 => match k9 with | 0 => q7 | 1 => q15 | 2 => q23 | 3 => q31 | 4 => q39 | 5 => q47 | _ => q55) _ _ _ _ dX2_init_65 w trivial
abbrev rm_X7_init : Room := { frames := 1, cells := 7, slots := 2800, locals := 20 }
set_option maxHeartbeats 2000000 in
set_option maxRecDepth 100000 in
theorem ct_X7_init (l : Launch) (D : va_G) (cy : Nat → ClassId) (b : Nat) : MV l yX7_init cX7_init 1 (rm_X7_init) D cy [(b, .inr (7, [.null, .null, .null, .null, .null, .null, .null, vI 0]))] [.ref b] (fun (u : Nat → Nat) => True) (fun (u : Nat → Nat) => [(b, .inr (7, [.ref (u 0), .ref (u 1), .ref (u 2), .ref (u 3), .ref (u 4), .ref (u 5), .ref (u 6), vI 0])), ((u 0), .inl (cy 0, 400, .inl (aI (fun _ => 0)))), ((u 1), .inl (cy 0, 400, .inl (aI (fun _ => 0)))), ((u 2), .inl (cy 0, 400, .inl (aI (fun _ => 0)))), ((u 3), .inl (cy 0, 400, .inl (aI (fun _ => 0)))), ((u 4), .inl (cy 0, 400, .inl (aI (fun _ => 0)))), ((u 5), .inl (cy 0, 400, .inl (aI (fun _ => 0)))), ((u 6), .inl (cy 0, 400, .inl (aI (fun _ => 0))))]) 7 2800 := by
  refine go_v (by decide +kernel) (Nat.le_of_ble_eq_true rfl) ?_
  intro p e s m args below meth c Q A ls C hnm hA w hl hend
  have hx := C.1
  have hb := C.2.1
  replace hl : lv_has ls 1 [(0, .ref b)] := hl
  refine lv_aload_n hx hb dX7_init_0 rfl (lv_at hl 0 rfl) ?_
  refine r_oinit C km_X7_3 hl.1 (Nat.le_of_ble_eq_true rfl) ⟨by decide, by decide⟩ dX7_init_1 ?_
  refine lv_aload_n hx hb dX7_init_4 rfl (lv_at hl 0 rfl) ?_
  refine r_sipush hx hb dX7_init_5 (by decide) ?_
  refine r_newa (atype := .int) (ty := .int) C w hA 0 rfl rfl (Or.inl rfl) ka_int (N := 400) (a0 := (400, .inl (aI (fun _ => 0)))) (fun cA => ar_int cA 400) rfl (by decide) (by decide) (cells' := 1) (slots' := 400) ⟨rfl, rfl⟩ ⟨by decide, by decide⟩ dX7_init_8 (fun q8 H w => ?_)
  replace w : wd D A s.heap [(b, .inr (7, [.null, .null, .null, .null, .null, .null, .null, vI 0])), (q8, .inl (cy 0, 400, .inl (aI (fun _ => 0))))] H _ := w
  refine r_putF C hnm w 0 tyX7 tyX7_ok nmX7 rfl rfl 0 (by decide) inX7 kf_X7_9 rfl rfl rfl rfl (Nat.le_of_ble_eq_true rfl) (ws' := [(b, .inr (7, [.ref q8, .null, .null, .null, .null, .null, .null, vI 0])), (q8, .inl (cy 0, 400, .inl (aI (fun _ => 0))))]) rfl dX7_init_10 (fun H locs w => ?_)
  refine lv_aload_n hx hb dX7_init_13 rfl (lv_at hl 0 rfl) ?_
  refine r_sipush hx hb dX7_init_14 (by decide) ?_
  refine r_newa (atype := .int) (ty := .int) C w hA 0 rfl rfl (Or.inl rfl) ka_int (N := 400) (a0 := (400, .inl (aI (fun _ => 0)))) (fun cA => ar_int cA 400) rfl (by decide) (by decide) (cells' := 2) (slots' := 800) ⟨rfl, rfl⟩ ⟨by decide, by decide⟩ dX7_init_17 (fun q17 H w => ?_)
  replace w : wd D A s.heap [(b, .inr (7, [.ref q8, .null, .null, .null, .null, .null, .null, vI 0])), (q8, .inl (cy 0, 400, .inl (aI (fun _ => 0)))), (q17, .inl (cy 0, 400, .inl (aI (fun _ => 0))))] H _ := w
  refine r_putF C hnm w 0 tyX7 tyX7_ok nmX7 rfl rfl 1 (by decide) inX7 kf_X7_15 rfl rfl rfl rfl (Nat.le_of_ble_eq_true rfl) (ws' := [(b, .inr (7, [.ref q8, .ref q17, .null, .null, .null, .null, .null, vI 0])), (q8, .inl (cy 0, 400, .inl (aI (fun _ => 0)))), (q17, .inl (cy 0, 400, .inl (aI (fun _ => 0))))]) rfl dX7_init_19 (fun H locs w => ?_)
  refine lv_aload_n hx hb dX7_init_22 rfl (lv_at hl 0 rfl) ?_
  refine r_sipush hx hb dX7_init_23 (by decide) ?_
  refine r_newa (atype := .int) (ty := .int) C w hA 0 rfl rfl (Or.inl rfl) ka_int (N := 400) (a0 := (400, .inl (aI (fun _ => 0)))) (fun cA => ar_int cA 400) rfl (by decide) (by decide) (cells' := 3) (slots' := 1200) ⟨rfl, rfl⟩ ⟨by decide, by decide⟩ dX7_init_26 (fun q26 H w => ?_)
  replace w : wd D A s.heap [(b, .inr (7, [.ref q8, .ref q17, .null, .null, .null, .null, .null, vI 0])), (q8, .inl (cy 0, 400, .inl (aI (fun _ => 0)))), (q17, .inl (cy 0, 400, .inl (aI (fun _ => 0)))), (q26, .inl (cy 0, 400, .inl (aI (fun _ => 0))))] H _ := w
  refine r_putF C hnm w 0 tyX7 tyX7_ok nmX7 rfl rfl 2 (by decide) inX7 kf_X7_18 rfl rfl rfl rfl (Nat.le_of_ble_eq_true rfl) (ws' := [(b, .inr (7, [.ref q8, .ref q17, .ref q26, .null, .null, .null, .null, vI 0])), (q8, .inl (cy 0, 400, .inl (aI (fun _ => 0)))), (q17, .inl (cy 0, 400, .inl (aI (fun _ => 0)))), (q26, .inl (cy 0, 400, .inl (aI (fun _ => 0))))]) rfl dX7_init_28 (fun H locs w => ?_)
  refine lv_aload_n hx hb dX7_init_31 rfl (lv_at hl 0 rfl) ?_
  refine r_sipush hx hb dX7_init_32 (by decide) ?_
  refine r_newa (atype := .int) (ty := .int) C w hA 0 rfl rfl (Or.inl rfl) ka_int (N := 400) (a0 := (400, .inl (aI (fun _ => 0)))) (fun cA => ar_int cA 400) rfl (by decide) (by decide) (cells' := 4) (slots' := 1600) ⟨rfl, rfl⟩ ⟨by decide, by decide⟩ dX7_init_35 (fun q35 H w => ?_)
  replace w : wd D A s.heap [(b, .inr (7, [.ref q8, .ref q17, .ref q26, .null, .null, .null, .null, vI 0])), (q8, .inl (cy 0, 400, .inl (aI (fun _ => 0)))), (q17, .inl (cy 0, 400, .inl (aI (fun _ => 0)))), (q26, .inl (cy 0, 400, .inl (aI (fun _ => 0)))), (q35, .inl (cy 0, 400, .inl (aI (fun _ => 0))))] H _ := w
  refine r_putF C hnm w 0 tyX7 tyX7_ok nmX7 rfl rfl 3 (by decide) inX7 kf_X7_21 rfl rfl rfl rfl (Nat.le_of_ble_eq_true rfl) (ws' := [(b, .inr (7, [.ref q8, .ref q17, .ref q26, .ref q35, .null, .null, .null, vI 0])), (q8, .inl (cy 0, 400, .inl (aI (fun _ => 0)))), (q17, .inl (cy 0, 400, .inl (aI (fun _ => 0)))), (q26, .inl (cy 0, 400, .inl (aI (fun _ => 0)))), (q35, .inl (cy 0, 400, .inl (aI (fun _ => 0))))]) rfl dX7_init_37 (fun H locs w => ?_)
  refine lv_aload_n hx hb dX7_init_40 rfl (lv_at hl 0 rfl) ?_
  refine r_sipush hx hb dX7_init_41 (by decide) ?_
  refine r_newa (atype := .int) (ty := .int) C w hA 0 rfl rfl (Or.inl rfl) ka_int (N := 400) (a0 := (400, .inl (aI (fun _ => 0)))) (fun cA => ar_int cA 400) rfl (by decide) (by decide) (cells' := 5) (slots' := 2000) ⟨rfl, rfl⟩ ⟨by decide, by decide⟩ dX7_init_44 (fun q44 H w => ?_)
  replace w : wd D A s.heap [(b, .inr (7, [.ref q8, .ref q17, .ref q26, .ref q35, .null, .null, .null, vI 0])), (q8, .inl (cy 0, 400, .inl (aI (fun _ => 0)))), (q17, .inl (cy 0, 400, .inl (aI (fun _ => 0)))), (q26, .inl (cy 0, 400, .inl (aI (fun _ => 0)))), (q35, .inl (cy 0, 400, .inl (aI (fun _ => 0)))), (q44, .inl (cy 0, 400, .inl (aI (fun _ => 0))))] H _ := w
  refine r_putF C hnm w 0 tyX7 tyX7_ok nmX7 rfl rfl 4 (by decide) inX7 kf_X7_24 rfl rfl rfl rfl (Nat.le_of_ble_eq_true rfl) (ws' := [(b, .inr (7, [.ref q8, .ref q17, .ref q26, .ref q35, .ref q44, .null, .null, vI 0])), (q8, .inl (cy 0, 400, .inl (aI (fun _ => 0)))), (q17, .inl (cy 0, 400, .inl (aI (fun _ => 0)))), (q26, .inl (cy 0, 400, .inl (aI (fun _ => 0)))), (q35, .inl (cy 0, 400, .inl (aI (fun _ => 0)))), (q44, .inl (cy 0, 400, .inl (aI (fun _ => 0))))]) rfl dX7_init_46 (fun H locs w => ?_)
  refine lv_aload_n hx hb dX7_init_49 rfl (lv_at hl 0 rfl) ?_
  refine r_sipush hx hb dX7_init_50 (by decide) ?_
  refine r_newa (atype := .int) (ty := .int) C w hA 0 rfl rfl (Or.inl rfl) ka_int (N := 400) (a0 := (400, .inl (aI (fun _ => 0)))) (fun cA => ar_int cA 400) rfl (by decide) (by decide) (cells' := 6) (slots' := 2400) ⟨rfl, rfl⟩ ⟨by decide, by decide⟩ dX7_init_53 (fun q53 H w => ?_)
  replace w : wd D A s.heap [(b, .inr (7, [.ref q8, .ref q17, .ref q26, .ref q35, .ref q44, .null, .null, vI 0])), (q8, .inl (cy 0, 400, .inl (aI (fun _ => 0)))), (q17, .inl (cy 0, 400, .inl (aI (fun _ => 0)))), (q26, .inl (cy 0, 400, .inl (aI (fun _ => 0)))), (q35, .inl (cy 0, 400, .inl (aI (fun _ => 0)))), (q44, .inl (cy 0, 400, .inl (aI (fun _ => 0)))), (q53, .inl (cy 0, 400, .inl (aI (fun _ => 0))))] H _ := w
  refine r_putF C hnm w 0 tyX7 tyX7_ok nmX7 rfl rfl 5 (by decide) inX7 kf_X7_27 rfl rfl rfl rfl (Nat.le_of_ble_eq_true rfl) (ws' := [(b, .inr (7, [.ref q8, .ref q17, .ref q26, .ref q35, .ref q44, .ref q53, .null, vI 0])), (q8, .inl (cy 0, 400, .inl (aI (fun _ => 0)))), (q17, .inl (cy 0, 400, .inl (aI (fun _ => 0)))), (q26, .inl (cy 0, 400, .inl (aI (fun _ => 0)))), (q35, .inl (cy 0, 400, .inl (aI (fun _ => 0)))), (q44, .inl (cy 0, 400, .inl (aI (fun _ => 0)))), (q53, .inl (cy 0, 400, .inl (aI (fun _ => 0))))]) rfl dX7_init_55 (fun H locs w => ?_)
  refine lv_aload_n hx hb dX7_init_58 rfl (lv_at hl 0 rfl) ?_
  refine r_sipush hx hb dX7_init_59 (by decide) ?_
  refine r_newa (atype := .int) (ty := .int) C w hA 0 rfl rfl (Or.inl rfl) ka_int (N := 400) (a0 := (400, .inl (aI (fun _ => 0)))) (fun cA => ar_int cA 400) rfl (by decide) (by decide) (cells' := 7) (slots' := 2800) ⟨rfl, rfl⟩ ⟨by decide, by decide⟩ dX7_init_62 (fun q62 H w => ?_)
  replace w : wd D A s.heap [(b, .inr (7, [.ref q8, .ref q17, .ref q26, .ref q35, .ref q44, .ref q53, .null, vI 0])), (q8, .inl (cy 0, 400, .inl (aI (fun _ => 0)))), (q17, .inl (cy 0, 400, .inl (aI (fun _ => 0)))), (q26, .inl (cy 0, 400, .inl (aI (fun _ => 0)))), (q35, .inl (cy 0, 400, .inl (aI (fun _ => 0)))), (q44, .inl (cy 0, 400, .inl (aI (fun _ => 0)))), (q53, .inl (cy 0, 400, .inl (aI (fun _ => 0)))), (q62, .inl (cy 0, 400, .inl (aI (fun _ => 0))))] H _ := w
  refine r_putF C hnm w 0 tyX7 tyX7_ok nmX7 rfl rfl 6 (by decide) inX7 kf_X7_30 rfl rfl rfl rfl (Nat.le_of_ble_eq_true rfl) (ws' := [(b, .inr (7, [.ref q8, .ref q17, .ref q26, .ref q35, .ref q44, .ref q53, .ref q62, vI 0])), (q8, .inl (cy 0, 400, .inl (aI (fun _ => 0)))), (q17, .inl (cy 0, 400, .inl (aI (fun _ => 0)))), (q26, .inl (cy 0, 400, .inl (aI (fun _ => 0)))), (q35, .inl (cy 0, 400, .inl (aI (fun _ => 0)))), (q44, .inl (cy 0, 400, .inl (aI (fun _ => 0)))), (q53, .inl (cy 0, 400, .inl (aI (fun _ => 0)))), (q62, .inl (cy 0, 400, .inl (aI (fun _ => 0))))]) rfl dX7_init_64 (fun H locs w => ?_)
  refine lv_aload_n hx hb dX7_init_67 rfl (lv_at hl 0 rfl) ?_
  refine r_iconst hx hb dX7_init_68 ?_
  refine r_put C w 0 tyX7 tyX7_ok nmX7 rfl rfl 7 (by decide) inX7 kf_X7_33 rfl rfl rfl (Nat.le_of_ble_eq_true rfl) (ws' := [(b, .inr (7, [.ref q8, .ref q17, .ref q26, .ref q35, .ref q44, .ref q53, .ref q62, vI 0])), (q8, .inl (cy 0, 400, .inl (aI (fun _ => 0)))), (q17, .inl (cy 0, 400, .inl (aI (fun _ => 0)))), (q26, .inl (cy 0, 400, .inl (aI (fun _ => 0)))), (q35, .inl (cy 0, 400, .inl (aI (fun _ => 0)))), (q44, .inl (cy 0, 400, .inl (aI (fun _ => 0)))), (q53, .inl (cy 0, 400, .inl (aI (fun _ => 0)))), (q62, .inl (cy 0, 400, .inl (aI (fun _ => 0))))]) rfl dX7_init_69 (fun H locs w => ?_)
  exact hend (fun k9 => match k9 with | 0 => q8 | 1 => q17 | 2 => q26 | 3 => q35 | 4 => q44 | 5 => q53 | _ => q62) _ _ _ _ dX7_init_72 w trivial
abbrev rm_X0_init : Room := { frames := 1, cells := 4, slots := 340, locals := 20 }
set_option maxHeartbeats 2000000 in
set_option maxRecDepth 100000 in
theorem ct_X0_init (l : Launch) (D : va_G) (cy : Nat → ClassId) (b : Nat) : MV l yX0_init cX0_init 1 (rm_X0_init) D cy [(b, .inr (0, [.null, .null, .null, .null]))] [.ref b] (fun (u : Nat → Nat) => True) (fun (u : Nat → Nat) => [(b, .inr (0, [.ref (u 0), .ref (u 1), .ref (u 2), .ref (u 3)])), ((u 0), .inl (cy 0, 10, .inl (aI (fun _ => 0)))), ((u 1), .inl (cy 0, 10, .inl (aI (fun _ => 0)))), ((u 2), .inl (cy 0, 160, .inl (aI (fun _ => 0)))), ((u 3), .inl (cy 0, 160, .inl (aI (fun _ => 0))))]) 4 340 := by
  refine go_v (by decide +kernel) (Nat.le_of_ble_eq_true rfl) ?_
  intro p e s m args below meth c Q A ls C hnm hA w hl hend
  have hx := C.1
  have hb := C.2.1
  replace hl : lv_has ls 1 [(0, .ref b)] := hl
  refine lv_aload_n hx hb dX0_init_0 rfl (lv_at hl 0 rfl) ?_
  refine r_oinit C km_X0_3 hl.1 (Nat.le_of_ble_eq_true rfl) ⟨by decide, by decide⟩ dX0_init_1 ?_
  refine lv_aload_n hx hb dX0_init_4 rfl (lv_at hl 0 rfl) ?_
  refine r_bipush hx hb dX0_init_5 (by decide) ?_
  refine r_newa (atype := .int) (ty := .int) C w hA 0 rfl rfl (Or.inl rfl) ka_int (N := 10) (a0 := (10, .inl (aI (fun _ => 0)))) (fun cA => ar_int cA 10) rfl (by decide) (by decide) (cells' := 1) (slots' := 10) ⟨rfl, rfl⟩ ⟨by decide, by decide⟩ dX0_init_7 (fun q7 H w => ?_)
  replace w : wd D A s.heap [(b, .inr (0, [.null, .null, .null, .null])), (q7, .inl (cy 0, 10, .inl (aI (fun _ => 0))))] H _ := w
  refine r_putF C hnm w 0 tyX0 tyX0_ok nmX0 rfl rfl 0 (by decide) inX0 kf_X0_9 rfl rfl rfl rfl (Nat.le_of_ble_eq_true rfl) (ws' := [(b, .inr (0, [.ref q7, .null, .null, .null])), (q7, .inl (cy 0, 10, .inl (aI (fun _ => 0))))]) rfl dX0_init_9 (fun H locs w => ?_)
  refine lv_aload_n hx hb dX0_init_12 rfl (lv_at hl 0 rfl) ?_
  refine r_bipush hx hb dX0_init_13 (by decide) ?_
  refine r_newa (atype := .int) (ty := .int) C w hA 0 rfl rfl (Or.inl rfl) ka_int (N := 10) (a0 := (10, .inl (aI (fun _ => 0)))) (fun cA => ar_int cA 10) rfl (by decide) (by decide) (cells' := 2) (slots' := 20) ⟨rfl, rfl⟩ ⟨by decide, by decide⟩ dX0_init_15 (fun q15 H w => ?_)
  replace w : wd D A s.heap [(b, .inr (0, [.ref q7, .null, .null, .null])), (q7, .inl (cy 0, 10, .inl (aI (fun _ => 0)))), (q15, .inl (cy 0, 10, .inl (aI (fun _ => 0))))] H _ := w
  refine r_putF C hnm w 0 tyX0 tyX0_ok nmX0 rfl rfl 1 (by decide) inX0 kf_X0_15 rfl rfl rfl rfl (Nat.le_of_ble_eq_true rfl) (ws' := [(b, .inr (0, [.ref q7, .ref q15, .null, .null])), (q7, .inl (cy 0, 10, .inl (aI (fun _ => 0)))), (q15, .inl (cy 0, 10, .inl (aI (fun _ => 0))))]) rfl dX0_init_17 (fun H locs w => ?_)
  refine lv_aload_n hx hb dX0_init_20 rfl (lv_at hl 0 rfl) ?_
  refine r_sipush hx hb dX0_init_21 (by decide) ?_
  refine r_newa (atype := .int) (ty := .int) C w hA 0 rfl rfl (Or.inl rfl) ka_int (N := 160) (a0 := (160, .inl (aI (fun _ => 0)))) (fun cA => ar_int cA 160) rfl (by decide) (by decide) (cells' := 3) (slots' := 180) ⟨rfl, rfl⟩ ⟨by decide, by decide⟩ dX0_init_24 (fun q24 H w => ?_)
  replace w : wd D A s.heap [(b, .inr (0, [.ref q7, .ref q15, .null, .null])), (q7, .inl (cy 0, 10, .inl (aI (fun _ => 0)))), (q15, .inl (cy 0, 10, .inl (aI (fun _ => 0)))), (q24, .inl (cy 0, 160, .inl (aI (fun _ => 0))))] H _ := w
  refine r_putF C hnm w 0 tyX0 tyX0_ok nmX0 rfl rfl 2 (by decide) inX0 kf_X0_18 rfl rfl rfl rfl (Nat.le_of_ble_eq_true rfl) (ws' := [(b, .inr (0, [.ref q7, .ref q15, .ref q24, .null])), (q7, .inl (cy 0, 10, .inl (aI (fun _ => 0)))), (q15, .inl (cy 0, 10, .inl (aI (fun _ => 0)))), (q24, .inl (cy 0, 160, .inl (aI (fun _ => 0))))]) rfl dX0_init_26 (fun H locs w => ?_)
  refine lv_aload_n hx hb dX0_init_29 rfl (lv_at hl 0 rfl) ?_
  refine r_sipush hx hb dX0_init_30 (by decide) ?_
  refine r_newa (atype := .int) (ty := .int) C w hA 0 rfl rfl (Or.inl rfl) ka_int (N := 160) (a0 := (160, .inl (aI (fun _ => 0)))) (fun cA => ar_int cA 160) rfl (by decide) (by decide) (cells' := 4) (slots' := 340) ⟨rfl, rfl⟩ ⟨by decide, by decide⟩ dX0_init_33 (fun q33 H w => ?_)
  replace w : wd D A s.heap [(b, .inr (0, [.ref q7, .ref q15, .ref q24, .null])), (q7, .inl (cy 0, 10, .inl (aI (fun _ => 0)))), (q15, .inl (cy 0, 10, .inl (aI (fun _ => 0)))), (q24, .inl (cy 0, 160, .inl (aI (fun _ => 0)))), (q33, .inl (cy 0, 160, .inl (aI (fun _ => 0))))] H _ := w
  refine r_putF C hnm w 0 tyX0 tyX0_ok nmX0 rfl rfl 3 (by decide) inX0 kf_X0_21 rfl rfl rfl rfl (Nat.le_of_ble_eq_true rfl) (ws' := [(b, .inr (0, [.ref q7, .ref q15, .ref q24, .ref q33])), (q7, .inl (cy 0, 10, .inl (aI (fun _ => 0)))), (q15, .inl (cy 0, 10, .inl (aI (fun _ => 0)))), (q24, .inl (cy 0, 160, .inl (aI (fun _ => 0)))), (q33, .inl (cy 0, 160, .inl (aI (fun _ => 0))))]) rfl dX0_init_35 (fun H locs w => ?_)
  exact hend (fun k9 => match k9 with | 0 => q7 | 1 => q15 | 2 => q24 | _ => q33) _ _ _ _ dX0_init_38 w trivial
abbrev rm_X1_init : Room := { frames := 1, cells := 3, slots := 12, locals := 20 }
set_option maxHeartbeats 2000000 in
set_option maxRecDepth 100000 in
theorem ct_X1_init (l : Launch) (D : va_G) (cy : Nat → ClassId) (b : Nat) : MV l yX1_init cX1_init 1 (rm_X1_init) D cy [(b, .inr (1, [.null, .null, .null, vI 0]))] [.ref b] (fun (u : Nat → Nat) => True) (fun (u : Nat → Nat) => [(b, .inr (1, [.ref (u 0), .ref (u 1), .ref (u 2), vI 0])), ((u 0), .inl (cy 0, 4, .inl (aI (fun _ => 0)))), ((u 1), .inl (cy 0, 4, .inl (aI (fun _ => 0)))), ((u 2), .inl (cy 0, 4, .inl (aI (fun _ => 0))))]) 3 12 := by
  refine go_v (by decide +kernel) (Nat.le_of_ble_eq_true rfl) ?_
  intro p e s m args below meth c Q A ls C hnm hA w hl hend
  have hx := C.1
  have hb := C.2.1
  replace hl : lv_has ls 1 [(0, .ref b)] := hl
  refine lv_aload_n hx hb dX1_init_0 rfl (lv_at hl 0 rfl) ?_
  refine r_oinit C km_X1_3 hl.1 (Nat.le_of_ble_eq_true rfl) ⟨by decide, by decide⟩ dX1_init_1 ?_
  refine lv_aload_n hx hb dX1_init_4 rfl (lv_at hl 0 rfl) ?_
  refine r_iconst hx hb dX1_init_5 ?_
  refine r_newa (atype := .int) (ty := .int) C w hA 0 rfl rfl (Or.inl rfl) ka_int (N := 4) (a0 := (4, .inl (aI (fun _ => 0)))) (fun cA => ar_int cA 4) rfl (by decide) (by decide) (cells' := 1) (slots' := 4) ⟨rfl, rfl⟩ ⟨by decide, by decide⟩ dX1_init_6 (fun q6 H w => ?_)
  replace w : wd D A s.heap [(b, .inr (1, [.null, .null, .null, vI 0])), (q6, .inl (cy 0, 4, .inl (aI (fun _ => 0))))] H _ := w
  refine r_putF C hnm w 0 tyX1 tyX1_ok nmX1 rfl rfl 0 (by decide) inX1 kf_X1_9 rfl rfl rfl rfl (Nat.le_of_ble_eq_true rfl) (ws' := [(b, .inr (1, [.ref q6, .null, .null, vI 0])), (q6, .inl (cy 0, 4, .inl (aI (fun _ => 0))))]) rfl dX1_init_8 (fun H locs w => ?_)
  refine lv_aload_n hx hb dX1_init_11 rfl (lv_at hl 0 rfl) ?_
  refine r_iconst hx hb dX1_init_12 ?_
  refine r_newa (atype := .int) (ty := .int) C w hA 0 rfl rfl (Or.inl rfl) ka_int (N := 4) (a0 := (4, .inl (aI (fun _ => 0)))) (fun cA => ar_int cA 4) rfl (by decide) (by decide) (cells' := 2) (slots' := 8) ⟨rfl, rfl⟩ ⟨by decide, by decide⟩ dX1_init_13 (fun q13 H w => ?_)
  replace w : wd D A s.heap [(b, .inr (1, [.ref q6, .null, .null, vI 0])), (q6, .inl (cy 0, 4, .inl (aI (fun _ => 0)))), (q13, .inl (cy 0, 4, .inl (aI (fun _ => 0))))] H _ := w
  refine r_putF C hnm w 0 tyX1 tyX1_ok nmX1 rfl rfl 1 (by decide) inX1 kf_X1_15 rfl rfl rfl rfl (Nat.le_of_ble_eq_true rfl) (ws' := [(b, .inr (1, [.ref q6, .ref q13, .null, vI 0])), (q6, .inl (cy 0, 4, .inl (aI (fun _ => 0)))), (q13, .inl (cy 0, 4, .inl (aI (fun _ => 0))))]) rfl dX1_init_15 (fun H locs w => ?_)
  refine lv_aload_n hx hb dX1_init_18 rfl (lv_at hl 0 rfl) ?_
  refine r_iconst hx hb dX1_init_19 ?_
  refine r_newa (atype := .int) (ty := .int) C w hA 0 rfl rfl (Or.inl rfl) ka_int (N := 4) (a0 := (4, .inl (aI (fun _ => 0)))) (fun cA => ar_int cA 4) rfl (by decide) (by decide) (cells' := 3) (slots' := 12) ⟨rfl, rfl⟩ ⟨by decide, by decide⟩ dX1_init_20 (fun q20 H w => ?_)
  replace w : wd D A s.heap [(b, .inr (1, [.ref q6, .ref q13, .null, vI 0])), (q6, .inl (cy 0, 4, .inl (aI (fun _ => 0)))), (q13, .inl (cy 0, 4, .inl (aI (fun _ => 0)))), (q20, .inl (cy 0, 4, .inl (aI (fun _ => 0))))] H _ := w
  refine r_putF C hnm w 0 tyX1 tyX1_ok nmX1 rfl rfl 2 (by decide) inX1 kf_X1_18 rfl rfl rfl rfl (Nat.le_of_ble_eq_true rfl) (ws' := [(b, .inr (1, [.ref q6, .ref q13, .ref q20, vI 0])), (q6, .inl (cy 0, 4, .inl (aI (fun _ => 0)))), (q13, .inl (cy 0, 4, .inl (aI (fun _ => 0)))), (q20, .inl (cy 0, 4, .inl (aI (fun _ => 0))))]) rfl dX1_init_22 (fun H locs w => ?_)
  refine lv_aload_n hx hb dX1_init_25 rfl (lv_at hl 0 rfl) ?_
  refine r_iconst hx hb dX1_init_26 ?_
  refine r_put C w 0 tyX1 tyX1_ok nmX1 rfl rfl 3 (by decide) inX1 kf_X1_21 rfl (nb01 (Or.inl rfl)) (fb01 (Or.inl rfl)) (Nat.le_of_ble_eq_true rfl) (ws' := [(b, .inr (1, [.ref q6, .ref q13, .ref q20, vI 0])), (q6, .inl (cy 0, 4, .inl (aI (fun _ => 0)))), (q13, .inl (cy 0, 4, .inl (aI (fun _ => 0)))), (q20, .inl (cy 0, 4, .inl (aI (fun _ => 0))))]) rfl dX1_init_27 (fun H locs w => ?_)
  exact hend (fun k9 => match k9 with | 0 => q6 | 1 => q13 | _ => q20) _ _ _ _ dX1_init_30 w trivial
