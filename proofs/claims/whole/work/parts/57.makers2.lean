abbrev rm_X3_init : Room := { frames := 1, cells := 2, slots := 16, locals := 20 }
set_option maxHeartbeats 2000000 in
set_option maxRecDepth 100000 in
theorem ct_X3_init (l : Launch) (D : va_G) (cy : Nat → ClassId) (b r1 r2 r3 : Nat) : MV l yX3_init cX3_init 4 (rm_X3_init) D cy [(b, .inr (3, [.null, .null, .null, .null, .null]))] [.ref b, .ref r1, .ref r2, .ref r3] (fun (u : Nat → Nat) => True) (fun (u : Nat → Nat) => [(b, .inr (3, [.ref r1, .ref r2, .ref r3, .ref (u 0), .ref (u 1)])), ((u 0), .inl (cy 1, 8, .inr (.inl (aL (fun _ => 0))))), ((u 1), .inl (cy 1, 8, .inr (.inl (aL (fun _ => 0)))))]) 2 16 := by
  refine go_v (by decide +kernel) (Nat.le_of_ble_eq_true rfl) ?_
  intro p e s m args below meth c Q A ls C hnm hA w hl hend
  have hx := C.1
  have hb := C.2.1
  replace hl : lv_has ls 4 [(0, .ref b), (1, .ref r1), (2, .ref r2), (3, .ref r3)] := hl
  refine lv_aload_n hx hb dX3_init_0 rfl (lv_at hl 0 rfl) ?_
  refine r_oinit C km_X3_3 hl.1 (Nat.le_of_ble_eq_true rfl) ⟨by decide, by decide⟩ dX3_init_1 ?_
  refine lv_aload_n hx hb dX3_init_4 rfl (lv_at hl 0 rfl) ?_
  refine r_bipush hx hb dX3_init_5 (by decide) ?_
  refine r_newa (atype := .long) (ty := .long) C w hA 1 rfl rfl (Or.inr (Or.inl rfl)) ka_long (N := 8) (a0 := (8, .inr (.inl (aL (fun _ => 0))))) (fun cA => ar_long cA 8) rfl (by decide) (by decide) (cells' := 1) (slots' := 8) ⟨rfl, rfl⟩ ⟨by decide, by decide⟩ dX3_init_7 (fun q7 H w => ?_)
  replace w : wd D A s.heap [(b, .inr (3, [.null, .null, .null, .null, .null])), (q7, .inl (cy 1, 8, .inr (.inl (aL (fun _ => 0)))))] H _ := w
  refine r_putF C hnm w 0 tyX3 tyX3_ok nmX3 rfl rfl 3 (by decide) inX3 kf_X3_9 rfl rfl rfl rfl (Nat.le_of_ble_eq_true rfl) (ws' := [(b, .inr (3, [.null, .null, .null, .ref q7, .null])), (q7, .inl (cy 1, 8, .inr (.inl (aL (fun _ => 0)))))]) rfl dX3_init_9 (fun H locs w => ?_)
  refine lv_aload_n hx hb dX3_init_12 rfl (lv_at hl 0 rfl) ?_
  refine r_bipush hx hb dX3_init_13 (by decide) ?_
  refine r_newa (atype := .long) (ty := .long) C w hA 1 rfl rfl (Or.inr (Or.inl rfl)) ka_long (N := 8) (a0 := (8, .inr (.inl (aL (fun _ => 0))))) (fun cA => ar_long cA 8) rfl (by decide) (by decide) (cells' := 2) (slots' := 16) ⟨rfl, rfl⟩ ⟨by decide, by decide⟩ dX3_init_15 (fun q15 H w => ?_)
  replace w : wd D A s.heap [(b, .inr (3, [.null, .null, .null, .ref q7, .null])), (q7, .inl (cy 1, 8, .inr (.inl (aL (fun _ => 0))))), (q15, .inl (cy 1, 8, .inr (.inl (aL (fun _ => 0)))))] H _ := w
  refine r_putF C hnm w 0 tyX3 tyX3_ok nmX3 rfl rfl 4 (by decide) inX3 kf_X3_15 rfl rfl rfl rfl (Nat.le_of_ble_eq_true rfl) (ws' := [(b, .inr (3, [.null, .null, .null, .ref q7, .ref q15])), (q7, .inl (cy 1, 8, .inr (.inl (aL (fun _ => 0))))), (q15, .inl (cy 1, 8, .inr (.inl (aL (fun _ => 0)))))]) rfl dX3_init_17 (fun H locs w => ?_)
  refine lv_aload_n hx hb dX3_init_20 rfl (lv_at hl 0 rfl) ?_
  refine lv_aload_n hx hb dX3_init_21 rfl (lv_at hl 1 rfl) ?_
  refine r_putF C hnm w 0 tyX3 tyX3_ok nmX3 rfl rfl 0 (by decide) inX3 kf_X3_18 rfl rfl rfl rfl (Nat.le_of_ble_eq_true rfl) (ws' := [(b, .inr (3, [.ref r1, .null, .null, .ref q7, .ref q15])), (q7, .inl (cy 1, 8, .inr (.inl (aL (fun _ => 0))))), (q15, .inl (cy 1, 8, .inr (.inl (aL (fun _ => 0)))))]) rfl dX3_init_22 (fun H locs w => ?_)
  refine lv_aload_n hx hb dX3_init_25 rfl (lv_at hl 0 rfl) ?_
  refine lv_aload_n hx hb dX3_init_26 rfl (lv_at hl 2 rfl) ?_
  refine r_putF C hnm w 0 tyX3 tyX3_ok nmX3 rfl rfl 1 (by decide) inX3 kf_X3_22 rfl rfl rfl rfl (Nat.le_of_ble_eq_true rfl) (ws' := [(b, .inr (3, [.ref r1, .ref r2, .null, .ref q7, .ref q15])), (q7, .inl (cy 1, 8, .inr (.inl (aL (fun _ => 0))))), (q15, .inl (cy 1, 8, .inr (.inl (aL (fun _ => 0)))))]) rfl dX3_init_27 (fun H locs w => ?_)
  refine lv_aload_n hx hb dX3_init_30 rfl (lv_at hl 0 rfl) ?_
  refine lv_aload_n hx hb dX3_init_31 rfl (lv_at hl 3 rfl) ?_
  refine r_putF C hnm w 0 tyX3 tyX3_ok nmX3 rfl rfl 2 (by decide) inX3 kf_X3_26 rfl rfl rfl rfl (Nat.le_of_ble_eq_true rfl) (ws' := [(b, .inr (3, [.ref r1, .ref r2, .ref r3, .ref q7, .ref q15])), (q7, .inl (cy 1, 8, .inr (.inl (aL (fun _ => 0))))), (q15, .inl (cy 1, 8, .inr (.inl (aL (fun _ => 0)))))]) rfl dX3_init_32 (fun H locs w => ?_)
  exact hend (fun k9 => match k9 with | 0 => q7 | _ => q15) _ _ _ _ dX3_init_35 w trivial
abbrev rm_X4_init : Room := { frames := 1, cells := 3, slots := 12, locals := 20 }
set_option maxHeartbeats 2000000 in
set_option maxRecDepth 100000 in
theorem ct_X4_init (l : Launch) (D : va_G) (cy : Nat → ClassId) (b r1 r2 : Nat) : MV l yX4_init cX4_init 3 (rm_X4_init) D cy [(b, .inr (4, [.null, .null, .null, .null, .null, vL 0, vL 0]))] [.ref b, .ref r1, .ref r2] (fun (u : Nat → Nat) => True) (fun (u : Nat → Nat) => [(b, .inr (4, [.ref r1, .ref r2, .ref (u 0), .ref (u 1), .ref (u 2), vL 0, vL 0])), ((u 0), .inl (cy 1, 4, .inr (.inl (aL (fun _ => 0))))), ((u 1), .inl (cy 1, 4, .inr (.inl (aL (fun _ => 0))))), ((u 2), .inl (cy 1, 4, .inr (.inl (aL (fun _ => 0)))))]) 3 12 := by
  refine go_v (by decide +kernel) (Nat.le_of_ble_eq_true rfl) ?_
  intro p e s m args below meth c Q A ls C hnm hA w hl hend
  have hx := C.1
  have hb := C.2.1
  replace hl : lv_has ls 3 [(0, .ref b), (1, .ref r1), (2, .ref r2)] := hl
  refine lv_aload_n hx hb dX4_init_0 rfl (lv_at hl 0 rfl) ?_
  refine r_oinit C km_X4_3 hl.1 (Nat.le_of_ble_eq_true rfl) ⟨by decide, by decide⟩ dX4_init_1 ?_
  refine lv_aload_n hx hb dX4_init_4 rfl (lv_at hl 0 rfl) ?_
  refine r_iconst hx hb dX4_init_5 ?_
  refine r_newa (atype := .long) (ty := .long) C w hA 1 rfl rfl (Or.inr (Or.inl rfl)) ka_long (N := 4) (a0 := (4, .inr (.inl (aL (fun _ => 0))))) (fun cA => ar_long cA 4) rfl (by decide) (by decide) (cells' := 1) (slots' := 4) ⟨rfl, rfl⟩ ⟨by decide, by decide⟩ dX4_init_6 (fun q6 H w => ?_)
  replace w : wd D A s.heap [(b, .inr (4, [.null, .null, .null, .null, .null, vL 0, vL 0])), (q6, .inl (cy 1, 4, .inr (.inl (aL (fun _ => 0)))))] H _ := w
  refine r_putF C hnm w 0 tyX4 tyX4_ok nmX4 rfl rfl 2 (by decide) inX4 kf_X4_9 rfl rfl rfl rfl (Nat.le_of_ble_eq_true rfl) (ws' := [(b, .inr (4, [.null, .null, .ref q6, .null, .null, vL 0, vL 0])), (q6, .inl (cy 1, 4, .inr (.inl (aL (fun _ => 0)))))]) rfl dX4_init_8 (fun H locs w => ?_)
  refine lv_aload_n hx hb dX4_init_11 rfl (lv_at hl 0 rfl) ?_
  refine r_iconst hx hb dX4_init_12 ?_
  refine r_newa (atype := .long) (ty := .long) C w hA 1 rfl rfl (Or.inr (Or.inl rfl)) ka_long (N := 4) (a0 := (4, .inr (.inl (aL (fun _ => 0))))) (fun cA => ar_long cA 4) rfl (by decide) (by decide) (cells' := 2) (slots' := 8) ⟨rfl, rfl⟩ ⟨by decide, by decide⟩ dX4_init_13 (fun q13 H w => ?_)
  replace w : wd D A s.heap [(b, .inr (4, [.null, .null, .ref q6, .null, .null, vL 0, vL 0])), (q6, .inl (cy 1, 4, .inr (.inl (aL (fun _ => 0))))), (q13, .inl (cy 1, 4, .inr (.inl (aL (fun _ => 0)))))] H _ := w
  refine r_putF C hnm w 0 tyX4 tyX4_ok nmX4 rfl rfl 3 (by decide) inX4 kf_X4_15 rfl rfl rfl rfl (Nat.le_of_ble_eq_true rfl) (ws' := [(b, .inr (4, [.null, .null, .ref q6, .ref q13, .null, vL 0, vL 0])), (q6, .inl (cy 1, 4, .inr (.inl (aL (fun _ => 0))))), (q13, .inl (cy 1, 4, .inr (.inl (aL (fun _ => 0)))))]) rfl dX4_init_15 (fun H locs w => ?_)
  refine lv_aload_n hx hb dX4_init_18 rfl (lv_at hl 0 rfl) ?_
  refine r_iconst hx hb dX4_init_19 ?_
  refine r_newa (atype := .long) (ty := .long) C w hA 1 rfl rfl (Or.inr (Or.inl rfl)) ka_long (N := 4) (a0 := (4, .inr (.inl (aL (fun _ => 0))))) (fun cA => ar_long cA 4) rfl (by decide) (by decide) (cells' := 3) (slots' := 12) ⟨rfl, rfl⟩ ⟨by decide, by decide⟩ dX4_init_20 (fun q20 H w => ?_)
  replace w : wd D A s.heap [(b, .inr (4, [.null, .null, .ref q6, .ref q13, .null, vL 0, vL 0])), (q6, .inl (cy 1, 4, .inr (.inl (aL (fun _ => 0))))), (q13, .inl (cy 1, 4, .inr (.inl (aL (fun _ => 0))))), (q20, .inl (cy 1, 4, .inr (.inl (aL (fun _ => 0)))))] H _ := w
  refine r_putF C hnm w 0 tyX4 tyX4_ok nmX4 rfl rfl 4 (by decide) inX4 kf_X4_18 rfl rfl rfl rfl (Nat.le_of_ble_eq_true rfl) (ws' := [(b, .inr (4, [.null, .null, .ref q6, .ref q13, .ref q20, vL 0, vL 0])), (q6, .inl (cy 1, 4, .inr (.inl (aL (fun _ => 0))))), (q13, .inl (cy 1, 4, .inr (.inl (aL (fun _ => 0))))), (q20, .inl (cy 1, 4, .inr (.inl (aL (fun _ => 0)))))]) rfl dX4_init_22 (fun H locs w => ?_)
  refine lv_aload_n hx hb dX4_init_25 rfl (lv_at hl 0 rfl) ?_
  refine lv_aload_n hx hb dX4_init_26 rfl (lv_at hl 1 rfl) ?_
  refine r_putF C hnm w 0 tyX4 tyX4_ok nmX4 rfl rfl 0 (by decide) inX4 kf_X4_21 rfl rfl rfl rfl (Nat.le_of_ble_eq_true rfl) (ws' := [(b, .inr (4, [.ref r1, .null, .ref q6, .ref q13, .ref q20, vL 0, vL 0])), (q6, .inl (cy 1, 4, .inr (.inl (aL (fun _ => 0))))), (q13, .inl (cy 1, 4, .inr (.inl (aL (fun _ => 0))))), (q20, .inl (cy 1, 4, .inr (.inl (aL (fun _ => 0)))))]) rfl dX4_init_27 (fun H locs w => ?_)
  refine lv_aload_n hx hb dX4_init_30 rfl (lv_at hl 0 rfl) ?_
  refine lv_aload_n hx hb dX4_init_31 rfl (lv_at hl 2 rfl) ?_
  refine r_putF C hnm w 0 tyX4 tyX4_ok nmX4 rfl rfl 1 (by decide) inX4 kf_X4_25 rfl rfl rfl rfl (Nat.le_of_ble_eq_true rfl) (ws' := [(b, .inr (4, [.ref r1, .ref r2, .ref q6, .ref q13, .ref q20, vL 0, vL 0])), (q6, .inl (cy 1, 4, .inr (.inl (aL (fun _ => 0))))), (q13, .inl (cy 1, 4, .inr (.inl (aL (fun _ => 0))))), (q20, .inl (cy 1, 4, .inr (.inl (aL (fun _ => 0)))))]) rfl dX4_init_32 (fun H locs w => ?_)
  exact hend (fun k9 => match k9 with | 0 => q6 | 1 => q13 | _ => q20) _ _ _ _ dX4_init_35 w trivial
abbrev rm_X5_init : Room := { frames := 2, cells := 5, slots := 21, locals := 41 }
set_option maxHeartbeats 2000000 in
set_option maxRecDepth 100000 in
theorem ct_X5_init (l : Launch) (D : va_G) (cy : Nat → ClassId) (b r1 : Nat) : MV l yX5_init cX5_init 2 (rm_X5_init) D cy [(b, .inr (5, [.null, .null, .null, .null, vI 0, vI 0, vI 0, vI 0, vI 0, vI 0, vI 0]))] [.ref b, .ref r1] (fun (u : Nat → Nat) => True) (fun (u : Nat → Nat) => [(b, .inr (5, [.ref r1, .ref (u 0), .ref (u 3), .ref (u 4), vI 0, vI 0, vI 0, vI 0, vI 0, vI 0, vI 0])), ((u 0), .inr (6, [.ref (u 1), .ref (u 2), vI 0, vI 0, vI 0])), ((u 1), .inl (cy 0, 4, .inl (aI (uI (uI (uI (uI (fun _ => 0) 0 0) (0 + 1) 0) (0 + 1 + 1) 0) (0 + 1 + 1 + 1) 0)))), ((u 2), .inl (cy 0, 4, .inl (aI (uI (uI (uI (uI (fun _ => 0) 0 1) (0 + 1) 1) (0 + 1 + 1) 1) (0 + 1 + 1 + 1) 1)))), ((u 3), .inl (cy 2, 4, .inl (aI (fun _ => 0)))), ((u 4), .inl (cy 2, 4, .inl (aI (fun _ => 0))))]) 5 21 := by
  refine go_v (by decide +kernel) (Nat.le_of_ble_eq_true rfl) ?_
  intro p e s m args below meth c Q A ls C hnm hA w hl hend
  have hx := C.1
  have hb := C.2.1
  replace hl : lv_has ls 2 [(0, .ref b), (1, .ref r1)] := hl
  refine lv_aload_n hx hb dX5_init_0 rfl (lv_at hl 0 rfl) ?_
  refine r_oinit C km_X5_3 hl.1 (Nat.le_of_ble_eq_true rfl) ⟨by decide, by decide⟩ dX5_init_1 ?_
  refine lv_aload_n hx hb dX5_init_4 rfl (lv_at hl 0 rfl) ?_
  refine r_newo C w hA tyX6 tyX6_ok inX6 kc_X5_9 kn_X6 ki_X6 (ci := 6) rfl (fs := [.null, .null, vI 0, vI 0, vI 0]) (fun j hj => match j, hj with | 0, _ => rfl | 1, _ => rfl | 2, _ => rfl | 3, _ => rfl | 4, _ => rfl | k9 + 5, h9 => absurd h9 (by omega)) (cells' := 1) (slots' := 5) ⟨rfl, rfl⟩ ⟨by decide, by decide⟩ dX5_init_5 (fun q5 H w => ?_)
  replace w : wd D A s.heap [(b, .inr (5, [.null, .null, .null, .null, vI 0, vI 0, vI 0, vI 0, vI 0, vI 0, vI 0])), (q5, .inr (6, [.null, .null, vI 0, vI 0, vI 0]))] H _ := w
  refine lv_dup hx hb dX5_init_8 rfl ?_
  refine dIV (X := [(b, .inr (5, [.null, .null, .null, .null, vI 0, vI 0, vI 0, vI 0, vI 0, vI 0, vI 0]))]) (ws := [(q5, .inr (6, [.null, .null, vI 0, vI 0, vI 0]))]) (Z := []) C w hA (ct_X6_init l D cy q5) ok_X6_init km_X5_11 ⟨rfl, rfl⟩ ⟨by decide, by decide⟩ ⟨by decide, by decide⟩ rfl hl.1 rfl (Nat.le_of_ble_eq_true rfl) dX5_init_9 (fun u9 H locs w _ => ?_)
  refine W.widen (k := 3) (n := 13) (by decide) (by decide) ?_
  replace w : wd D A s.heap [(b, .inr (5, [.null, .null, .null, .null, vI 0, vI 0, vI 0, vI 0, vI 0, vI 0, vI 0])), (q5, .inr (6, [.ref (u9 0), .ref (u9 1), vI 0, vI 0, vI 0])), ((u9 0), .inl (cy 0, 4, .inl (aI (uI (uI (uI (uI (fun _ => 0) 0 0) (0 + 1) 0) (0 + 1 + 1) 0) (0 + 1 + 1 + 1) 0)))), ((u9 1), .inl (cy 0, 4, .inl (aI (uI (uI (uI (uI (fun _ => 0) 0 1) (0 + 1) 1) (0 + 1 + 1) 1) (0 + 1 + 1 + 1) 1))))] H locs := w
  refine r_putF C hnm w 0 tyX5 tyX5_ok nmX5 rfl rfl 1 (by decide) inX5 kf_X5_12 rfl rfl rfl rfl (Nat.le_of_ble_eq_true rfl) (ws' := [(b, .inr (5, [.null, .ref q5, .null, .null, vI 0, vI 0, vI 0, vI 0, vI 0, vI 0, vI 0])), (q5, .inr (6, [.ref (u9 0), .ref (u9 1), vI 0, vI 0, vI 0])), ((u9 0), .inl (cy 0, 4, .inl (aI (uI (uI (uI (uI (fun _ => 0) 0 0) (0 + 1) 0) (0 + 1 + 1) 0) (0 + 1 + 1 + 1) 0)))), ((u9 1), .inl (cy 0, 4, .inl (aI (uI (uI (uI (uI (fun _ => 0) 0 1) (0 + 1) 1) (0 + 1 + 1) 1) (0 + 1 + 1 + 1) 1))))]) rfl dX5_init_12 (fun H locs w => ?_)
  refine lv_aload_n hx hb dX5_init_15 rfl (lv_at hl 0 rfl) ?_
  refine r_iconst hx hb dX5_init_16 ?_
  refine r_newa (atype := .boolean) (ty := .boolean) C w hA 2 rfl rfl (Or.inr (Or.inr (Or.inl rfl))) ka_boolean (N := 4) (a0 := (4, .inl (aI (fun _ => 0)))) (fun cA => ar_boolean cA 4) rfl (by decide) (by decide) (cells' := 4) (slots' := 17) ⟨rfl, rfl⟩ ⟨by decide, by decide⟩ dX5_init_17 (fun q17 H w => ?_)
  replace w : wd D A s.heap [(b, .inr (5, [.null, .ref q5, .null, .null, vI 0, vI 0, vI 0, vI 0, vI 0, vI 0, vI 0])), (q5, .inr (6, [.ref (u9 0), .ref (u9 1), vI 0, vI 0, vI 0])), ((u9 0), .inl (cy 0, 4, .inl (aI (uI (uI (uI (uI (fun _ => 0) 0 0) (0 + 1) 0) (0 + 1 + 1) 0) (0 + 1 + 1 + 1) 0)))), ((u9 1), .inl (cy 0, 4, .inl (aI (uI (uI (uI (uI (fun _ => 0) 0 1) (0 + 1) 1) (0 + 1 + 1) 1) (0 + 1 + 1 + 1) 1)))), (q17, .inl (cy 2, 4, .inl (aI (fun _ => 0))))] H _ := w
  refine r_putF C hnm w 0 tyX5 tyX5_ok nmX5 rfl rfl 2 (by decide) inX5 kf_X5_18 rfl rfl rfl rfl (Nat.le_of_ble_eq_true rfl) (ws' := [(b, .inr (5, [.null, .ref q5, .ref q17, .null, vI 0, vI 0, vI 0, vI 0, vI 0, vI 0, vI 0])), (q5, .inr (6, [.ref (u9 0), .ref (u9 1), vI 0, vI 0, vI 0])), ((u9 0), .inl (cy 0, 4, .inl (aI (uI (uI (uI (uI (fun _ => 0) 0 0) (0 + 1) 0) (0 + 1 + 1) 0) (0 + 1 + 1 + 1) 0)))), ((u9 1), .inl (cy 0, 4, .inl (aI (uI (uI (uI (uI (fun _ => 0) 0 1) (0 + 1) 1) (0 + 1 + 1) 1) (0 + 1 + 1 + 1) 1)))), (q17, .inl (cy 2, 4, .inl (aI (fun _ => 0))))]) rfl dX5_init_19 (fun H locs w => ?_)
  refine lv_aload_n hx hb dX5_init_22 rfl (lv_at hl 0 rfl) ?_
  refine r_iconst hx hb dX5_init_23 ?_
  refine r_newa (atype := .boolean) (ty := .boolean) C w hA 2 rfl rfl (Or.inr (Or.inr (Or.inl rfl))) ka_boolean (N := 4) (a0 := (4, .inl (aI (fun _ => 0)))) (fun cA => ar_boolean cA 4) rfl (by decide) (by decide) (cells' := 5) (slots' := 21) ⟨rfl, rfl⟩ ⟨by decide, by decide⟩ dX5_init_24 (fun q24 H w => ?_)
  replace w : wd D A s.heap [(b, .inr (5, [.null, .ref q5, .ref q17, .null, vI 0, vI 0, vI 0, vI 0, vI 0, vI 0, vI 0])), (q5, .inr (6, [.ref (u9 0), .ref (u9 1), vI 0, vI 0, vI 0])), ((u9 0), .inl (cy 0, 4, .inl (aI (uI (uI (uI (uI (fun _ => 0) 0 0) (0 + 1) 0) (0 + 1 + 1) 0) (0 + 1 + 1 + 1) 0)))), ((u9 1), .inl (cy 0, 4, .inl (aI (uI (uI (uI (uI (fun _ => 0) 0 1) (0 + 1) 1) (0 + 1 + 1) 1) (0 + 1 + 1 + 1) 1)))), (q17, .inl (cy 2, 4, .inl (aI (fun _ => 0)))), (q24, .inl (cy 2, 4, .inl (aI (fun _ => 0))))] H _ := w
  refine r_putF C hnm w 0 tyX5 tyX5_ok nmX5 rfl rfl 3 (by decide) inX5 kf_X5_22 rfl rfl rfl rfl (Nat.le_of_ble_eq_true rfl) (ws' := [(b, .inr (5, [.null, .ref q5, .ref q17, .ref q24, vI 0, vI 0, vI 0, vI 0, vI 0, vI 0, vI 0])), (q5, .inr (6, [.ref (u9 0), .ref (u9 1), vI 0, vI 0, vI 0])), ((u9 0), .inl (cy 0, 4, .inl (aI (uI (uI (uI (uI (fun _ => 0) 0 0) (0 + 1) 0) (0 + 1 + 1) 0) (0 + 1 + 1 + 1) 0)))), ((u9 1), .inl (cy 0, 4, .inl (aI (uI (uI (uI (uI (fun _ => 0) 0 1) (0 + 1) 1) (0 + 1 + 1) 1) (0 + 1 + 1 + 1) 1)))), (q17, .inl (cy 2, 4, .inl (aI (fun _ => 0)))), (q24, .inl (cy 2, 4, .inl (aI (fun _ => 0))))]) rfl dX5_init_26 (fun H locs w => ?_)
  refine lv_aload_n hx hb dX5_init_29 rfl (lv_at hl 0 rfl) ?_
  refine lv_aload_n hx hb dX5_init_30 rfl (lv_at hl 1 rfl) ?_
  refine r_putF C hnm w 0 tyX5 tyX5_ok nmX5 rfl rfl 0 (by decide) inX5 kf_X5_25 rfl rfl rfl rfl (Nat.le_of_ble_eq_true rfl) (ws' := [(b, .inr (5, [.ref r1, .ref q5, .ref q17, .ref q24, vI 0, vI 0, vI 0, vI 0, vI 0, vI 0, vI 0])), (q5, .inr (6, [.ref (u9 0), .ref (u9 1), vI 0, vI 0, vI 0])), ((u9 0), .inl (cy 0, 4, .inl (aI (uI (uI (uI (uI (fun _ => 0) 0 0) (0 + 1) 0) (0 + 1 + 1) 0) (0 + 1 + 1 + 1) 0)))), ((u9 1), .inl (cy 0, 4, .inl (aI (uI (uI (uI (uI (fun _ => 0) 0 1) (0 + 1) 1) (0 + 1 + 1) 1) (0 + 1 + 1 + 1) 1)))), (q17, .inl (cy 2, 4, .inl (aI (fun _ => 0)))), (q24, .inl (cy 2, 4, .inl (aI (fun _ => 0))))]) rfl dX5_init_31 (fun H locs w => ?_)
  exact hend (fun k9 => match k9 with | 0 => q5 | 1 => (u9 0) | 2 => (u9 1) | 3 => q17 | _ => q24) _ _ _ _ dX5_init_34 w trivial
