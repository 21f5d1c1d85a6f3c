/-! the claim out of one walk of the law: its start -/
def R_law : String := "FruitHallsLaw"
def lw_P (b : Addr) (xs : List Int32) (args : Array Value) (s : State) : Prop := args = #[.ref b] ∧ s.IntsAt b xs ∧ xs.length ≤ 3072 ∧ (Jvm.Cond.and given_1 narrow_1).before args s = true
def lw_Q (_ : Array Value) (s : State) (o : Outcome) (t : State) : Prop := o = .returned (some (.int 1)) ∧ Framed s o t [] 1106 16523
def lw_Z (below : List Frame) (a : Array Value) (s : State) : State → Prop := fun t => ∃ o, t.status = .running ∧ Ended t below o ∧ lw_Q a s o t
/-- the law's own end, with 1 on the stack, nothing written that was there before, its room as the claim has it -/
theorem lw_ret {p : Program} {l : Launch} {e : Env} {s : State} {m : MethodId} {below : List Frame} {meth : Method} {c : Code} {b : Nat} (hx : p.tables.exec = Jvm.exec) (hb : c.code = code) (hr : meth.sig.returnType = ret) (hlocks : meth.locks = false) {pc : Nat} {H : Heap} {ls : Array Slot} (hdg : decode code pc = .ok (.ireturn, 1)) : W p l e room_1 s m #[Value.ref b] below meth c H [] 1106 16523 (lw_Z below #[Value.ref b] s) (F0 m pc ls [.int 1]) := by
  intro T hT X
  obtain ⟨fs, hret, hrun, hended, hW, hframe⟩ := X.leave (v := some (.int 1)) (hlocks := hlocks) (fun h => by rw [hr] at h; cases h)
  have hmeth' : T.vm.method? m = some meth := X.method'
  refine ⟨T.setFrames fs, ?_, .returned (some (.int 1)), hrun, hended, rfl, ⟨_, rfl⟩, hW, hframe⟩
  jvm_step X.here [X.here.top, hx, hb, hdg, hmeth', hr, ret, narrow_b1]
  (try refine ⟨rfl, ?_⟩); (try refine ⟨rfl, ?_⟩)
  first | (intro acts; rw [hret _ acts rfl rfl rfl]) | rw [hret _ _ rfl rfl rfl]
  exact Steps.refl _
/-- what holds at the law's entry: the machine, the code, the tables' words (any of lw_tbl by 'hts w (by decide +kernel)'), the script of L ints xs at the cell b, what the Statement gives of the start (any of its parts by flat_of_before) -/
def lw_At (p : Program) (s : State) (m : MethodId) (meth : Method) (c : Code) (b L : Nat) (xs : Nat → Int32) : Prop :=
  p.tables.exec = Jvm.exec ∧ c.code = code ∧ meth.sig.returnType = ret ∧ c.maxLocals = 8 ∧ s.vm.findClass R_law = some m.cls ∧ (∀ w ∈ lw_tbl, w.before #[Value.ref b] s = true) ∧ va_X b L xs s s.heap ∧ b < s.heap.size ∧ meth.locks = false ∧ (Jvm.Cond.and given_1 narrow_1).before #[Value.ref b] s = true
set_option maxHeartbeats 4000000 in
set_option maxRecDepth 100000 in
theorem whole_start {p : Program} {e : Env} {s : State} {m : MethodId} {below : List Frame} {meth : Method} {c : Code} (l : Launch) (hst9 : l.stackTraces = false) {b L : Nat} {xs : Nat → Int32} (hL : L ≤ 3072) (C0 : lw_At p s m meth c b L xs) : W p l e room_1 s m #[Value.ref b] below meth c s.heap [] 0 0 (lw_Z below #[Value.ref b] s) (entryFrame m ([Value.ref b] : List Value).toArray 8) := by
  obtain ⟨hx, hb, hr, hml, hown, hts, hX, hbl, hlocks, hgv⟩ := C0
  have hts1 : ∀ w ∈ tables_1, w.before #[Value.ref b] s = true := fun w h => hts w (List.mem_append_right _ h)
  have hts2 : ∀ w ∈ wAll, w.before #[Value.ref b] s = true := fun w h => hts w (List.mem_filter.mp h).1
  obtain ⟨D, cy, hK⟩ := start_K hts2
  obtain ⟨ad, hE⟩ := start_E hgv hts1
  have hT := start_T hgv hts1
  have hN := start_N hts1
  have C : cx p s m #[Value.ref b] meth c code 8 RL D cy := ⟨hx, hb, hml, hown, hts2, hK, hN⟩
  have hA : ∀ q, s.heap.size ≤ q → (fun q : Nat => s.heap.size ≤ q) q := fun _ h => h
  have hbA : ¬ (fun q : Nat => s.heap.size ≤ q) b := Nat.not_le.mpr hbl
  have w : wd D (fun q : Nat => s.heap.size ≤ q) s.heap [] s.heap [] := ⟨fun k q h => by simp at h, ⟨fun i j p q h => by simp at h, fun k q h => by simp at h⟩, va_S.rf⟩
  have hl := lv_entry ([.ref b]) (n := 8) (Nat.le_of_ble_eq_true rfl)
  rw [lg_entry_eq]
  generalize (lg_sl ([.ref b]) ++ List.replicate (8 - (lg_sl ([.ref b])).length) Slot.unset).toArray = ls at hl ⊢
  replace hl : lv_has ls 8 [(0, .ref b)] := hl
  refine r_newo C w hA tyX9 tyX9_ok inX9 kc_L_8 kn_X9 ki_X9 (ci := 9) rfl (fs := [.null, .null, .null, .null, .null, .null, .null, .null, .null, .null, vI 0, vI 0]) (fun j hj => match j, hj with | 0, _ => rfl | 1, _ => rfl | 2, _ => rfl | 3, _ => rfl | 4, _ => rfl | 5, _ => rfl | 6, _ => rfl | 7, _ => rfl | 8, _ => rfl | 9, _ => rfl | 10, _ => rfl | 11, _ => rfl | k9 + 12, h9 => absurd h9 (by omega)) (cells' := 1) (slots' := 12) ⟨rfl, rfl⟩ ⟨by decide, by decide⟩ dL_law_0 (fun q0 HA wA => ?_)
  refine lv_dup hx hb dL_law_3 rfl ?_
  refine dIV (X := []) (ws := [(q0, .inr (9, [.null, .null, .null, .null, .null, .null, .null, .null, .null, .null, vI 0, vI 0]))]) (Z := []) C wA hA (ct_X9_init l D cy q0) ok_X9_init km_L_22 ⟨rfl, rfl⟩ ⟨by decide, by decide⟩ ⟨by decide, by decide⟩ rfl hl.1 rfl (Nat.le_of_ble_eq_true rfl) dL_law_4 (fun a H locs w ha => ?_)
  refine W.widen (k := 45) (n := 4183) (by decide) (by decide) ?_
  rw [List.nil_append, List.append_nil] at w
  replace w : wd D (fun q : Nat => s.heap.size ≤ q) s.heap (xw cy a zI0 gXI) H locs := w
  replace ha : a 0 = q0 := ha
  subst ha
  refine lv_astore_n (lv' := [(1, .ref (a 0)), (0, .ref b)]) hx hb dL_law_7 rfl hl (by decide) rfl (fun ls hl => ?_)
  refine r_newo C w hA tyX10 tyX10_ok inX10 kc_L_23 kn_X10 ki_X10 (ci := 10) rfl (fs := [vI 0, .null, vI 0, vI 0, vI 0, .null, .null, .null, vI 0, vI 0, vI 0, vI 0, vI 0, vI 0, vL 0, .null, .null, .null, .null, .null, .null, .null, vI 0, vI 0, .null, .null, .null, .null, .null, .null, .null, .null, .null, .null, vI 0, .null, .null, .null, .null, .null, .null, .null, vI 0]) (fun j hj => match j, hj with | 0, _ => rfl | 1, _ => rfl | 2, _ => rfl | 3, _ => rfl | 4, _ => rfl | 5, _ => rfl | 6, _ => rfl | 7, _ => rfl | 8, _ => rfl | 9, _ => rfl | 10, _ => rfl | 11, _ => rfl | 12, _ => rfl | 13, _ => rfl | 14, _ => rfl | 15, _ => rfl | 16, _ => rfl | 17, _ => rfl | 18, _ => rfl | 19, _ => rfl | 20, _ => rfl | 21, _ => rfl | 22, _ => rfl | 23, _ => rfl | 24, _ => rfl | 25, _ => rfl | 26, _ => rfl | 27, _ => rfl | 28, _ => rfl | 29, _ => rfl | 30, _ => rfl | 31, _ => rfl | 32, _ => rfl | 33, _ => rfl | 34, _ => rfl | 35, _ => rfl | 36, _ => rfl | 37, _ => rfl | 38, _ => rfl | 39, _ => rfl | 40, _ => rfl | 41, _ => rfl | 42, _ => rfl | k9 + 43, h9 => absurd h9 (by omega)) (cells' := 46) (slots' := 4226) ⟨rfl, rfl⟩ ⟨by decide, by decide⟩ dL_law_8 (fun q1 HB wB => ?_)
  refine lv_dup hx hb dL_law_11 rfl ?_
  refine dIV (X := xw cy a zI0 gXI) (ws := [(q1, .inr (10, [vI 0, .null, vI 0, vI 0, vI 0, .null, .null, .null, vI 0, vI 0, vI 0, vI 0, vI 0, vI 0, vL 0, .null, .null, .null, .null, .null, .null, .null, vI 0, vI 0, .null, .null, .null, .null, .null, .null, .null, .null, .null, .null, vI 0, .null, .null, .null, .null, .null, .null, .null, vI 0]))]) (Z := []) C wB hA (ct_X10_init l D cy q1) ok_X10_init km_L_25 ⟨rfl, rfl⟩ ⟨by decide, by decide⟩ ⟨by decide, by decide⟩ rfl hl.1 rfl (Nat.le_of_ble_eq_true rfl) dL_law_12 (fun a2 H locs w ha => ?_)
  refine W.widen (k := 74) (n := 8288) (by decide) (by decide) ?_
  rw [List.append_nil] at w
  replace w : wd D (fun q : Nat => s.heap.size ≤ q) s.heap (xw cy a zI0 gXI ++ mw cy a2 zI0 gMI) H locs := w
  replace ha : a2 0 = q1 := ha
  subst ha
  refine lv_astore_n (lv' := [(2, .ref (a2 0)), (1, .ref (a 0)), (0, .ref b)]) hx hb dL_law_15 rfl hl (by decide) rfl (fun ls hl => ?_)
  refine r_iconst hx hb dL_law_16 ?_
  refine r_newa (atype := .long) (ty := .long) C w hA 1 rfl rfl (Or.inr (Or.inl rfl)) ka_long (N := 1) (a0 := (1, .inr (.inl (aL (fun _ => 0))))) (fun cA => ar_long cA 1) rfl (by decide) (by decide) (cells' := 75) (slots' := 8289) ⟨rfl, rfl⟩ ⟨by decide, by decide⟩ dL_law_17 (fun q2 H w => ?_)
  refine lv_astore_n (lv' := [(3, .ref q2), (2, .ref (a2 0)), (1, .ref (a 0)), (0, .ref b)]) hx hb dL_law_19 rfl hl (by decide) rfl (fun ls hl => ?_)
  refine r_iconst hx hb dL_law_20 ?_
  refine lv_istore (lv' := [(4, vI 0), (3, .ref q2), (2, .ref (a2 0)), (1, .ref (a 0)), (0, .ref b)]) hx hb dL_law_21 hl (by decide) rfl (fun ls hl => ?_)
  have w9 : wd D (fun q : Nat => s.heap.size ≤ q) s.heap (LW cy a a2 q2 zI0 gXI (fun _ => 0) zI0 gMI) H locs := wd_perm w [0, 1, 2, 3, 4, 5, 6, 7, 8, 9, 10, 11, 12, 13, 14, 15, 16, 17, 18, 19, 20, 21, 22, 23, 24, 25, 26, 27, 28, 29, 30, 31, 32, 33, 34, 35, 36, 37, 38, 39, 40, 41, 42, 43, 44, 74, 45, 46, 47, 48, 49, 50, 51, 52, 53, 54, 55, 56, 57, 58, 59, 60, 61, 62, 63, 64, 65, 66, 67, 68, 69, 70, 71, 72, 73] (by decide) rfl rfl
  refine W.widen (k := 75 + 0) (n := 8289 + 6 * 0) (by decide) (by decide) ?_
  refine law_loop (A := (fun q : Nat => s.heap.size ≤ q)) ⟨C, hst9, hX, hbl, hbA, hA, hE, hT, hL⟩ ?_ 513 0 0 zI0 gXI (fun _ => 0) zI0 gMI _ _ _ (by omega) (by omega) (by omega) start_R w9 (lv_sub hl [4, 3, 2, 1, 0] rfl)
  intro H locs ls t ht hS
  refine lv_iconst (v := 1) hx hb dL_law_1003 (by decide) ?_
  refine va_forget (fun q hq => hS.2.2 q hq) ?_
  refine W.widen (k := 1106) (n := 16523) (by omega) (by omega) ?_
  exact lw_ret hx hb hr hlocks dL_law_1004
