/-! what a method that throws wants of the start; its contracts -/
abbrev exN : String := "java/util/NoSuchElementException"
abbrev exS : List String := ["java/lang/RuntimeException", "java/lang/Exception"]
abbrev exX : List Cond := vx_atX RX9 176 exN 13 prog_20_method_4_code exS
abbrev exI (c : String) : Cond := .declares ⟨c, "<init>", "(Ljava/lang/String;)V"⟩
set_option maxRecDepth 20000 in
theorem exX_a : (exX.filter goodWord).all (fun w => decide (w ∈ lw_tbl)) = true := by decide +kernel
set_option maxRecDepth 20000 in
theorem exX_n : exX.filter (fun w => !goodWord w) = [exI "java/lang/RuntimeException", exI "java/lang/Exception", exI "java/lang/Throwable", .castable exN exN] := by decide +kernel
set_option maxRecDepth 20000 in
theorem exX_o : (Cond.classLink RX9 172 exN :: Cond.initialized exN :: exX).all vx_ot = true := by decide +kernel
theorem ex0 : decode prog_20_method_4_code 0 = .ok (.aload_n 0, 1) := by decide +kernel
theorem ex1 : decode prog_20_method_4_code 1 = .ok (.aload_n 1, 1) := by decide +kernel
theorem ex2 : decode prog_20_method_4_code 2 = .ok (.invokespecial 13, 3) := by decide +kernel
theorem ex5 : decode prog_20_method_4_code 5 = .ok (.return_, 1) := by decide +kernel
set_option maxRecDepth 20000 in
theorem ki_ex : Cond.initialized exN ∈ wAll := wAll_t (i := 20) rfl rfl
def xT (A : Nat → Prop) (U : State) (H : Heap) : Prop := va_Nw (exI "java/lang/RuntimeException") U ∧ va_Nw (exI "java/lang/Exception") U ∧ va_Nw (exI "java/lang/Throwable") U ∧ va_Nw (.castable exN exN) U ∧ vx_Zq _root_.Jvm.Bundle.tN "UNASSIGNED_STACK" _root_.Jvm.Bundle.steD A U H ∧ vx_Zq _root_.Jvm.Bundle.tN "SUPPRESSED_SENTINEL" _root_.Jvm.Bundle.listD A U H
theorem xT_d {c : String} {s U : State} (hW : s.WarmedH U.vm) (h : va_Nw (exI c) s) : va_Nw (exI c) U := va_tabs rfl (rfl : (s.setVm U.vm).vm = U.vm) (by rw [Cond.declares_setVm hW.alike]; exact h)
theorem xT_call {A B : Nat → Prop} {s U : State} {H : Heap} {locs : List Loc} (h : xT A s s.heap) (hS : va_S A s.heap H locs) (hB : ∀ q, B q → A q) (hU : U.heap = H) (hW : s.WarmedH U.vm) : xT B U U.heap := by
  rw [hU]
  exact ⟨xT_d hW h.1, xT_d hW h.2.1, xT_d hW h.2.2.1, va_Nw.warmC hW h.2.2.2.1, vx_Zq.moved hW.alike ((h.2.2.2.2.1.kept hS.2.1).narrow hB), vx_Zq.moved hW.alike ((h.2.2.2.2.2.kept hS.2.1).narrow hB)⟩
def gPcF (D : va_G) (cy : Nat → ClassId) (ad : Nat → Nat) (w0 : va_W) (sz : Nat) (av : List Value) : Array Value → State → Prop :=
  va_Pc av (fun U => U.heap.size = sz ∧ va_P D vwCl w0 U.heap ∧ kx D cy U ∧ va_D (fun _ => True) w0 ∧ xN U ∧ xE ad (va_A w0 sz) U U.heap ∧ xT (va_A w0 sz) U U.heap)
theorem xE_same {ad : Nat → Nat} {A : Nat → Prop} {U : State} {g : JFrame} {mk : MethodId} {a : Array Value} (h : xE ad A U U.heap) : xE ad A (U.calling g mk a) (U.calling g mk a).heap := ⟨vk_S.moved (u := U) (U := U.calling g mk a) (Vm.Alike.refl U.vm) h.1, va_Z.moved (u := U) (U := U.calling g mk a) (Vm.Alike.refl U.vm) h.2.1, va_Zq.moved (u := U) (U := U.calling g mk a) (Vm.Alike.refl U.vm) h.2.2.1, fun i hi => vk_R.same (u := U) (U := U.calling g mk a) rfl (h.2.2.2.1 i hi), fun i hi => vk_R.same (u := U) (U := U.calling g mk a) rfl (h.2.2.2.2 i hi)⟩
theorem xT_same {A : Nat → Prop} {U : State} {g : JFrame} {mk : MethodId} {a : Array Value} (h : xT A U U.heap) : xT A (U.calling g mk a) (U.calling g mk a).heap := ⟨va_Nw.same rfl (u := U) (U := U.calling g mk a) rfl h.1, va_Nw.same rfl (u := U) (U := U.calling g mk a) rfl h.2.1, va_Nw.same rfl (u := U) (U := U.calling g mk a) rfl h.2.2.1, va_Nw.same rfl (u := U) (U := U.calling g mk a) rfl h.2.2.2.1, vx_Zq.moved (u := U) (U := U.calling g mk a) (Vm.Alike.refl U.vm) h.2.2.2.2.1, vx_Zq.moved (u := U) (U := U.calling g mk a) (Vm.Alike.refl U.vm) h.2.2.2.2.2⟩
theorem gPcF_blind {D : va_G} {cy : Nat → ClassId} {ad : Nat → Nat} {w0 : va_W} {sz : Nat} {av : List Value} : FrameBlind (gPcF D cy ad w0 sz av) := by
  intro a U g mk q
  obtain ⟨q0, q1, qP, qK, qD, qN, qE, qT⟩ := q
  exact ⟨q0, q1, qP, va_K.moved (u := U) (U := U.calling g mk a) (Vm.Alike.refl U.vm) qK, qD, xN_same (u := U) (U := U.calling g mk a) rfl qN, xE_same qE, xT_same qT⟩
abbrev gBX {S : Type} (D : va_G) (cy : Nat → ClassId) (w0 : va_W) (sz : Nat) (w1 : S → va_W) : String → S → State → Prop := fun E u t => E = exN ∧ gB D cy w0 sz w1 u t
def MIX (l : Launch) (y : MethodName) (cc : ByteArray) (n : Nat) (rm : Room) (D : va_G) (cy : Nat → ClassId) (ad : Nat → Nat) (w0 : va_W) (av : List Value) {S : Type} (post : Int → S → Prop) (px : S → Prop) (w1 : S → va_W) (mc ms : Nat) : Prop :=
  ∀ sz : Nat, vx_Met l y (.code y cc n (some .int) :: wAll) rm (gPcF D cy ad w0 sz av) (va_Qi (fun r u => ∃ v : Int, r = iI v ∧ post v u) (gB D cy w0 sz w1) (va_A w0 sz)) (vx_X px (gBX D cy w0 sz w1) (va_A w0 sz)) mc ms (va_A w0 sz)
def MLX (l : Launch) (y : MethodName) (cc : ByteArray) (n : Nat) (rm : Room) (D : va_G) (cy : Nat → ClassId) (ad : Nat → Nat) (w0 : va_W) (av : List Value) {S : Type} (post : Int → S → Prop) (px : S → Prop) (w1 : S → va_W) (mc ms : Nat) : Prop :=
  ∀ sz : Nat, vx_Met l y (.code y cc n (some .long) :: wAll) rm (gPcF D cy ad w0 sz av) (va_Ql (fun r u => ∃ v : Int, r = lI v ∧ post v u) (gB D cy w0 sz w1) (va_A w0 sz)) (vx_X px (gBX D cy w0 sz w1) (va_A w0 sz)) mc ms (va_A w0 sz)
section GOX
variable {l : Launch} {y : MethodName} {cc : ByteArray} {n : Nat} {rm : Room} {D : va_G} {cy : Nat → ClassId} {ad : Nat → Nat} {w0 : va_W} {av : List Value} {S : Type} {w1 : S → va_W} {mc ms : Nat}
theorem go_iX {post : Int → S → Prop} {px : S → Prop} (hl : l.stackTraces = false) (hy : plainName y.cls = true) (hown : y.cls = RX9) (hn : (lg_sl av).length ≤ n) (hf : 5 < rm.frames) (hlo : 82 ≤ rm.locals) (hce : 1 ≤ rm.cells) (hsl : 6 ≤ rm.slots) (hmc : 1 ≤ mc) (hms : 6 ≤ ms)
    (body : ∀ (p : Program) (e : Env) (s : State) (m : MethodId) (args : Array Value) (below : List Frame) (meth : Method) (c : Code) (Q : State → Prop) (A : Nat → Prop) (ls : Array Slot),
      cx p s m args meth c cc n y.cls D cy → xE ad A s s.heap → meth.name = y.name → (∀ q, s.heap.size ≤ q → A q) → wd D A s.heap w0 s.heap [] → lv_has ls n (lv_args 0 av) →
      (∀ (v : Int) (u : S) (H : Heap) (locs : List Loc) (pc : Nat) (ls : Array Slot), decode cc pc = .ok (.ireturn, 1) → wd D A s.heap (w1 u) H locs → post v u → W p l e rm s m args below meth c H locs 0 0 Q (F0 m pc ls [vI v])) →
      (∀ (i : Nat), i < 7 → ∀ (u : S) (H : Heap) (locs : List Loc) (pc : Nat) (ls : Array Slot), ls.size = n → decode cc pc = .ok (.new 172, 3) → decode cc (pc + 3) = .ok (.dup, 1) → decode cc (pc + 4) = .ok (.ldc (msgL.getD i (0, "")).1, 2) → decode cc (pc + 6) = .ok (.invokespecial 176, 3) → decode cc (pc + 9) = .ok (.athrow, 1) → wd D A s.heap (w1 u) H locs → px u → W p l e rm s m args below meth c H locs 0 0 Q (F0 m pc ls [])) →
      W p l e rm s m args below meth c s.heap [] 0 0 Q (F0 m 0 ls [])) : MIX l y cc n rm D cy ad w0 av post px w1 mc ms := by
  intro sz
  refine vx_ofW (cc := cc) (maxL := n) (ret := some .int) hy rfl ?_
  intro p e s m args below meth c s₁ B hml hno hv
  obtain ⟨rfl, hsz, hP, hK, hD0, hN, hE, hT⟩ := hv
  subst hsz
  have hts := atoms_spec (ws := .code y cc n (some .int) :: wAll) B.pre
  have hall : ∀ w ∈ wAll, w.before av.toArray s = true := fun w h => hts w (List.mem_cons_of_mem _ h)
  rw [lg_entry_eq]
  refine body p e s m av.toArray below meth c _ (va_A w0 s.heap.size) _ ⟨B.exec, B.bytes, hml, findClass_of_methodNamed B.named, hall, hK, hN⟩ hE (name_of_methodNamed B.named B.method).1 (fun q h => Or.inr h) ⟨hP, hD0.self, va_S.rf⟩ (lv_entry av hn) ?_ ?_
  · intro v u H locs pc ls hd hw hp
    refine vx_ret (W.widen (k := mc) (n := ms) (Nat.zero_le _) (Nat.zero_le _) ?_)
    exact W.iret B.exec B.bytes B.returns (fun t ht hW => ⟨⟨iI v, u, rfl, ⟨v, rfl, hp⟩, by rw [ht]; exact hw.1, va_K.moved hW.alike hK, hw.2.1⟩, hw.2.2.F ht⟩) hw.2.2.2.2 hd B.notSynchronized
  · intro i hi u H locs pc ls hsz d0 d3 d4 d6 d9 hw hp
    have hown' : s.vm.findClass RX9 = some m.cls := hown ▸ findClass_of_methodNamed B.named
    refine vx_throwSX (own := RX9) (cls := exN) (names := exS) (ik := 172) (ic := 176) (ix := 13) (rx := prog_20_method_4_code) (sa := ad (20 + i)) (text := (msgL.getD i (0, "")).2) (A := va_A w0 s.heap.size) B.exec B.bytes hl ex0 ex1 ex2 ex5 hown' (by decide +kernel) (by decide +kernel) (hall _ kc_X9_172) (hall _ ki_ex) (hE.2.2.2.2 i hi) ?_ (fun w hw => List.all_eq_true.mp exX_o w hw) hT.2.2.2.2.1 hT.2.2.2.2.2 hw.2.2 (hsz.trans hml.symm) d0 d3 d4 d6 d9 (fun x hx => (hno x hx).elim) (by show 2 + 3 < rm.frames; omega) (by show 0 + (13 * (2 + 1) + 43) ≤ rm.locals; omega) (by show 0 + 1 ≤ rm.cells; omega) (by show 0 + 6 ≤ rm.slots; omega) B.notSynchronized ?_ hw.2.2.2.2 (by omega) (by omega)
    · refine vx_hat (B := exX.filter (fun w => !goodWord w)) (fun w hw => ?_) (fun w hw => hw) ?_
      · have q := of_decide_eq_true (List.all_eq_true.mp exX_a w hw)
        exact hall w (List.mem_filter.mpr ⟨q, (List.mem_filter.mp hw).2⟩)
      · rw [exX_n]
        exact vx_c (va_Nw.use rfl hT.1) (vx_c (va_Nw.use rfl hT.2.1) (vx_c (va_Nw.use rfl hT.2.2.1) (vx_c (va_Nw.use rfl hT.2.2.2.1) vx_n)))
    · intro t ha hz hk
      refine ⟨u, hp, ⟨rfl, hw.1.kept (fun k q hq => hk q.1 ((hw.1 k q hq).lt)), va_K.moved ha hK, hw.2.1⟩, Nat.le_trans hw.2.2.1 hz, fun q h1 h2 => ?_⟩
      rw [hk q (Nat.lt_of_lt_of_le h1 hw.2.2.1)]
      exact hw.2.2.2.1 q h1 h2
theorem go_lX {post : Int → S → Prop} {px : S → Prop} (hl : l.stackTraces = false) (hy : plainName y.cls = true) (hown : y.cls = RX9) (hn : (lg_sl av).length ≤ n) (hf : 5 < rm.frames) (hlo : 82 ≤ rm.locals) (hce : 1 ≤ rm.cells) (hsl : 6 ≤ rm.slots) (hmc : 1 ≤ mc) (hms : 6 ≤ ms)
    (body : ∀ (p : Program) (e : Env) (s : State) (m : MethodId) (args : Array Value) (below : List Frame) (meth : Method) (c : Code) (Q : State → Prop) (A : Nat → Prop) (ls : Array Slot),
      cx p s m args meth c cc n y.cls D cy → xE ad A s s.heap → meth.name = y.name → (∀ q, s.heap.size ≤ q → A q) → wd D A s.heap w0 s.heap [] → lv_has ls n (lv_args 0 av) →
      (∀ (v : Int) (u : S) (H : Heap) (locs : List Loc) (pc : Nat) (ls : Array Slot), decode cc pc = .ok (.lreturn, 1) → wd D A s.heap (w1 u) H locs → post v u → W p l e rm s m args below meth c H locs 0 0 Q (F0 m pc ls [vL v])) →
      (∀ (i : Nat), i < 7 → ∀ (u : S) (H : Heap) (locs : List Loc) (pc : Nat) (ls : Array Slot), ls.size = n → decode cc pc = .ok (.new 172, 3) → decode cc (pc + 3) = .ok (.dup, 1) → decode cc (pc + 4) = .ok (.ldc (msgL.getD i (0, "")).1, 2) → decode cc (pc + 6) = .ok (.invokespecial 176, 3) → decode cc (pc + 9) = .ok (.athrow, 1) → wd D A s.heap (w1 u) H locs → px u → W p l e rm s m args below meth c H locs 0 0 Q (F0 m pc ls [])) →
      W p l e rm s m args below meth c s.heap [] 0 0 Q (F0 m 0 ls [])) : MLX l y cc n rm D cy ad w0 av post px w1 mc ms := by
  intro sz
  refine vx_ofW (cc := cc) (maxL := n) (ret := some .long) hy rfl ?_
  intro p e s m args below meth c s₁ B hml hno hv
  obtain ⟨rfl, hsz, hP, hK, hD0, hN, hE, hT⟩ := hv
  subst hsz
  have hts := atoms_spec (ws := .code y cc n (some .long) :: wAll) B.pre
  have hall : ∀ w ∈ wAll, w.before av.toArray s = true := fun w h => hts w (List.mem_cons_of_mem _ h)
  rw [lg_entry_eq]
  refine body p e s m av.toArray below meth c _ (va_A w0 s.heap.size) _ ⟨B.exec, B.bytes, hml, findClass_of_methodNamed B.named, hall, hK, hN⟩ hE (name_of_methodNamed B.named B.method).1 (fun q h => Or.inr h) ⟨hP, hD0.self, va_S.rf⟩ (lv_entry av hn) ?_ ?_
  · intro v u H locs pc ls hd hw hp
    refine vx_ret (W.widen (k := mc) (n := ms) (Nat.zero_le _) (Nat.zero_le _) ?_)
    exact W.lret B.exec B.bytes B.returns (fun t ht hW => ⟨⟨lI v, u, rfl, ⟨v, rfl, hp⟩, by rw [ht]; exact hw.1, va_K.moved hW.alike hK, hw.2.1⟩, hw.2.2.F ht⟩) hw.2.2.2.2 hd B.notSynchronized
  · intro i hi u H locs pc ls hsz d0 d3 d4 d6 d9 hw hp
    have hown' : s.vm.findClass RX9 = some m.cls := hown ▸ findClass_of_methodNamed B.named
    refine vx_throwSX (own := RX9) (cls := exN) (names := exS) (ik := 172) (ic := 176) (ix := 13) (rx := prog_20_method_4_code) (sa := ad (20 + i)) (text := (msgL.getD i (0, "")).2) (A := va_A w0 s.heap.size) B.exec B.bytes hl ex0 ex1 ex2 ex5 hown' (by decide +kernel) (by decide +kernel) (hall _ kc_X9_172) (hall _ ki_ex) (hE.2.2.2.2 i hi) ?_ (fun w hw => List.all_eq_true.mp exX_o w hw) hT.2.2.2.2.1 hT.2.2.2.2.2 hw.2.2 (hsz.trans hml.symm) d0 d3 d4 d6 d9 (fun x hx => (hno x hx).elim) (by show 2 + 3 < rm.frames; omega) (by show 0 + (13 * (2 + 1) + 43) ≤ rm.locals; omega) (by show 0 + 1 ≤ rm.cells; omega) (by show 0 + 6 ≤ rm.slots; omega) B.notSynchronized ?_ hw.2.2.2.2 (by omega) (by omega)
    · refine vx_hat (B := exX.filter (fun w => !goodWord w)) (fun w hw => ?_) (fun w hw => hw) ?_
      · have q := of_decide_eq_true (List.all_eq_true.mp exX_a w hw)
        exact hall w (List.mem_filter.mpr ⟨q, (List.mem_filter.mp hw).2⟩)
      · rw [exX_n]
        exact vx_c (va_Nw.use rfl hT.1) (vx_c (va_Nw.use rfl hT.2.1) (vx_c (va_Nw.use rfl hT.2.2.1) (vx_c (va_Nw.use rfl hT.2.2.2.1) vx_n)))
    · intro t ha hz hk
      refine ⟨u, hp, ⟨rfl, hw.1.kept (fun k q hq => hk q.1 ((hw.1 k q hq).lt)), va_K.moved ha hK, hw.2.1⟩, Nat.le_trans hw.2.2.1 hz, fun q h1 h2 => ?_⟩
      rw [hk q (Nat.lt_of_lt_of_le h1 hw.2.2.1)]
      exact hw.2.2.2.1 q h1 h2
end GOX
