/-! an exception made and thrown: its constructor of a text calls by any index; launches without stack traces -/
theorem vx_ctorX {p : Program} {l : Launch} {e : Env} {R : Room} {s : State} {m₀ : MethodId} {args : Array Value} {below : List Frame} {meth : Method} {c : Code} {V : State} {cells slots : Nat} (X : Stand p l e R s m₀ args below meth c V [] cells slots) (hexec : p.tables.exec = Jvm.exec) (htr : e.platform.stackTraces = false)
    {own cls : String} {names : List String} {ic ix : Nat} {rx : ByteArray} (d0 : decode rx 0 = .ok (.aload_n 0, 1)) (d1 : decode rx 1 = .ok (.aload_n 1, 1)) (d2 : decode rx 2 = .ok (.invokespecial ix, 3)) (d5 : decode rx 5 = .ok (.return_, 1))
    (hown : s.vm.findClass own = some m₀.cls) (hcls : _root_.Jvm.Bundle.fit cls = true) (hnames : ∀ n ∈ names, _root_.Jvm.Bundle.fit n = true) (h : ∀ w ∈ _root_.Jvm.Bundle.ownAtomsX own ic cls ix rx names, w.before args s = true)
    {a : Addr} {cX : ClassId} {kX : Class} (hfX : s.vm.findClass cls = some cX) (hkX : s.vm.classes[cX]? = some kX) (hcell : V.heap[a]? = some (freshCell cX kX)) (ha : s.heap.size ≤ a) {msg : Value} (hmsg : msg.isRef = true)
    {g : JFrame} (hg : g.method = m₀) (hsize : g.locals.size = c.maxLocals) (hlk : g.locked = none) (hen : g.entered = []) {rest : List Value} (hst : g.stack = msg :: .ref a :: .ref a :: rest) (dg : decode c.code g.pc = .ok (.invokespecial ic, 3)) (da : decode c.code (g.pc + 3) = .ok (.athrow, 1))
    (hout : ∀ x ∈ c.exceptionTable.toList, covers x (g.pc + 3) = false) (hfr : names.length + 3 < R.frames) (hlo : 2 * g.monitorRoom + (((Value.ref a :: rest).map fun v => v.category).sum) + (13 * (names.length + 1) + 42) ≤ R.locals) (hlocks : meth.locks = false) :
    ∃ U, Steps p.tables e below (V.setTop g) U ∧ U.status = .running ∧ Ended U below (.threw a) ∧ s.WarmedH U.vm ∧ s.sameButNew ({ U with vm := s.vm } : State) [] cells slots ∧ ∃ ce : Cell, U.heap[a]? = some ce ∧ ce.vm = .none ∧ s.vm.findClass cls = some ce.cls := by
  have hm : e.platform.magicAccessors = ({ } : Platform).magicAccessors := by rw [X.admits.platform]
  have hfo : e.platform.frameOwnsMonitors = true := by rw [X.admits.platform]
  have hfi : e.platform.finalization = false := by rw [X.admits.platform]
  have hatT : ∀ w ∈ _root_.Jvm.Bundle.throwableAtoms, w.before args s = true := fun w hw => h w (by unfold _root_.Jvm.Bundle.ownAtomsX; exact List.mem_append_left _ (List.mem_append_left _ (List.mem_append_left _ hw)))
  have hatS : ∀ w ∈ _root_.Jvm.Bundle.throwableSAtoms, w.before args s = true := fun w hw => h w (by unfold _root_.Jvm.Bundle.ownAtomsX; exact List.mem_append_left _ (List.mem_append_left _ (List.mem_append_right _ hw)))
  have hatC : ∀ w ∈ _root_.Jvm.Bundle.chainSAtomsX cls ix rx names, w.before args s = true := fun w hw => h w (by unfold _root_.Jvm.Bundle.ownAtomsX; exact List.mem_append_left _ (List.mem_append_right _ hw))
  have hat9 : ∀ w ∈ ([Cond.methodLink own ic (_root_.Jvm.Bundle.initS cls), Cond.instantiable cls 6, Cond.castable cls cls, Cond.selects cls _root_.Jvm.Bundle.tFill0 _root_.Jvm.Bundle.tFill0, Cond.selects cls _root_.Jvm.Bundle.tFill _root_.Jvm.Bundle.tFill, Cond.lays cls _root_.Jvm.Bundle.tN "cause" "Ljava/lang/Throwable;", Cond.lays cls _root_.Jvm.Bundle.tN "stackTrace" _root_.Jvm.Bundle.steD, Cond.lays cls _root_.Jvm.Bundle.tN "suppressedExceptions" _root_.Jvm.Bundle.listD, Cond.lays cls _root_.Jvm.Bundle.tN "detailMessage" "Ljava/lang/String;", Cond.isRef (Term.static _root_.Jvm.Bundle.tN "UNASSIGNED_STACK" _root_.Jvm.Bundle.steD), Cond.isRef (Term.static _root_.Jvm.Bundle.tN "SUPPRESSED_SENTINEL" _root_.Jvm.Bundle.listD), Cond.fieldLink _root_.Jvm.Bundle.tN 198 _root_.Jvm.Bundle.tN "backtrace" "Ljava/lang/Object;", Cond.lays _root_.Jvm.Bundle.tN _root_.Jvm.Bundle.tN "backtrace" "Ljava/lang/Object;", Cond.lays cls _root_.Jvm.Bundle.tN "backtrace" "Ljava/lang/Object;"] : List Cond), w.before args s = true := fun w hw => h w (by unfold _root_.Jvm.Bundle.ownAtomsX; exact List.mem_append_right _ hw)
  obtain ⟨T, Z0, hT, hZ0, ties⟩ := ThrowableC.of_atoms hfo hfi hm hatT
  obtain ⟨Z, M, hZ, hM, hinit⟩ := Init0T.ofS_atoms hm hT ties hatS
  obtain ⟨P1, Ps, hlen, hP1, hPs, hn1, hsup, hpass⟩ := _root_.Jvm.Bundle.chainSX hm hinit d0 d1 d2 d5 names cls hcls hnames hatC
  have hfit := _root_.Jvm.Bundle.fit_spec hcls
  have a0 := hat9 _ (List.mem_of_getElem? (i := 0) rfl)
  have a3 := hat9 _ (List.mem_of_getElem? (i := 3) rfl)
  have a4 := hat9 _ (List.mem_of_getElem? (i := 4) rfl)
  have a5 := hat9 _ (List.mem_of_getElem? (i := 5) rfl)
  have a6 := hat9 _ (List.mem_of_getElem? (i := 6) rfl)
  have a7 := hat9 _ (List.mem_of_getElem? (i := 7) rfl)
  have a8 := hat9 _ (List.mem_of_getElem? (i := 8) rfl)
  have a9 := hat9 _ (List.mem_of_getElem? (i := 9) rfl)
  have a10 := hat9 _ (List.mem_of_getElem? (i := 10) rfl)
  have a11 := hat9 _ (List.mem_of_getElem? (i := 11) rfl)
  have a12 := hat9 _ (List.mem_of_getElem? (i := 12) rfl)
  have a13 := hat9 _ (List.mem_of_getElem? (i := 13) rfl)
  have a1 := hat9 _ (List.mem_of_getElem? (i := 1) rfl)
  have hci : (Cond.instanceMethod (_root_.Jvm.Bundle.initS cls)).before args s = true := hatC _ (by cases names <;> simp [_root_.Jvm.Bundle.chainSAtomsX, _root_.Jvm.Bundle.passSAtoms])
  have hcc : (Cond.code (_root_.Jvm.Bundle.initS cls) rx 2 none).before args s = true := hatC _ (by cases names <;> simp [_root_.Jvm.Bundle.chainSAtomsX, _root_.Jvm.Bundle.passSAtoms])
  obtain ⟨tm, meth2, cd, k2, vm', t1, t2, t3, t4, t5, t6, t7, t8, hW', tst⟩ := Steps.initColdS X.here hexec X.warmed hm hown (idx := ic) (t := _root_.Jvm.Bundle.initS cls) rfl rfl ⟨hfit.2.1, hfit.2.2⟩ (args := args) (bytes := rx) (maxL := 2) a0 hci hcc (f := g) hg hst dg
  have etm : tm = P1.m := Option.some.inj (t1.symm.trans hn1)
  subst etm
  have X1 := X.noted hW'
  obtain ⟨cS, hcS, hisS⟩ := ties.statics
  have hsm := X.same
  obtain ⟨cS', hcS', ecS', -, hslS⟩ := hsm.2.2.2.2.2 T.aS cS hcS
  obtain ⟨u0, hu0⟩ := Cond.staticRefV ties.unassigned hT.unassignedStatic hT.statics hcS hisS a9
  obtain ⟨sen, hsen⟩ := Cond.staticRefV ties.sentinel hT.sentinelStatic hT.statics hcS hisS a10
  obtain ⟨cI, kI, i1, i2, hkind, -⟩ := Cond.instantiable_spec a1
  have eI : cI = cX := Option.some.inj (i1.symm.trans hfX)
  subst eI
  have ekI : kI = kX := Option.some.inj (i2.symm.trans hkX)
  subst ekI
  have haS : T.aS < s.heap.size := (Array.getElem?_eq_some_iff.mp hcS).1
  have hsel : ∀ {x : MethodName} {r : MethodId}, (Cond.selects cls x x).before args s = true → s.methodNamed? x = some r → x.cls ≠ "java/lang/invoke/MethodHandle" ∧ x.cls ≠ "java/lang/invoke/VarHandle" → selectMethod e.platform s.vm cI r = .method r := by
    intro x r hs hn hx
    obtain ⟨c9, r9, m9, q1, q2, q3, q4, -⟩ := Cond.selects_spec hs
    have e1 : c9 = cI := Option.some.inj (q1.symm.trans hfX)
    have e2 : r9 = r := Option.some.inj (q2.symm.trans (State.methodFound?_of_named hn hx))
    have e3 : m9 = r := Option.some.inj (q3.symm.trans hn)
    subst e1
    rw [Launch.admits_selectMethod X.admits]
    rw [e2, e3] at q4
    exact q4
  obtain ⟨imsg, hfm⟩ := ties.msg
  have lC := Cond.laysAt hfX hkX ties.cause a5
  have lK := Cond.laysAt hfX hkX ties.stack a6
  have lS := Cond.laysAt hfX hkX ties.supp a7
  have lM := Cond.laysAt hfX hkX hfm a8
  obtain ⟨ciB, iB, fB, b1, b2, b3, b4, b5, b6, b7, b8⟩ := Cond.ownField ties.found hT.cls (t := .object "java/lang/Object") (by decide +kernel) a11 a12 e.platform hm
  have lB := Cond.laysAt hfX hkX b8 a13
  have hne : T.aS ≠ a := fun q => by rw [q] at haS; exact absurd haS (Nat.not_lt.mpr ha)
  have n1 : fB.slot ≠ T.fCause.slot := Cond.laysApart lB.2.choose_spec.1 lC.2.choose_spec.1 lB.2.choose_spec.2 lC.2.choose_spec.2 (by rw [b6, ties.causeName]; decide)
  have n2 : fB.slot ≠ T.fStack.slot := Cond.laysApart lB.2.choose_spec.1 lK.2.choose_spec.1 lB.2.choose_spec.2 lK.2.choose_spec.2 (by rw [b6, ties.stackName]; decide)
  have n3 : fB.slot ≠ T.fSupp.slot := Cond.laysApart lB.2.choose_spec.1 lS.2.choose_spec.1 lB.2.choose_spec.2 lS.2.choose_spec.2 (by rw [b6, ties.suppName]; decide)
  have hskip : SkipFacts T e.platform s (fun u => u) u0 ((preparedCellV T.toThrowableT (freshCell cI kI) a u0 sen).withEntry (V.setVm vm').cur) := by
    refine ⟨⟨ciB, iB, fB⟩, ⟨b1, b2, b3, b4⟩, ?_, fun _ _ => rfl⟩
    have q := fresh_default (c := cI) lB.1
    rw [b7] at q
    show (((((freshCell cI kI).slots.setIfInBounds T.fCause.slot (Value.ref a)).setIfInBounds T.fStack.slot u0.v).setIfInBounds T.fSupp.slot sen.v))[fB.slot]? = some Value.null
    rw [Array.getElem?_setIfInBounds_ne n3.symm, Array.getElem?_setIfInBounds_ne n2.symm, Array.getElem?_setIfInBounds_ne n1.symm]
    exact q
  have ecv : cS'.vm = cS.vm := by rw [ecS']
  have hunk : cS'.vm ≠ .unknown := fun q => by
    rw [ecv] at q
    rw [q] at hisS
    exact absurd hisS (by decide)
  obtain ⟨vm2, X2, st2⟩ := X1.ctorMessageOffV hexec (g := { g with stack := .ref a :: rest }) hg hsize T hT Z hZ M hM (P1 :: Ps) (fun P hP => (List.mem_cons.mp hP).elim (fun q => q ▸ hP1) (hPs P)) ⟨hsup, hpass⟩ (u0 := u0) (sen := sen) (self := a) (msg := msg) hmsg (cell := freshCell cI kI) (cellS := cS') hcell (fun k q => nomatch q) (fun q => nomatch q) rfl rfl (hsel a3 ties.fill0 (by decide)) (hsel a4 ties.fill (by decide)) hcS' hne hunk (by rw [hslS _ List.not_mem_nil]; exact hu0) (by rw [hslS _ List.not_mem_nil]; exact hsen)
    (Takes.of_laid hkX hkind lC.1 (by rw [ties.causeType]; rfl)) (Takes.of_laid hkX hkind lK.1 (by rw [ties.stackType]; exact fits_refV_array _ u0)) (Takes.of_laid hkX hkind lS.1 (by rw [ties.suppType]; exact fits_refV_object _ sen)) (Takes.of_laid hkX hkind lM.1 (by rw [ties.msgType]; exact fits_refV_object _ ⟨msg, hmsg⟩)) ties.objLocals hskip htr [] dg (by simp only [List.length_cons, hlen]; omega) (by simp only [List.length_cons, hlen]; exact hlo)
  obtain ⟨s1, s2, s3, s4, s5⟩ := X2.athrowLeaves hexec (g := { g with stack := .ref a :: rest, pc := g.pc + 3 }) hg hlk hen hout (a := a) (rest := rest) rfl da hlocks
  refine ⟨_, tst _ (fun acts => by rw [doInvoke_state]; exact st2 _ s1), s2, s3, s4, s5.weaken (fun x hx hlt => ?_) (Nat.le_refl _) (Nat.le_refl _), _, heapAt_setCell_self _ (Array.getElem?_eq_some_iff.mp hcell).1, rfl, hfX⟩
  have hxa : x.base = a := by
    simp only [List.nil_append, List.mem_cons, List.not_mem_nil, or_false] at hx
    rcases hx with q | q | q | q | q <;> rw [q]
  rw [hxa] at hlt
  exact absurd hlt (Nat.not_lt.mpr ha)

def vx_atX (own : String) (ic : Nat) (X : String) (ix : Nat) (rx : ByteArray) (names : List String) : List Cond := (_root_.Jvm.Bundle.ownAtomsX own ic X ix rx names).filter vx_no
section TX
variable {p : Program} {l : Launch} {e : Env} {R : Room} {s : State} {m : MethodId} {args : Array Value} {below : List Frame} {meth : Method} {c : Code} {H : Heap} {locs : List Loc} {cells slots : Nat}
variable {free : Addr → Prop} {ls : Array Slot} {rest : List Value} {Qc : Array Value → State → Outcome → State → Prop} {XC : String → State → State → Prop}
theorem vx_throwSX {cc : ByteArray} {pc : Nat} (hexec : p.tables.exec = Jvm.exec) (hb : c.code = cc) (hl : l.stackTraces = false) {own cls text : String} {names : List String} {ik is ic ix mc ms sa : Nat} {rx : ByteArray} {A : Nat → Prop}
    (x0 : decode rx 0 = .ok (.aload_n 0, 1)) (x1 : decode rx 1 = .ok (.aload_n 1, 1)) (x2 : decode rx 2 = .ok (.invokespecial ix, 3)) (x5 : decode rx 5 = .ok (.return_, 1)) (hown : s.vm.findClass own = some m.cls) (hcls : _root_.Jvm.Bundle.fit cls = true) (hnames : ∀ n ∈ names, _root_.Jvm.Bundle.fit n = true)
    (hk : (Cond.classLink own ik cls).before args s = true) (hini : (Cond.initialized cls).before args s = true) (hstr : vk_R own is text sa s) (hat : ∀ w ∈ vx_atX own ic cls ix rx names, w.before args s = true)
    (hgood : ∀ w ∈ Cond.classLink own ik cls :: Cond.initialized cls :: vx_atX own ic cls ix rx names, vx_ot w = true)
    (hU : vx_Zq _root_.Jvm.Bundle.tN "UNASSIGNED_STACK" _root_.Jvm.Bundle.steD A s s.heap) (hN : vx_Zq _root_.Jvm.Bundle.tN "SUPPRESSED_SENTINEL" _root_.Jvm.Bundle.listD A s s.heap) (hS : va_S A s.heap H locs) (hsize : ls.size = c.maxLocals)
    (d0 : decode cc pc = .ok (.new ik, 3)) (d3 : decode cc (pc + 3) = .ok (.dup, 1)) (d4 : decode cc (pc + 4) = .ok (.ldc is, 2)) (d6 : decode cc (pc + 6) = .ok (.invokespecial ic, 3)) (d9 : decode cc (pc + 9) = .ok (.athrow, 1))
    (hout : ∀ x ∈ c.exceptionTable.toList, covers x (pc + 9) = false)
    (hRframes : names.length + 3 < R.frames) (hRlocals : (rest.map fun v => v.category).sum + (13 * (names.length + 1) + 43) ≤ R.locals) (hRcells : cells + 1 ≤ R.cells) (hRslots : slots + 6 ≤ R.slots) (hlocks : meth.locks = false)
    (hx : ∀ t : State, s.vm.Alike t.vm → H.size ≤ t.heap.size → (∀ q : Nat, q < H.size → t.heap[q]? = H[q]?) → XC cls s t)
    (hf : ∀ z ∈ locs, free z.base) (hc : cells + 1 ≤ mc) (hs : slots + 6 ≤ ms) :
    W p l e R s m args below meth c H locs cells slots (vx_MQ below Qc XC args s mc ms free) (F0 m pc ls rest) := by
  intro T hT X
  have htr : e.platform.stackTraces = false := (show e.platform.stackTraces = l.stackTraces by rw [X.admits.platform]).trans hl
  have Y := vx_rebase X (R' := { frames := R.frames, locals := R.locals, cells := 1, slots := 6 }) (Nat.le_refl _) (Nat.le_refl _) hRcells hRslots
  obtain ⟨s', hA⟩ : ∃ z, z = (T.setVm s.vm).setFrames (.invoking m args :: below) := ⟨_, rfl⟩
  rw [← hA] at Y
  have hvm : s'.vm = s.vm := by rw [hA]; rfl
  have hhp : s'.heap = H := by rw [hA]; exact hT
  have hW0 : s.WarmedH s'.vm := by rw [hvm]; exact State.WarmedH.refl s
  have hat' : ∀ w ∈ vx_atX own ic cls ix rx names, w.before args s' = true := fun w hw => vx_ot_at hW0 hvm.symm (hgood w (List.mem_cons_of_mem _ (List.mem_cons_of_mem _ hw))) (hat w hw)
  have hk' : (Cond.classLink own ik cls).before args s' = true := vx_ot_at hW0 hvm.symm (hgood _ List.mem_cons_self) hk
  have hini' : (Cond.initialized cls).before args s' = true := vx_ot_at hW0 hvm.symm (hgood _ (List.mem_cons_of_mem _ List.mem_cons_self)) hini
  have hU' : vx_Zq _root_.Jvm.Bundle.tN "UNASSIGNED_STACK" _root_.Jvm.Bundle.steD A s' s'.heap := by rw [hhp]; exact vx_Zq.moved hW0.alike (hU.kept hS.2.1)
  have hN' : vx_Zq _root_.Jvm.Bundle.tN "SUPPRESSED_SENTINEL" _root_.Jvm.Bundle.listD A s' s'.heap := by rw [hhp]; exact vx_Zq.moved hW0.alike (hN.kept hS.2.1)
  have h : ∀ w ∈ _root_.Jvm.Bundle.ownAtomsX own ic cls ix rx names, w.before args s' = true := vx_own hat' (vx_isRefq hU'.1) (vx_isRefq hN'.1) hU'.2.word hN'.2.word
  have hown' : s'.vm.findClass own = some m.cls := by rw [hvm]; exact hown
  have hins : (Cond.instantiable cls 6).before args s' = true := h _ (by simp [_root_.Jvm.Bundle.ownAtomsX])
  obtain ⟨vm₁, cX, kX, hfX, hkX, -, -, X₁, st1⟩ := Y.newCold hexec (own := own) (C := cls) (index := ik) (n := 6) hown' hk' hins hini'
    (g := F0 m pc ls rest) rfl (by rw [hb]; exact d0) (Nat.le_refl _) (Nat.le_refl _)
  generalize hT1 : (T.setVm vm₁).pushCell { cls := cX, slots := kX.instanceTypes.map defaultValue, vm := .none } = T1 at X₁ st1
  have hcat : (Value.ref T.heap.size).category = 1 := rfl
  have hcellA : T1.heap[T.heap.size]? = some (freshCell cX kX) := by rw [← hT1]; exact State.heap_pushCell_size _ _
  have d3' : decode c.code (pc + 3) = .ok (.dup, 1) := by rw [hb]; exact d3
  have d4' : decode c.code (pc + 4) = .ok (.ldc is, 2) := by rw [hb]; exact d4
  have hstr' : vk_R own is text sa s' := vk_R.warm hW0 hstr
  obtain ⟨U, hsteps, hrun, hend, hW, hsame, ce, hce, hOv, hOc⟩ := vx_ctorX X₁ hexec htr x0 x1 x2 x5 (own := own) (cls := cls) (names := names) (ic := ic) hown' hcls hnames h hfX hkX hcellA (by rw [hhp, hT]; exact Nat.le_refl _) (msg := .ref sa) rfl
    (g := { method := m, pc := pc + 6, locals := ls, stack := .ref sa :: .ref T.heap.size :: .ref T.heap.size :: rest, locked := none }) rfl hsize rfl rfl (rest := rest) rfl
    (by rw [hb]; exact d6) (by rw [hb]; exact d9) hout hRframes (by simp only [List.map_cons, List.sum_cons, hcat]; omega) hlocks
  obtain ⟨f1, f2⟩ := vx_frame hsame
  rw [hhp] at f1 f2
  have hWs : s.WarmedH U.vm := State.WarmedH.trans hW0 hW
  have hcl : s.vm.findClass cls = some ce.cls := by
    have h9 := hOc
    rw [hvm] at h9
    exact h9
  have hall : s.sameButNew ({ U with vm := s.vm } : State) locs mc ms := by
    subst hA
    obtain ⟨e1, e2⟩ := hsame
    rw [State.setFrames_setFrames] at e1
    have h2 : (T.setVm s.vm).sameButNew ({ U with vm := s.vm } : State) [] (0 + 1) (0 + 6) := ⟨e1, e2⟩
    have h3 := X.same.trans h2
    rw [List.append_nil] at h3
    exact h3.mono hc hs
  refine ⟨U, ?_, .threw T.heap.size, hrun, hend, Or.inr ⟨T.heap.size, rfl, cls, ce, locs, hx U hWs.alike f1 (fun q hq => f2 q hq (fun z hz => nomatch hz)), hce, hOv, hcl, hWs, hall, hf⟩⟩
  refine st1 _ ?_
  show Steps p.tables e below (T1.setTop { method := m, pc := pc + 3, locals := ls, stack := .ref T.heap.size :: rest, locked := none }) _
  jvm_step X₁.here [X₁.here.top, hexec, d3', Value.category]
  exact X₁.ldcString hexec (own := own) (text := text) (index := is) (a := sa) hown' hstr'.1 hstr'.2
    (g := { method := m, pc := pc + 4, locals := ls, stack := .ref T.heap.size :: .ref T.heap.size :: rest, locked := none }) rfl d4' _ hsteps
end TX
