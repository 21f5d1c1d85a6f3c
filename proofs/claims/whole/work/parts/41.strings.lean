/-! string constants: what the start says of them goes with every contract that needs it; the JDK's length and charAt -/
def lenS : List Nat := [7, 4, 3, 4, 5, 4]
def chS : List (List Int) := [[114, 101, 115, 101, 114, 118, 101], [112, 97, 114, 116], [114, 111, 116], [108, 111, 115, 115], [98, 117, 121, 101, 114], [112, 111, 111, 108]]
def bytS : List (List Int32) := chS.map (fun l => l.map iI)
def chI (i k : Nat) : Int := (chS.getD i []).getD k 0
theorem ch_1 : ∀ i, i < 6 → ∀ k, k < lenS.getD i 0 → (bytS.getD i []).getD k 0 = iI (chI i k) ∧ ((iI (chI i k)).toUInt32 % 65536).toInt32 = iI (chI i k) ∧ 97 ≤ chI i k ∧ chI i k ≤ 122 := by decide +kernel
theorem len_1 : ∀ i, i < 6 → Int32.ofNat (lenS.getD i 0) = iI (lenS.getD i 0 : Nat) ∧ lenS.getD i 0 ≤ 7 := by decide +kernel
theorem ch_nar {v : Int} (h : 97 ≤ v ∧ v ≤ 122) : narrow .char (vI v) = vI v := by
  have : v = 97 ∨ v = 98 ∨ v = 99 ∨ v = 100 ∨ v = 101 ∨ v = 102 ∨ v = 103 ∨ v = 104 ∨ v = 105 ∨ v = 106 ∨ v = 107 ∨ v = 108 ∨ v = 109 ∨ v = 110 ∨ v = 111 ∨ v = 112 ∨ v = 113 ∨ v = 114 ∨ v = 115 ∨ v = 116 ∨ v = 117 ∨ v = 118 ∨ v = 119 ∨ v = 120 ∨ v = 121 ∨ v = 122 := by omega
  rcases this with e | e | e | e | e | e | e | e | e | e | e | e | e | e | e | e | e | e | e | e | e | e | e | e | e | e <;> rw [e] <;> rfl
def msgL : List (Nat × String) := [(174, "no such lot"), (194, "nothing of a lot has this number"), (196, "no such sale"), (212, "nothing of a sale has this number"), (222, "no such mark"), (224, "nothing of a worth has this number"), (229, "no sale of the mark counts")]
def wdL : List (Nat × String) := [(61, "reserve"), (74, "part"), (78, "rot"), (83, "loss"), (104, "buyer"), (106, "pool")]
def xE (ad : Nat → Nat) (A : Nat → Prop) (U : State) (H : Heap) : Prop :=
  vk_S 6 lenS bytS (fun i => ad (2 * i)) (fun i => ad (2 * i + 1)) A U H ∧ va_Z "java/lang/String" "COMPACT_STRINGS" "Z" (.int 1) A U H ∧ va_Zq "jdk/internal/util/Preconditions" "SIOOBE_FORMATTER" "Ljava/util/function/BiFunction;" A U H ∧
    (∀ i, i < 6 → vk_R RX5 (wdL.getD i (0, "")).1 (wdL.getD i (0, "")).2 (ad (2 * i)) U) ∧ (∀ i, i < 7 → vk_R RX9 (msgL.getD i (0, "")).1 (msgL.getD i (0, "")).2 (ad (20 + i)) U)
theorem xE_call {ad : Nat → Nat} {A B : Nat → Prop} {s U : State} {H : Heap} {locs : List Loc} (h : xE ad A s s.heap) (hS : va_S A s.heap H locs) (hB : ∀ q, B q → A q) (hU : U.heap = H) (hW : s.WarmedH U.vm) : xE ad B U U.heap := by
  rw [hU]
  exact ⟨vk_S.moved hW.alike ((h.1.kept hS.2.1).narrow hB), va_Z.moved hW.alike ((h.2.1.kept hS.2.1).narrow hB), va_Zq.moved hW.alike ((h.2.2.1.kept hS.2.1).narrow hB), fun i hi => vk_R.warm hW (h.2.2.2.1 i hi), fun i hi => vk_R.warm hW (h.2.2.2.2 i hi)⟩
def gPcE (D : va_G) (cy : Nat → ClassId) (ad : Nat → Nat) (w0 : va_W) (sz : Nat) (av : List Value) : Array Value → State → Prop :=
  va_Pc av (fun U => U.heap.size = sz ∧ va_P D vwCl w0 U.heap ∧ kx D cy U ∧ va_D (fun _ => True) w0 ∧ xN U ∧ xE ad (va_A w0 sz) U U.heap)
theorem gPcE_blind {D : va_G} {cy : Nat → ClassId} {ad : Nat → Nat} {w0 : va_W} {sz : Nat} {av : List Value} : FrameBlind (gPcE D cy ad w0 sz av) := by
  intro a U g mk q
  obtain ⟨q0, q1, qP, qK, qD, qN, qE⟩ := q
  exact ⟨q0, q1, qP, va_K.moved (u := U) (U := U.calling g mk a) (Vm.Alike.refl U.vm) qK, qD, xN_same (u := U) (U := U.calling g mk a) rfl qN, vk_S.moved (u := U) (U := U.calling g mk a) (Vm.Alike.refl U.vm) qE.1, va_Z.moved (u := U) (U := U.calling g mk a) (Vm.Alike.refl U.vm) qE.2.1, va_Zq.moved (u := U) (U := U.calling g mk a) (Vm.Alike.refl U.vm) qE.2.2.1, fun i hi => vk_R.same (u := U) (U := U.calling g mk a) rfl (qE.2.2.2.1 i hi), fun i hi => vk_R.same (u := U) (U := U.calling g mk a) rfl (qE.2.2.2.2 i hi)⟩
def MIE (l : Launch) (y : MethodName) (cc : ByteArray) (n : Nat) (ret : FieldType) (rm : Room) (D : va_G) (cy : Nat → ClassId) (ad : Nat → Nat) (w0 : va_W) (av : List Value) {S : Type} (post : Int → S → Prop) (w1 : S → va_W) (mc ms : Nat) : Prop :=
  ∀ sz : Nat, Met l y (.code y cc n (some ret) :: wAll) rm (gPcE D cy ad w0 sz av) (va_Qi (fun r u => ∃ v : Int, r = iI v ∧ post v u) (gB D cy w0 sz w1) (va_A w0 sz)) mc ms (va_A w0 sz)
def MVE (l : Launch) (y : MethodName) (cc : ByteArray) (n : Nat) (rm : Room) (D : va_G) (cy : Nat → ClassId) (ad : Nat → Nat) (w0 : va_W) (av : List Value) {S : Type} (post : S → Prop) (w1 : S → va_W) (mc ms : Nat) : Prop :=
  ∀ sz : Nat, Met l y (.code y cc n none :: wAll) rm (gPcE D cy ad w0 sz av) (va_Qv post (gB D cy w0 sz w1) (va_A w0 sz)) mc ms (va_A w0 sz)
section GOE
variable {l : Launch} {y : MethodName} {cc : ByteArray} {n : Nat} {ret : FieldType} {rm : Room} {D : va_G} {cy : Nat → ClassId} {ad : Nat → Nat} {w0 : va_W} {av : List Value} {S : Type} {w1 : S → va_W} {mc ms : Nat}
theorem go_iE {post : Int → S → Prop} (hy : plainName y.cls = true) (hn : (lg_sl av).length ≤ n) (hret : ret = .int ∨ ∀ v u, post v u → narrow ret (vI v) = vI v)
    (body : ∀ (p : Program) (e : Env) (s : State) (m : MethodId) (args : Array Value) (below : List Frame) (meth : Method) (c : Code) (Q : State → Prop) (A : Nat → Prop) (ls : Array Slot),
      cx p s m args meth c cc n y.cls D cy → xE ad A s s.heap → meth.name = y.name → (∀ q, s.heap.size ≤ q → A q) → wd D A s.heap w0 s.heap [] → lv_has ls n (lv_args 0 av) →
      (∀ (v : Int) (u : S) (H : Heap) (locs : List Loc) (pc : Nat) (ls : Array Slot), decode cc pc = .ok (.ireturn, 1) → wd D A s.heap (w1 u) H locs → post v u → W p l e rm s m args below meth c H locs mc ms Q (F0 m pc ls [vI v])) →
      W p l e rm s m args below meth c s.heap [] 0 0 Q (F0 m 0 ls [])) : MIE l y cc n ret rm D cy ad w0 av post w1 mc ms := by
  intro sz
  refine Met.ofW (cc := cc) (maxL := n) (ret := some ret) hy rfl ?_
  intro p e s m args below meth c s₁ B hml hv
  obtain ⟨rfl, hsz, hP, hK, hD0, hN, hE⟩ := hv
  subst hsz
  have hts := atoms_spec (ws := .code y cc n (some ret) :: wAll) B.pre
  rw [lg_entry_eq]
  refine body p e s m av.toArray below meth c _ (va_A w0 s.heap.size) _ ⟨B.exec, B.bytes, hml, findClass_of_methodNamed B.named, fun w h => hts w (List.mem_cons_of_mem _ h), hK, hN⟩ hE (name_of_methodNamed B.named B.method).1 (fun q h => Or.inr h) ⟨hP, hD0.self, va_S.rf⟩ (lv_entry av hn) ?_
  intro v u H locs pc ls hd hw hp
  have hq : ∀ t : State, t.heap = H → s.WarmedH t.vm → va_Qi (fun r u => ∃ v : Int, r = iI v ∧ post v u) (gB D cy w0 s.heap.size w1) (va_A w0 s.heap.size) av.toArray s (.returned (some (vI v))) t := fun t ht hW => ⟨⟨iI v, u, rfl, ⟨v, rfl, hp⟩, by rw [ht]; exact hw.1, va_K.moved hW.alike hK, hw.2.1⟩, hw.2.2.F ht⟩
  rcases hret with hr | hr
  · subst hr
    exact W.iret B.exec B.bytes B.returns hq hw.2.2.2.2 hd B.notSynchronized
  · exact W.zret B.exec B.bytes B.returns (hr v u hp) hq hw.2.2.2.2 hd B.notSynchronized
theorem go_vE {post : S → Prop} (hy : plainName y.cls = true) (hn : (lg_sl av).length ≤ n)
    (body : ∀ (p : Program) (e : Env) (s : State) (m : MethodId) (args : Array Value) (below : List Frame) (meth : Method) (c : Code) (Q : State → Prop) (A : Nat → Prop) (ls : Array Slot),
      cx p s m args meth c cc n y.cls D cy → xE ad A s s.heap → meth.name = y.name → (∀ q, s.heap.size ≤ q → A q) → wd D A s.heap w0 s.heap [] → lv_has ls n (lv_args 0 av) →
      (∀ (u : S) (H : Heap) (locs : List Loc) (pc : Nat) (ls : Array Slot), decode cc pc = .ok (.return_, 1) → wd D A s.heap (w1 u) H locs → post u → W p l e rm s m args below meth c H locs mc ms Q (F0 m pc ls [])) →
      W p l e rm s m args below meth c s.heap [] 0 0 Q (F0 m 0 ls [])) : MVE l y cc n rm D cy ad w0 av post w1 mc ms := by
  intro sz
  refine Met.ofW (cc := cc) (maxL := n) (ret := none) hy rfl ?_
  intro p e s m args below meth c s₁ B hml hv
  obtain ⟨rfl, hsz, hP, hK, hD0, hN, hE⟩ := hv
  subst hsz
  have hts := atoms_spec (ws := .code y cc n none :: wAll) B.pre
  rw [lg_entry_eq]
  refine body p e s m av.toArray below meth c _ (va_A w0 s.heap.size) _ ⟨B.exec, B.bytes, hml, findClass_of_methodNamed B.named, fun w h => hts w (List.mem_cons_of_mem _ h), hK, hN⟩ hE (name_of_methodNamed B.named B.method).1 (fun q h => Or.inr h) ⟨hP, hD0.self, va_S.rf⟩ (lv_entry av hn) ?_
  intro u H locs pc ls hd hw hp
  exact W.vret B.exec B.bytes B.returns (fun t ht hW => ⟨⟨u, rfl, hp, by rw [ht]; exact hw.1, va_K.moved hW.alike hK, hw.2.1⟩, hw.2.2.F ht⟩) hw.2.2.2.2 hd B.notSynchronized
end GOE
section RCE
variable {p : Program} {l : Launch} {e : Env} {R : Room} {s : State} {m : MethodId} {args : Array Value} {below : List Frame} {meth : Method} {c : Code} {H : Heap} {locs : List Loc} {cells slots : Nat} {Q : State → Prop}
variable {cc : ByteArray} {pc nL : Nat} {ls : Array Slot} {rest : List Value} {D : va_G} {cy : Nat → ClassId} {ad : Nat → Nat} {own : String} {A : Nat → Prop} {a : Nat} {ws : va_W}
variable {y : MethodName} {cc' : ByteArray} {n' k' idx mc' ms' : Nat} {ret : FieldType} {rm' : Room} {b : Nat} {As st : List Value} {S : Type} {w1 : S → va_W}
theorem cVIE {post : Int → S → Prop} (C : cx p s m args meth c cc nL own D cy) (w : wd D A s.heap ws H locs) (hA : ∀ q, s.heap.size ≤ q → A q) (hE : xE ad A s s.heap) (hM : MIE l y cc' n' ret rm' D cy ad ws (.ref b :: As) post w1 mc' ms') (o : okV y cc' n' (some ret) k') (hlk : .methodLink own idx y ∈ wAll) (hrc : rm'.cells = mc' ∧ rm'.slots = ms') (hR : rm'.frames + 1 ≤ R.frames ∧ 8 + (n' + 11) + rm'.locals ≤ R.locals) (hf : cells + mc' ≤ R.cells ∧ slots + ms' ≤ R.slots) (hn : As.length = k') (q0 : Nat) {ci N : Nat} {fs : List Value} {T : u_T} (he : ws[q0]? = some (b, .inr (ci, fs))) (hc : vwCl[ci]? = some (y.cls, T, N)) (hl : ls.size = nL) (hst : st = As.reverse ++ .ref b :: rest) (hW : (rest.map fun v => v.category).sum ≤ 8) (hdg : decode cc pc = .ok (.invokevirtual idx, 3))
    (kk : ∀ (v : Int) (u : S) (H1 : Heap) (locs1 : List Loc), wd D A s.heap (w1 u) H1 locs1 → post v u → W p l e R s m args below meth c H1 locs1 (cells + mc') (slots + ms') Q (F0 m (pc + 3) ls (vI v :: rest))) : W p l e R s m args below meth c H locs cells slots Q (F0 m pc ls st) := by
  subst hst
  have hFc := wd_free w hA
  exact va_calli (va_runV (As := As) (rest := rest) ⟨C.1, C.2.1, C.2.2.1, C.2.2.2.1, C.2.2.2.2.1⟩ (hM H.size) ⟨okC_B (C := C) o.1 hlk hrc hR, C.2.2.2.2.1 _ o.2.1, C.2.2.2.2.1 _ o.2.2⟩ ⟨gPcE_blind, va_recv C.2.2.2.2.2.1 w.1 (ci := ci) (q0 := q0) hc he, fun U hU hW => ⟨rfl, by rw [hU], by rw [hU]; exact w.1, va_K.moved hW.alike C.2.2.2.2.2.1, w.2.1.weaken (fun _ _ _ _ => trivial), xN_warm hW C.2.2.2.2.2.2, xE_call hE w.2.2 hFc hU hW⟩⟩ rfl hn hl rfl (lv_room hW) hdg hf) w.2.2 (fun q _ h => hFc q h) hFc (fun r u t H1 locs1 ht hvm hw hB hz1 hk1 hS1 => by
    obtain ⟨v, rfl, hp⟩ := hw
    exact kk v u H1 locs1 ⟨by rw [← ht]; exact hB.1, hB.2.2.weaken (fun _ q _ h => hFc q.1 h), hS1⟩ hp)
theorem cVVE {post : S → Prop} (C : cx p s m args meth c cc nL own D cy) (w : wd D A s.heap ws H locs) (hA : ∀ q, s.heap.size ≤ q → A q) (hE : xE ad A s s.heap) (hM : MVE l y cc' n' rm' D cy ad ws (.ref b :: As) post w1 mc' ms') (o : okV y cc' n' none k') (hlk : .methodLink own idx y ∈ wAll) (hrc : rm'.cells = mc' ∧ rm'.slots = ms') (hR : rm'.frames + 1 ≤ R.frames ∧ 8 + (n' + 11) + rm'.locals ≤ R.locals) (hf : cells + mc' ≤ R.cells ∧ slots + ms' ≤ R.slots) (hn : As.length = k') (q0 : Nat) {ci N : Nat} {fs : List Value} {T : u_T} (he : ws[q0]? = some (b, .inr (ci, fs))) (hc : vwCl[ci]? = some (y.cls, T, N)) (hl : ls.size = nL) (hst : st = As.reverse ++ .ref b :: rest) (hW : (rest.map fun v => v.category).sum ≤ 8) (hdg : decode cc pc = .ok (.invokevirtual idx, 3))
    (kk : ∀ (u : S) (H1 : Heap) (locs1 : List Loc), wd D A s.heap (w1 u) H1 locs1 → post u → W p l e R s m args below meth c H1 locs1 (cells + mc') (slots + ms') Q (F0 m (pc + 3) ls rest)) : W p l e R s m args below meth c H locs cells slots Q (F0 m pc ls st) := by
  subst hst
  have hFc := wd_free w hA
  exact va_callv (va_runV (As := As) (rest := rest) ⟨C.1, C.2.1, C.2.2.1, C.2.2.2.1, C.2.2.2.2.1⟩ (hM H.size) ⟨okC_B (C := C) o.1 hlk hrc hR, C.2.2.2.2.1 _ o.2.1, C.2.2.2.2.1 _ o.2.2⟩ ⟨gPcE_blind, va_recv C.2.2.2.2.2.1 w.1 (ci := ci) (q0 := q0) hc he, fun U hU hW => ⟨rfl, by rw [hU], by rw [hU]; exact w.1, va_K.moved hW.alike C.2.2.2.2.2.1, w.2.1.weaken (fun _ _ _ _ => trivial), xN_warm hW C.2.2.2.2.2.2, xE_call hE w.2.2 hFc hU hW⟩⟩ rfl hn hl rfl (lv_room hW) hdg hf) w.2.2 (fun q _ h => hFc q h) hFc (fun u t H1 locs1 ht hvm hw hB hz1 hk1 hS1 => by
    exact kk u H1 locs1 ⟨by rw [← ht]; exact hB.1, hB.2.2.weaken (fun _ q _ h => hFc q.1 h), hS1⟩ hw)
theorem cRIE {post : Int → S → Prop} (C : cx p s m args meth c cc nL own D cy) (w : wd D A s.heap ws H locs) (hA : ∀ q, s.heap.size ≤ q → A q) (hE : xE ad A s s.heap) (hM : MIE l y cc' n' ret rm' D cy ad ws (.ref b :: As) post w1 mc' ms') (o : okV y cc' n' (some ret) k') (hlk : .methodLink own idx y ∈ wAll) (hrc : rm'.cells = mc' ∧ rm'.slots = ms') (hR : rm'.frames + 1 ≤ R.frames ∧ 8 + (n' + 11) + rm'.locals ≤ R.locals) (hf : cells + mc' ≤ R.cells ∧ slots + ms' ≤ R.slots) (hn : As.length = k') (hr : ∃ cell : Cell, H[b]? = some cell ∧ cell.vm.isStatics = false ∧ s.vm.findClass y.cls = some cell.cls) (hl : ls.size = nL) (hst : st = As.reverse ++ .ref b :: rest) (hW : (rest.map fun v => v.category).sum ≤ 8) (hdg : decode cc pc = .ok (.invokevirtual idx, 3))
    (kk : ∀ (v : Int) (u : S) (H1 : Heap) (locs1 : List Loc), wd D A s.heap (w1 u) H1 locs1 → post v u → W p l e R s m args below meth c H1 locs1 (cells + mc') (slots + ms') Q (F0 m (pc + 3) ls (vI v :: rest))) : W p l e R s m args below meth c H locs cells slots Q (F0 m pc ls st) := by
  subst hst
  have hFc := wd_free w hA
  exact va_calli (va_runV (As := As) (rest := rest) ⟨C.1, C.2.1, C.2.2.1, C.2.2.2.1, C.2.2.2.2.1⟩ (hM H.size) ⟨okC_B (C := C) o.1 hlk hrc hR, C.2.2.2.2.1 _ o.2.1, C.2.2.2.2.1 _ o.2.2⟩ ⟨gPcE_blind, hr, fun U hU hW => ⟨rfl, by rw [hU], by rw [hU]; exact w.1, va_K.moved hW.alike C.2.2.2.2.2.1, w.2.1.weaken (fun _ _ _ _ => trivial), xN_warm hW C.2.2.2.2.2.2, xE_call hE w.2.2 hFc hU hW⟩⟩ rfl hn hl rfl (lv_room hW) hdg hf) w.2.2 (fun q _ h => hFc q h) hFc (fun r u t H1 locs1 ht hvm hw hB hz1 hk1 hS1 => by
    obtain ⟨v, rfl, hp⟩ := hw
    exact kk v u H1 locs1 ⟨by rw [← ht]; exact hB.1, hB.2.2.weaken (fun _ q _ h => hFc q.1 h), hS1⟩ hp)
theorem cRVE {post : S → Prop} (C : cx p s m args meth c cc nL own D cy) (w : wd D A s.heap ws H locs) (hA : ∀ q, s.heap.size ≤ q → A q) (hE : xE ad A s s.heap) (hM : MVE l y cc' n' rm' D cy ad ws (.ref b :: As) post w1 mc' ms') (o : okV y cc' n' none k') (hlk : .methodLink own idx y ∈ wAll) (hrc : rm'.cells = mc' ∧ rm'.slots = ms') (hR : rm'.frames + 1 ≤ R.frames ∧ 8 + (n' + 11) + rm'.locals ≤ R.locals) (hf : cells + mc' ≤ R.cells ∧ slots + ms' ≤ R.slots) (hn : As.length = k') (hr : ∃ cell : Cell, H[b]? = some cell ∧ cell.vm.isStatics = false ∧ s.vm.findClass y.cls = some cell.cls) (hl : ls.size = nL) (hst : st = As.reverse ++ .ref b :: rest) (hW : (rest.map fun v => v.category).sum ≤ 8) (hdg : decode cc pc = .ok (.invokevirtual idx, 3))
    (kk : ∀ (u : S) (H1 : Heap) (locs1 : List Loc), wd D A s.heap (w1 u) H1 locs1 → post u → W p l e R s m args below meth c H1 locs1 (cells + mc') (slots + ms') Q (F0 m (pc + 3) ls rest)) : W p l e R s m args below meth c H locs cells slots Q (F0 m pc ls st) := by
  subst hst
  have hFc := wd_free w hA
  exact va_callv (va_runV (As := As) (rest := rest) ⟨C.1, C.2.1, C.2.2.1, C.2.2.2.1, C.2.2.2.2.1⟩ (hM H.size) ⟨okC_B (C := C) o.1 hlk hrc hR, C.2.2.2.2.1 _ o.2.1, C.2.2.2.2.1 _ o.2.2⟩ ⟨gPcE_blind, hr, fun U hU hW => ⟨rfl, by rw [hU], by rw [hU]; exact w.1, va_K.moved hW.alike C.2.2.2.2.2.1, w.2.1.weaken (fun _ _ _ _ => trivial), xN_warm hW C.2.2.2.2.2.2, xE_call hE w.2.2 hFc hU hW⟩⟩ rfl hn hl rfl (lv_room hW) hdg hf) w.2.2 (fun q _ h => hFc q h) hFc (fun u t H1 locs1 ht hvm hw hB hz1 hk1 hS1 => by
    exact kk u H1 locs1 ⟨by rw [← ht]; exact hB.1, hB.2.2.weaken (fun _ q _ h => hFc q.1 h), hS1⟩ hw)
theorem cSIE {post : Int → S → Prop} (C : cx p s m args meth c cc nL own D cy) (w : wd D A s.heap ws H locs) (hA : ∀ q, s.heap.size ≤ q → A q) (hE : xE ad A s s.heap) (hM : MIE l y cc' n' ret rm' D cy ad ws (As) post w1 mc' ms') (o : okS y cc' n' (some ret) k') (hlk : .methodLink own idx y ∈ wAll) (hrc : rm'.cells = mc' ∧ rm'.slots = ms') (hR : rm'.frames + 1 ≤ R.frames ∧ 8 + (n' + 11) + rm'.locals ≤ R.locals) (hf : cells + mc' ≤ R.cells ∧ slots + ms' ≤ R.slots) (hn : As.length = k') (hl : ls.size = nL) (hst : st = As.reverse ++ rest) (hW : (rest.map fun v => v.category).sum ≤ 8) (hdg : decode cc pc = .ok (.invokestatic idx, 3))
    (kk : ∀ (v : Int) (u : S) (H1 : Heap) (locs1 : List Loc), wd D A s.heap (w1 u) H1 locs1 → post v u → W p l e R s m args below meth c H1 locs1 (cells + mc') (slots + ms') Q (F0 m (pc + 3) ls (vI v :: rest))) : W p l e R s m args below meth c H locs cells slots Q (F0 m pc ls st) := by
  subst hst
  have hFc := wd_free w hA
  exact va_calli (va_runS (As := As) (rest := rest) ⟨C.1, C.2.1, C.2.2.1, C.2.2.2.1, C.2.2.2.2.1⟩ (hM H.size) ⟨okC_B (C := C) o.1 hlk hrc hR, C.2.2.2.2.1 _ o.2⟩ ⟨gPcE_blind, fun U hU hW => ⟨rfl, by rw [hU], by rw [hU]; exact w.1, va_K.moved hW.alike C.2.2.2.2.2.1, w.2.1.weaken (fun _ _ _ _ => trivial), xN_warm hW C.2.2.2.2.2.2, xE_call hE w.2.2 hFc hU hW⟩⟩ rfl hn hl rfl (lv_room hW) hdg hf) w.2.2 (fun q _ h => hFc q h) hFc (fun r u t H1 locs1 ht hvm hw hB hz1 hk1 hS1 => by
    obtain ⟨v, rfl, hp⟩ := hw
    exact kk v u H1 locs1 ⟨by rw [← ht]; exact hB.1, hB.2.2.weaken (fun _ q _ h => hFc q.1 h), hS1⟩ hp)
theorem cSVE {post : S → Prop} (C : cx p s m args meth c cc nL own D cy) (w : wd D A s.heap ws H locs) (hA : ∀ q, s.heap.size ≤ q → A q) (hE : xE ad A s s.heap) (hM : MVE l y cc' n' rm' D cy ad ws (As) post w1 mc' ms') (o : okS y cc' n' none k') (hlk : .methodLink own idx y ∈ wAll) (hrc : rm'.cells = mc' ∧ rm'.slots = ms') (hR : rm'.frames + 1 ≤ R.frames ∧ 8 + (n' + 11) + rm'.locals ≤ R.locals) (hf : cells + mc' ≤ R.cells ∧ slots + ms' ≤ R.slots) (hn : As.length = k') (hl : ls.size = nL) (hst : st = As.reverse ++ rest) (hW : (rest.map fun v => v.category).sum ≤ 8) (hdg : decode cc pc = .ok (.invokestatic idx, 3))
    (kk : ∀ (u : S) (H1 : Heap) (locs1 : List Loc), wd D A s.heap (w1 u) H1 locs1 → post u → W p l e R s m args below meth c H1 locs1 (cells + mc') (slots + ms') Q (F0 m (pc + 3) ls rest)) : W p l e R s m args below meth c H locs cells slots Q (F0 m pc ls st) := by
  subst hst
  have hFc := wd_free w hA
  exact va_callv (va_runS (As := As) (rest := rest) ⟨C.1, C.2.1, C.2.2.1, C.2.2.2.1, C.2.2.2.2.1⟩ (hM H.size) ⟨okC_B (C := C) o.1 hlk hrc hR, C.2.2.2.2.1 _ o.2⟩ ⟨gPcE_blind, fun U hU hW => ⟨rfl, by rw [hU], by rw [hU]; exact w.1, va_K.moved hW.alike C.2.2.2.2.2.1, w.2.1.weaken (fun _ _ _ _ => trivial), xN_warm hW C.2.2.2.2.2.2, xE_call hE w.2.2 hFc hU hW⟩⟩ rfl hn hl rfl (lv_room hW) hdg hf) w.2.2 (fun q _ h => hFc q h) hFc (fun u t H1 locs1 ht hvm hw hB hz1 hk1 hS1 => by
    exact kk u H1 locs1 ⟨by rw [← ht]; exact hB.1, hB.2.2.weaken (fun _ q _ h => hFc q.1 h), hS1⟩ hw)
end RCE
set_option maxRecDepth 20000
theorem km_J0_335 : Cond.methodLink "java/lang/String" 335 ⟨"java/lang/String", "coder", "()B"⟩ ∈ wAll := wAll_t (i := 411) rfl rfl
theorem kf_J0_38 : Cond.fieldLink "java/lang/String" 38 "java/lang/String" "COMPACT_STRINGS" "Z" ∈ wAll := wAll_t (i := 415) rfl rfl
theorem km_J0_492 : Cond.methodLink "java/lang/String" 492 ⟨"java/lang/String", "isLatin1", "()Z"⟩ ∈ wAll := wAll_t (i := 421) rfl rfl
theorem km_J0_495 : Cond.methodLink "java/lang/String" 495 ⟨"java/lang/StringLatin1", "charAt", "([BI)C"⟩ ∈ wAll := wAll_t (i := 425) rfl rfl
theorem km_J1_9 : Cond.methodLink "java/lang/StringLatin1" 9 ⟨"java/lang/String", "checkIndex", "(II)V"⟩ ∈ wAll := wAll_t (i := 428) rfl rfl
theorem kf_J0_1053 : Cond.fieldLink "java/lang/String" 1053 "jdk/internal/util/Preconditions" "SIOOBE_FORMATTER" "Ljava/util/function/BiFunction;" ∈ wAll := wAll_t (i := 431) rfl rfl
theorem km_J0_1059 : Cond.methodLink "java/lang/String" 1059 ⟨"jdk/internal/util/Preconditions", "checkIndex", "(IILjava/util/function/BiFunction;)I"⟩ ∈ wAll := wAll_t (i := 433) rfl rfl
theorem kf_J0_9 : Cond.fieldLink "java/lang/String" 9 "java/lang/String" "value" "[B" ∈ wAll := wAll_t (i := 1096) rfl rfl
theorem kf_J0_15 : Cond.fieldLink "java/lang/String" 15 "java/lang/String" "coder" "B" ∈ wAll := wAll_t (i := 1097) rfl rfl
theorem ok_J0_length_8abf5 : okV yJ0_length_8abf5 cJ0_length_8abf5 1 (some .int) 0 := ⟨⟨wAll_t (i := 12) rfl rfl, wAll_t (i := 410) rfl rfl, by decide, by decide, by decide +kernel⟩, wAll_t (i := 408) rfl rfl, wAll_t (i := 409) rfl rfl⟩
theorem ok_J0_coder_7d493 : okV yJ0_coder_7d493 cJ0_coder_7d493 1 (some .byte) 0 := ⟨⟨wAll_t (i := 12) rfl rfl, wAll_t (i := 414) rfl rfl, by decide, by decide, by decide +kernel⟩, wAll_t (i := 412) rfl rfl, wAll_t (i := 413) rfl rfl⟩
theorem ok_J0_charAt_5068e : okV yJ0_charAt_5068e cJ0_charAt_5068e 2 (some .char) 1 := ⟨⟨wAll_t (i := 12) rfl rfl, wAll_t (i := 420) rfl rfl, by decide, by decide, by decide +kernel⟩, wAll_t (i := 418) rfl rfl, wAll_t (i := 419) rfl rfl⟩
theorem ok_J0_isLatin1_aae02 : okV yJ0_isLatin1_aae02 cJ0_isLatin1_aae02 1 (some .boolean) 0 := ⟨⟨wAll_t (i := 12) rfl rfl, wAll_t (i := 424) rfl rfl, by decide, by decide, by decide +kernel⟩, wAll_t (i := 422) rfl rfl, wAll_t (i := 423) rfl rfl⟩
theorem ok_J1_charAt_3b067 : okS yJ1_charAt_3b067 cJ1_charAt_3b067 2 (some .char) 2 := ⟨⟨wAll_t (i := 13) rfl rfl, wAll_t (i := 427) rfl rfl, by decide, by decide, by decide +kernel⟩, wAll_t (i := 426) rfl rfl⟩
theorem ok_J0_checkIndex_df160 : okS yJ0_checkIndex_df160 cJ0_checkIndex_df160 2 none 2 := ⟨⟨wAll_t (i := 12) rfl rfl, wAll_t (i := 430) rfl rfl, by decide, by decide, by decide +kernel⟩, wAll_t (i := 429) rfl rfl⟩
theorem ok_J3_checkIndex_8e157 : okS yJ3_checkIndex_8e157 cJ3_checkIndex_8e157 3 (some .int) 3 := ⟨⟨wAll_t (i := 14) rfl rfl, wAll_t (i := 435) rfl rfl, by decide, by decide, by decide +kernel⟩, wAll_t (i := 434) rfl rfl⟩
abbrev rm_J3_checkIndex_8e157 : Room := { frames := 0, cells := 0, slots := 0, locals := 0 }
abbrev rm_J0_checkIndex_df160 : Room := { frames := 1, cells := 0, slots := 0, locals := 22 }
abbrev rm_J1_charAt_3b067 : Room := { frames := 2, cells := 0, slots := 0, locals := 43 }
abbrev rm_J0_coder_7d493 : Room := { frames := 0, cells := 0, slots := 0, locals := 0 }
abbrev rm_J0_isLatin1_aae02 : Room := { frames := 0, cells := 0, slots := 0, locals := 0 }
abbrev rm_J0_length_8abf5 : Room := { frames := 1, cells := 0, slots := 0, locals := 20 }
abbrev rm_J0_charAt_5068e : Room := { frames := 3, cells := 0, slots := 0, locals := 64 }
theorem ct_J3_checkIndex_8e157 (l : Launch) (D : va_G) (cy : Nat → ClassId) (ad : Nat → Nat) (ws : va_W) {k n : Int} (h0 : 0 ≤ k) (h1 : k < n) (h2 : n ≤ 2147483647) (q : Nat) : MIE l yJ3_checkIndex_8e157 cJ3_checkIndex_8e157 3 .int rm_J3_checkIndex_8e157 D cy ad ws [vI k, vI n, .ref q] (fun (v : Int) (_ : Unit) => v = k) (fun _ => ws) 0 0 := by
  refine go_iE (by decide +kernel) (Nat.le_of_ble_eq_true rfl) (Or.inl rfl) ?_
  intro p e s m args below meth c Q A ls C hE hnm hA w hl hend
  have hx := C.1
  have hb := C.2.1
  replace hl : lv_has ls 3 [(0, vI k), (1, vI n), (2, .ref q)] := hl
  refine lv_iload_n hx hb dJ3_checkIndex_8e157_0 rfl (lv_at hl 0 rfl) ?_
  refine r_if_lt (tgt := 9) hx hb dJ3_checkIndex_8e157_1 (by decide) ⟨by omega, by omega⟩ (fun c1 => absurd c1 (by omega)) (fun c1 => ?_)
  refine lv_iload_n hx hb dJ3_checkIndex_8e157_4 rfl (lv_at hl 0 rfl) ?_
  refine lv_iload_n hx hb dJ3_checkIndex_8e157_5 rfl (lv_at hl 1 rfl) ?_
  refine r_icmp_lt (tgt := 16) hx hb dJ3_checkIndex_8e157_6 (by decide) ⟨by omega, by omega⟩ ⟨by omega, by omega⟩ (fun c6 => ?_) (fun c6 => absurd c6 (by omega))
  refine lv_iload_n hx hb dJ3_checkIndex_8e157_16 rfl (lv_at hl 0 rfl) ?_
  exact hend k () _ _ _ _ dJ3_checkIndex_8e157_17 w rfl
theorem ct_J3n_checkIndex_8e157 (l : Launch) (D : va_G) (cy : Nat → ClassId) (ad : Nat → Nat) (ws : va_W) {k n : Int} (h0 : 0 ≤ k) (h1 : k < n) (h2 : n ≤ 2147483647) : MIE l yJ3_checkIndex_8e157 cJ3_checkIndex_8e157 3 .int rm_J3_checkIndex_8e157 D cy ad ws [vI k, vI n, .null] (fun (v : Int) (_ : Unit) => v = k) (fun _ => ws) 0 0 := by
  refine go_iE (by decide +kernel) (Nat.le_of_ble_eq_true rfl) (Or.inl rfl) ?_
  intro p e s m args below meth c Q A ls C hE hnm hA w hl hend
  have hx := C.1
  have hb := C.2.1
  replace hl : lv_has ls 3 [(0, vI k), (1, vI n), (2, .null)] := hl
  refine lv_iload_n hx hb dJ3_checkIndex_8e157_0 rfl (lv_at hl 0 rfl) ?_
  refine r_if_lt (tgt := 9) hx hb dJ3_checkIndex_8e157_1 (by decide) ⟨by omega, by omega⟩ (fun c1 => absurd c1 (by omega)) (fun c1 => ?_)
  refine lv_iload_n hx hb dJ3_checkIndex_8e157_4 rfl (lv_at hl 0 rfl) ?_
  refine lv_iload_n hx hb dJ3_checkIndex_8e157_5 rfl (lv_at hl 1 rfl) ?_
  refine r_icmp_lt (tgt := 16) hx hb dJ3_checkIndex_8e157_6 (by decide) ⟨by omega, by omega⟩ ⟨by omega, by omega⟩ (fun c6 => ?_) (fun c6 => absurd c6 (by omega))
  refine lv_iload_n hx hb dJ3_checkIndex_8e157_16 rfl (lv_at hl 0 rfl) ?_
  exact hend k () _ _ _ _ dJ3_checkIndex_8e157_17 w rfl
theorem ct_J0_checkIndex_df160 (l : Launch) (D : va_G) (cy : Nat → ClassId) (ad : Nat → Nat) (ws : va_W) {k n : Int} (h0 : 0 ≤ k) (h1 : k < n) (h2 : n ≤ 2147483647) : MVE l yJ0_checkIndex_df160 cJ0_checkIndex_df160 2 rm_J0_checkIndex_df160 D cy ad ws [vI k, vI n] (fun (_ : Unit) => True) (fun _ => ws) 0 0 := by
  refine go_vE (by decide +kernel) (Nat.le_of_ble_eq_true rfl) ?_
  intro p e s m args below meth c Q A ls C hE hnm hA w hl hend
  have hx := C.1
  have hb := C.2.1
  replace hl : lv_has ls 2 [(0, vI k), (1, vI n)] := hl
  refine lv_iload_n hx hb dJ0_checkIndex_df160_0 rfl (lv_at hl 0 rfl) ?_
  refine lv_iload_n hx hb dJ0_checkIndex_df160_1 rfl (lv_at hl 1 rfl) ?_
  rcases hE.2.2.1 with hZ9 | ⟨q9, hZ9⟩
  · skip
    refine va_gets hx hb hZ9 w.2.2 C.2.2.2.1 (C.2.2.2.2.1 _ kf_J0_1053) (fun _ h => h) dJ0_checkIndex_df160_2 ?_
    refine cSIE C w hA hE (ct_J3n_checkIndex_8e157 l D cy ad ws h0 h1 h2) ok_J3_checkIndex_8e157 km_J0_1059 ⟨rfl, rfl⟩ ⟨by decide, by decide⟩ ⟨by decide, by decide⟩ rfl hl.1 rfl (Nat.le_of_ble_eq_true rfl) dJ0_checkIndex_df160_5 (fun rv uv H locs w hp => ?_)
    refine lv_pop hx hb dJ0_checkIndex_df160_8 rfl ?_
    exact hend () _ _ _ _ dJ0_checkIndex_df160_9 w trivial
  · skip
    refine va_gets hx hb hZ9 w.2.2 C.2.2.2.1 (C.2.2.2.2.1 _ kf_J0_1053) (fun _ h => h) dJ0_checkIndex_df160_2 ?_
    refine cSIE C w hA hE (ct_J3_checkIndex_8e157 l D cy ad ws h0 h1 h2 q9) ok_J3_checkIndex_8e157 km_J0_1059 ⟨rfl, rfl⟩ ⟨by decide, by decide⟩ ⟨by decide, by decide⟩ rfl hl.1 rfl (Nat.le_of_ble_eq_true rfl) dJ0_checkIndex_df160_5 (fun rv uv H locs w hp => ?_)
    refine lv_pop hx hb dJ0_checkIndex_df160_8 rfl ?_
    exact hend () _ _ _ _ dJ0_checkIndex_df160_9 w trivial
theorem ct_J1_charAt_3b067 (l : Launch) (D : va_G) (cy : Nat → ClassId) (ad : Nat → Nat) (ws : va_W) {i k : Nat} (hi : i < 6) (hk : k < lenS.getD i 0) : MIE l yJ1_charAt_3b067 cJ1_charAt_3b067 2 .char rm_J1_charAt_3b067 D cy ad ws [.ref (ad (2 * i + 1)), vI (k : Int)] (fun (v : Int) (_ : Unit) => v = chI i k) (fun _ => ws) 0 0 := by
  have hc := ch_1 i hi k hk
  have hL := len_1 i hi
  refine go_iE (by decide +kernel) (Nat.le_of_ble_eq_true rfl) (Or.inr (fun v u h => by rw [h]; exact ch_nar hc.2.2)) ?_
  intro p e s m args below meth c Q A ls C hE hnm hA w hl hend
  have hx := C.1
  have hb := C.2.1
  replace hl : lv_has ls 2 [(0, .ref (ad (2 * i + 1))), (1, vI (k : Int))] := hl
  refine lv_iload_n hx hb dJ1_charAt_3b067_0 rfl (lv_at hl 1 rfl) ?_
  refine lv_aload_n hx hb dJ1_charAt_3b067_1 rfl (lv_at hl 0 rfl) ?_
  refine va_tlen (v := iI (lenS.getD i 0 : Nat)) hx hb (hE.1.1 i hi).2.2.2 w.2.2 hL.1 dJ1_charAt_3b067_2 ?_
  refine cSVE C w hA hE (ct_J0_checkIndex_df160 l D cy ad ws (k := k) (n := (lenS.getD i 0 : Nat)) (by omega) (by omega) (by omega)) ok_J0_checkIndex_df160 km_J1_9 ⟨rfl, rfl⟩ ⟨by decide, by decide⟩ ⟨by decide, by decide⟩ rfl hl.1 rfl (Nat.le_of_ble_eq_true rfl) dJ1_charAt_3b067_3 (fun uv H locs w hp => ?_)
  refine lv_aload_n hx hb dJ1_charAt_3b067_6 rfl (lv_at hl 0 rfl) ?_
  refine lv_iload_n hx hb dJ1_charAt_3b067_7 rfl (lv_at hl 1 rfl) ?_
  refine va_tb (v := vI (chI i k)) hx hb (hE.1.1 i hi).2.2.2 w.2.2 (iI_in (by omega) (by omega) (by omega)) (by rw [iI_clamp (by omega) (by omega)]; show Value.int ((bytS.getD i []).getD k 0) = _; rw [hc.1]) dJ1_charAt_3b067_8 ?_
  refine r_sipush hx hb dJ1_charAt_3b067_9 (by decide) ?_
  refine r_iand hx hb 8 dJ1_charAt_3b067_12 rfl (by decide) ?_
  rw [show chI i k % 2 ^ 8 = chI i k by omega]
  refine lv_i2c hx hb dJ1_charAt_3b067_13 hc.2.1 ?_
  exact hend (chI i k) () _ _ _ _ dJ1_charAt_3b067_14 w rfl
theorem ct_J0_coder_7d493 (l : Launch) (D : va_G) (cy : Nat → ClassId) (ad : Nat → Nat) (ws : va_W) {i : Nat} (hi : i < 6) : MIE l yJ0_coder_7d493 cJ0_coder_7d493 1 .byte rm_J0_coder_7d493 D cy ad ws [.ref (ad (2 * i))] (fun (v : Int) (_ : Unit) => v = 0) (fun _ => ws) 0 0 := by
  refine go_iE (by decide +kernel) (Nat.le_of_ble_eq_true rfl) (Or.inr (fun v u h => by rw [h]; rfl)) ?_
  intro p e s m args below meth c Q A ls C hE hnm hA w hl hend
  have hx := C.1
  have hb := C.2.1
  replace hl : lv_has ls 1 [(0, .ref (ad (2 * i)))] := hl
  refine va_gets (v := vI 1) hx hb hE.2.1 w.2.2 C.2.2.2.1 (C.2.2.2.2.1 _ kf_J0_38) (fun _ h => h) dJ0_coder_7d493_0 ?_
  refine r_if_eq (tgt := 13) hx hb dJ0_coder_7d493_3 (by decide) ⟨by omega, by omega⟩ (fun c3 => absurd c3 (by omega)) (fun c3 => ?_)
  refine lv_aload_n hx hb dJ0_coder_7d493_6 rfl (lv_at hl 0 rfl) ?_
  refine vk_getf (v := vI 0) hx hb (hE.1.1 i hi).2.1 w.2.2 C.2.2.2.1 (C.2.2.2.2.1 _ kf_J0_15) (fun _ h => h) dJ0_coder_7d493_7 ?_
  refine lv_goto (tgt := 14) hx hb dJ0_coder_7d493_10 (by decide) ?_
  exact hend 0 () _ _ _ _ dJ0_coder_7d493_14 w rfl
theorem ct_J0_isLatin1_aae02 (l : Launch) (D : va_G) (cy : Nat → ClassId) (ad : Nat → Nat) (ws : va_W) {i : Nat} (hi : i < 6) : MIE l yJ0_isLatin1_aae02 cJ0_isLatin1_aae02 1 .boolean rm_J0_isLatin1_aae02 D cy ad ws [.ref (ad (2 * i))] (fun (v : Int) (_ : Unit) => v = 1) (fun _ => ws) 0 0 := by
  refine go_iE (by decide +kernel) (Nat.le_of_ble_eq_true rfl) (Or.inr (fun v u h => nb01 (by omega))) ?_
  intro p e s m args below meth c Q A ls C hE hnm hA w hl hend
  have hx := C.1
  have hb := C.2.1
  replace hl : lv_has ls 1 [(0, .ref (ad (2 * i)))] := hl
  refine va_gets (v := vI 1) hx hb hE.2.1 w.2.2 C.2.2.2.1 (C.2.2.2.2.1 _ kf_J0_38) (fun _ h => h) dJ0_isLatin1_aae02_0 ?_
  refine r_if_eq (tgt := 17) hx hb dJ0_isLatin1_aae02_3 (by decide) ⟨by omega, by omega⟩ (fun c3 => absurd c3 (by omega)) (fun c3 => ?_)
  refine lv_aload_n hx hb dJ0_isLatin1_aae02_6 rfl (lv_at hl 0 rfl) ?_
  refine vk_getf (v := vI 0) hx hb (hE.1.1 i hi).2.1 w.2.2 C.2.2.2.1 (C.2.2.2.2.1 _ kf_J0_15) (fun _ h => h) dJ0_isLatin1_aae02_7 ?_
  refine r_if_ne (tgt := 17) hx hb dJ0_isLatin1_aae02_10 (by decide) ⟨by omega, by omega⟩ (fun c3 => absurd c3 (by omega)) (fun c3 => ?_)
  refine r_iconst hx hb dJ0_isLatin1_aae02_13 ?_
  refine lv_goto (tgt := 18) hx hb dJ0_isLatin1_aae02_14 (by decide) ?_
  exact hend 1 () _ _ _ _ dJ0_isLatin1_aae02_18 w rfl
theorem ct_J0_length_8abf5 (l : Launch) (D : va_G) (cy : Nat → ClassId) (ad : Nat → Nat) (ws : va_W) {i : Nat} (hi : i < 6) : MIE l yJ0_length_8abf5 cJ0_length_8abf5 1 .int rm_J0_length_8abf5 D cy ad ws [.ref (ad (2 * i))] (fun (v : Int) (_ : Unit) => v = (lenS.getD i 0 : Nat)) (fun _ => ws) 0 0 := by
  have hL := len_1 i hi
  refine go_iE (by decide +kernel) (Nat.le_of_ble_eq_true rfl) (Or.inl rfl) ?_
  intro p e s m args below meth c Q A ls C hE hnm hA w hl hend
  have hx := C.1
  have hb := C.2.1
  replace hl : lv_has ls 1 [(0, .ref (ad (2 * i)))] := hl
  refine lv_aload_n hx hb dJ0_length_8abf5_0 rfl (lv_at hl 0 rfl) ?_
  refine vk_getf hx hb (hE.1.1 i hi).2.2.1 w.2.2 C.2.2.2.1 (C.2.2.2.2.1 _ kf_J0_9) (fun _ h => h) dJ0_length_8abf5_1 ?_
  refine va_tlen (v := iI (lenS.getD i 0 : Nat)) hx hb (hE.1.1 i hi).2.2.2 w.2.2 hL.1 dJ0_length_8abf5_4 ?_
  refine lv_aload_n hx hb dJ0_length_8abf5_5 rfl (lv_at hl 0 rfl) ?_
  refine cRIE C w hA hE (ct_J0_coder_7d493 l D cy ad ws hi) ok_J0_coder_7d493 km_J0_335 ⟨rfl, rfl⟩ ⟨by decide, by decide⟩ ⟨by decide, by decide⟩ rfl (vk_recv (adK := fun i => ad (2 * i)) hE.1 hi w.2.2) hl.1 rfl (Nat.le_of_ble_eq_true rfl) dJ0_length_8abf5_6 (fun rv uv H locs w hp => ?_)
  subst hp
  refine r_ishr hx hb 0 dJ0_length_8abf5_9 ⟨by omega, by omega⟩ (by decide) ?_
  rw [show ((lenS.getD i 0 : Nat) : Int) / 2 ^ 0 = (lenS.getD i 0 : Nat) by omega]
  exact hend _ () _ _ _ _ dJ0_length_8abf5_10 w rfl
theorem ct_J0_charAt_5068e (l : Launch) (D : va_G) (cy : Nat → ClassId) (ad : Nat → Nat) (ws : va_W) {i k : Nat} (hi : i < 6) (hk : k < lenS.getD i 0) : MIE l yJ0_charAt_5068e cJ0_charAt_5068e 2 .char rm_J0_charAt_5068e D cy ad ws [.ref (ad (2 * i)), vI (k : Int)] (fun (v : Int) (_ : Unit) => v = chI i k) (fun _ => ws) 0 0 := by
  have hc := ch_1 i hi k hk
  refine go_iE (by decide +kernel) (Nat.le_of_ble_eq_true rfl) (Or.inr (fun v u h => by rw [h]; exact ch_nar hc.2.2)) ?_
  intro p e s m args below meth c Q A ls C hE hnm hA w hl hend
  have hx := C.1
  have hb := C.2.1
  replace hl : lv_has ls 2 [(0, .ref (ad (2 * i))), (1, vI (k : Int))] := hl
  refine lv_aload_n hx hb dJ0_charAt_5068e_0 rfl (lv_at hl 0 rfl) ?_
  refine cRIE C w hA hE (ct_J0_isLatin1_aae02 l D cy ad ws hi) ok_J0_isLatin1_aae02 km_J0_492 ⟨rfl, rfl⟩ ⟨by decide, by decide⟩ ⟨by decide, by decide⟩ rfl (vk_recv (adK := fun i => ad (2 * i)) hE.1 hi w.2.2) hl.1 rfl (Nat.le_of_ble_eq_true rfl) dJ0_charAt_5068e_1 (fun rv uv H locs w hp => ?_)
  refine r_if_eq (tgt := 16) hx hb dJ0_charAt_5068e_4 (by decide) ⟨by omega, by omega⟩ (fun c3 => absurd c3 (by omega)) (fun c3 => ?_)
  refine lv_aload_n hx hb dJ0_charAt_5068e_7 rfl (lv_at hl 0 rfl) ?_
  refine vk_getf hx hb (hE.1.1 i hi).2.2.1 w.2.2 C.2.2.2.1 (C.2.2.2.2.1 _ kf_J0_9) (fun _ h => h) dJ0_charAt_5068e_8 ?_
  refine lv_iload_n hx hb dJ0_charAt_5068e_11 rfl (lv_at hl 1 rfl) ?_
  refine cSIE C w hA hE (ct_J1_charAt_3b067 l D cy ad ws hi hk) ok_J1_charAt_3b067 km_J0_495 ⟨rfl, rfl⟩ ⟨by decide, by decide⟩ ⟨by decide, by decide⟩ rfl hl.1 rfl (Nat.le_of_ble_eq_true rfl) dJ0_charAt_5068e_12 (fun rv uv H locs w hp => ?_)
  exact hend _ () _ _ _ _ dJ0_charAt_5068e_15 w hp
