/-! one list of table words for all methods; what the nest words say; contracts of one form; calls -/
def wAll : List Cond := lw_tbl.filter goodWord
theorem wAll_t {w : Cond} {i : Nat} (h : tables_1[i]? = some w) (hg : goodWord w = true) : w ∈ wAll := List.mem_filter.mpr ⟨List.mem_append_right _ (List.mem_of_getElem? h), hg⟩
theorem wAll_s {w : Cond} {i : Nat} (h : (k2_sels lw_privs)[i]? = some w) (hg : goodWord w = true) : w ∈ wAll := List.mem_filter.mpr ⟨List.mem_append_left _ (List.mem_of_getElem? h), hg⟩
theorem wAll_good {x y : Cond} (hy : y ∈ wAll) : GoodIn (x :: wAll) (y :: wAll) := by
  intro w hw
  have h : w ∈ wAll := (List.mem_cons.mp hw).elim (fun q => q ▸ hy) id
  exact ⟨List.mem_cons_of_mem _ h, good_of_word (List.mem_filter.mp h).2⟩
def isNest : Cond → Bool
  | .fieldLinkNest _ _ _ _ _ _ => true
  | .methodLinkNest _ _ _ _ => true
  | _ => false
def xN (U : State) : Prop := ∀ w ∈ tables_1, isNest w = true → va_Nw w U
theorem xN_t {U : State} (h : xN U) {w : Cond} {i : Nat} (hi : tables_1[i]? = some w) (hn : isNest w = true) : va_Nw w U := h w (List.mem_of_getElem? hi) hn
theorem isNest_on {w : Cond} (h : isNest w = true) : w.onTables = true := by
  cases w <;> first | rfl | (exact absurd h (by simp [isNest]))
theorem xN_warm {s U : State} (hW : s.WarmedH U.vm) (h : xN s) : xN U := by
  intro w hw hn
  have h1 := h w hw hn
  cases w <;> first | exact va_Nw.warmF hW h1 | exact va_Nw.warmM hW h1 | (exact absurd hn (by simp [isNest]))
theorem xN_same {u U : State} (hv : u.vm = U.vm) (h : xN u) : xN U := fun w hw hn => va_Nw.same (isNest_on hn) hv (h w hw hn)
abbrev tyw (cy : Nat → ClassId) : List (ClassId × FieldType) := [(cy 0, .int), (cy 1, .long), (cy 2, .boolean), (cy 3, .byte)]
abbrev kx (D : va_G) (cy : Nat → ClassId) (s : State) : Prop := va_K D vwCl (tyw cy) s
def wd (D : va_G) (A : Nat → Prop) (H0 : Heap) (ws : va_W) (H : Heap) (locs : List Loc) : Prop := va_P D vwCl ws H ∧ va_D A ws ∧ va_S A H0 H locs
def gPc (D : va_G) (cy : Nat → ClassId) (w0 : va_W) (sz : Nat) (av : List Value) : Array Value → State → Prop :=
  va_Pc av (fun U => U.heap.size = sz ∧ va_P D vwCl w0 U.heap ∧ kx D cy U ∧ va_D (fun _ => True) w0 ∧ xN U)
def gB {S : Type} (D : va_G) (cy : Nat → ClassId) (w0 : va_W) (sz : Nat) (w1 : S → va_W) : S → State → Prop := fun u t => va_P D vwCl (w1 u) t.heap ∧ kx D cy t ∧ va_D (va_A w0 sz) (w1 u)
def MI (l : Launch) (y : MethodName) (cc : ByteArray) (n : Nat) (ret : FieldType) (rm : Room) (D : va_G) (cy : Nat → ClassId) (w0 : va_W) (av : List Value) {S : Type} (post : Int → S → Prop) (w1 : S → va_W) (mc ms : Nat) : Prop :=
  ∀ sz : Nat, Met l y (.code y cc n (some ret) :: wAll) rm (gPc D cy w0 sz av) (va_Qi (fun r u => ∃ v : Int, r = iI v ∧ post v u) (gB D cy w0 sz w1) (va_A w0 sz)) mc ms (va_A w0 sz)
def ML (l : Launch) (y : MethodName) (cc : ByteArray) (n : Nat) (rm : Room) (D : va_G) (cy : Nat → ClassId) (w0 : va_W) (av : List Value) {S : Type} (post : Int → S → Prop) (w1 : S → va_W) (mc ms : Nat) : Prop :=
  ∀ sz : Nat, Met l y (.code y cc n (some .long) :: wAll) rm (gPc D cy w0 sz av) (va_Ql (fun r u => ∃ v : Int, r = lI v ∧ post v u) (gB D cy w0 sz w1) (va_A w0 sz)) mc ms (va_A w0 sz)
def MV (l : Launch) (y : MethodName) (cc : ByteArray) (n : Nat) (rm : Room) (D : va_G) (cy : Nat → ClassId) (w0 : va_W) (av : List Value) {S : Type} (post : S → Prop) (w1 : S → va_W) (mc ms : Nat) : Prop :=
  ∀ sz : Nat, Met l y (.code y cc n none :: wAll) rm (gPc D cy w0 sz av) (va_Qv post (gB D cy w0 sz w1) (va_A w0 sz)) mc ms (va_A w0 sz)
/-- what a walk knows of its method -/
def cx (p : Program) (s : State) (m : MethodId) (args : Array Value) (meth : Method) (c : Code) (cc : ByteArray) (nL : Nat) (own : String) (D : va_G) (cy : Nat → ClassId) : Prop :=
  p.tables.exec = Jvm.exec ∧ c.code = cc ∧ c.maxLocals = nL ∧ s.vm.findClass own = some m.cls ∧ (∀ w ∈ wAll, w.before args s = true) ∧ kx D cy s ∧ xN s
section GO
variable {l : Launch} {y : MethodName} {cc : ByteArray} {n : Nat} {ret : FieldType} {rm : Room} {D : va_G} {cy : Nat → ClassId} {w0 : va_W} {av : List Value} {S : Type} {w1 : S → va_W} {mc ms : Nat}
theorem go_i {post : Int → S → Prop} (hy : plainName y.cls = true) (hn : (lg_sl av).length ≤ n) (hret : ret = .int ∨ ∀ v u, post v u → narrow ret (vI v) = vI v)
    (body : ∀ (p : Program) (e : Env) (s : State) (m : MethodId) (args : Array Value) (below : List Frame) (meth : Method) (c : Code) (Q : State → Prop) (A : Nat → Prop) (ls : Array Slot),
      cx p s m args meth c cc n y.cls D cy → meth.name = y.name → (∀ q, s.heap.size ≤ q → A q) → wd D A s.heap w0 s.heap [] → lv_has ls n (lv_args 0 av) →
      (∀ (v : Int) (u : S) (H : Heap) (locs : List Loc) (pc : Nat) (ls : Array Slot), decode cc pc = .ok (.ireturn, 1) → wd D A s.heap (w1 u) H locs → post v u → W p l e rm s m args below meth c H locs mc ms Q (F0 m pc ls [vI v])) →
      W p l e rm s m args below meth c s.heap [] 0 0 Q (F0 m 0 ls [])) : MI l y cc n ret rm D cy w0 av post w1 mc ms := by
  intro sz
  refine Met.ofW (cc := cc) (maxL := n) (ret := some ret) hy rfl ?_
  intro p e s m args below meth c s₁ B hml hv
  obtain ⟨rfl, hsz, hP, hK, hD0, hN⟩ := hv
  subst hsz
  have hts := atoms_spec (ws := .code y cc n (some ret) :: wAll) B.pre
  rw [lg_entry_eq]
  refine body p e s m av.toArray below meth c _ (va_A w0 s.heap.size) _ ⟨B.exec, B.bytes, hml, findClass_of_methodNamed B.named, fun w h => hts w (List.mem_cons_of_mem _ h), hK, hN⟩ (name_of_methodNamed B.named B.method).1 (fun q h => Or.inr h) ⟨hP, hD0.self, va_S.rf⟩ (lv_entry av hn) ?_
  intro v u H locs pc ls hd hw hp
  have hq : ∀ t : State, t.heap = H → s.WarmedH t.vm → va_Qi (fun r u => ∃ v : Int, r = iI v ∧ post v u) (gB D cy w0 s.heap.size w1) (va_A w0 s.heap.size) av.toArray s (.returned (some (vI v))) t := fun t ht hW => ⟨⟨iI v, u, rfl, ⟨v, rfl, hp⟩, by rw [ht]; exact hw.1, va_K.moved hW.alike hK, hw.2.1⟩, hw.2.2.F ht⟩
  rcases hret with hr | hr
  · subst hr
    exact W.iret B.exec B.bytes B.returns hq hw.2.2.2.2 hd B.notSynchronized
  · exact W.zret B.exec B.bytes B.returns (hr v u hp) hq hw.2.2.2.2 hd B.notSynchronized
theorem go_l {post : Int → S → Prop} (hy : plainName y.cls = true) (hn : (lg_sl av).length ≤ n)
    (body : ∀ (p : Program) (e : Env) (s : State) (m : MethodId) (args : Array Value) (below : List Frame) (meth : Method) (c : Code) (Q : State → Prop) (A : Nat → Prop) (ls : Array Slot),
      cx p s m args meth c cc n y.cls D cy → meth.name = y.name → (∀ q, s.heap.size ≤ q → A q) → wd D A s.heap w0 s.heap [] → lv_has ls n (lv_args 0 av) →
      (∀ (v : Int) (u : S) (H : Heap) (locs : List Loc) (pc : Nat) (ls : Array Slot), decode cc pc = .ok (.lreturn, 1) → wd D A s.heap (w1 u) H locs → post v u → W p l e rm s m args below meth c H locs mc ms Q (F0 m pc ls [vL v])) →
      W p l e rm s m args below meth c s.heap [] 0 0 Q (F0 m 0 ls [])) : ML l y cc n rm D cy w0 av post w1 mc ms := by
  intro sz
  refine Met.ofW (cc := cc) (maxL := n) (ret := some .long) hy rfl ?_
  intro p e s m args below meth c s₁ B hml hv
  obtain ⟨rfl, hsz, hP, hK, hD0, hN⟩ := hv
  subst hsz
  have hts := atoms_spec (ws := .code y cc n (some .long) :: wAll) B.pre
  rw [lg_entry_eq]
  refine body p e s m av.toArray below meth c _ (va_A w0 s.heap.size) _ ⟨B.exec, B.bytes, hml, findClass_of_methodNamed B.named, fun w h => hts w (List.mem_cons_of_mem _ h), hK, hN⟩ (name_of_methodNamed B.named B.method).1 (fun q h => Or.inr h) ⟨hP, hD0.self, va_S.rf⟩ (lv_entry av hn) ?_
  intro v u H locs pc ls hd hw hp
  exact W.lret B.exec B.bytes B.returns (fun t ht hW => ⟨⟨lI v, u, rfl, ⟨v, rfl, hp⟩, by rw [ht]; exact hw.1, va_K.moved hW.alike hK, hw.2.1⟩, hw.2.2.F ht⟩) hw.2.2.2.2 hd B.notSynchronized
theorem go_v {post : S → Prop} (hy : plainName y.cls = true) (hn : (lg_sl av).length ≤ n)
    (body : ∀ (p : Program) (e : Env) (s : State) (m : MethodId) (args : Array Value) (below : List Frame) (meth : Method) (c : Code) (Q : State → Prop) (A : Nat → Prop) (ls : Array Slot),
      cx p s m args meth c cc n y.cls D cy → meth.name = y.name → (∀ q, s.heap.size ≤ q → A q) → wd D A s.heap w0 s.heap [] → lv_has ls n (lv_args 0 av) →
      (∀ (u : S) (H : Heap) (locs : List Loc) (pc : Nat) (ls : Array Slot), decode cc pc = .ok (.return_, 1) → wd D A s.heap (w1 u) H locs → post u → W p l e rm s m args below meth c H locs mc ms Q (F0 m pc ls [])) →
      W p l e rm s m args below meth c s.heap [] 0 0 Q (F0 m 0 ls [])) : MV l y cc n rm D cy w0 av post w1 mc ms := by
  intro sz
  refine Met.ofW (cc := cc) (maxL := n) (ret := none) hy rfl ?_
  intro p e s m args below meth c s₁ B hml hv
  obtain ⟨rfl, hsz, hP, hK, hD0, hN⟩ := hv
  subst hsz
  have hts := atoms_spec (ws := .code y cc n none :: wAll) B.pre
  rw [lg_entry_eq]
  refine body p e s m av.toArray below meth c _ (va_A w0 s.heap.size) _ ⟨B.exec, B.bytes, hml, findClass_of_methodNamed B.named, fun w h => hts w (List.mem_cons_of_mem _ h), hK, hN⟩ (name_of_methodNamed B.named B.method).1 (fun q h => Or.inr h) ⟨hP, hD0.self, va_S.rf⟩ (lv_entry av hn) ?_
  intro u H locs pc ls hd hw hp
  exact W.vret B.exec B.bytes B.returns (fun t ht hW => ⟨⟨u, rfl, hp, by rw [ht]; exact hw.1, va_K.moved hW.alike hK, hw.2.1⟩, hw.2.2.F ht⟩) hw.2.2.2.2 hd B.notSynchronized
end GO
