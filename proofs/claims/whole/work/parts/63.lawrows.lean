/-! the law: its helpers, calls that throw, the script -/
section LH
variable {p : Program} {l : Launch} {e : Env} {R : Room} {s : State} {m : MethodId} {args : Array Value} {below : List Frame} {meth : Method} {c : Code} {H : Heap} {locs : List Loc} {cells slots : Nat} {Q : State → Prop}
variable {cc : ByteArray} {pc nL : Nat} {ls : Array Slot} {rest : List Value} {D : va_G} {cy : Nat → ClassId} {ad : Nat → Nat} {own : String} {A : Nat → Prop} {a : Nat} {X ws Y Z : va_W}
variable {y : MethodName} {cc' : ByteArray} {n' k' idx mc' ms' : Nat} {ret : FieldType} {rm' : Room} {b : Nat} {As st : List Value} {S : Type} {w1 : S → va_W}
theorem dVIX {post : Int → S → Prop} {px : S → Prop} (C : cx p s m args meth c cc nL own D cy) (w : wd D A s.heap (X ++ (ws ++ Z)) H locs) (hA : ∀ q, s.heap.size ≤ q → A q) (hE : xE ad A s s.heap) (hT : xT A s s.heap) (hM : MIX l y cc' n' rm' D cy ad ws (.ref b :: As) post px w1 mc' ms') (o : okV y cc' n' (some .int) k') (hlk : .methodLink own idx y ∈ wAll) (hrc : rm'.cells = mc' ∧ rm'.slots = ms') (hR : rm'.frames + 1 ≤ R.frames ∧ 8 + (n' + 11) + rm'.locals ≤ R.locals) (hf : cells + mc' ≤ R.cells ∧ slots + ms' ≤ R.slots) (hn : As.length = k') (q0 : Nat) {ci N : Nat} {fs : List Value} {T : u_T} (he : ws[q0]? = some (b, .inr (ci, fs))) (hc : vwCl[ci]? = some (y.cls, T, N)) (hl : ls.size = nL) (hst : st = As.reverse ++ .ref b :: rest) (hW : (rest.map fun v => v.category).sum ≤ 8) (hdg : decode cc pc = .ok (.invokevirtual idx, 3))
    (kx : ∀ (ce : Cell) (q9 : Addr) (u : S) (H1 : Heap) (locs1 : List Loc), wd D A s.heap (X ++ (w1 u ++ Z)) H1 locs1 → px u → H1[q9]? = some ce → ce.vm = .none → s.vm.findClass exN = some ce.cls → vx_W p l e R s m args below meth c H1 locs1 (cells + mc') (slots + ms') Q (F0 m pc ls rest) q9)
    (kk : ∀ (v : Int) (u : S) (H1 : Heap) (locs1 : List Loc), wd D A s.heap (X ++ (w1 u ++ Z)) H1 locs1 → post v u → W p l e R s m args below meth c H1 locs1 (cells + mc') (slots + ms') Q (F0 m (pc + 3) ls (vI v :: rest))) : W p l e R s m args below meth c H locs cells slots Q (F0 m pc ls st) := by
  subst hst
  have hFc := wd_freeM w hA
  refine vx_calli (vx_runV (As := As) (rest := rest) ⟨C.1, C.2.1, C.2.2.1, C.2.2.2.1, C.2.2.2.2.1⟩ (hM H.size) ⟨okC_B (C := C) o.1 hlk hrc hR, C.2.2.2.2.1 _ o.2.1, C.2.2.2.2.1 _ o.2.2⟩ ⟨gPcF_blind, va_recv C.2.2.2.2.2.1 (wd_P w) (ci := ci) (q0 := q0) hc he, fun U hU hW => ⟨rfl, by rw [hU], by rw [hU]; exact wd_P w, va_K.moved hW.alike C.2.2.2.2.2.1, (wd_D w).weaken (fun _ _ _ _ => trivial), xN_warm hW C.2.2.2.2.2.2, xE_call hE w.2.2 hFc hU hW, xT_call hT w.2.2 hFc hU hW⟩⟩ rfl hn hl rfl (lv_room hW) hdg hf) w.2.2 (fun q _ h => hFc q h) hFc (fun q _ h => hFc q h) ?_ ?_
  · intro E ce q9 u t H1 locs1 ht hvm hp hB hz1 hk1 hS1 hce hcv hcl
    obtain ⟨rfl, hB⟩ := hB
    exact kx ce q9 u H1 locs1 (wd_back w hA hk1 (by rw [← ht]; exact hB.1) hB.2.2 hS1) hp hce hcv hcl
  · intro r u t H1 locs1 ht hvm hw hB hz1 hk1 hS1
    obtain ⟨v, rfl, hp⟩ := hw
    exact kk v u H1 locs1 (wd_back w hA hk1 (by rw [← ht]; exact hB.1) hB.2.2 hS1) hp
theorem dVLX {post : Int → S → Prop} {px : S → Prop} (C : cx p s m args meth c cc nL own D cy) (w : wd D A s.heap (X ++ (ws ++ Z)) H locs) (hA : ∀ q, s.heap.size ≤ q → A q) (hE : xE ad A s s.heap) (hT : xT A s s.heap) (hM : MLX l y cc' n' rm' D cy ad ws (.ref b :: As) post px w1 mc' ms') (o : okV y cc' n' (some .long) k') (hlk : .methodLink own idx y ∈ wAll) (hrc : rm'.cells = mc' ∧ rm'.slots = ms') (hR : rm'.frames + 1 ≤ R.frames ∧ 8 + (n' + 11) + rm'.locals ≤ R.locals) (hf : cells + mc' ≤ R.cells ∧ slots + ms' ≤ R.slots) (hn : As.length = k') (q0 : Nat) {ci N : Nat} {fs : List Value} {T : u_T} (he : ws[q0]? = some (b, .inr (ci, fs))) (hc : vwCl[ci]? = some (y.cls, T, N)) (hl : ls.size = nL) (hst : st = As.reverse ++ .ref b :: rest) (hW : (rest.map fun v => v.category).sum ≤ 8) (hdg : decode cc pc = .ok (.invokevirtual idx, 3))
    (kx : ∀ (ce : Cell) (q9 : Addr) (u : S) (H1 : Heap) (locs1 : List Loc), wd D A s.heap (X ++ (w1 u ++ Z)) H1 locs1 → px u → H1[q9]? = some ce → ce.vm = .none → s.vm.findClass exN = some ce.cls → vx_W p l e R s m args below meth c H1 locs1 (cells + mc') (slots + ms') Q (F0 m pc ls rest) q9)
    (kk : ∀ (v : Int) (u : S) (H1 : Heap) (locs1 : List Loc), wd D A s.heap (X ++ (w1 u ++ Z)) H1 locs1 → post v u → W p l e R s m args below meth c H1 locs1 (cells + mc') (slots + ms') Q (F0 m (pc + 3) ls (vL v :: rest))) : W p l e R s m args below meth c H locs cells slots Q (F0 m pc ls st) := by
  subst hst
  have hFc := wd_freeM w hA
  refine vx_calll (vx_runV (As := As) (rest := rest) ⟨C.1, C.2.1, C.2.2.1, C.2.2.2.1, C.2.2.2.2.1⟩ (hM H.size) ⟨okC_B (C := C) o.1 hlk hrc hR, C.2.2.2.2.1 _ o.2.1, C.2.2.2.2.1 _ o.2.2⟩ ⟨gPcF_blind, va_recv C.2.2.2.2.2.1 (wd_P w) (ci := ci) (q0 := q0) hc he, fun U hU hW => ⟨rfl, by rw [hU], by rw [hU]; exact wd_P w, va_K.moved hW.alike C.2.2.2.2.2.1, (wd_D w).weaken (fun _ _ _ _ => trivial), xN_warm hW C.2.2.2.2.2.2, xE_call hE w.2.2 hFc hU hW, xT_call hT w.2.2 hFc hU hW⟩⟩ rfl hn hl rfl (lv_room hW) hdg hf) w.2.2 (fun q _ h => hFc q h) hFc (fun q _ h => hFc q h) ?_ ?_
  · intro E ce q9 u t H1 locs1 ht hvm hp hB hz1 hk1 hS1 hce hcv hcl
    obtain ⟨rfl, hB⟩ := hB
    exact kx ce q9 u H1 locs1 (wd_back w hA hk1 (by rw [← ht]; exact hB.1) hB.2.2 hS1) hp hce hcv hcl
  · intro r u t H1 locs1 ht hvm hw hB hz1 hk1 hS1
    obtain ⟨v, rfl, hp⟩ := hw
    exact kk v u H1 locs1 (wd_back w hA hk1 (by rw [← ht]; exact hB.1) hB.2.2 hS1) hp
def MIW (l : Launch) (y : MethodName) (cc : ByteArray) (n : Nat) (hh : List (Nat × Nat × Nat × Nat)) (rm : Room) (D : va_G) (cy : Nat → ClassId) (ad : Nat → Nat) (w0 : va_W) (av : List Value) {S : Type} (post : Int → S → Prop) (w1 : S → va_W) (mc ms : Nat) : Prop :=
  ∀ sz : Nat, Met l y (.codeWith y cc n (some .int) hh :: wAll) rm (gPcF D cy ad w0 sz av) (va_Qi (fun r u => ∃ v : Int, r = iI v ∧ post v u) (gB D cy w0 sz w1) (va_A w0 sz)) mc ms (va_A w0 sz)
theorem go_iW {n : Nat} {hh : List (Nat × Nat × Nat × Nat)} {rm : Room} {w0 : va_W} {av : List Value} {mc ms : Nat} {post : Int → S → Prop} (hy : plainName y.cls = true) (hn : (lg_sl av).length ≤ n)
    (body : ∀ (p : Program) (e : Env) (s : State) (m : MethodId) (args : Array Value) (below : List Frame) (meth : Method) (c : Code) (Q : State → Prop) (A : Nat → Prop) (ls : Array Slot),
      cx p s m args meth c cc n y.cls D cy → xE ad A s s.heap → xT A s s.heap → c.exceptionTable.toList = tableOf hh → (∀ q, s.heap.size ≤ q → A q) → wd D A s.heap w0 s.heap [] → lv_has ls n (lv_args 0 av) →
      (∀ (v : Int) (u : S) (H : Heap) (locs : List Loc) (pc : Nat) (ls : Array Slot), decode cc pc = .ok (.ireturn, 1) → wd D A s.heap (w1 u) H locs → post v u → W p l e rm s m args below meth c H locs mc ms Q (F0 m pc ls [vI v])) →
      W p l e rm s m args below meth c s.heap [] 0 0 Q (F0 m 0 ls [])) : MIW l y cc n hh rm D cy ad w0 av post w1 mc ms := by
  intro sz
  refine MetFree.of_bodyS (code := cc) (maxLocals := n) (ret := some .int) hy ?_ ?_
  · intro args s m h hn9
    obtain ⟨m9, meth, c, hn8, h1, h2, h3, h4, -, h5, h6, -⟩ := Cond.codeWith_spec (atoms_spec (ws := .codeWith y cc n (some .int) hh :: wAll) h _ List.mem_cons_self)
    cases hn9.symm.trans hn8
    exact ⟨meth, c, h1, h2, h3, h4, h5, h6⟩
  · intro p e s m args below meth c s₁ B hml hv _
    obtain ⟨rfl, hsz, hP, hK, hD0, hN, hE, hT⟩ := hv
    subst hsz
    have hts := atoms_spec (ws := .codeWith y cc n (some .int) hh :: wAll) B.pre
    have hh0 : s₁.heap = s.heap := by rw [B.state]; rfl
    have htb := vx_table (x := y) B (hts _ List.mem_cons_self)
    have K : W p l e rm s m av.toArray below meth c s.heap [] 0 0 (MQ below (va_Qi (fun r u => ∃ v : Int, r = iI v ∧ post v u) (gB D cy w0 s.heap.size w1) (va_A w0 s.heap.size)) av.toArray s mc ms (va_A w0 s.heap.size)) (entryFrame m av.toArray n) := by
      rw [lg_entry_eq]
      refine body p e s m av.toArray below meth c _ (va_A w0 s.heap.size) _ ⟨B.exec, B.bytes, hml, findClass_of_methodNamed B.named, fun w h => hts w (List.mem_cons_of_mem _ h), hK, hN⟩ hE hT htb (fun q h => Or.inr h) ⟨hP, hD0.self, va_S.rf⟩ (lv_entry av hn) ?_
      intro v u H locs pc ls hd hw hp
      exact W.iret B.exec B.bytes B.returns (fun t ht hW => ⟨⟨iI v, u, rfl, ⟨v, rfl, hp⟩, by rw [ht]; exact hw.1, va_K.moved hW.alike hK, hw.2.1⟩, hw.2.2.F ht⟩) hw.2.2.2.2 hd B.notSynchronized
    obtain ⟨t, a1, o, b1, b2, b3⟩ := K s₁ hh0 (Stand.of_body B)
    exact ⟨t, o, a1, b1, b2, ⟨b3.1, b3.2⟩⟩
def okW (y : MethodName) (cc : ByteArray) (n : Nat) (hh : List (Nat × Nat × Nat × Nat)) (k : Nat) : Prop := .initialized y.cls ∈ wAll ∧ .codeWith y cc n (some .int) hh ∈ wAll ∧ .static y ∈ wAll ∧ y.cls ≠ "java/lang/invoke/MethodHandle" ∧ y.cls ≠ "java/lang/invoke/VarHandle" ∧ (parseMethodDescriptor y.desc).map (fun d => d.parameters.length) = some k
theorem dSW {hh : List (Nat × Nat × Nat × Nat)} {post : Int → S → Prop} (C : cx p s m args meth c cc nL own D cy) (w : wd D A s.heap (X ++ (ws ++ Z)) H locs) (hA : ∀ q, s.heap.size ≤ q → A q) (hE : xE ad A s s.heap) (hT : xT A s s.heap) (hM : MIW l y cc' n' hh rm' D cy ad ws As post w1 mc' ms') (o : okW y cc' n' hh k') (hlk : .methodLink own idx y ∈ wAll) (hrc : rm'.cells = mc' ∧ rm'.slots = ms') (hR : rm'.frames + 1 ≤ R.frames ∧ 8 + (n' + 11) + rm'.locals ≤ R.locals) (hf : cells + mc' ≤ R.cells ∧ slots + ms' ≤ R.slots) (hn : As.length = k') (hl : ls.size = nL) (hst : st = As.reverse ++ rest) (hW : (rest.map fun v => v.category).sum ≤ 8) (hdg : decode cc pc = .ok (.invokestatic idx, 3))
    (kk : ∀ (v : Int) (u : S) (H1 : Heap) (locs1 : List Loc), wd D A s.heap (X ++ (w1 u ++ Z)) H1 locs1 → post v u → W p l e R s m args below meth c H1 locs1 (cells + mc') (slots + ms') Q (F0 m (pc + 3) ls (vI v :: rest))) : W p l e R s m args below meth c H locs cells slots Q (F0 m pc ls st) := by
  subst hst
  have hFc := wd_freeM w hA
  have hcw : vx_CSW R s args own idx y cc' n' (some .int) hh (.codeWith y cc' n' (some .int) hh :: wAll) rm' mc' ms' k' :=
    ⟨⟨hrc.1, hrc.2, hR.1, hR.2, pay_in C.2.2.2.2.1 (good_in (fun w hw => (List.mem_cons.mp hw).elim (fun q => q ▸ o.2.1) id)), List.mem_cons_self⟩, C.2.2.2.2.1 _ o.2.1, C.2.2.2.2.1 _ o.1, ⟨o.2.2.2.1, o.2.2.2.2.1⟩, fun sig h => by
      have h2 := o.2.2.2.2.2
      rw [h] at h2
      exact (Option.some.inj h2).symm, C.2.2.2.2.1 _ hlk, C.2.2.2.2.1 _ o.2.2.1⟩
  exact va_calli (vx_runSW (As := As) (rest := rest) ⟨C.1, C.2.1, C.2.2.1, C.2.2.2.1, C.2.2.2.2.1⟩ (hM H.size) hcw ⟨gPcF_blind, fun U hU hW => ⟨rfl, by rw [hU], by rw [hU]; exact wd_P w, va_K.moved hW.alike C.2.2.2.2.2.1, (wd_D w).weaken (fun _ _ _ _ => trivial), xN_warm hW C.2.2.2.2.2.2, xE_call hE w.2.2 hFc hU hW, xT_call hT w.2.2 hFc hU hW⟩⟩ rfl hn hl rfl (lv_room hW) hdg hf) w.2.2 (fun q _ h => hFc q h) hFc (fun r u t H1 locs1 ht hvm hw hB hz1 hk1 hS1 => by
    obtain ⟨v, rfl, hp⟩ := hw
    exact kk v u H1 locs1 (wd_back w hA hk1 (by rw [← ht]; exact hB.1) hB.2.2 hS1) hp)
theorem mVI {post : Int → S → Prop} (C : cx p s m args meth c cc nL own D cy) (w : wd D A s.heap (X ++ (Y ++ ws)) H locs) (hA : ∀ q, s.heap.size ≤ q → A q) (hM : MI l y cc' n' ret rm' D cy ws (.ref b :: As) post w1 mc' ms') (o : okV y cc' n' (some ret) k') (hlk : .methodLink own idx y ∈ wAll) (hrc : rm'.cells = mc' ∧ rm'.slots = ms') (hR : rm'.frames + 1 ≤ R.frames ∧ 8 + (n' + 11) + rm'.locals ≤ R.locals) (hf : cells + mc' ≤ R.cells ∧ slots + ms' ≤ R.slots) (hn : As.length = k') (q0 : Nat) {ci N : Nat} {fs : List Value} {T : u_T} (he : ws[q0]? = some (b, .inr (ci, fs))) (hc : vwCl[ci]? = some (y.cls, T, N)) (hl : ls.size = nL) (hst : st = As.reverse ++ .ref b :: rest) (hW : (rest.map fun v => v.category).sum ≤ 8) (hdg : decode cc pc = .ok (.invokevirtual idx, 3))
    (kk : ∀ (v : Int) (u : S) (H1 : Heap) (locs1 : List Loc), wd D A s.heap (X ++ (Y ++ w1 u)) H1 locs1 → post v u → W p l e R s m args below meth c H1 locs1 (cells + mc') (slots + ms') Q (F0 m (pc + 3) ls (vI v :: rest))) : W p l e R s m args below meth c H locs cells slots Q (F0 m pc ls st) :=
  dVI (X := X ++ Y) (ws := ws) (Z := []) C (by rw [List.append_nil, List.append_assoc]; exact w) hA hM o hlk hrc hR hf hn q0 he hc hl hst hW hdg (fun v u H1 locs1 w2 h => kk v u H1 locs1 (by rw [List.append_nil, List.append_assoc] at w2; exact w2) h)
theorem mVL {post : Int → S → Prop} (C : cx p s m args meth c cc nL own D cy) (w : wd D A s.heap (X ++ (Y ++ ws)) H locs) (hA : ∀ q, s.heap.size ≤ q → A q) (hM : ML l y cc' n' rm' D cy ws (.ref b :: As) post w1 mc' ms') (o : okV y cc' n' (some .long) k') (hlk : .methodLink own idx y ∈ wAll) (hrc : rm'.cells = mc' ∧ rm'.slots = ms') (hR : rm'.frames + 1 ≤ R.frames ∧ 8 + (n' + 11) + rm'.locals ≤ R.locals) (hf : cells + mc' ≤ R.cells ∧ slots + ms' ≤ R.slots) (hn : As.length = k') (q0 : Nat) {ci N : Nat} {fs : List Value} {T : u_T} (he : ws[q0]? = some (b, .inr (ci, fs))) (hc : vwCl[ci]? = some (y.cls, T, N)) (hl : ls.size = nL) (hst : st = As.reverse ++ .ref b :: rest) (hW : (rest.map fun v => v.category).sum ≤ 8) (hdg : decode cc pc = .ok (.invokevirtual idx, 3))
    (kk : ∀ (v : Int) (u : S) (H1 : Heap) (locs1 : List Loc), wd D A s.heap (X ++ (Y ++ w1 u)) H1 locs1 → post v u → W p l e R s m args below meth c H1 locs1 (cells + mc') (slots + ms') Q (F0 m (pc + 3) ls (vL v :: rest))) : W p l e R s m args below meth c H locs cells slots Q (F0 m pc ls st) :=
  dVL (X := X ++ Y) (ws := ws) (Z := []) C (by rw [List.append_nil, List.append_assoc]; exact w) hA hM o hlk hrc hR hf hn q0 he hc hl hst hW hdg (fun v u H1 locs1 w2 h => kk v u H1 locs1 (by rw [List.append_nil, List.append_assoc] at w2; exact w2) h)
theorem r_icmp_same (hx : p.tables.exec = Jvm.exec) (hb : c.code = cc) {a b off : Int} {tgt : Nat} (e1 : a = b) (hdg : decode cc pc = .ok (.if_icmp .eq off, 3)) (ht : (pc : Int) + off = (tgt : Int)) (kt : W p l e R s m args below meth c H locs cells slots Q (F0 m tgt ls rest)) : W p l e R s m args below meth c H locs cells slots Q (F0 m pc ls (vI b :: vI a :: rest)) := by
  subst e1
  exact lv_icmp_eq hx hb hdg ht (fun _ => kt) (fun q => absurd rfl q)
theorem lg_same (x : Int64) : lg_cmp x x = iI 0 := by
  show (if x < x then (1 : Int32) else if x = x then 0 else -1) = iI 0
  rw [if_neg (fun h => by have := Int64.lt_iff_toInt_lt.mp h; omega), if_pos rfl]
  rfl
theorem r_lc_same (hx : p.tables.exec = Jvm.exec) (hb : c.code = cc) {a b off : Int} {tgt : Nat} (e1 : a = b) (hd1 : decode cc pc = .ok (.lcmp, 1)) (hdg : decode cc (pc + 1) = .ok (.ifCond .eq off, 3)) (ht : ((pc + 1 : Nat) : Int) + off = (tgt : Int)) (kt : W p l e R s m args below meth c H locs cells slots Q (F0 m tgt ls rest)) : W p l e R s m args below meth c H locs cells slots Q (F0 m pc ls (vL b :: vL a :: rest)) := by
  subst e1
  exact W.lcmp hx hb hd1 (by rw [lg_same]; exact r_if_eq hx hb hdg ht ⟨by decide, by decide⟩ (fun _ => kt) (fun q => absurd rfl q))
def sc (xs : Nat → Int32) (i : Int) : Int := (xs i.toNat).toInt
theorem sc_R (xs : Nat → Int32) (i : Int) : iR (sc xs i) := iI_rng _
theorem r_sld (C : cx p s m args meth c cc nL own D cy) {b L : Nat} {xs : Nat → Int32} (hX : va_X b L xs s s.heap) (hbl : b < s.heap.size) (hbA : ¬ A b) (w : wd D A s.heap ws H locs) (hL : L ≤ 3072) {i : Int} (h0 : 0 ≤ i) (h1 : i < L) (hdg : decode cc pc = .ok (.iaload, 1)) (kk : W p l e R s m args below meth c H locs cells slots Q (F0 m (pc + 1) ls (vI (sc xs i) :: rest))) : W p l e R s m args below meth c H locs cells slots Q (F0 m pc ls (vI i :: .ref b :: rest)) := by
  refine va_sld C.1 C.2.1 hX hbl hbA w.2.2 (iI_in h0 h1 (by omega)) hdg ?_
  rw [iI_clamp h0 (by omega)]
  have e1 : vI (sc xs i) = .int (xs i.toNat) := by
    show Value.int (iI (xs i.toNat).toInt) = _
    rw [iI_of]
  rw [e1] at kk
  exact kk
theorem r_slen (C : cx p s m args meth c cc nL own D cy) {b L : Nat} {xs : Nat → Int32} (hX : va_X b L xs s s.heap) (hbl : b < s.heap.size) (hbA : ¬ A b) (w : wd D A s.heap ws H locs) (hdg : decode cc pc = .ok (.arraylength, 1)) (kk : W p l e R s m args below meth c H locs cells slots Q (F0 m (pc + 1) ls (vI (L : Int) :: rest))) : W p l e R s m args below meth c H locs cells slots Q (F0 m pc ls (.ref b :: rest)) := by
  refine va_slen C.1 C.2.1 hX hbl hbA w.2.2 hdg ?_
  have e1 : Int32.ofNat L = iI (L : Int) := Int32.ofInt_eq_ofNat.symm
  rw [e1]
  exact kk
end LH
def ow (cy : Nat → ClassId) (q : Nat) (f : Int → Int) : va_W := [(q, .inl (cy 1, 1, .inr (.inl (aL f))))]
set_option maxRecDepth 20000 in
theorem ok_L_about : okW yL_about cL_about 5 [(0, 10, 13, 13)] 4 := ⟨ki_L, wAll_t (i := 659) rfl rfl, wAll_t (i := 658) rfl rfl, by decide +kernel, by decide +kernel, by decide +kernel⟩
set_option maxRecDepth 20000 in
theorem ok_L_sale : okW yL_sale cL_sale 5 [(0, 10, 13, 13)] 4 := ⟨ki_L, wAll_t (i := 733) rfl rfl, wAll_t (i := 732) rfl rfl, by decide +kernel, by decide +kernel, by decide +kernel⟩
set_option maxRecDepth 20000 in
theorem ok_L_worth : okW yL_worth cL_worth 6 [(0, 11, 14, 13)] 5 := ⟨ki_L, wAll_t (i := 743) rfl rfl, wAll_t (i := 742) rfl rfl, by decide +kernel, by decide +kernel, by decide +kernel⟩
abbrev rm_L_about : Room := { frames := 7, cells := 1, slots := 6, locals := 104 }
set_option maxHeartbeats 4000000 in
set_option maxRecDepth 100000 in
theorem ct_L_about (l : Launch) (D : va_G) (cy : Nat → ClassId) (a : Nat → Nat) (z : Nat → Int) (g : Nat → Int → Int) (ad : Nat → Nat) (hst9 : l.stackTraces = false) (q : Nat) (f : Int → Int) (p0 p1 : Int) (hz : xBz z) (hg : xBg g) (h0 : iR p0) (h1 : iR p1) : MIW l yL_about cL_about 5 [(0, 10, 13, 13)] (rm_L_about) D cy ad (xw cy a z g ++ ow cy q f) [.ref (a 0), vI p0, vI p1, .ref q] (fun (v : Int) (u : sX × (Int → Int)) => (v = 0 ∧ u.1 = (z, g) ∧ ∃ r9 : Int, u.2 = uI f 0 r9 ∧ iR r9 ∧ ((0 ≤ p0 ∧ p0 < z 16) ∧ ((p1 = 0 ∧ r9 = g 13 p0) ∨ (p1 = 1 ∧ r9 = g 14 p0) ∨ (p1 = 2 ∧ r9 = g 15 p0) ∨ (p1 = 3 ∧ r9 = g 16 p0) ∨ (p1 = 4 ∧ r9 = g 17 p0) ∨ (p1 = 5 ∧ r9 = g 18 p0) ∨ (p1 = 6 ∧ r9 = g 19 p0)))) ∨ (v = 1 ∧ u.1 = (z, g) ∧ (¬ (0 ≤ p0 ∧ p0 < z 16) ∨ ¬ (0 ≤ p1 ∧ p1 ≤ 6)))) (fun u => xw cy a u.1.1 u.1.2 ++ ow cy q u.2) 1 6 := by
  refine go_iW (by decide +kernel) (Nat.le_of_ble_eq_true rfl) ?_
  intro p e s m args below meth c Q A ls C hE hT htb hA w hl hend
  have hx := C.1
  have hb := C.2.1
  replace hl : lv_has ls 5 [(0, .ref (a 0)), (1, vI p0), (2, vI p1), (3, .ref q)] := hl
  refine lv_aload_n hx hb dL_about_0 rfl (lv_at hl 3 rfl) ?_
  refine r_iconst hx hb dL_about_1 ?_
  refine lv_aload_n hx hb dL_about_2 rfl (lv_at hl 0 rfl) ?_
  refine lv_iload_n hx hb dL_about_3 rfl (lv_at hl 1 rfl) ?_
  refine lv_iload_n hx hb dL_about_4 rfl (lv_at hl 2 rfl) ?_
  refine dVIX (X := []) (ws := xw cy a z g) (Z := ow cy q f) C w hA hE hT (ct_X9_about l D cy a z g ad hst9 p0 p1 hz hg h0 h1) ok_X9_about km_L_7 ⟨rfl, rfl⟩ ⟨by decide, by decide⟩ ⟨by decide, by decide⟩ rfl 0 rfl rfl hl.1 rfl (Nat.le_of_ble_eq_true rfl) dL_about_5 (fun ce q9 uv H locs w hpx hce hcv hcl => ?_) (fun rv uv H locs w hp => ?_)
  · refine vx_catch (own := RL) (name := exN) (E := exN) C.2.2.2.1 [] ⟨0, 10, 13, 13⟩ [] htb (fun _ hz9 => nomatch hz9) rfl (by decide) (C.2.2.2.2.1 _ kc_L_13) (va_Nw.use rfl hT.2.2.2.1) hce hcv hcl ?_
    refine lv_astore (lv' := [(4, .ref q9), (0, .ref (a 0)), (1, vI p0), (2, vI p1), (3, .ref q)]) hx hb dL_about_13 hl (by decide) rfl (fun ls hl => ?_)
    refine r_iconst hx hb dL_about_15 ?_
    exact hend 1 ((z, g), f) _ _ _ _ dL_about_16 w (Or.inr ⟨rfl, rfl, hpx⟩)
  · have hR9 : iR rv := by have b13 := xB13 hg p0; have b14 := xB14 hg p0; have b15 := xB15 hg p0; have b16 := xB16 hg p0; have b17 := xB17 hg p0; have b18 := xB18 hg p0; have b19 := xB19 hg p0; have hp2 := hp.2; omega
    refine r_i2l hx hb dL_about_8 hR9 ?_
    replace w : wd D A s.heap (xw cy a z g ++ ow cy q f) H locs := w
    refine r_last C w 45 (f := f) rfl (by decide) (by decide) (by decide) (ws' := xw cy a z g ++ ow cy q (uI f 0 rv)) rfl dL_about_9 (fun H locs w => ?_)
    refine lv_goto (tgt := 17) hx hb dL_about_10 (by decide) ?_
    refine r_iconst hx hb dL_about_17 ?_
    exact hend 0 ((z, g), uI f 0 rv) _ _ _ _ dL_about_18 w (Or.inl ⟨rfl, rfl, rv, rfl, hR9, hp⟩)
abbrev rm_L_sale : Room := { frames := 7, cells := 1, slots := 6, locals := 104 }
set_option maxHeartbeats 4000000 in
set_option maxRecDepth 100000 in
theorem ct_L_sale (l : Launch) (D : va_G) (cy : Nat → ClassId) (a : Nat → Nat) (z : Nat → Int) (g : Nat → Int → Int) (ad : Nat → Nat) (hst9 : l.stackTraces = false) (q : Nat) (f : Int → Int) (p0 p1 : Int) (hz : xBz z) (hg : xBg g) (h0 : iR p0) (h1 : iR p1) : MIW l yL_sale cL_sale 5 [(0, 10, 13, 13)] (rm_L_sale) D cy ad (xw cy a z g ++ ow cy q f) [.ref (a 0), vI p0, vI p1, .ref q] (fun (v : Int) (u : sX × (Int → Int)) => (v = 0 ∧ u.1 = (z, g) ∧ ∃ r9 : Int, u.2 = uI f 0 r9 ∧ iR r9 ∧ ((0 ≤ p0 ∧ p0 < z 17) ∧ ((p1 = 0 ∧ r9 = g 21 p0) ∨ (p1 = 1 ∧ r9 = g 22 p0) ∨ (p1 = 2 ∧ r9 = g 23 p0) ∨ (p1 = 3 ∧ r9 = g 24 p0) ∨ (p1 = 4 ∧ r9 = g 25 p0) ∨ (p1 = 5 ∧ r9 = g 26 p0) ∨ (p1 = 6 ∧ r9 = clX z g p0)))) ∨ (v = 1 ∧ u.1 = (z, g) ∧ (¬ (0 ≤ p0 ∧ p0 < z 17) ∨ ¬ (0 ≤ p1 ∧ p1 ≤ 6)))) (fun u => xw cy a u.1.1 u.1.2 ++ ow cy q u.2) 1 6 := by
  refine go_iW (by decide +kernel) (Nat.le_of_ble_eq_true rfl) ?_
  intro p e s m args below meth c Q A ls C hE hT htb hA w hl hend
  have hx := C.1
  have hb := C.2.1
  replace hl : lv_has ls 5 [(0, .ref (a 0)), (1, vI p0), (2, vI p1), (3, .ref q)] := hl
  refine lv_aload_n hx hb dL_sale_0 rfl (lv_at hl 3 rfl) ?_
  refine r_iconst hx hb dL_sale_1 ?_
  refine lv_aload_n hx hb dL_sale_2 rfl (lv_at hl 0 rfl) ?_
  refine lv_iload_n hx hb dL_sale_3 rfl (lv_at hl 1 rfl) ?_
  refine lv_iload_n hx hb dL_sale_4 rfl (lv_at hl 2 rfl) ?_
  refine dVIX (X := []) (ws := xw cy a z g) (Z := ow cy q f) C w hA hE hT (ct_X9_sale l D cy a z g ad hst9 p0 p1 hz hg h0 h1) ok_X9_sale km_L_15 ⟨rfl, rfl⟩ ⟨by decide, by decide⟩ ⟨by decide, by decide⟩ rfl 0 rfl rfl hl.1 rfl (Nat.le_of_ble_eq_true rfl) dL_sale_5 (fun ce q9 uv H locs w hpx hce hcv hcl => ?_) (fun rv uv H locs w hp => ?_)
  · refine vx_catch (own := RL) (name := exN) (E := exN) C.2.2.2.1 [] ⟨0, 10, 13, 13⟩ [] htb (fun _ hz9 => nomatch hz9) rfl (by decide) (C.2.2.2.2.1 _ kc_L_13) (va_Nw.use rfl hT.2.2.2.1) hce hcv hcl ?_
    refine lv_astore (lv' := [(4, .ref q9), (0, .ref (a 0)), (1, vI p0), (2, vI p1), (3, .ref q)]) hx hb dL_sale_13 hl (by decide) rfl (fun ls hl => ?_)
    refine r_iconst hx hb dL_sale_15 ?_
    exact hend 1 ((z, g), f) _ _ _ _ dL_sale_16 w (Or.inr ⟨rfl, rfl, hpx⟩)
  · have hR9 : iR rv := by have b21 := xB21 hg p0; have b22 := xB22 hg p0; have b23 := xB23 hg p0; have b24 := xB24 hg p0; have b25 := xB25 hg p0; have b26 := xB26 hg p0; have bc := clX_b (z := z) hg p0; have hp2 := hp.2; omega
    refine r_i2l hx hb dL_sale_8 hR9 ?_
    replace w : wd D A s.heap (xw cy a z g ++ ow cy q f) H locs := w
    refine r_last C w 45 (f := f) rfl (by decide) (by decide) (by decide) (ws' := xw cy a z g ++ ow cy q (uI f 0 rv)) rfl dL_sale_9 (fun H locs w => ?_)
    refine lv_goto (tgt := 17) hx hb dL_sale_10 (by decide) ?_
    refine r_iconst hx hb dL_sale_17 ?_
    exact hend 0 ((z, g), uI f 0 rv) _ _ _ _ dL_sale_18 w (Or.inl ⟨rfl, rfl, rv, rfl, hR9, hp⟩)
abbrev rm_L_worth : Room := { frames := 7, cells := 1, slots := 6, locals := 105 }
set_option maxHeartbeats 4000000 in
set_option maxRecDepth 100000 in
theorem ct_L_worth (l : Launch) (D : va_G) (cy : Nat → ClassId) (a : Nat → Nat) (z : Nat → Int) (g : Nat → Int → Int) (ad : Nat → Nat) (hst9 : l.stackTraces = false) (q : Nat) (f : Int → Int) (p0 p1 p2 : Int) (hz : xBz z) (hg : xBg g) (h0 : iR p0) (h1 : iR p1) (h2 : iR p2) : MIW l yL_worth cL_worth 6 [(0, 11, 14, 13)] (rm_L_worth) D cy ad (xw cy a z g ++ ow cy q f) [.ref (a 0), vI p0, vI p1, vI p2, .ref q] (fun (v : Int) (u : sX × (Int → Int)) => (v = 0 ∧ ∃ r9 : Int, u.2 = uI f 0 r9 ∧ ((((0 ≤ p0 ∧ p0 ≤ 5) ∧ (0 ≤ p2 ∧ p2 ≤ 1)) ∧ 1 ≤ (wT (ciX g p1) (gdX g) (mkX g) p0 (z 17)) ∧ ∃ (rp rq : Int) (fs fp fm : Int → Int), u.1.1 = uZ (uZ z 18 rp) 19 rq ∧ u.1.2 = uZ (uZ (uZ g 37 fs) 38 fp) 39 fm ∧ low (wV (ciX g p1) (gdX g) (mkX g) (g 25) p0 (z 17)) ((wT (ciX g p1) (gdX g) (mkX g) p0 (z 17)) * (wC (ciX g p1) (gdX g) (z 17))) rp rq ∧ r9 = if p2 = 0 then rp else rq) ∧ xBz u.1.1 ∧ xBg u.1.2)) ∨ (v = 1 ∧ (((¬ ((0 ≤ p0 ∧ p0 ≤ 5) ∧ (0 ≤ p2 ∧ p2 ≤ 1)) ∧ u.1 = (z, g)) ∨ (((0 ≤ p0 ∧ p0 ≤ 5) ∧ (0 ≤ p2 ∧ p2 ≤ 1)) ∧ (wT (ciX g p1) (gdX g) (mkX g) p0 (z 17)) < 1 ∧ ∃ (rp rq : Int) (fs fp fm : Int → Int), u.1.1 = uZ (uZ z 18 rp) 19 rq ∧ u.1.2 = uZ (uZ (uZ g 37 fs) 38 fp) 39 fm)) ∧ xBz u.1.1 ∧ xBg u.1.2))) (fun u => xw cy a u.1.1 u.1.2 ++ ow cy q u.2) 1 6 := by
  refine go_iW (by decide +kernel) (Nat.le_of_ble_eq_true rfl) ?_
  intro p e s m args below meth c Q A ls C hE hT htb hA w hl hend
  have hx := C.1
  have hb := C.2.1
  replace hl : lv_has ls 6 [(0, .ref (a 0)), (1, vI p0), (2, vI p1), (3, vI p2), (4, .ref q)] := hl
  refine lv_aload hx hb dL_worth_0 (lv_at hl 4 rfl) ?_
  refine r_iconst hx hb dL_worth_2 ?_
  refine lv_aload_n hx hb dL_worth_3 rfl (lv_at hl 0 rfl) ?_
  refine lv_iload_n hx hb dL_worth_4 rfl (lv_at hl 1 rfl) ?_
  refine lv_iload_n hx hb dL_worth_5 rfl (lv_at hl 2 rfl) ?_
  refine lv_iload_n hx hb dL_worth_6 rfl (lv_at hl 3 rfl) ?_
  refine dVLX (X := []) (ws := xw cy a z g) (Z := ow cy q f) C w hA hE hT (ct_X9_worth l D cy a z g ad hst9 p0 p1 p2 hz hg h0 h1 h2) ok_X9_worth km_L_18 ⟨rfl, rfl⟩ ⟨by decide, by decide⟩ ⟨by decide, by decide⟩ rfl 0 rfl rfl hl.1 rfl (Nat.le_of_ble_eq_true rfl) dL_worth_7 (fun ce q9 uv H locs w hpx hce hcv hcl => ?_) (fun rv uv H locs w hp => ?_)
  · refine vx_catch (own := RL) (name := exN) (E := exN) C.2.2.2.1 [] ⟨0, 11, 14, 13⟩ [] htb (fun _ hz9 => nomatch hz9) rfl (by decide) (C.2.2.2.2.1 _ kc_L_13) (va_Nw.use rfl hT.2.2.2.1) hce hcv hcl ?_
    refine lv_astore (lv' := [(5, .ref q9), (0, .ref (a 0)), (1, vI p0), (2, vI p1), (3, vI p2), (4, .ref q)]) hx hb dL_worth_14 hl (by decide) rfl (fun ls hl => ?_)
    refine r_iconst hx hb dL_worth_16 ?_
    exact hend 1 (uv, f) _ _ _ _ dL_worth_17 w (Or.inr ⟨rfl, hpx⟩)
  · skip
    replace w : wd D A s.heap (xw cy a uv.1 uv.2 ++ ow cy q f) H locs := w
    refine r_last C w 45 (f := f) rfl (by decide) (by decide) (by decide) (ws' := xw cy a uv.1 uv.2 ++ ow cy q (uI f 0 rv)) rfl dL_worth_10 (fun H locs w => ?_)
    refine lv_goto (tgt := 18) hx hb dL_worth_11 (by decide) ?_
    refine r_iconst hx hb dL_worth_18 ?_
    exact hend 0 (uv, uI f 0 rv) _ _ _ _ dL_worth_19 w (Or.inl ⟨rfl, rv, rfl, hp⟩)
