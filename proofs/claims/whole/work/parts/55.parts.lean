/-! a call in a part of the world -/
theorem va_D_l {A : Nat → Prop} {X Y : va_W} (h : va_D A (X ++ Y)) : va_D A X := by
  refine ⟨fun i j p q hi hj e => ?_, fun k q hk => ?_⟩
  · have li := (List.getElem?_eq_some_iff.mp hi).1
    have lj := (List.getElem?_eq_some_iff.mp hj).1
    exact h.1 i j p q (by rw [List.getElem?_append_left li]; exact hi) (by rw [List.getElem?_append_left lj]; exact hj) e
  · have lk := (List.getElem?_eq_some_iff.mp hk).1
    exact h.2 k q (by rw [List.getElem?_append_left lk]; exact hk)
theorem getR {X Y : va_W} {k : Nat} {q : Nat × va_E} (hk : Y[k]? = some q) : (X ++ Y)[X.length + k]? = some q := by
  rw [List.getElem?_append_right (Nat.le_add_right _ _), Nat.add_sub_cancel_left]
  exact hk
theorem getL {X Y : va_W} {k : Nat} {q : Nat × va_E} (hk : X[k]? = some q) : (X ++ Y)[k]? = some q := by
  rw [List.getElem?_append_left (List.getElem?_eq_some_iff.mp hk).1]
  exact hk
theorem va_D_r {A : Nat → Prop} {X Y : va_W} (h : va_D A (X ++ Y)) : va_D A Y := by
  refine ⟨fun i j p q hi hj e => ?_, fun k q hk => h.2 _ q (getR hk)⟩
  have := h.1 _ _ p q (getR hi) (getR hj) e
  omega
theorem va_D_x {A : Nat → Prop} {X Y : va_W} (h : va_D A (X ++ Y)) {i j : Nat} {p q : Nat × va_E} (hi : X[i]? = some p) (hj : Y[j]? = some q) : p.1 ≠ q.1 := by
  intro e
  have li := (List.getElem?_eq_some_iff.mp hi).1
  have := h.1 _ _ p q (getL hi) (getR hj) e
  omega
theorem va_P_l {D : va_G} {cl : List vw_C} {X Y : va_W} {H : Heap} (h : va_P D cl (X ++ Y) H) : va_P D cl X H := fun k q hk => h k q (getL hk)
theorem va_P_r {D : va_G} {cl : List vw_C} {X Y : va_W} {H : Heap} (h : va_P D cl (X ++ Y) H) : va_P D cl Y H := fun k q hk => h _ q (getR hk)
section MID
variable {D : va_G} {A : Nat → Prop} {H0 H H1 : Heap} {X Y Z Y1 : va_W} {locs locs1 : List Loc}
theorem wd_P (w : wd D A H0 (X ++ (Y ++ Z)) H locs) : va_P D vwCl Y H := va_P_l (va_P_r w.1)
theorem wd_D (w : wd D A H0 (X ++ (Y ++ Z)) H locs) : va_D A Y := va_D_l (va_D_r w.2.1)
theorem wd_freeM (w : wd D A H0 (X ++ (Y ++ Z)) H locs) (hA : ∀ q, H0.size ≤ q → A q) : ∀ q, va_A Y H.size q → A q := by
  intro q h
  rcases h with ⟨k, e, hk⟩ | h
  · exact (wd_D w).2 k (q, e) hk
  · exact hA q (Nat.le_trans w.2.2.1 h)
theorem wd_back (w : wd D A H0 (X ++ (Y ++ Z)) H locs) (hA : ∀ q, H0.size ≤ q → A q) (hk : ∀ q : Nat, q < H.size → ¬ va_A Y H.size q → H1[q]? = H[q]?) (hP1 : va_P D vwCl Y1 H1) (hD1 : va_D (va_A Y H.size) Y1) (hS1 : va_S A H0 H1 locs1) : wd D A H0 (X ++ (Y1 ++ Z)) H1 locs1 := by
  have hX : ∀ (k : Nat) (q : Nat × va_E), X[k]? = some q → q.1 < H.size ∧ ¬ va_A Y H.size q.1 := by
    intro k q hq
    have lt := (va_P_l w.1 k q hq).lt
    refine ⟨lt, fun z => ?_⟩
    rcases z with ⟨j, e, hj⟩ | z
    · exact va_D_x w.2.1 hq (getL hj) rfl
    · exact absurd lt (Nat.not_lt.mpr z)
  have hZ : ∀ (k : Nat) (q : Nat × va_E), Z[k]? = some q → q.1 < H.size ∧ ¬ va_A Y H.size q.1 := by
    intro k q hq
    have lt := (va_P_r (va_P_r w.1) k q hq).lt
    refine ⟨lt, fun z => ?_⟩
    rcases z with ⟨j, e, hj⟩ | z
    · exact va_D_x (va_D_r w.2.1) hj hq rfl
    · exact absurd lt (Nat.not_lt.mpr z)
  have hDY : va_D A Y1 := hD1.weaken (fun _ q _ h => wd_freeM w hA q.1 h)
  refine ⟨((va_P_l w.1).kept (fun k q hq => hk q.1 (hX k q hq).1 (hX k q hq).2)).app (hP1.app ((va_P_r (va_P_r w.1)).kept (fun k q hq => hk q.1 (hZ k q hq).1 (hZ k q hq).2))), va_D.app (va_D_l w.2.1) (va_D.app hDY (va_D_r (va_D_r w.2.1)) (fun i j p q hi hj e => ?_)) (fun i j p q hi hj e => ?_), hS1⟩
  · exact (hZ j q hj).2 (e ▸ hD1.2 i p hi)
  · by_cases hl : j < Y1.length
    · rw [List.getElem?_append_left hl] at hj
      exact (hX i p hi).2 (e ▸ hD1.2 j q hj)
    · rw [List.getElem?_append_right (by omega)] at hj
      exact va_D_x w.2.1 hi (getR hj) e
end MID
section RD
variable {p : Program} {l : Launch} {e : Env} {R : Room} {s : State} {m : MethodId} {args : Array Value} {below : List Frame} {meth : Method} {c : Code} {H : Heap} {locs : List Loc} {cells slots : Nat} {Q : State → Prop}
variable {cc : ByteArray} {pc nL : Nat} {ls : Array Slot} {rest : List Value} {D : va_G} {cy : Nat → ClassId} {ad : Nat → Nat} {own : String} {A : Nat → Prop} {a : Nat} {X ws Z : va_W}
variable {y : MethodName} {cc' : ByteArray} {n' k' idx mc' ms' : Nat} {ret : FieldType} {rm' : Room} {b : Nat} {As st : List Value} {S : Type} {w1 : S → va_W}
theorem dVI {post : Int → S → Prop} (C : cx p s m args meth c cc nL own D cy) (w : wd D A s.heap (X ++ (ws ++ Z)) H locs) (hA : ∀ q, s.heap.size ≤ q → A q) (hM : MI l y cc' n' ret rm' D cy ws (.ref b :: As) post w1 mc' ms') (o : okV y cc' n' (some ret) k') (hlk : .methodLink own idx y ∈ wAll) (hrc : rm'.cells = mc' ∧ rm'.slots = ms') (hR : rm'.frames + 1 ≤ R.frames ∧ 8 + (n' + 11) + rm'.locals ≤ R.locals) (hf : cells + mc' ≤ R.cells ∧ slots + ms' ≤ R.slots) (hn : As.length = k') (q0 : Nat) {ci N : Nat} {fs : List Value} {T : u_T} (he : ws[q0]? = some (b, .inr (ci, fs))) (hc : vwCl[ci]? = some (y.cls, T, N)) (hl : ls.size = nL) (hst : st = As.reverse ++ .ref b :: rest) (hW : (rest.map fun v => v.category).sum ≤ 8) (hdg : decode cc pc = .ok (.invokevirtual idx, 3))
    (kk : ∀ (v : Int) (u : S) (H1 : Heap) (locs1 : List Loc), wd D A s.heap (X ++ (w1 u ++ Z)) H1 locs1 → post v u → W p l e R s m args below meth c H1 locs1 (cells + mc') (slots + ms') Q (F0 m (pc + 3) ls (vI v :: rest))) : W p l e R s m args below meth c H locs cells slots Q (F0 m pc ls st) := by
  subst hst
  have hFc := wd_freeM w hA
  exact va_calli (va_runV (As := As) (rest := rest) ⟨C.1, C.2.1, C.2.2.1, C.2.2.2.1, C.2.2.2.2.1⟩ (hM H.size) ⟨okC_B (C := C) o.1 hlk hrc hR, C.2.2.2.2.1 _ o.2.1, C.2.2.2.2.1 _ o.2.2⟩ ⟨gPc_blind, va_recv C.2.2.2.2.2.1 (wd_P w) (ci := ci) (q0 := q0) hc he, fun U hU hW => ⟨rfl, by rw [hU], by rw [hU]; exact wd_P w, va_K.moved hW.alike C.2.2.2.2.2.1, (wd_D w).weaken (fun _ _ _ _ => trivial), xN_warm hW C.2.2.2.2.2.2⟩⟩ rfl hn hl rfl (lv_room hW) hdg hf) w.2.2 (fun q _ h => hFc q h) hFc (fun r u t H1 locs1 ht hvm hw hB hz1 hk1 hS1 => by
    obtain ⟨v, rfl, hp⟩ := hw
    exact kk v u H1 locs1 (wd_back w hA hk1 (by rw [← ht]; exact hB.1) hB.2.2 hS1) hp)
theorem dVL {post : Int → S → Prop} (C : cx p s m args meth c cc nL own D cy) (w : wd D A s.heap (X ++ (ws ++ Z)) H locs) (hA : ∀ q, s.heap.size ≤ q → A q) (hM : ML l y cc' n' rm' D cy ws (.ref b :: As) post w1 mc' ms') (o : okV y cc' n' (some .long) k') (hlk : .methodLink own idx y ∈ wAll) (hrc : rm'.cells = mc' ∧ rm'.slots = ms') (hR : rm'.frames + 1 ≤ R.frames ∧ 8 + (n' + 11) + rm'.locals ≤ R.locals) (hf : cells + mc' ≤ R.cells ∧ slots + ms' ≤ R.slots) (hn : As.length = k') (q0 : Nat) {ci N : Nat} {fs : List Value} {T : u_T} (he : ws[q0]? = some (b, .inr (ci, fs))) (hc : vwCl[ci]? = some (y.cls, T, N)) (hl : ls.size = nL) (hst : st = As.reverse ++ .ref b :: rest) (hW : (rest.map fun v => v.category).sum ≤ 8) (hdg : decode cc pc = .ok (.invokevirtual idx, 3))
    (kk : ∀ (v : Int) (u : S) (H1 : Heap) (locs1 : List Loc), wd D A s.heap (X ++ (w1 u ++ Z)) H1 locs1 → post v u → W p l e R s m args below meth c H1 locs1 (cells + mc') (slots + ms') Q (F0 m (pc + 3) ls (vL v :: rest))) : W p l e R s m args below meth c H locs cells slots Q (F0 m pc ls st) := by
  subst hst
  have hFc := wd_freeM w hA
  exact va_calll (va_runV (As := As) (rest := rest) ⟨C.1, C.2.1, C.2.2.1, C.2.2.2.1, C.2.2.2.2.1⟩ (hM H.size) ⟨okC_B (C := C) o.1 hlk hrc hR, C.2.2.2.2.1 _ o.2.1, C.2.2.2.2.1 _ o.2.2⟩ ⟨gPc_blind, va_recv C.2.2.2.2.2.1 (wd_P w) (ci := ci) (q0 := q0) hc he, fun U hU hW => ⟨rfl, by rw [hU], by rw [hU]; exact wd_P w, va_K.moved hW.alike C.2.2.2.2.2.1, (wd_D w).weaken (fun _ _ _ _ => trivial), xN_warm hW C.2.2.2.2.2.2⟩⟩ rfl hn hl rfl (lv_room hW) hdg hf) w.2.2 (fun q _ h => hFc q h) hFc (fun r u t H1 locs1 ht hvm hw hB hz1 hk1 hS1 => by
    obtain ⟨v, rfl, hp⟩ := hw
    exact kk v u H1 locs1 (wd_back w hA hk1 (by rw [← ht]; exact hB.1) hB.2.2 hS1) hp)
theorem dVV {post : S → Prop} (C : cx p s m args meth c cc nL own D cy) (w : wd D A s.heap (X ++ (ws ++ Z)) H locs) (hA : ∀ q, s.heap.size ≤ q → A q) (hM : MV l y cc' n' rm' D cy ws (.ref b :: As) post w1 mc' ms') (o : okV y cc' n' none k') (hlk : .methodLink own idx y ∈ wAll) (hrc : rm'.cells = mc' ∧ rm'.slots = ms') (hR : rm'.frames + 1 ≤ R.frames ∧ 8 + (n' + 11) + rm'.locals ≤ R.locals) (hf : cells + mc' ≤ R.cells ∧ slots + ms' ≤ R.slots) (hn : As.length = k') (q0 : Nat) {ci N : Nat} {fs : List Value} {T : u_T} (he : ws[q0]? = some (b, .inr (ci, fs))) (hc : vwCl[ci]? = some (y.cls, T, N)) (hl : ls.size = nL) (hst : st = As.reverse ++ .ref b :: rest) (hW : (rest.map fun v => v.category).sum ≤ 8) (hdg : decode cc pc = .ok (.invokevirtual idx, 3))
    (kk : ∀ (u : S) (H1 : Heap) (locs1 : List Loc), wd D A s.heap (X ++ (w1 u ++ Z)) H1 locs1 → post u → W p l e R s m args below meth c H1 locs1 (cells + mc') (slots + ms') Q (F0 m (pc + 3) ls rest)) : W p l e R s m args below meth c H locs cells slots Q (F0 m pc ls st) := by
  subst hst
  have hFc := wd_freeM w hA
  exact va_callv (va_runV (As := As) (rest := rest) ⟨C.1, C.2.1, C.2.2.1, C.2.2.2.1, C.2.2.2.2.1⟩ (hM H.size) ⟨okC_B (C := C) o.1 hlk hrc hR, C.2.2.2.2.1 _ o.2.1, C.2.2.2.2.1 _ o.2.2⟩ ⟨gPc_blind, va_recv C.2.2.2.2.2.1 (wd_P w) (ci := ci) (q0 := q0) hc he, fun U hU hW => ⟨rfl, by rw [hU], by rw [hU]; exact wd_P w, va_K.moved hW.alike C.2.2.2.2.2.1, (wd_D w).weaken (fun _ _ _ _ => trivial), xN_warm hW C.2.2.2.2.2.2⟩⟩ rfl hn hl rfl (lv_room hW) hdg hf) w.2.2 (fun q _ h => hFc q h) hFc (fun u t H1 locs1 ht hvm hw hB hz1 hk1 hS1 => by
    exact kk u H1 locs1 (wd_back w hA hk1 (by rw [← ht]; exact hB.1) hB.2.2 hS1) hw)
theorem dVIE {post : Int → S → Prop} (C : cx p s m args meth c cc nL own D cy) (w : wd D A s.heap (X ++ (ws ++ Z)) H locs) (hA : ∀ q, s.heap.size ≤ q → A q) (hE : xE ad A s s.heap) (hM : MIE l y cc' n' ret rm' D cy ad ws (.ref b :: As) post w1 mc' ms') (o : okV y cc' n' (some ret) k') (hlk : .methodLink own idx y ∈ wAll) (hrc : rm'.cells = mc' ∧ rm'.slots = ms') (hR : rm'.frames + 1 ≤ R.frames ∧ 8 + (n' + 11) + rm'.locals ≤ R.locals) (hf : cells + mc' ≤ R.cells ∧ slots + ms' ≤ R.slots) (hn : As.length = k') (q0 : Nat) {ci N : Nat} {fs : List Value} {T : u_T} (he : ws[q0]? = some (b, .inr (ci, fs))) (hc : vwCl[ci]? = some (y.cls, T, N)) (hl : ls.size = nL) (hst : st = As.reverse ++ .ref b :: rest) (hW : (rest.map fun v => v.category).sum ≤ 8) (hdg : decode cc pc = .ok (.invokevirtual idx, 3))
    (kk : ∀ (v : Int) (u : S) (H1 : Heap) (locs1 : List Loc), wd D A s.heap (X ++ (w1 u ++ Z)) H1 locs1 → post v u → W p l e R s m args below meth c H1 locs1 (cells + mc') (slots + ms') Q (F0 m (pc + 3) ls (vI v :: rest))) : W p l e R s m args below meth c H locs cells slots Q (F0 m pc ls st) := by
  subst hst
  have hFc := wd_freeM w hA
  exact va_calli (va_runV (As := As) (rest := rest) ⟨C.1, C.2.1, C.2.2.1, C.2.2.2.1, C.2.2.2.2.1⟩ (hM H.size) ⟨okC_B (C := C) o.1 hlk hrc hR, C.2.2.2.2.1 _ o.2.1, C.2.2.2.2.1 _ o.2.2⟩ ⟨gPcE_blind, va_recv C.2.2.2.2.2.1 (wd_P w) (ci := ci) (q0 := q0) hc he, fun U hU hW => ⟨rfl, by rw [hU], by rw [hU]; exact wd_P w, va_K.moved hW.alike C.2.2.2.2.2.1, (wd_D w).weaken (fun _ _ _ _ => trivial), xN_warm hW C.2.2.2.2.2.2, xE_call hE w.2.2 hFc hU hW⟩⟩ rfl hn hl rfl (lv_room hW) hdg hf) w.2.2 (fun q _ h => hFc q h) hFc (fun r u t H1 locs1 ht hvm hw hB hz1 hk1 hS1 => by
    obtain ⟨v, rfl, hp⟩ := hw
    exact kk v u H1 locs1 (wd_back w hA hk1 (by rw [← ht]; exact hB.1) hB.2.2 hS1) hp)
theorem dIV {post : S → Prop} (C : cx p s m args meth c cc nL own D cy) (w : wd D A s.heap (X ++ (ws ++ Z)) H locs) (hA : ∀ q, s.heap.size ≤ q → A q) (hM : MV l y cc' n' rm' D cy ws (.ref b :: As) post w1 mc' ms') (o : okI y cc' n' k') (hlk : .methodLink own idx y ∈ wAll) (hrc : rm'.cells = mc' ∧ rm'.slots = ms') (hR : rm'.frames + 1 ≤ R.frames ∧ 8 + (n' + 11) + rm'.locals ≤ R.locals) (hf : cells + mc' ≤ R.cells ∧ slots + ms' ≤ R.slots) (hn : As.length = k') (hl : ls.size = nL) (hst : st = As.reverse ++ .ref b :: rest) (hW : (rest.map fun v => v.category).sum ≤ 8) (hdg : decode cc pc = .ok (.invokespecial idx, 3))
    (kk : ∀ (u : S) (H1 : Heap) (locs1 : List Loc), wd D A s.heap (X ++ (w1 u ++ Z)) H1 locs1 → post u → W p l e R s m args below meth c H1 locs1 (cells + mc') (slots + ms') Q (F0 m (pc + 3) ls rest)) : W p l e R s m args below meth c H locs cells slots Q (F0 m pc ls st) := by
  subst hst
  have hFc := wd_freeM w hA
  exact va_callv (va_runI (As := As) (rest := rest) ⟨C.1, C.2.1, C.2.2.1, C.2.2.2.1, C.2.2.2.2.1⟩ (hM H.size) ⟨okC_B (C := C) o.1 hlk hrc hR, o.2.2, C.2.2.2.2.1 _ o.2.1⟩ ⟨gPc_blind, fun U hU hW => ⟨rfl, by rw [hU], by rw [hU]; exact wd_P w, va_K.moved hW.alike C.2.2.2.2.2.1, (wd_D w).weaken (fun _ _ _ _ => trivial), xN_warm hW C.2.2.2.2.2.2⟩⟩ rfl hn hl rfl (lv_room hW) hdg hf) w.2.2 (fun q _ h => hFc q h) hFc (fun u t H1 locs1 ht hvm hw hB hz1 hk1 hS1 => by
    exact kk u H1 locs1 (wd_back w hA hk1 (by rw [← ht]; exact hB.1) hB.2.2 hS1) hw)
theorem dNIV {post : S → Prop} (C : cx p s m args meth c cc nL own D cy) (w : wd D A s.heap (X ++ (ws ++ Z)) H locs) (hA : ∀ q, s.heap.size ≤ q → A q) (hM : MV l y cc' n' rm' D cy ws (.ref b :: As) post w1 mc' ms') (o : okI y cc' n' k') {host : String} {wi : Nat} (hlk : tables_1[wi]? = some (.methodLinkNest own idx y host)) (hrc : rm'.cells = mc' ∧ rm'.slots = ms') (hR : rm'.frames + 1 ≤ R.frames ∧ 8 + (n' + 11) + rm'.locals ≤ R.locals) (hf : cells + mc' ≤ R.cells ∧ slots + ms' ≤ R.slots) (hn : As.length = k') (hl : ls.size = nL) (hst : st = As.reverse ++ .ref b :: rest) (hW : (rest.map fun v => v.category).sum ≤ 8) (hdg : decode cc pc = .ok (.invokespecial idx, 3))
    (kk : ∀ (u : S) (H1 : Heap) (locs1 : List Loc), wd D A s.heap (X ++ (w1 u ++ Z)) H1 locs1 → post u → W p l e R s m args below meth c H1 locs1 (cells + mc') (slots + ms') Q (F0 m (pc + 3) ls rest)) : W p l e R s m args below meth c H locs cells slots Q (F0 m pc ls st) := by
  subst hst
  have hFc := wd_freeM w hA
  exact va_callv (va_runIN (As := As) (rest := rest) ⟨C.1, C.2.1, C.2.2.1, C.2.2.2.1, C.2.2.2.2.1⟩ (hM H.size) ⟨okC_N (C := C) o.1 hlk hrc hR, o.2.2, C.2.2.2.2.1 _ o.2.1⟩ ⟨gPc_blind, fun U hU hW => ⟨rfl, by rw [hU], by rw [hU]; exact wd_P w, va_K.moved hW.alike C.2.2.2.2.2.1, (wd_D w).weaken (fun _ _ _ _ => trivial), xN_warm hW C.2.2.2.2.2.2⟩⟩ rfl hn hl rfl (lv_room hW) hdg hf) w.2.2 (fun q _ h => hFc q h) hFc (fun u t H1 locs1 ht hvm hw hB hz1 hk1 hS1 => by
    exact kk u H1 locs1 (wd_back w hA hk1 (by rw [← ht]; exact hB.1) hB.2.2 hS1) hw)
end RD
