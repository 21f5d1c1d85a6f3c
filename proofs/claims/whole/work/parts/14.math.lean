/-! Math.max, min, abs: the kit rows, over integers -/
set_option maxRecDepth 20000 in
theorem ki_J9 : Cond.initialized "java/lang/Math" ∈ wAll := wAll_t (i := 16) rfl rfl
set_option maxRecDepth 20000 in
theorem kM_max_s : Cond.static ⟨"java/lang/Math", "max", "(II)I"⟩ ∈ wAll := wAll_t (i := 536) rfl rfl
set_option maxRecDepth 20000 in
theorem kM_max_c : Cond.code ⟨"java/lang/Math", "max", "(II)I"⟩ prog_14_method_65_code 2 (some .int) ∈ wAll := wAll_t (i := 537) rfl rfl
set_option maxRecDepth 20000 in
theorem kM_min_s : Cond.static ⟨"java/lang/Math", "min", "(II)I"⟩ ∈ wAll := wAll_t (i := 539) rfl rfl
set_option maxRecDepth 20000 in
theorem kM_min_c : Cond.code ⟨"java/lang/Math", "min", "(II)I"⟩ prog_14_method_69_code 2 (some .int) ∈ wAll := wAll_t (i := 540) rfl rfl
set_option maxRecDepth 20000 in
theorem kM_maxL_s : Cond.static ⟨"java/lang/Math", "max", "(JJ)J"⟩ ∈ wAll := wAll_t (i := 760) rfl rfl
set_option maxRecDepth 20000 in
theorem kM_maxL_c : Cond.code ⟨"java/lang/Math", "max", "(JJ)J"⟩ prog_14_method_66_code 4 (some .long) ∈ wAll := wAll_t (i := 761) rfl rfl
set_option maxRecDepth 20000 in
theorem kM_absL_s : Cond.static ⟨"java/lang/Math", "abs", "(J)J"⟩ ∈ wAll := wAll_t (i := 767) rfl rfl
set_option maxRecDepth 20000 in
theorem kM_absL_c : Cond.code ⟨"java/lang/Math", "abs", "(J)J"⟩ prog_14_method_61_code 2 (some .long) ∈ wAll := wAll_t (i := 768) rfl rfl
section RM
variable {p : Program} {l : Launch} {e : Env} {R : Room} {s : State} {m : MethodId} {args : Array Value} {below : List Frame} {meth : Method} {c : Code} {H : Heap} {locs : List Loc} {cells slots : Nat} {Q : State → Prop}
variable {cc : ByteArray} {pc nL : Nat} {ls : Array Slot} {rest : List Value} {D : va_G} {cy : Nat → ClassId} {own : String}
theorem r_mmax (C : cx p s m args meth c cc nL own D cy) {idx : Nat} (hlk : .methodLink own idx ⟨"java/lang/Math", "max", "(II)I"⟩ ∈ wAll) (hl : ls.size = nL) (hf : 1 ≤ R.frames) (hlo : (rest.map fun v => v.category).sum + 13 ≤ R.locals) (hc : cells ≤ R.cells ∧ slots ≤ R.slots) {a b : Int} (ha : iR a) (hb2 : iR b) (hdg : decode cc pc = .ok (.invokestatic idx, 3)) (kk : ∀ v : Int, (v = a ∨ v = b) ∧ a ≤ v ∧ b ≤ v → W p l e R s m args below meth c H locs cells slots Q (F0 m (pc + 3) ls (vI v :: rest))) : W p l e R s m args below meth c H locs cells slots Q (F0 m pc ls (vI b :: vI a :: rest)) := by
  refine va_mmax C.1 C.2.1 (C.2.2.1.trans hl.symm) C.2.2.2.1 (C.2.2.2.2.1 _ hlk) (C.2.2.2.2.1 _ kM_max_s) (C.2.2.2.2.1 _ ki_J9) (C.2.2.2.2.1 _ kM_max_c) hf hlo hc.1 hc.2 hdg ?_
  by_cases h : a < b
  · rw [if_pos ((iI_lt ha hb2).mpr h)]; exact kk b (by omega)
  · rw [if_neg (fun z => h ((iI_lt ha hb2).mp z))]; exact kk a (by omega)
theorem r_mmin (C : cx p s m args meth c cc nL own D cy) {idx : Nat} (hlk : .methodLink own idx ⟨"java/lang/Math", "min", "(II)I"⟩ ∈ wAll) (hl : ls.size = nL) (hf : 1 ≤ R.frames) (hlo : (rest.map fun v => v.category).sum + 13 ≤ R.locals) (hc : cells ≤ R.cells ∧ slots ≤ R.slots) {a b : Int} (ha : iR a) (hb2 : iR b) (hdg : decode cc pc = .ok (.invokestatic idx, 3)) (kk : ∀ v : Int, (v = a ∨ v = b) ∧ v ≤ a ∧ v ≤ b → W p l e R s m args below meth c H locs cells slots Q (F0 m (pc + 3) ls (vI v :: rest))) : W p l e R s m args below meth c H locs cells slots Q (F0 m pc ls (vI b :: vI a :: rest)) := by
  refine va_mmin C.1 C.2.1 (C.2.2.1.trans hl.symm) C.2.2.2.1 (C.2.2.2.2.1 _ hlk) (C.2.2.2.2.1 _ kM_min_s) (C.2.2.2.2.1 _ ki_J9) (C.2.2.2.2.1 _ kM_min_c) hf hlo hc.1 hc.2 hdg ?_
  by_cases h : b < a
  · rw [if_pos ((iI_lt hb2 ha).mpr h)]; exact kk b (by omega)
  · rw [if_neg (fun z => h ((iI_lt hb2 ha).mp z))]; exact kk a (by omega)
theorem r_mmaxL (C : cx p s m args meth c cc nL own D cy) {idx : Nat} (hlk : .methodLink own idx ⟨"java/lang/Math", "max", "(JJ)J"⟩ ∈ wAll) (hl : ls.size = nL) (hf : 1 ≤ R.frames) (hlo : (rest.map fun v => v.category).sum + 15 ≤ R.locals) (hc : cells ≤ R.cells ∧ slots ≤ R.slots) {a b : Int} (ha : lR a) (hb2 : lR b) (hdg : decode cc pc = .ok (.invokestatic idx, 3)) (kk : ∀ v : Int, (v = a ∨ v = b) ∧ a ≤ v ∧ b ≤ v → W p l e R s m args below meth c H locs cells slots Q (F0 m (pc + 3) ls (vL v :: rest))) : W p l e R s m args below meth c H locs cells slots Q (F0 m pc ls (vL b :: vL a :: rest)) := by
  refine va_mmax_long C.1 C.2.1 (C.2.2.1.trans hl.symm) C.2.2.2.1 (C.2.2.2.2.1 _ hlk) (C.2.2.2.2.1 _ kM_maxL_s) (C.2.2.2.2.1 _ ki_J9) (C.2.2.2.2.1 _ kM_maxL_c) hf hlo hc.1 hc.2 hdg ?_
  by_cases h : b < a
  · rw [if_pos ((lI_lt hb2 ha).mpr h)]; exact kk a (by omega)
  · rw [if_neg (fun z => h ((lI_lt hb2 ha).mp z))]; exact kk b (by omega)
theorem r_mabsL (C : cx p s m args meth c cc nL own D cy) {idx : Nat} (hlk : .methodLink own idx ⟨"java/lang/Math", "abs", "(J)J"⟩ ∈ wAll) (hl : ls.size = nL) (hf : 1 ≤ R.frames) (hlo : (rest.map fun v => v.category).sum + 13 ≤ R.locals) (hc : cells ≤ R.cells ∧ slots ≤ R.slots) {a : Int} (ha : lR a) (hdg : decode cc pc = .ok (.invokestatic idx, 3)) (kk : ∀ v : Int, (0 ≤ a ∧ v = a) ∨ (a ≤ 0 ∧ v = -a) → W p l e R s m args below meth c H locs cells slots Q (F0 m (pc + 3) ls (vL v :: rest))) : W p l e R s m args below meth c H locs cells slots Q (F0 m pc ls (vL a :: rest)) := by
  refine va_mabs_long C.1 C.2.1 (C.2.2.1.trans hl.symm) C.2.2.2.1 (C.2.2.2.2.1 _ hlk) (C.2.2.2.2.1 _ kM_absL_s) (C.2.2.2.2.1 _ ki_J9) (C.2.2.2.2.1 _ kM_absL_c) hf hlo hc.1 hc.2 hdg ?_
  by_cases h : 0 < a
  · rw [if_pos (show (0 : Int64) < lI a from (lI_lt (a := 0) ⟨by decide, by decide⟩ ha).mpr h)]; exact kk a (by omega)
  · rw [if_neg (show ¬ (0 : Int64) < lI a from fun z => h ((lI_lt (a := 0) ⟨by decide, by decide⟩ ha).mp z))]; rw [lI_neg]; exact kk (-a) (by omega)
end RM
