/-! switches over integers -/
section RS
variable {p : Program} {l : Launch} {e : Env} {R : Room} {s : State} {m : MethodId} {args : Array Value} {below : List Frame} {meth : Method} {c : Code} {H : Heap} {locs : List Loc} {cells slots : Nat} {Q : State → Prop}
variable {cc : ByteArray} {pc : Nat} {ls : Array Slot} {rest : List Value}
theorem r_tsI (hx : p.tables.exec = Jvm.exec) (hb : c.code = cc) {dflt lo hi off a k : Int} {offs : Array Int} {len tgt : Nat} (hdg : decode cc pc = .ok (.tableswitch dflt lo hi offs, len)) (hR : iR a) (ha : a = k) (hk : lo ≤ k ∧ k ≤ hi) (ho : offs[(k - lo).toNat]? = some off) (ht : (pc : Int) + off = (tgt : Int)) (kk : W p l e R s m args below meth c H locs cells slots Q (F0 m tgt ls rest)) : W p l e R s m args below meth c H locs cells slots Q (F0 m pc ls (vI a :: rest)) :=
  lv_tableIn hx hb hdg (by rw [iI_toInt hR]; omega) (by rw [iI_toInt hR]; omega) (by rw [iI_toInt hR, ha]; exact ho) ht kk
theorem r_tsO (hx : p.tables.exec = Jvm.exec) (hb : c.code = cc) {dflt lo hi a : Int} {offs : Array Int} {len tgt : Nat} (hdg : decode cc pc = .ok (.tableswitch dflt lo hi offs, len)) (hR : iR a) (h : a < lo ∨ hi < a) (ht : (pc : Int) + dflt = (tgt : Int)) (kk : W p l e R s m args below meth c H locs cells slots Q (F0 m tgt ls rest)) : W p l e R s m args below meth c H locs cells slots Q (F0 m pc ls (vI a :: rest)) :=
  lv_tableOut hx hb hdg (by rw [iI_toInt hR]; exact h) ht kk
end RS
