/-! the loop of the law -/
section LL
variable {p : Program} {l : Launch} {e : Env} {s : State} {m : MethodId} {args : Array Value} {below : List Frame} {meth : Method} {c : Code} {Q : State → Prop}
variable {D : va_G} {cy : Nat → ClassId} {ad : Nat → Nat} {A : Nat → Prop} {b L q : Nat} {xs : Nat → Int32} {a a2 : Nat → Nat}
set_option maxHeartbeats 4000000 in
set_option maxRecDepth 100000 in
theorem law_loop (hC : lcx p l s m args meth c D cy ad A b L xs) (hEnd : ∀ (H : Heap) (locs : List Loc) (ls : Array Slot) (t : Nat), t ≤ 512 → va_S A s.heap H locs → W p l e room_1 s m args below meth c H locs (75 + t) (8289 + 6 * t) Q (F0 m 1003 ls [])) :
    ∀ (n t : Nat) (i : Int) (z : Nat → Int) (g : Nat → Int → Int) (f : Int → Int) (y : Nat → Int) (k : Nat → Int → Int) (H : Heap) (locs : List Loc) (ls : Array Slot), i = 6 * t → t ≤ 512 → 513 ≤ t + n → RelA z g y k → wd D A s.heap (LW cy a a2 q z g f y k) H locs → lv_has ls 8 (lvL b q a a2 i) → W p l e room_1 s m args below meth c H locs (75 + t) (8289 + 6 * t) Q (F0 m 23 ls []) := by
  intro n
  induction n with
  | zero =>
    intro t i z g f y k H locs ls hi ht hn
    exact absurd hn (by omega)
  | succ n ih =>
    intro t i z g f y k H locs ls hi ht hn h w hl
    have hC9 := hC
    obtain ⟨C, hst9, hX, hbl, hbA, hA, hE, hT, hL⟩ := hC9
    have hx := C.1
    have hb := C.2.1
    refine lv_iload hx hb dL_law_23 (lv_at hl 4 rfl) ?_
    refine lv_aload_n hx hb dL_law_25 rfl (lv_at hl 0 rfl) ?_
    refine r_slen C hX hbl hbA w dL_law_26 ?_
    refine r_bipush hx hb dL_law_27 (by decide) ?_
    refine r_isub hx hb dL_law_29 ?_
    refine r_icmp_gt (tgt := 1003) hx hb dL_law_30 (by decide) ⟨by omega, by omega⟩ ⟨by omega, by omega⟩ (fun c30 => ?_) (fun c30 => ?_)
    · exact hEnd _ _ _ t ht w.2.2
    · have hi0 : 0 ≤ i := by omega
      have hiL : i + 6 ≤ L := by omega
      have ht2 : t < 512 := by omega
      have hK : K9 p l e s m args below meth c Q D cy A b q a a2 i t := by
        intro z g f y k H locs ls h w hl
        refine r_iinc (lv' := [(4, vI (i + 6)), (0, .ref b), (1, .ref (a 0)), (2, .ref (a2 0)), (3, .ref q)]) hx hb dL_law_997 hl (k := 4) rfl (by decide) rfl (fun ls hl => ?_)
        refine lv_goto (tgt := 23) hx hb dL_law_1000 (by decide) ?_
        refine W.widen (k := 75 + (t + 1)) (n := 8289 + 6 * (t + 1)) (by omega) (by omega) ?_
        exact ih (t + 1) (i + 6) z g f y k _ _ _ (by omega) (by omega) (by omega) h w (lv_sub hl [1, 2, 3, 4, 0] rfl)
      refine lv_aload_n hx hb dL_law_33 rfl (lv_at hl 0 rfl) ?_
      refine lv_iload hx hb dL_law_34 (lv_at hl 4 rfl) ?_
      refine r_sld C hX hbl hbA w hL (by omega) (by omega) dL_law_36 ?_
      refine r_bipush hx hb dL_law_37 (by decide) ?_
      refine r_iand hx hb 5 dL_law_39 rfl (by decide) ?_
      refine r_nm (fun v40 hv40 => ?_)
      have hR40 : iR v40 := by omega
      by_cases c0 : v40 = 0
      · exact r_tsI (k := 0) (tgt := 140) hx hb dL_law_40 hR40 c0 (by decide) rfl (by decide) (lc_feed hC hK ht2 hi0 hiL h w hl)
      by_cases c1 : v40 = 1
      · exact r_tsI (k := 1) (tgt := 213) hx hb dL_law_40 hR40 c1 (by decide) rfl (by decide) (lc_end hC hK ht2 hi0 hiL h w hl)
      by_cases c2 : v40 = 2
      · exact r_tsI (k := 2) (tgt := 238) hx hb dL_law_40 hR40 c2 (by decide) rfl (by decide) (lc_rules hC hK ht2 hi0 hiL h w hl)
      by_cases c3 : v40 = 3
      · exact r_tsI (k := 3) (tgt := 251) hx hb dL_law_40 hR40 c3 (by decide) rfl (by decide) (lc_fault hC hK ht2 hi0 hiL h w hl)
      by_cases c4 : v40 = 4
      · exact r_tsI (k := 4) (tgt := 264) hx hb dL_law_40 hR40 c4 (by decide) rfl (by decide) (lc_lot hC hK ht2 hi0 hiL h w hl)
      by_cases c5 : v40 = 5
      · exact r_tsI (k := 5) (tgt := 337) hx hb dL_law_40 hR40 c5 (by decide) rfl (by decide) (lc_money hC hK ht2 hi0 hiL h w hl)
      by_cases c6 : v40 = 6
      · exact r_tsI (k := 6) (tgt := 374) hx hb dL_law_40 hR40 c6 (by decide) rfl (by decide) (lc_want hC hK ht2 hi0 hiL h w hl)
      by_cases c7 : v40 = 7
      · exact r_tsI (k := 7) (tgt := 447) hx hb dL_law_40 hR40 c7 (by decide) rfl (by decide) (lc_auction hC hK ht2 hi0 hiL h w hl)
      by_cases c8 : v40 = 8
      · exact r_tsI (k := 8) (tgt := 472) hx hb dL_law_40 hR40 c8 (by decide) rfl (by decide) (lc_reject hC hK ht2 hi0 hiL h w hl)
      by_cases c9 : v40 = 9
      · exact r_tsI (k := 9) (tgt := 497) hx hb dL_law_40 hR40 c9 (by decide) rfl (by decide) (lc_next hC hK ht2 hi0 hiL h w hl)
      by_cases c10 : v40 = 10
      · exact r_tsI (k := 10) (tgt := 510) hx hb dL_law_40 hR40 c10 (by decide) rfl (by decide) (lc_about hC hK ht2 hi0 hiL h w hl)
      by_cases c11 : v40 = 11
      · exact r_tsI (k := 11) (tgt := 578) hx hb dL_law_40 hR40 c11 (by decide) rfl (by decide) (lc_sale hC hK ht2 hi0 hiL h w hl)
      by_cases c12 : v40 = 12
      · exact r_tsI (k := 12) (tgt := 646) hx hb dL_law_40 hR40 c12 (by decide) rfl (by decide) (lc_left hC hK ht2 hi0 hiL h w hl)
      by_cases c13 : v40 = 13
      · exact r_tsI (k := 13) (tgt := 671) hx hb dL_law_40 hR40 c13 (by decide) rfl (by decide) (lc_wanted hC hK ht2 hi0 hiL h w hl)
      by_cases c14 : v40 = 14
      · exact r_tsI (k := 14) (tgt := 720) hx hb dL_law_40 hR40 c14 (by decide) rfl (by decide) (lc_pool hC hK ht2 hi0 hiL h w hl)
      by_cases c15 : v40 = 15
      · exact r_tsI (k := 15) (tgt := 745) hx hb dL_law_40 hR40 c15 (by decide) rfl (by decide) (lc_pay hC hK ht2 hi0 hiL h w hl)
      by_cases c16 : v40 = 16
      · exact r_tsI (k := 16) (tgt := 782) hx hb dL_law_40 hR40 c16 (by decide) rfl (by decide) (lc_worth hC hK ht2 hi0 hiL h w hl)
      by_cases c17 : v40 = 17
      · exact r_tsI (k := 17) (tgt := 861) hx hb dL_law_40 hR40 c17 (by decide) rfl (by decide) (lc_wire hC hK ht2 hi0 hiL h w hl)
      by_cases c18 : v40 = 18
      · exact r_tsI (k := 18) (tgt := 922) hx hb dL_law_40 hR40 c18 (by decide) rfl (by decide) (lc_cars hC hK ht2 hi0 hiL h w hl)
      by_cases c19 : v40 = 19
      · exact r_tsI (k := 19) (tgt := 947) hx hb dL_law_40 hR40 c19 (by decide) rfl (by decide) (lc_sent hC hK ht2 hi0 hiL h w hl)
      by_cases c20 : v40 = 20
      · exact r_tsI (k := 20) (tgt := 972) hx hb dL_law_40 hR40 c20 (by decide) rfl (by decide) (lc_count hC hK ht2 hi0 hiL h w hl)
      refine r_tsO (tgt := 997) hx hb dL_law_40 hR40 (by omega) (by decide) ?_
      refine W.widen (k := 75 + t + 1) (n := 8289 + 6 * t + 6) (by omega) (by omega) ?_
      exact hK z g f y k _ _ _ h w hl
end LL
