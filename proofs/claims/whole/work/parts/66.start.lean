/-! what the start gives -/
abbrev tmS (i : Nat) : Term := .string RX5 (wdL.getD i (0, "")).1
set_option maxRecDepth 100000 in
theorem sf_ex : ∀ i, i < 6 → Cond.exactly (tmS i) "java/lang/String" ∈ flatC (Jvm.Cond.and given_1 narrow_1) := by decide +kernel
set_option maxRecDepth 100000 in
theorem sf_co : ∀ i, i < 6 → Cond.eq (.field (tmS i) "java/lang/String" "coder" "B") (.int 0) ∈ flatC (Jvm.Cond.and given_1 narrow_1) := by decide +kernel
set_option maxRecDepth 100000 in
theorem sf_ar : ∀ i, i < 6 → Cond.arrayOf (.field (tmS i) "java/lang/String" "value" "[B") .byte ∈ flatC (Jvm.Cond.and given_1 narrow_1) := by decide +kernel
set_option maxRecDepth 100000 in
theorem sf_le : ∀ i, i < 6 → Cond.eq (.length (.field (tmS i) "java/lang/String" "value" "[B")) (.int (Int32.ofNat (lenS.getD i 0))) ∈ flatC (Jvm.Cond.and given_1 narrow_1) := by decide +kernel
set_option maxRecDepth 100000 in
theorem sf_el : ∀ i, i < 6 → ∀ j, j < lenS.getD i 0 → Cond.eq (.elem (.field (tmS i) "java/lang/String" "value" "[B") (.int (Int32.ofNat j))) (.int ((bytS.getD i []).getD j 0)) ∈ flatC (Jvm.Cond.and given_1 narrow_1) := by decide +kernel
set_option maxRecDepth 100000 in
theorem sf_ne : ∀ i, i < 6 → ∀ j, j < 6 → i ≠ j → Cond.not (Cond.eq (tmS i) (tmS j)) ∈ flatC (Jvm.Cond.and given_1 narrow_1) ∨ Cond.not (Cond.eq (tmS j) (tmS i)) ∈ flatC (Jvm.Cond.and given_1 narrow_1) := by decide +kernel
set_option maxRecDepth 100000 in
theorem sf_cs : Cond.eq (.static "java/lang/String" "COMPACT_STRINGS" "Z") (.int 1) ∈ flatC (Jvm.Cond.and given_1 narrow_1) := by decide +kernel
set_option maxRecDepth 100000 in
theorem sf_fm : Cond.isRef (.static "jdk/internal/util/Preconditions" "SIOOBE_FORMATTER" "Ljava/util/function/BiFunction;") ∈ flatC (Jvm.Cond.and given_1 narrow_1) := by decide +kernel
set_option maxRecDepth 100000 in
theorem sf_us : Cond.isRef (.static "java/lang/Throwable" "UNASSIGNED_STACK" "[Ljava/lang/StackTraceElement;") ∈ flatC (Jvm.Cond.and given_1 narrow_1) := by decide +kernel
set_option maxRecDepth 100000 in
theorem sf_ss : Cond.isRef (.static "java/lang/Throwable" "SUPPRESSED_SENTINEL" "Ljava/util/List;") ∈ flatC (Jvm.Cond.and given_1 narrow_1) := by decide +kernel
theorem sf_len : ∀ i : Nat, i < 6 → lenS.getD i 0 < 2 ^ 31 := by decide +kernel
set_option maxRecDepth 100000 in
theorem sf_sr : ∀ i, i < 6 → Cond.stringRef RX5 (wdL.getD i (0, "")).1 (wdL.getD i (0, "")).2 ∈ tables_1 := fun i hi => match i, hi with
  | 0, _ => List.mem_of_getElem? (i := 402) rfl
  | 1, _ => List.mem_of_getElem? (i := 475) rfl
  | 2, _ => List.mem_of_getElem? (i := 476) rfl
  | 3, _ => List.mem_of_getElem? (i := 481) rfl
  | 4, _ => List.mem_of_getElem? (i := 486) rfl
  | 5, _ => List.mem_of_getElem? (i := 487) rfl
  | n9 + 6, h9 => absurd h9 (by omega)
set_option maxRecDepth 100000 in
theorem sf_mr : ∀ i, i < 7 → Cond.stringRef RX9 (msgL.getD i (0, "")).1 (msgL.getD i (0, "")).2 ∈ tables_1 := fun i hi => match i, hi with
  | 0, _ => List.mem_of_getElem? (i := 704) rfl
  | 1, _ => List.mem_of_getElem? (i := 730) rfl
  | 2, _ => List.mem_of_getElem? (i := 738) rfl
  | 3, _ => List.mem_of_getElem? (i := 740) rfl
  | 4, _ => List.mem_of_getElem? (i := 748) rfl
  | 5, _ => List.mem_of_getElem? (i := 749) rfl
  | 6, _ => List.mem_of_getElem? (i := 769) rfl
  | n9 + 7, h9 => absurd h9 (by omega)
section ST
variable {args : Array Value} {s : State}
set_option maxRecDepth 100000 in
theorem start_E (hgv : (Jvm.Cond.and given_1 narrow_1).before args s = true) (hts : ∀ w ∈ tables_1, w.before args s = true) : ∃ ad : Nat → Nat, xE ad (fun q => s.heap.size ≤ q) s s.heap := by
  have hs := flat_of_before _ hgv
  have hA : ∀ a : Nat, a < s.heap.size → ¬ (fun q => s.heap.size ≤ q) a := fun a h => Nat.not_le.mpr h
  obtain ⟨adK, adV, hS, hev⟩ := vk_Sof (args := args) (s := s) (N := 6) (tm := tmS) (len := lenS) (byt := bytS) (A := fun q => s.heap.size ≤ q) sf_len (fun i hi => hs _ (sf_ex i hi)) (fun i hi => hs _ (sf_co i hi)) (fun i hi => hs _ (sf_ar i hi)) (fun i hi => hs _ (sf_le i hi)) (fun i hi j hj => hs _ (sf_el i hi j hj)) (fun i j hi hj hne => (sf_ne i hi j hj hne).imp (fun h => hs _ h) (fun h => hs _ h)) hA
  obtain ⟨c9, k9, hcur, -⟩ := Cond.instantiable_spec (hts _ (List.mem_of_getElem? (i := 22) rfl))
  have hm0 : ∀ i : Nat, ∃ a : Nat, i < 7 → (Term.string RX9 (msgL.getD i (0, "")).1).eval args s none [] s = some (.ref a) := by
    intro i
    by_cases hi : i < 7
    · obtain ⟨-, -, -, sa, -, -, -, -, -, h⟩ := Cond.stringRef_spec hcur (hts _ (sf_mr i hi))
      exact ⟨sa, fun _ => h⟩
    · exact ⟨0, fun h => absurd h hi⟩
  obtain ⟨msg, hmsg⟩ := Classical.axiomOfChoice hm0
  have e1 : ∀ i, i < 6 → (if 2 * i < 12 then (if 2 * i % 2 = 0 then adK (2 * i / 2) else adV (2 * i / 2)) else msg (2 * i - 20)) = adK i := fun i hi => by
    rw [if_pos (by omega), if_pos (by omega), show 2 * i / 2 = i by omega]
  have e2 : ∀ i, i < 6 → (if 2 * i + 1 < 12 then (if (2 * i + 1) % 2 = 0 then adK ((2 * i + 1) / 2) else adV ((2 * i + 1) / 2)) else msg (2 * i + 1 - 20)) = adV i := fun i hi => by
    rw [if_pos (by omega), if_neg (by omega), show (2 * i + 1) / 2 = i by omega]
  have e3 : ∀ i, i < 7 → (if 20 + i < 12 then (if (20 + i) % 2 = 0 then adK ((20 + i) / 2) else adV ((20 + i) / 2)) else msg (20 + i - 20)) = msg i := fun i hi => by
    rw [if_neg (by omega), show 20 + i - 20 = i by omega]
  refine ⟨fun n => if n < 12 then (if n % 2 = 0 then adK (n / 2) else adV (n / 2)) else msg (n - 20), ⟨fun i hi => ?_, fun i j hi hj h => ?_⟩, va_Zof (hts _ (List.mem_of_getElem? (i := 416) rfl)) (hts _ (List.mem_of_getElem? (i := 12) rfl)) (va_eqt (hs _ sf_cs)) hA, va_Zqof (hts _ (List.mem_of_getElem? (i := 432) rfl)) (hts _ (List.mem_of_getElem? (i := 14) rfl)) (hs _ sf_fm) hA, fun i hi => ?_, fun i hi => ?_⟩
  · have h := hS.1 i hi
    rw [← e1 i hi, ← e2 i hi] at h
    exact h
  · exact hS.2 i j hi hj ((e1 i hi).symm.trans (h.trans (e1 j hj)))
  · have h := hev i hi
    rw [← e1 i hi] at h
    exact vk_R.of (hts _ (sf_sr i hi)) h
  · have h := hmsg i hi
    rw [← e3 i hi] at h
    exact vk_R.of (hts _ (sf_mr i hi)) h
set_option maxRecDepth 100000 in
theorem start_T (hgv : (Jvm.Cond.and given_1 narrow_1).before args s = true) (hts : ∀ w ∈ tables_1, w.before args s = true) : xT (fun q => s.heap.size ≤ q) s s.heap := by
  have hs := flat_of_before _ hgv
  have hA : ∀ a : Nat, a < s.heap.size → ¬ (fun q => s.heap.size ≤ q) a := fun a h => Nat.not_le.mpr h
  exact ⟨va_Nw.of rfl (hts _ (List.mem_of_getElem? (i := 669) rfl)), va_Nw.of rfl (hts _ (List.mem_of_getElem? (i := 671) rfl)), va_Nw.of rfl (hts _ (List.mem_of_getElem? (i := 673) rfl)), va_Nw.of rfl (hts _ (List.mem_of_getElem? (i := 667) rfl)), vx_Zqof (hts _ (List.mem_of_getElem? (i := 692) rfl)) (hts _ (List.mem_of_getElem? (i := 17) rfl)) (hs _ sf_us) hA, vx_Zqof (hts _ (List.mem_of_getElem? (i := 694) rfl)) (hts _ (List.mem_of_getElem? (i := 17) rfl)) (hs _ sf_ss) hA⟩
theorem start_N (hts : ∀ w ∈ tables_1, w.before args s = true) : xN s := fun w hw hn => va_Nw.of (isNest_on hn) (hts w hw)
theorem arr_k {ty : FieldType} (h4 : ty = .int ∨ ty = .long ∨ ty = .boolean ∨ ty = .byte) (h : (Cond.arrayClass ty).before args s = true) : ∃ cA : ClassId, ArrOfT s cA ty ∧ va_RA s cA ty := by
  obtain ⟨cA, kA, comp, h1, h2, h3⟩ := Cond.arrayClass_spec h
  refine ⟨cA, fun n z => ⟨fun k h => (by cases h), kA, h2, comp, h3⟩, ?_⟩
  rcases h4 with rfl | rfl | rfl | rfl
  · exact h1
  · exact h1
  · exact h1
  · exact h1
set_option maxRecDepth 100000 in
theorem start_K (hts : ∀ w ∈ wAll, w.before args s = true) : ∃ (D : va_G) (cy : Nat → ClassId), kx D cy s := by
  obtain ⟨c0, i0, h0⟩ := u_known hts inX0 (hts _ kn_X0)
  obtain ⟨c1, i1, h1⟩ := u_known hts inX1 (hts _ kn_X1)
  obtain ⟨c2, i2, h2⟩ := u_known hts inX2 (hts _ kn_X2)
  obtain ⟨c3, i3, h3⟩ := u_known hts inX3 (hts _ kn_X3)
  obtain ⟨c4, i4, h4⟩ := u_known hts inX4 (hts _ kn_X4)
  obtain ⟨c5, i5, h5⟩ := u_known hts inX5 (hts _ kn_X5)
  obtain ⟨c6, i6, h6⟩ := u_known hts inX6 (hts _ kn_X6)
  obtain ⟨c7, i7, h7⟩ := u_known hts inX7 (hts _ kn_X7)
  obtain ⟨c8, i8, h8⟩ := u_known hts inX8 (hts _ kn_X8)
  obtain ⟨c9, i9, h9⟩ := u_known hts inX9 (hts _ kn_X9)
  obtain ⟨c10, i10, h10⟩ := u_known hts inX10 (hts _ kn_X10)
  obtain ⟨a0, g0⟩ := arr_k (Or.inl rfl) (hts _ ka_int)
  obtain ⟨a1, g1⟩ := arr_k (Or.inr (Or.inl rfl)) (hts _ ka_long)
  obtain ⟨a2, g2⟩ := arr_k (Or.inr (Or.inr (Or.inl rfl))) (hts _ ka_boolean)
  obtain ⟨a3, g3⟩ := arr_k (Or.inr (Or.inr (Or.inr rfl))) (hts _ ka_byte)
  refine ⟨(fun k => match k with | 0 => c0 | 1 => c1 | 2 => c2 | 3 => c3 | 4 => c4 | 5 => c5 | 6 => c6 | 7 => c7 | 8 => c8 | 9 => c9 | _ => c10, fun k => match k with | 0 => i0 | 1 => i1 | 2 => i2 | 3 => i3 | 4 => i4 | 5 => i5 | 6 => i6 | 7 => i7 | 8 => i8 | 9 => i9 | _ => i10), fun k => match k with | 0 => a0 | 1 => a1 | 2 => a2 | _ => a3, ⟨fun k q hq => ?_, fun k q hq => ?_⟩⟩
  · match k, hq with
    | 0, hq => cases hq; exact h0
    | 1, hq => cases hq; exact h1
    | 2, hq => cases hq; exact h2
    | 3, hq => cases hq; exact h3
    | 4, hq => cases hq; exact h4
    | 5, hq => cases hq; exact h5
    | 6, hq => cases hq; exact h6
    | 7, hq => cases hq; exact h7
    | 8, hq => cases hq; exact h8
    | 9, hq => cases hq; exact h9
    | 10, hq => cases hq; exact h10
    | k + 11, hq => exact absurd hq (by simp [vwCl])
  · match k, hq with
    | 0, hq => cases hq; exact g0
    | 1, hq => cases hq; exact g1
    | 2, hq => cases hq; exact g2
    | 3, hq => cases hq; exact g3
    | k + 4, hq => exact absurd hq (by simp [tyw])
end ST
theorem gXI_b (k : Nat) (j : Int) : 0 ≤ gXI k j ∧ gXI k j ≤ 1 ∧ (k ≠ 5 → k ≠ 9 → gXI k j = 0) := by
  unfold gXI
  split <;> (try unfold uI) <;> (repeat' split) <;> (try dsimp only) <;> omega
theorem gMI_b (k : Nat) (j : Int) : 0 ≤ gMI k j ∧ gMI k j ≤ 1 ∧ (k ≠ 2 → gMI k j = 0) := by
  unfold gMI
  split <;> (try unfold uI) <;> (repeat' split) <;> (try dsimp only) <;> omega
theorem xz_0 : ∀ k, k < 21 → xzlo k ≤ 0 ∧ 0 ≤ xzhi k := by decide +kernel
theorem mz_0 : ∀ k, k < 15 → mzlo k ≤ 0 ∧ 0 ≤ mzhi k := by decide +kernel
theorem xg_0 : ∀ k, k < 45 → xglo k ≤ 0 ∧ 0 ≤ xghi k ∧ (k = 5 ∨ k = 9 → 1 ≤ xghi k) := by decide +kernel
theorem mg_0 : ∀ k, k < 29 → mglo k ≤ 0 ∧ 0 ≤ mghi k ∧ (k = 2 → 1 ≤ mghi k) := by decide +kernel
theorem start_R : RelA zI0 gXI zI0 gMI := by
  refine ⟨⟨fun k hk => xz_0 k hk, fun k hk j => ?_, fun k hk => mz_0 k hk, fun k hk j => ?_⟩, ?_, ?_⟩
  · have h1 := gXI_b k j
    have h2 := xg_0 k hk
    by_cases e : k = 5 ∨ k = 9
    · have h3 := h2.2.2 e
      omega
    · have h3 := h1.2.2 (by omega) (by omega)
      omega
  · have h1 := gMI_b k j
    have h2 := mg_0 k hk
    by_cases e : k = 2
    · have h3 := h2.2.2 e
      omega
    · have h3 := h1.2.2 e
      omega
  · refine ⟨rfl, rfl, rfl, rfl, rfl, rfl, rfl, rfl, rfl, fun j => rfl, fun q h1 h2 => ?_, fun q h1 h2 => ?_, fun q _ _ => rfl, rfl, rfl, rfl, rfl, rfl, rfl, rfl, rfl, rfl, rfl, rfl, rfl, rfl, rfl, rfl, rfl, rfl⟩
    · rcases c4 ⟨h1, h2⟩ with rfl | rfl | rfl | rfl <;> rfl
    · rcases c4 ⟨h1, h2⟩ with rfl | rfl | rfl | rfl <;> rfl
  · have e16 : zI0 16 = 0 := rfl
    have e17 : zI0 17 = 0 := rfl
    refine ⟨fun s h1 h2 => ?_, fun i j h1 h2 h3 => ?_, fun s h1 h2 => ?_, fun q h1 h2 => ?_, fun q _ => rfl, fun q h1 h2 => ?_, fun s h1 h2 => ?_, fun s h1 h2 => ?_, fun s h1 h2 => ?_⟩ <;> exfalso <;> omega
