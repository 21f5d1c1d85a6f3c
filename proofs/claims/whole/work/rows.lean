section
-- ===== PART A: goes FIRST, ahead of the names: the tables' words, and 'selects' of the private methods out of them =====
/-- a private method of a class that the tables say can be made, by its rows of tables_1 -/
def lw_okq (q : MethodName × Nat) : Prop := (q.1.cls ≠ "java/lang/invoke/MethodHandle" ∧ q.1.cls ≠ "java/lang/invoke/VarHandle") ∧ Cond.instantiable q.1.cls q.2 ∈ tables_1 ∧ Cond.privateMethod q.1 ∈ tables_1 ∧ Cond.instanceMethod q.1 ∈ tables_1
theorem lw_p0 : lw_okq (⟨"FruitHalls$RuleReader", "forget", "()V"⟩, 11) := ⟨⟨by decide +kernel, by decide +kernel⟩, List.mem_of_getElem? (i := 82) (by decide +kernel), List.mem_of_getElem? (i := 373) (by decide +kernel), List.mem_of_getElem? (i := 374) (by decide +kernel)⟩
theorem lw_p1 : lw_okq (⟨"FruitHalls$RuleReader", "step", "()V"⟩, 11) := ⟨⟨by decide +kernel, by decide +kernel⟩, List.mem_of_getElem? (i := 82) (by decide +kernel), List.mem_of_getElem? (i := 378) (by decide +kernel), List.mem_of_getElem? (i := 379) (by decide +kernel)⟩
theorem lw_p2 : lw_okq (⟨"FruitHalls$RuleReader", "stepOverRun", "()V"⟩, 11) := ⟨⟨by decide +kernel, by decide +kernel⟩, List.mem_of_getElem? (i := 82) (by decide +kernel), List.mem_of_getElem? (i := 398) (by decide +kernel), List.mem_of_getElem? (i := 399) (by decide +kernel)⟩
theorem lw_p3 : lw_okq (⟨"FruitHalls$RuleReader", "readRule", "()V"⟩, 11) := ⟨⟨by decide +kernel, by decide +kernel⟩, List.mem_of_getElem? (i := 82) (by decide +kernel), List.mem_of_getElem? (i := 402) (by decide +kernel), List.mem_of_getElem? (i := 403) (by decide +kernel)⟩
theorem lw_p4 : lw_okq (⟨"FruitHalls$RuleReader", "isWord", "(Ljava/lang/String;)Z"⟩, 11) := ⟨⟨by decide +kernel, by decide +kernel⟩, List.mem_of_getElem? (i := 82) (by decide +kernel), List.mem_of_getElem? (i := 407) (by decide +kernel), List.mem_of_getElem? (i := 408) (by decide +kernel)⟩
theorem lw_p5 : lw_okq (⟨"FruitHalls$RuleReader", "readByGrade", "([I[ZI)V"⟩, 11) := ⟨⟨by decide +kernel, by decide +kernel⟩, List.mem_of_getElem? (i := 82) (by decide +kernel), List.mem_of_getElem? (i := 459) (by decide +kernel), List.mem_of_getElem? (i := 460) (by decide +kernel)⟩
theorem lw_p6 : lw_okq (⟨"FruitHalls$RuleReader", "takeNumber", "(I)I"⟩, 11) := ⟨⟨by decide +kernel, by decide +kernel⟩, List.mem_of_getElem? (i := 82) (by decide +kernel), List.mem_of_getElem? (i := 463) (by decide +kernel), List.mem_of_getElem? (i := 464) (by decide +kernel)⟩
theorem lw_p7 : lw_okq (⟨"FruitHalls$RuleReader", "refuseToken", "()V"⟩, 11) := ⟨⟨by decide +kernel, by decide +kernel⟩, List.mem_of_getElem? (i := 82) (by decide +kernel), List.mem_of_getElem? (i := 467) (by decide +kernel), List.mem_of_getElem? (i := 468) (by decide +kernel)⟩
theorem lw_p8 : lw_okq (⟨"FruitHalls$RuleReader", "refuse", "(I)V"⟩, 11) := ⟨⟨by decide +kernel, by decide +kernel⟩, List.mem_of_getElem? (i := 82) (by decide +kernel), List.mem_of_getElem? (i := 471) (by decide +kernel), List.mem_of_getElem? (i := 472) (by decide +kernel)⟩
theorem lw_p9 : lw_okq (⟨"FruitHalls$RuleReader", "finishRule", "()V"⟩, 11) := ⟨⟨by decide +kernel, by decide +kernel⟩, List.mem_of_getElem? (i := 82) (by decide +kernel), List.mem_of_getElem? (i := 475) (by decide +kernel), List.mem_of_getElem? (i := 476) (by decide +kernel)⟩
theorem lw_p10 : lw_okq (⟨"FruitHalls$RuleReader", "readRot", "()V"⟩, 11) := ⟨⟨by decide +kernel, by decide +kernel⟩, List.mem_of_getElem? (i := 82) (by decide +kernel), List.mem_of_getElem? (i := 481) (by decide +kernel), List.mem_of_getElem? (i := 482) (by decide +kernel)⟩
theorem lw_p11 : lw_okq (⟨"FruitHalls$RuleReader", "readLoss", "()V"⟩, 11) := ⟨⟨by decide +kernel, by decide +kernel⟩, List.mem_of_getElem? (i := 82) (by decide +kernel), List.mem_of_getElem? (i := 486) (by decide +kernel), List.mem_of_getElem? (i := 487) (by decide +kernel)⟩
theorem lw_p12 : lw_okq (⟨"FruitHalls", "offerRound", "(I)Z"⟩, 12) := ⟨⟨by decide +kernel, by decide +kernel⟩, List.mem_of_getElem? (i := 22) (by decide +kernel), List.mem_of_getElem? (i := 529) (by decide +kernel), List.mem_of_getElem? (i := 530) (by decide +kernel)⟩
theorem lw_p13 : lw_okq (⟨"FruitHalls", "offerLot", "(I)V"⟩, 12) := ⟨⟨by decide +kernel, by decide +kernel⟩, List.mem_of_getElem? (i := 22) (by decide +kernel), List.mem_of_getElem? (i := 543) (by decide +kernel), List.mem_of_getElem? (i := 544) (by decide +kernel)⟩
theorem lw_p14 : lw_okq (⟨"FruitHalls", "sell", "(III)V"⟩, 12) := ⟨⟨by decide +kernel, by decide +kernel⟩, List.mem_of_getElem? (i := 22) (by decide +kernel), List.mem_of_getElem? (i := 553) (by decide +kernel), List.mem_of_getElem? (i := 554) (by decide +kernel)⟩
theorem lw_p15 : lw_okq (⟨"FruitHalls$Payout", "weigh", "(I)J"⟩, 5) := ⟨⟨by decide +kernel, by decide +kernel⟩, List.mem_of_getElem? (i := 242) (by decide +kernel), List.mem_of_getElem? (i := 614) (by decide +kernel), List.mem_of_getElem? (i := 615) (by decide +kernel)⟩
def lw_privs_1 : List (MethodName × Nat) := [(⟨"FruitHalls$RuleReader", "forget", "()V"⟩, 11), (⟨"FruitHalls$RuleReader", "step", "()V"⟩, 11), (⟨"FruitHalls$RuleReader", "stepOverRun", "()V"⟩, 11), (⟨"FruitHalls$RuleReader", "readRule", "()V"⟩, 11), (⟨"FruitHalls$RuleReader", "isWord", "(Ljava/lang/String;)Z"⟩, 11), (⟨"FruitHalls$RuleReader", "readByGrade", "([I[ZI)V"⟩, 11), (⟨"FruitHalls$RuleReader", "takeNumber", "(I)I"⟩, 11), (⟨"FruitHalls$RuleReader", "refuseToken", "()V"⟩, 11), (⟨"FruitHalls$RuleReader", "refuse", "(I)V"⟩, 11), (⟨"FruitHalls$RuleReader", "finishRule", "()V"⟩, 11), (⟨"FruitHalls$RuleReader", "readRot", "()V"⟩, 11), (⟨"FruitHalls$RuleReader", "readLoss", "()V"⟩, 11), (⟨"FruitHalls", "offerRound", "(I)Z"⟩, 12), (⟨"FruitHalls", "offerLot", "(I)V"⟩, 12), (⟨"FruitHalls", "sell", "(III)V"⟩, 12), (⟨"FruitHalls$Payout", "weigh", "(I)J"⟩, 5)]
theorem lw_r1 : ∀ q ∈ lw_privs_1, lw_okq q := List.forall_mem_cons.mpr ⟨lw_p0, List.forall_mem_cons.mpr ⟨lw_p1, List.forall_mem_cons.mpr ⟨lw_p2, List.forall_mem_cons.mpr ⟨lw_p3, List.forall_mem_cons.mpr ⟨lw_p4, List.forall_mem_cons.mpr ⟨lw_p5, List.forall_mem_cons.mpr ⟨lw_p6, List.forall_mem_cons.mpr ⟨lw_p7, List.forall_mem_cons.mpr ⟨lw_p8, List.forall_mem_cons.mpr ⟨lw_p9, List.forall_mem_cons.mpr ⟨lw_p10, List.forall_mem_cons.mpr ⟨lw_p11, List.forall_mem_cons.mpr ⟨lw_p12, List.forall_mem_cons.mpr ⟨lw_p13, List.forall_mem_cons.mpr ⟨lw_p14, List.forall_mem_cons.mpr ⟨lw_p15, fun _ h => absurd h List.not_mem_nil⟩⟩⟩⟩⟩⟩⟩⟩⟩⟩⟩⟩⟩⟩⟩⟩
theorem lw_p16 : lw_okq (⟨"FruitHalls$Payout", "placeByRest", "(I)I"⟩, 5) := ⟨⟨by decide +kernel, by decide +kernel⟩, List.mem_of_getElem? (i := 242) (by decide +kernel), List.mem_of_getElem? (i := 619) (by decide +kernel), List.mem_of_getElem? (i := 620) (by decide +kernel)⟩
theorem lw_p17 : lw_okq (⟨"FruitHalls", "isWired", "(IIII)Z"⟩, 12) := ⟨⟨by decide +kernel, by decide +kernel⟩, List.mem_of_getElem? (i := 22) (by decide +kernel), List.mem_of_getElem? (i := 627) (by decide +kernel), List.mem_of_getElem? (i := 628) (by decide +kernel)⟩
theorem lw_p18 : lw_okq (⟨"FruitHalls$Freight", "bestHall", "()I"⟩, 4) := ⟨⟨by decide +kernel, by decide +kernel⟩, List.mem_of_getElem? (i := 295) (by decide +kernel), List.mem_of_getElem? (i := 646) (by decide +kernel), List.mem_of_getElem? (i := 647) (by decide +kernel)⟩
theorem lw_p19 : lw_okq (⟨"java/lang/Throwable", "fillInStackTrace", "(I)Ljava/lang/Throwable;"⟩, 6) := ⟨⟨by decide +kernel, by decide +kernel⟩, List.mem_of_getElem? (i := 703) (by decide +kernel), List.mem_of_getElem? (i := 701) (by decide +kernel), List.mem_of_getElem? (i := 702) (by decide +kernel)⟩
theorem lw_p20 : lw_okq (⟨"FruitHalls$Premium", "gather", "(II)J"⟩, 7) := ⟨⟨by decide +kernel, by decide +kernel⟩, List.mem_of_getElem? (i := 265) (by decide +kernel), List.mem_of_getElem? (i := 756) (by decide +kernel), List.mem_of_getElem? (i := 757) (by decide +kernel)⟩
theorem lw_p21 : lw_okq (⟨"FruitHalls$Premium", "reduce", "()V"⟩, 7) := ⟨⟨by decide +kernel, by decide +kernel⟩, List.mem_of_getElem? (i := 265) (by decide +kernel), List.mem_of_getElem? (i := 764) (by decide +kernel), List.mem_of_getElem? (i := 765) (by decide +kernel)⟩
theorem lw_p22 : lw_okq (⟨"FruitHallsModel", "four", "(I)V"⟩, 43) := ⟨⟨by decide +kernel, by decide +kernel⟩, List.mem_of_getElem? (i := 772) (by decide +kernel), List.mem_of_getElem? (i := 916) (by decide +kernel), List.mem_of_getElem? (i := 917) (by decide +kernel)⟩
theorem lw_p23 : lw_okq (⟨"FruitHallsModel", "taken", "()V"⟩, 43) := ⟨⟨by decide +kernel, by decide +kernel⟩, List.mem_of_getElem? (i := 772) (by decide +kernel), List.mem_of_getElem? (i := 928) (by decide +kernel), List.mem_of_getElem? (i := 929) (by decide +kernel)⟩
theorem lw_p24 : lw_okq (⟨"FruitHallsModel", "next0", "()V"⟩, 43) := ⟨⟨by decide +kernel, by decide +kernel⟩, List.mem_of_getElem? (i := 772) (by decide +kernel), List.mem_of_getElem? (i := 932) (by decide +kernel), List.mem_of_getElem? (i := 933) (by decide +kernel)⟩
theorem lw_p25 : lw_okq (⟨"FruitHallsModel", "peek", "()I"⟩, 43) := ⟨⟨by decide +kernel, by decide +kernel⟩, List.mem_of_getElem? (i := 772) (by decide +kernel), List.mem_of_getElem? (i := 936) (by decide +kernel), List.mem_of_getElem? (i := 937) (by decide +kernel)⟩
theorem lw_p26 : lw_okq (⟨"FruitHallsModel", "rule", "()Z"⟩, 43) := ⟨⟨by decide +kernel, by decide +kernel⟩, List.mem_of_getElem? (i := 772) (by decide +kernel), List.mem_of_getElem? (i := 946) (by decide +kernel), List.mem_of_getElem? (i := 947) (by decide +kernel)⟩
theorem lw_p27 : lw_okq (⟨"FruitHallsModel", "isWord", "(J)Z"⟩, 43) := ⟨⟨by decide +kernel, by decide +kernel⟩, List.mem_of_getElem? (i := 772) (by decide +kernel), List.mem_of_getElem? (i := 951) (by decide +kernel), List.mem_of_getElem? (i := 952) (by decide +kernel)⟩
theorem lw_p28 : lw_okq (⟨"FruitHallsModel", "cant", "()Z"⟩, 43) := ⟨⟨by decide +kernel, by decide +kernel⟩, List.mem_of_getElem? (i := 772) (by decide +kernel), List.mem_of_getElem? (i := 958) (by decide +kernel), List.mem_of_getElem? (i := 959) (by decide +kernel)⟩
theorem lw_p29 : lw_okq (⟨"FruitHallsModel", "wrong", "(II)Z"⟩, 43) := ⟨⟨by decide +kernel, by decide +kernel⟩, List.mem_of_getElem? (i := 772) (by decide +kernel), List.mem_of_getElem? (i := 962) (by decide +kernel), List.mem_of_getElem? (i := 963) (by decide +kernel)⟩
theorem lw_p30 : lw_okq (⟨"FruitHallsModel", "offer", "(I)Z"⟩, 43) := ⟨⟨by decide +kernel, by decide +kernel⟩, List.mem_of_getElem? (i := 772) (by decide +kernel), List.mem_of_getElem? (i := 995) (by decide +kernel), List.mem_of_getElem? (i := 996) (by decide +kernel)⟩
theorem lw_p31 : lw_okq (⟨"FruitHallsModel", "bids", "(II)Z"⟩, 43) := ⟨⟨by decide +kernel, by decide +kernel⟩, List.mem_of_getElem? (i := 772) (by decide +kernel), List.mem_of_getElem? (i := 999) (by decide +kernel), List.mem_of_getElem? (i := 1000) (by decide +kernel)⟩
def lw_privs_2 : List (MethodName × Nat) := [(⟨"FruitHalls$Payout", "placeByRest", "(I)I"⟩, 5), (⟨"FruitHalls", "isWired", "(IIII)Z"⟩, 12), (⟨"FruitHalls$Freight", "bestHall", "()I"⟩, 4), (⟨"java/lang/Throwable", "fillInStackTrace", "(I)Ljava/lang/Throwable;"⟩, 6), (⟨"FruitHalls$Premium", "gather", "(II)J"⟩, 7), (⟨"FruitHalls$Premium", "reduce", "()V"⟩, 7), (⟨"FruitHallsModel", "four", "(I)V"⟩, 43), (⟨"FruitHallsModel", "taken", "()V"⟩, 43), (⟨"FruitHallsModel", "next0", "()V"⟩, 43), (⟨"FruitHallsModel", "peek", "()I"⟩, 43), (⟨"FruitHallsModel", "rule", "()Z"⟩, 43), (⟨"FruitHallsModel", "isWord", "(J)Z"⟩, 43), (⟨"FruitHallsModel", "cant", "()Z"⟩, 43), (⟨"FruitHallsModel", "wrong", "(II)Z"⟩, 43), (⟨"FruitHallsModel", "offer", "(I)Z"⟩, 43), (⟨"FruitHallsModel", "bids", "(II)Z"⟩, 43)]
theorem lw_r2 : ∀ q ∈ lw_privs_2, lw_okq q := List.forall_mem_cons.mpr ⟨lw_p16, List.forall_mem_cons.mpr ⟨lw_p17, List.forall_mem_cons.mpr ⟨lw_p18, List.forall_mem_cons.mpr ⟨lw_p19, List.forall_mem_cons.mpr ⟨lw_p20, List.forall_mem_cons.mpr ⟨lw_p21, List.forall_mem_cons.mpr ⟨lw_p22, List.forall_mem_cons.mpr ⟨lw_p23, List.forall_mem_cons.mpr ⟨lw_p24, List.forall_mem_cons.mpr ⟨lw_p25, List.forall_mem_cons.mpr ⟨lw_p26, List.forall_mem_cons.mpr ⟨lw_p27, List.forall_mem_cons.mpr ⟨lw_p28, List.forall_mem_cons.mpr ⟨lw_p29, List.forall_mem_cons.mpr ⟨lw_p30, List.forall_mem_cons.mpr ⟨lw_p31, fun _ h => absurd h List.not_mem_nil⟩⟩⟩⟩⟩⟩⟩⟩⟩⟩⟩⟩⟩⟩⟩⟩
theorem lw_p32 : lw_okq (⟨"FruitHallsModel", "isSale", "(I)Z"⟩, 43) := ⟨⟨by decide +kernel, by decide +kernel⟩, List.mem_of_getElem? (i := 772) (by decide +kernel), List.mem_of_getElem? (i := 1007) (by decide +kernel), List.mem_of_getElem? (i := 1008) (by decide +kernel)⟩
theorem lw_p33 : lw_okq (⟨"FruitHallsModel", "throwsIf", "(Z)Z"⟩, 43) := ⟨⟨by decide +kernel, by decide +kernel⟩, List.mem_of_getElem? (i := 772) (by decide +kernel), List.mem_of_getElem? (i := 1019) (by decide +kernel), List.mem_of_getElem? (i := 1020) (by decide +kernel)⟩
theorem lw_p34 : lw_okq (⟨"FruitHallsModel", "claimOf", "(I)I"⟩, 43) := ⟨⟨by decide +kernel, by decide +kernel⟩, List.mem_of_getElem? (i := 772) (by decide +kernel), List.mem_of_getElem? (i := 1027) (by decide +kernel), List.mem_of_getElem? (i := 1028) (by decide +kernel)⟩
theorem lw_p35 : lw_okq (⟨"FruitHallsModel", "nextOf", "(I)I"⟩, 43) := ⟨⟨by decide +kernel, by decide +kernel⟩, List.mem_of_getElem? (i := 772) (by decide +kernel), List.mem_of_getElem? (i := 1031) (by decide +kernel), List.mem_of_getElem? (i := 1032) (by decide +kernel)⟩
theorem lw_p36 : lw_okq (⟨"FruitHallsModel", "poolOf", "(I)J"⟩, 43) := ⟨⟨by decide +kernel, by decide +kernel⟩, List.mem_of_getElem? (i := 772) (by decide +kernel), List.mem_of_getElem? (i := 1047) (by decide +kernel), List.mem_of_getElem? (i := 1048) (by decide +kernel)⟩
theorem lw_p37 : lw_okq (⟨"FruitHallsModel", "counts", "(II)Z"⟩, 43) := ⟨⟨by decide +kernel, by decide +kernel⟩, List.mem_of_getElem? (i := 772) (by decide +kernel), List.mem_of_getElem? (i := 1051) (by decide +kernel), List.mem_of_getElem? (i := 1052) (by decide +kernel)⟩
def lw_privs_3 : List (MethodName × Nat) := [(⟨"FruitHallsModel", "isSale", "(I)Z"⟩, 43), (⟨"FruitHallsModel", "throwsIf", "(Z)Z"⟩, 43), (⟨"FruitHallsModel", "claimOf", "(I)I"⟩, 43), (⟨"FruitHallsModel", "nextOf", "(I)I"⟩, 43), (⟨"FruitHallsModel", "poolOf", "(I)J"⟩, 43), (⟨"FruitHallsModel", "counts", "(II)Z"⟩, 43)]
theorem lw_r3 : ∀ q ∈ lw_privs_3, lw_okq q := List.forall_mem_cons.mpr ⟨lw_p32, List.forall_mem_cons.mpr ⟨lw_p33, List.forall_mem_cons.mpr ⟨lw_p34, List.forall_mem_cons.mpr ⟨lw_p35, List.forall_mem_cons.mpr ⟨lw_p36, List.forall_mem_cons.mpr ⟨lw_p37, fun _ h => absurd h List.not_mem_nil⟩⟩⟩⟩⟩⟩
def lw_privs : List (MethodName × Nat) := lw_privs_1 ++ (lw_privs_2 ++ (lw_privs_3))
def lw_tbl : List Cond := k2_sels lw_privs ++ tables_1
theorem lw_privs_ok : ∀ q ∈ lw_privs, lw_okq q := by
  show ∀ q ∈ lw_privs_1 ++ (lw_privs_2 ++ (lw_privs_3)), lw_okq q
  exact List.forall_mem_append.mpr ⟨lw_r1, List.forall_mem_append.mpr ⟨lw_r2, lw_r3⟩⟩
end
section
/-! ===== BEGIN printed: names, fields, word lists, decode rows ===== -/
def RX0 : String := "FruitHalls$Buyers"
def TX0 : u_T := fun k => match k with
  | 0 => ("FruitHalls$Buyers", "purse", "[I", true)
  | 1 => ("FruitHalls$Buyers", "unspent", "[I", true)
  | 2 => ("FruitHalls$Buyers", "wantBoxes", "[I", true)
  | _ => ("FruitHalls$Buyers", "wantLimit", "[I", true)
def tyX0 : Nat → FieldType := fun k => match k with
  | 0 => .array .int
  | 1 => .array .int
  | 2 => .array .int
  | _ => .array .int
abbrev wsX00 : List Cond := u_ws RX0 TX0 4
theorem nmX0 : ∀ a, a < 4 → ∀ b, b < 4 → a ≠ b → (TX0 a).2.1 ≠ (TX0 b).2.1 := by decide +kernel
theorem tyX0_ok : ∀ k, k < 4 → parseFieldDescriptor (TX0 k).2.2.1 = some (tyX0 k) := by decide +kernel
abbrev cX0_init : ByteArray := prog_2_method_1_code
def yX0_init : MethodName := ⟨RX0, "<init>", "()V"⟩
abbrev cX0_wantPlace : ByteArray := prog_2_method_2_code
def yX0_wantPlace : MethodName := ⟨RX0, "wantPlace", "(III)I"⟩
abbrev cX0_bidOf : ByteArray := prog_2_method_3_code
def yX0_bidOf : MethodName := ⟨RX0, "bidOf", "(IIIII)I"⟩
abbrev cX0_take : ByteArray := prog_2_method_4_code
def yX0_take : MethodName := ⟨RX0, "take", "(IIII)V"⟩
abbrev cX0_restoreMoney : ByteArray := prog_2_method_5_code
def yX0_restoreMoney : MethodName := ⟨RX0, "restoreMoney", "()V"⟩
def RX1 : String := "FruitHalls$Freight"
def TX1 : u_T := fun k => match k with
  | 0 => ("FruitHalls$Freight", "worthOfNext", "[I", true)
  | 1 => ("FruitHalls$Freight", "fall", "[I", true)
  | 2 => ("FruitHalls$Freight", "carsTo", "[I", true)
  | _ => ("FruitHalls$Freight", "dispatched", "Z", false)
def tyX1 : Nat → FieldType := fun k => match k with
  | 0 => .array .int
  | 1 => .array .int
  | 2 => .array .int
  | _ => .boolean
abbrev wsX10 : List Cond := u_ws RX1 TX1 4
theorem nmX1 : ∀ a, a < 4 → ∀ b, b < 4 → a ≠ b → (TX1 a).2.1 ≠ (TX1 b).2.1 := by decide +kernel
theorem tyX1_ok : ∀ k, k < 4 → parseFieldDescriptor (TX1 k).2.2.1 = some (tyX1 k) := by decide +kernel
abbrev cX1_init : ByteArray := prog_3_method_1_code
def yX1_init : MethodName := ⟨RX1, "<init>", "()V"⟩
abbrev cX1_dispatch : ByteArray := prog_3_method_2_code
def yX1_dispatch : MethodName := ⟨RX1, "dispatch", "(LFruitHalls$Tape;I)I"⟩
abbrev cX1_bestHall : ByteArray := prog_3_method_3_code
def yX1_bestHall : MethodName := ⟨RX1, "bestHall", "()I"⟩
def RX2 : String := "FruitHalls$Lots"
def TX2 : u_T := fun k => match k with
  | 0 => ("FruitHalls$Lots", "grower", "[I", true)
  | 1 => ("FruitHalls$Lots", "mark", "[I", true)
  | 2 => ("FruitHalls$Lots", "grade", "[I", true)
  | 3 => ("FruitHalls$Lots", "boxes", "[I", true)
  | 4 => ("FruitHalls$Lots", "hall", "[I", true)
  | 5 => ("FruitHalls$Lots", "sold", "[Z", true)
  | 6 => ("FruitHalls$Lots", "lastSale", "[I", true)
  | _ => ("FruitHalls$Lots", "size", "I", false)
def tyX2 : Nat → FieldType := fun k => match k with
  | 0 => .array .int
  | 1 => .array .int
  | 2 => .array .int
  | 3 => .array .int
  | 4 => .array .int
  | 5 => .array .boolean
  | 6 => .array .int
  | _ => .int
abbrev wsX20 : List Cond := u_ws RX2 TX2 8
theorem nmX2 : ∀ a, a < 8 → ∀ b, b < 8 → a ≠ b → (TX2 a).2.1 ≠ (TX2 b).2.1 := by decide +kernel
theorem tyX2_ok : ∀ k, k < 8 → parseFieldDescriptor (TX2 k).2.2.1 = some (tyX2 k) := by decide +kernel
abbrev cX2_init : ByteArray := prog_4_method_1_code
def yX2_init : MethodName := ⟨RX2, "<init>", "()V"⟩
abbrev cX2_add : ByteArray := prog_4_method_2_code
def yX2_add : MethodName := ⟨RX2, "add", "(IIIII)I"⟩
abbrev cX2_rotWaiting : ByteArray := prog_4_method_3_code
def yX2_rotWaiting : MethodName := ⟨RX2, "rotWaiting", "(I)V"⟩
abbrev cX2_nextOffered : ByteArray := prog_4_method_4_code
def yX2_nextOffered : MethodName := ⟨RX2, "nextOffered", "(III)I"⟩
def RX3 : String := "FruitHalls$Payout"
def TX3 : u_T := fun k => match k with
  | 0 => ("FruitHalls$Payout", "lots", "LFruitHalls$Lots;", true)
  | 1 => ("FruitHalls$Payout", "sales", "LFruitHalls$Sales;", true)
  | 2 => ("FruitHalls$Payout", "ruling", "LFruitHalls$Rules;", true)
  | 3 => ("FruitHalls$Payout", "weights", "[J", true)
  | _ => ("FruitHalls$Payout", "rests", "[J", true)
def tyX3 : Nat → FieldType := fun k => match k with
  | 0 => .object "FruitHalls$Lots"
  | 1 => .object "FruitHalls$Sales"
  | 2 => .object "FruitHalls$Rules"
  | 3 => .array .long
  | _ => .array .long
abbrev wsX30 : List Cond := u_ws RX3 TX3 5
theorem nmX3 : ∀ a, a < 5 → ∀ b, b < 5 → a ≠ b → (TX3 a).2.1 ≠ (TX3 b).2.1 := by decide +kernel
theorem tyX3_ok : ∀ k, k < 5 → parseFieldDescriptor (TX3 k).2.2.1 = some (tyX3 k) := by decide +kernel
abbrev cX3_init : ByteArray := prog_5_method_1_code
def yX3_init : MethodName := ⟨RX3, "<init>", "(LFruitHalls$Lots;LFruitHalls$Sales;LFruitHalls$Rules;)V"⟩
abbrev cX3_claimOf : ByteArray := prog_5_method_2_code
def yX3_claimOf : MethodName := ⟨RX3, "claimOf", "(I)I"⟩
abbrev cX3_poolAsOf : ByteArray := prog_5_method_3_code
def yX3_poolAsOf : MethodName := ⟨RX3, "poolAsOf", "(I)J"⟩
abbrev cX3_shareOf : ByteArray := prog_5_method_4_code
def yX3_shareOf : MethodName := ⟨RX3, "shareOf", "(II)J"⟩
abbrev cX3_weigh : ByteArray := prog_5_method_5_code
def yX3_weigh : MethodName := ⟨RX3, "weigh", "(I)J"⟩
abbrev cX3_placeByRest : ByteArray := prog_5_method_6_code
def yX3_placeByRest : MethodName := ⟨RX3, "placeByRest", "(I)I"⟩
def RX4 : String := "FruitHalls$Premium"
def TX4 : u_T := fun k => match k with
  | 0 => ("FruitHalls$Premium", "lots", "LFruitHalls$Lots;", true)
  | 1 => ("FruitHalls$Premium", "sales", "LFruitHalls$Sales;", true)
  | 2 => ("FruitHalls$Premium", "gradeSales", "[J", true)
  | 3 => ("FruitHalls$Premium", "gradePrices", "[J", true)
  | 4 => ("FruitHalls$Premium", "markSales", "[J", true)
  | 5 => ("FruitHalls$Premium", "upper", "J", false)
  | _ => ("FruitHalls$Premium", "lower", "J", false)
def tyX4 : Nat → FieldType := fun k => match k with
  | 0 => .object "FruitHalls$Lots"
  | 1 => .object "FruitHalls$Sales"
  | 2 => .array .long
  | 3 => .array .long
  | 4 => .array .long
  | 5 => .long
  | _ => .long
abbrev wsX40 : List Cond := u_ws RX4 TX4 7
theorem nmX4 : ∀ a, a < 7 → ∀ b, b < 7 → a ≠ b → (TX4 a).2.1 ≠ (TX4 b).2.1 := by decide +kernel
theorem tyX4_ok : ∀ k, k < 7 → parseFieldDescriptor (TX4 k).2.2.1 = some (tyX4 k) := by decide +kernel
abbrev cX4_init : ByteArray := prog_6_method_1_code
def yX4_init : MethodName := ⟨RX4, "<init>", "(LFruitHalls$Lots;LFruitHalls$Sales;)V"⟩
abbrev cX4_reckon : ByteArray := prog_6_method_2_code
def yX4_reckon : MethodName := ⟨RX4, "reckon", "(II)Z"⟩
abbrev cX4_gather : ByteArray := prog_6_method_3_code
def yX4_gather : MethodName := ⟨RX4, "gather", "(II)J"⟩
abbrev cX4_reduce : ByteArray := prog_6_method_4_code
def yX4_reduce : MethodName := ⟨RX4, "reduce", "()V"⟩
def RX5 : String := "FruitHalls$RuleReader"
def TX5 : u_T := fun k => match k with
  | 0 => ("FruitHalls$RuleReader", "text", "LFruitHalls$Tape;", true)
  | 1 => ("FruitHalls$RuleReader", "draft", "LFruitHalls$Rules;", true)
  | 2 => ("FruitHalls$RuleReader", "reserveTold", "[Z", true)
  | 3 => ("FruitHalls$RuleReader", "partTold", "[Z", true)
  | 4 => ("FruitHalls$RuleReader", "rotTold", "Z", false)
  | 5 => ("FruitHalls$RuleReader", "lossTold", "Z", false)
  | 6 => ("FruitHalls$RuleReader", "kind", "I", false)
  | 7 => ("FruitHalls$RuleReader", "start", "I", false)
  | 8 => ("FruitHalls$RuleReader", "behind", "I", false)
  | 9 => ("FruitHalls$RuleReader", "faultKind", "I", false)
  | _ => ("FruitHalls$RuleReader", "faultPlace", "I", false)
def tyX5 : Nat → FieldType := fun k => match k with
  | 0 => .object "FruitHalls$Tape"
  | 1 => .object "FruitHalls$Rules"
  | 2 => .array .boolean
  | 3 => .array .boolean
  | 4 => .boolean
  | 5 => .boolean
  | 6 => .int
  | 7 => .int
  | 8 => .int
  | 9 => .int
  | _ => .int
abbrev wsX50 : List Cond := u_ws RX5 TX5 11
theorem nmX5 : ∀ a, a < 11 → ∀ b, b < 11 → a ≠ b → (TX5 a).2.1 ≠ (TX5 b).2.1 := by decide +kernel
theorem tyX5_ok : ∀ k, k < 11 → parseFieldDescriptor (TX5 k).2.2.1 = some (tyX5 k) := by decide +kernel
abbrev cX5_init : ByteArray := prog_7_method_1_code
def yX5_init : MethodName := ⟨RX5, "<init>", "(LFruitHalls$Tape;)V"⟩
abbrev cX5_read : ByteArray := prog_7_method_2_code
def yX5_read : MethodName := ⟨RX5, "read", "()V"⟩
abbrev cX5_forget : ByteArray := prog_7_method_3_code
def yX5_forget : MethodName := ⟨RX5, "forget", "()V"⟩
abbrev cX5_readRule : ByteArray := prog_7_method_4_code
def yX5_readRule : MethodName := ⟨RX5, "readRule", "()V"⟩
abbrev cX5_readByGrade : ByteArray := prog_7_method_5_code
def yX5_readByGrade : MethodName := ⟨RX5, "readByGrade", "([I[ZI)V"⟩
abbrev cX5_readRot : ByteArray := prog_7_method_6_code
def yX5_readRot : MethodName := ⟨RX5, "readRot", "()V"⟩
abbrev cX5_readLoss : ByteArray := prog_7_method_7_code
def yX5_readLoss : MethodName := ⟨RX5, "readLoss", "()V"⟩
abbrev cX5_finishRule : ByteArray := prog_7_method_8_code
def yX5_finishRule : MethodName := ⟨RX5, "finishRule", "()V"⟩
abbrev cX5_takeNumber : ByteArray := prog_7_method_9_code
def yX5_takeNumber : MethodName := ⟨RX5, "takeNumber", "(I)I"⟩
abbrev cX5_refuseToken : ByteArray := prog_7_method_10_code
def yX5_refuseToken : MethodName := ⟨RX5, "refuseToken", "()V"⟩
abbrev cX5_refuse : ByteArray := prog_7_method_11_code
def yX5_refuse : MethodName := ⟨RX5, "refuse", "(I)V"⟩
abbrev cX5_step : ByteArray := prog_7_method_12_code
def yX5_step : MethodName := ⟨RX5, "step", "()V"⟩
abbrev cX5_stepOverRun : ByteArray := prog_7_method_13_code
def yX5_stepOverRun : MethodName := ⟨RX5, "stepOverRun", "()V"⟩
abbrev cX5_isWord : ByteArray := prog_7_method_14_code
def yX5_isWord : MethodName := ⟨RX5, "isWord", "(Ljava/lang/String;)Z"⟩
abbrev cX5_isBlank : ByteArray := prog_7_method_15_code
def yX5_isBlank : MethodName := ⟨RX5, "isBlank", "(I)Z"⟩
abbrev cX5_isLetter : ByteArray := prog_7_method_16_code
def yX5_isLetter : MethodName := ⟨RX5, "isLetter", "(I)Z"⟩
abbrev cX5_isDigit : ByteArray := prog_7_method_17_code
def yX5_isDigit : MethodName := ⟨RX5, "isDigit", "(I)Z"⟩
def RX6 : String := "FruitHalls$Rules"
def TX6 : u_T := fun k => match k with
  | 0 => ("FruitHalls$Rules", "reserve", "[I", true)
  | 1 => ("FruitHalls$Rules", "part", "[I", true)
  | 2 => ("FruitHalls$Rules", "rot", "I", false)
  | 3 => ("FruitHalls$Rules", "lossOnBuyer", "Z", false)
  | _ => ("FruitHalls$Rules", "told", "I", false)
def tyX6 : Nat → FieldType := fun k => match k with
  | 0 => .array .int
  | 1 => .array .int
  | 2 => .int
  | 3 => .boolean
  | _ => .int
abbrev wsX60 : List Cond := u_ws RX6 TX6 5
theorem nmX6 : ∀ a, a < 5 → ∀ b, b < 5 → a ≠ b → (TX6 a).2.1 ≠ (TX6 b).2.1 := by decide +kernel
theorem tyX6_ok : ∀ k, k < 5 → parseFieldDescriptor (TX6 k).2.2.1 = some (tyX6 k) := by decide +kernel
abbrev cX6_init : ByteArray := prog_8_method_1_code
def yX6_init : MethodName := ⟨RX6, "<init>", "()V"⟩
abbrev cX6_clear : ByteArray := prog_8_method_2_code
def yX6_clear : MethodName := ⟨RX6, "clear", "()V"⟩
abbrev cX6_copy : ByteArray := prog_8_method_3_code
def yX6_copy : MethodName := ⟨RX6, "copy", "(LFruitHalls$Rules;)V"⟩
def RX7 : String := "FruitHalls$Sales"
def TX7 : u_T := fun k => match k with
  | 0 => ("FruitHalls$Sales", "ofLot", "[I", true)
  | 1 => ("FruitHalls$Sales", "buyer", "[I", true)
  | 2 => ("FruitHalls$Sales", "day", "[I", true)
  | 3 => ("FruitHalls$Sales", "boxes", "[I", true)
  | 4 => ("FruitHalls$Sales", "price", "[I", true)
  | 5 => ("FruitHalls$Sales", "rejectedOn", "[I", true)
  | 6 => ("FruitHalls$Sales", "soldAgainBy", "[I", true)
  | _ => ("FruitHalls$Sales", "size", "I", false)
def tyX7 : Nat → FieldType := fun k => match k with
  | 0 => .array .int
  | 1 => .array .int
  | 2 => .array .int
  | 3 => .array .int
  | 4 => .array .int
  | 5 => .array .int
  | 6 => .array .int
  | _ => .int
abbrev wsX70 : List Cond := u_ws RX7 TX7 8
theorem nmX7 : ∀ a, a < 8 → ∀ b, b < 8 → a ≠ b → (TX7 a).2.1 ≠ (TX7 b).2.1 := by decide +kernel
theorem tyX7_ok : ∀ k, k < 8 → parseFieldDescriptor (TX7 k).2.2.1 = some (tyX7 k) := by decide +kernel
abbrev cX7_init : ByteArray := prog_9_method_1_code
def yX7_init : MethodName := ⟨RX7, "<init>", "()V"⟩
abbrev cX7_add : ByteArray := prog_9_method_2_code
def yX7_add : MethodName := ⟨RX7, "add", "(IIIII)I"⟩
abbrev cX7_countsAsOf : ByteArray := prog_9_method_3_code
def yX7_countsAsOf : MethodName := ⟨RX7, "countsAsOf", "(II)Z"⟩
def RX8 : String := "FruitHalls$Tape"
def TX8 : u_T := fun k => match k with
  | 0 => ("FruitHalls$Tape", "bytes", "[I", true)
  | _ => ("FruitHalls$Tape", "size", "I", false)
def tyX8 : Nat → FieldType := fun k => match k with
  | 0 => .array .int
  | _ => .int
abbrev wsX80 : List Cond := u_ws RX8 TX8 2
theorem nmX8 : ∀ a, a < 2 → ∀ b, b < 2 → a ≠ b → (TX8 a).2.1 ≠ (TX8 b).2.1 := by decide +kernel
theorem tyX8_ok : ∀ k, k < 2 → parseFieldDescriptor (TX8 k).2.2.1 = some (tyX8 k) := by decide +kernel
abbrev cX8_init : ByteArray := prog_10_method_1_code
def yX8_init : MethodName := ⟨RX8, "<init>", "()V"⟩
abbrev cX8_append : ByteArray := prog_10_method_2_code
def yX8_append : MethodName := ⟨RX8, "append", "(I)V"⟩
abbrev cX8_byteAt : ByteArray := prog_10_method_3_code
def yX8_byteAt : MethodName := ⟨RX8, "byteAt", "(I)I"⟩
abbrev cX8_pairAt : ByteArray := prog_10_method_4_code
def yX8_pairAt : MethodName := ⟨RX8, "pairAt", "(I)I"⟩
def RX9 : String := "FruitHalls"
def TX9 : u_T := fun k => match k with
  | 0 => ("FruitHalls", "tape", "LFruitHalls$Tape;", true)
  | 1 => ("FruitHalls", "ruling", "LFruitHalls$Rules;", true)
  | 2 => ("FruitHalls", "reader", "LFruitHalls$RuleReader;", true)
  | 3 => ("FruitHalls", "lots", "LFruitHalls$Lots;", true)
  | 4 => ("FruitHalls", "sales", "LFruitHalls$Sales;", true)
  | 5 => ("FruitHalls", "buyers", "LFruitHalls$Buyers;", true)
  | 6 => ("FruitHalls", "payout", "LFruitHalls$Payout;", true)
  | 7 => ("FruitHalls", "premium", "LFruitHalls$Premium;", true)
  | 8 => ("FruitHalls", "freight", "LFruitHalls$Freight;", true)
  | 9 => ("FruitHalls", "offeredUpTo", "[I", true)
  | 10 => ("FruitHalls", "today", "I", false)
  | _ => ("FruitHalls", "latestFault", "I", false)
def tyX9 : Nat → FieldType := fun k => match k with
  | 0 => .object "FruitHalls$Tape"
  | 1 => .object "FruitHalls$Rules"
  | 2 => .object "FruitHalls$RuleReader"
  | 3 => .object "FruitHalls$Lots"
  | 4 => .object "FruitHalls$Sales"
  | 5 => .object "FruitHalls$Buyers"
  | 6 => .object "FruitHalls$Payout"
  | 7 => .object "FruitHalls$Premium"
  | 8 => .object "FruitHalls$Freight"
  | 9 => .array .int
  | 10 => .int
  | _ => .int
abbrev wsX90 : List Cond := u_ws RX9 TX9 12
theorem nmX9 : ∀ a, a < 12 → ∀ b, b < 12 → a ≠ b → (TX9 a).2.1 ≠ (TX9 b).2.1 := by decide +kernel
theorem tyX9_ok : ∀ k, k < 12 → parseFieldDescriptor (TX9 k).2.2.1 = some (tyX9 k) := by decide +kernel
abbrev cX9_init : ByteArray := prog_1_method_1_code
def yX9_init : MethodName := ⟨RX9, "<init>", "()V"⟩
abbrev cX9_feed : ByteArray := prog_1_method_2_code
def yX9_feed : MethodName := ⟨RX9, "feed", "(IIIII)I"⟩
abbrev cX9_end : ByteArray := prog_1_method_3_code
def yX9_end : MethodName := ⟨RX9, "end", "(I)Z"⟩
abbrev cX9_rules : ByteArray := prog_1_method_4_code
def yX9_rules : MethodName := ⟨RX9, "rules", "()I"⟩
abbrev cX9_fault : ByteArray := prog_1_method_5_code
def yX9_fault : MethodName := ⟨RX9, "fault", "()I"⟩
abbrev cX9_lot : ByteArray := prog_1_method_6_code
def yX9_lot : MethodName := ⟨RX9, "lot", "(IIIII)I"⟩
abbrev cX9_money : ByteArray := prog_1_method_7_code
def yX9_money : MethodName := ⟨RX9, "money", "(II)Z"⟩
abbrev cX9_want : ByteArray := prog_1_method_8_code
def yX9_want : MethodName := ⟨RX9, "want", "(IIIII)Z"⟩
abbrev cX9_auction : ByteArray := prog_1_method_9_code
def yX9_auction : MethodName := ⟨RX9, "auction", "(I)I"⟩
abbrev cX9_reject : ByteArray := prog_1_method_10_code
def yX9_reject : MethodName := ⟨RX9, "reject", "(I)Z"⟩
abbrev cX9_next : ByteArray := prog_1_method_11_code
def yX9_next : MethodName := ⟨RX9, "next", "()I"⟩
abbrev cX9_about : ByteArray := prog_1_method_12_code
def yX9_about : MethodName := ⟨RX9, "about", "(II)I"⟩
abbrev cX9_sale : ByteArray := prog_1_method_13_code
def yX9_sale : MethodName := ⟨RX9, "sale", "(II)I"⟩
abbrev cX9_left : ByteArray := prog_1_method_14_code
def yX9_left : MethodName := ⟨RX9, "left", "(I)I"⟩
abbrev cX9_wanted : ByteArray := prog_1_method_15_code
def yX9_wanted : MethodName := ⟨RX9, "wanted", "(III)I"⟩
abbrev cX9_pool : ByteArray := prog_1_method_16_code
def yX9_pool : MethodName := ⟨RX9, "pool", "(I)I"⟩
abbrev cX9_pay : ByteArray := prog_1_method_17_code
def yX9_pay : MethodName := ⟨RX9, "pay", "(II)I"⟩
abbrev cX9_worth : ByteArray := prog_1_method_18_code
def yX9_worth : MethodName := ⟨RX9, "worth", "(III)J"⟩
abbrev cX9_wire : ByteArray := prog_1_method_19_code
def yX9_wire : MethodName := ⟨RX9, "wire", "(IIII)I"⟩
abbrev cX9_cars : ByteArray := prog_1_method_20_code
def yX9_cars : MethodName := ⟨RX9, "cars", "(I)I"⟩
abbrev cX9_sent : ByteArray := prog_1_method_21_code
def yX9_sent : MethodName := ⟨RX9, "sent", "(I)I"⟩
abbrev cX9_count : ByteArray := prog_1_method_22_code
def yX9_count : MethodName := ⟨RX9, "count", "(I)I"⟩
abbrev cX9_isBelow : ByteArray := prog_1_method_23_code
def yX9_isBelow : MethodName := ⟨RX9, "isBelow", "(II)Z"⟩
abbrev cX9_isWantPlace : ByteArray := prog_1_method_24_code
def yX9_isWantPlace : MethodName := ⟨RX9, "isWantPlace", "(III)Z"⟩
abbrev cX9_offerRound : ByteArray := prog_1_method_25_code
def yX9_offerRound : MethodName := ⟨RX9, "offerRound", "(I)Z"⟩
abbrev cX9_offerLot : ByteArray := prog_1_method_26_code
def yX9_offerLot : MethodName := ⟨RX9, "offerLot", "(I)V"⟩
abbrev cX9_sell : ByteArray := prog_1_method_27_code
def yX9_sell : MethodName := ⟨RX9, "sell", "(III)V"⟩
abbrev cX9_isWired : ByteArray := prog_1_method_28_code
def yX9_isWired : MethodName := ⟨RX9, "isWired", "(IIII)Z"⟩
def RX10 : String := "FruitHallsModel"
def TX10 : u_T := fun k => match k with
  | 0 => ("FruitHallsModel", "thrown", "I", false)
  | 1 => ("FruitHallsModel", "tape", "[B", true)
  | 2 => ("FruitHallsModel", "length", "I", false)
  | 3 => ("FruitHallsModel", "size", "I", false)
  | 4 => ("FruitHallsModel", "p", "I", false)
  | 5 => ("FruitHallsModel", "law", "[I", true)
  | 6 => ("FruitHallsModel", "fresh", "[I", true)
  | 7 => ("FruitHallsModel", "isTold", "[Z", true)
  | 8 => ("FruitHallsModel", "token", "I", false)
  | 9 => ("FruitHallsModel", "at", "I", false)
  | 10 => ("FruitHallsModel", "number", "I", false)
  | 11 => ("FruitHallsModel", "fault", "I", false)
  | 12 => ("FruitHallsModel", "faultAt", "I", false)
  | 13 => ("FruitHallsModel", "ruleMany", "I", false)
  | 14 => ("FruitHallsModel", "word", "J", false)
  | 15 => ("FruitHallsModel", "growerOf", "[I", true)
  | 16 => ("FruitHallsModel", "markOf", "[I", true)
  | 17 => ("FruitHallsModel", "gradeOf", "[I", true)
  | 18 => ("FruitHallsModel", "boxes", "[I", true)
  | 19 => ("FruitHallsModel", "hallOf", "[I", true)
  | 20 => ("FruitHallsModel", "lastSale", "[I", true)
  | 21 => ("FruitHallsModel", "isSold", "[Z", true)
  | 22 => ("FruitHallsModel", "lots", "I", false)
  | 23 => ("FruitHallsModel", "day", "I", false)
  | 24 => ("FruitHallsModel", "money", "[I", true)
  | 25 => ("FruitHallsModel", "left", "[I", true)
  | 26 => ("FruitHallsModel", "wants", "[I", true)
  | 27 => ("FruitHallsModel", "limits", "[I", true)
  | 28 => ("FruitHallsModel", "sLot", "[I", true)
  | 29 => ("FruitHallsModel", "sBuyer", "[I", true)
  | 30 => ("FruitHallsModel", "sDay", "[I", true)
  | 31 => ("FruitHallsModel", "sBoxes", "[I", true)
  | 32 => ("FruitHallsModel", "sPrice", "[I", true)
  | 33 => ("FruitHallsModel", "sRejected", "[I", true)
  | 34 => ("FruitHallsModel", "sales", "I", false)
  | 35 => ("FruitHallsModel", "offered", "[I", true)
  | 36 => ("FruitHallsModel", "turn", "[I", true)
  | 37 => ("FruitHallsModel", "weight", "[J", true)
  | 38 => ("FruitHallsModel", "rest", "[J", true)
  | 39 => ("FruitHallsModel", "paid", "[J", true)
  | 40 => ("FruitHallsModel", "worths", "[I", true)
  | 41 => ("FruitHallsModel", "sent", "[I", true)
  | _ => ("FruitHallsModel", "isSent", "Z", false)
def tyX10 : Nat → FieldType := fun k => match k with
  | 0 => .int
  | 1 => .array .byte
  | 2 => .int
  | 3 => .int
  | 4 => .int
  | 5 => .array .int
  | 6 => .array .int
  | 7 => .array .boolean
  | 8 => .int
  | 9 => .int
  | 10 => .int
  | 11 => .int
  | 12 => .int
  | 13 => .int
  | 14 => .long
  | 15 => .array .int
  | 16 => .array .int
  | 17 => .array .int
  | 18 => .array .int
  | 19 => .array .int
  | 20 => .array .int
  | 21 => .array .boolean
  | 22 => .int
  | 23 => .int
  | 24 => .array .int
  | 25 => .array .int
  | 26 => .array .int
  | 27 => .array .int
  | 28 => .array .int
  | 29 => .array .int
  | 30 => .array .int
  | 31 => .array .int
  | 32 => .array .int
  | 33 => .array .int
  | 34 => .int
  | 35 => .array .int
  | 36 => .array .int
  | 37 => .array .long
  | 38 => .array .long
  | 39 => .array .long
  | 40 => .array .int
  | 41 => .array .int
  | _ => .boolean
abbrev wsX100 : List Cond := u_ws RX10 TX10 43
theorem nmX10 : ∀ a, a < 43 → ∀ b, b < 43 → a ≠ b → (TX10 a).2.1 ≠ (TX10 b).2.1 := by decide +kernel
theorem tyX10_ok : ∀ k, k < 43 → parseFieldDescriptor (TX10 k).2.2.1 = some (tyX10 k) := by decide +kernel
abbrev cX10_init : ByteArray := prog_12_method_1_code
def yX10_init : MethodName := ⟨RX10, "<init>", "()V"⟩
abbrev cX10_thrown : ByteArray := prog_12_method_2_code
def yX10_thrown : MethodName := ⟨RX10, "thrown", "()I"⟩
abbrev cX10_throwsIf : ByteArray := prog_12_method_3_code
def yX10_throwsIf : MethodName := ⟨RX10, "throwsIf", "(Z)Z"⟩
abbrev cX10_feed : ByteArray := prog_12_method_4_code
def yX10_feed : MethodName := ⟨RX10, "feed", "(IIIII)I"⟩
abbrev cX10_four : ByteArray := prog_12_method_5_code
def yX10_four : MethodName := ⟨RX10, "four", "(I)V"⟩
abbrev cX10_end : ByteArray := prog_12_method_6_code
def yX10_end : MethodName := ⟨RX10, "end", "(I)Z"⟩
abbrev cX10_taken : ByteArray := prog_12_method_7_code
def yX10_taken : MethodName := ⟨RX10, "taken", "()V"⟩
abbrev cX10_peek : ByteArray := prog_12_method_8_code
def yX10_peek : MethodName := ⟨RX10, "peek", "()I"⟩
abbrev cX10_isSmall : ByteArray := prog_12_method_9_code
def yX10_isSmall : MethodName := ⟨RX10, "isSmall", "(I)Z"⟩
abbrev cX10_isDigit : ByteArray := prog_12_method_10_code
def yX10_isDigit : MethodName := ⟨RX10, "isDigit", "(I)Z"⟩
abbrev cX10_next0 : ByteArray := prog_12_method_11_code
def yX10_next0 : MethodName := ⟨RX10, "next0", "()V"⟩
abbrev cX10_wrong : ByteArray := prog_12_method_12_code
def yX10_wrong : MethodName := ⟨RX10, "wrong", "(II)Z"⟩
abbrev cX10_cant : ByteArray := prog_12_method_13_code
def yX10_cant : MethodName := ⟨RX10, "cant", "()Z"⟩
abbrev cX10_isWord : ByteArray := prog_12_method_14_code
def yX10_isWord : MethodName := ⟨RX10, "isWord", "(J)Z"⟩
abbrev cX10_rules : ByteArray := prog_12_method_15_code
def yX10_rules : MethodName := ⟨RX10, "rules", "()I"⟩
abbrev cX10_rule : ByteArray := prog_12_method_16_code
def yX10_rule : MethodName := ⟨RX10, "rule", "()Z"⟩
abbrev cX10_fault : ByteArray := prog_12_method_17_code
def yX10_fault : MethodName := ⟨RX10, "fault", "()I"⟩
abbrev cX10_isIn : ByteArray := prog_12_method_18_code
def yX10_isIn : MethodName := ⟨RX10, "isIn", "(III)Z"⟩
abbrev cX10_lot : ByteArray := prog_12_method_19_code
def yX10_lot : MethodName := ⟨RX10, "lot", "(IIIII)I"⟩
abbrev cX10_money : ByteArray := prog_12_method_20_code
def yX10_money : MethodName := ⟨RX10, "money", "(II)Z"⟩
abbrev cX10_place : ByteArray := prog_12_method_21_code
def yX10_place : MethodName := ⟨RX10, "place", "(III)I"⟩
abbrev cX10_want : ByteArray := prog_12_method_22_code
def yX10_want : MethodName := ⟨RX10, "want", "(IIIII)Z"⟩
abbrev cX10_auction : ByteArray := prog_12_method_23_code
def yX10_auction : MethodName := ⟨RX10, "auction", "(I)I"⟩
abbrev cX10_bids : ByteArray := prog_12_method_24_code
def yX10_bids : MethodName := ⟨RX10, "bids", "(II)Z"⟩
abbrev cX10_offer : ByteArray := prog_12_method_25_code
def yX10_offer : MethodName := ⟨RX10, "offer", "(I)Z"⟩
abbrev cX10_isSale : ByteArray := prog_12_method_26_code
def yX10_isSale : MethodName := ⟨RX10, "isSale", "(I)Z"⟩
abbrev cX10_reject : ByteArray := prog_12_method_27_code
def yX10_reject : MethodName := ⟨RX10, "reject", "(I)Z"⟩
abbrev cX10_next : ByteArray := prog_12_method_28_code
def yX10_next : MethodName := ⟨RX10, "next", "()I"⟩
abbrev cX10_about : ByteArray := prog_12_method_29_code
def yX10_about : MethodName := ⟨RX10, "about", "(II)I"⟩
abbrev cX10_nextOf : ByteArray := prog_12_method_30_code
def yX10_nextOf : MethodName := ⟨RX10, "nextOf", "(I)I"⟩
abbrev cX10_claimOf : ByteArray := prog_12_method_31_code
def yX10_claimOf : MethodName := ⟨RX10, "claimOf", "(I)I"⟩
abbrev cX10_sale : ByteArray := prog_12_method_32_code
def yX10_sale : MethodName := ⟨RX10, "sale", "(II)I"⟩
abbrev cX10_left : ByteArray := prog_12_method_33_code
def yX10_left : MethodName := ⟨RX10, "left", "(I)I"⟩
abbrev cX10_wanted : ByteArray := prog_12_method_34_code
def yX10_wanted : MethodName := ⟨RX10, "wanted", "(III)I"⟩
abbrev cX10_counts : ByteArray := prog_12_method_35_code
def yX10_counts : MethodName := ⟨RX10, "counts", "(II)Z"⟩
abbrev cX10_poolOf : ByteArray := prog_12_method_36_code
def yX10_poolOf : MethodName := ⟨RX10, "poolOf", "(I)J"⟩
abbrev cX10_pool : ByteArray := prog_12_method_37_code
def yX10_pool : MethodName := ⟨RX10, "pool", "(I)I"⟩
abbrev cX10_pay : ByteArray := prog_12_method_38_code
def yX10_pay : MethodName := ⟨RX10, "pay", "(II)I"⟩
abbrev cX10_common : ByteArray := prog_12_method_39_code
def yX10_common : MethodName := ⟨RX10, "common", "(JJ)J"⟩
abbrev cX10_worth : ByteArray := prog_12_method_40_code
def yX10_worth : MethodName := ⟨RX10, "worth", "(III)J"⟩
abbrev cX10_wire : ByteArray := prog_12_method_41_code
def yX10_wire : MethodName := ⟨RX10, "wire", "(IIII)I"⟩
abbrev cX10_cars : ByteArray := prog_12_method_42_code
def yX10_cars : MethodName := ⟨RX10, "cars", "(I)I"⟩
abbrev cX10_sent : ByteArray := prog_12_method_43_code
def yX10_sent : MethodName := ⟨RX10, "sent", "(I)I"⟩
abbrev cX10_count : ByteArray := prog_12_method_44_code
def yX10_count : MethodName := ⟨RX10, "count", "(I)I"⟩
def RJ9 : String := "java/lang/Math"
def TJ9 : u_T := fun k => match k with
  | _ => ("", "", "", false)
def tyJ9 : Nat → FieldType := fun k => match k with
  | _ => .int
abbrev wsJ90 : List Cond := u_ws RJ9 TJ9 0
theorem nmJ9 : ∀ a, a < 0 → ∀ b, b < 0 → a ≠ b → (TJ9 a).2.1 ≠ (TJ9 b).2.1 := by decide +kernel
theorem tyJ9_ok : ∀ k, k < 0 → parseFieldDescriptor (TJ9 k).2.2.1 = some (tyJ9 k) := by decide +kernel
abbrev cJ9_abs_067f4 : ByteArray := prog_14_method_61_code
def yJ9_abs_067f4 : MethodName := ⟨RJ9, "abs", "(J)J"⟩
abbrev cJ9_max_7cf53 : ByteArray := prog_14_method_65_code
def yJ9_max_7cf53 : MethodName := ⟨RJ9, "max", "(II)I"⟩
abbrev cJ9_max_f86c9 : ByteArray := prog_14_method_66_code
def yJ9_max_f86c9 : MethodName := ⟨RJ9, "max", "(JJ)J"⟩
abbrev cJ9_min_7cf53 : ByteArray := prog_14_method_69_code
def yJ9_min_7cf53 : MethodName := ⟨RJ9, "min", "(II)I"⟩
def RJ0 : String := "java/lang/String"
def TJ0 : u_T := fun k => match k with
  | _ => ("", "", "", false)
def tyJ0 : Nat → FieldType := fun k => match k with
  | _ => .int
abbrev wsJ00 : List Cond := u_ws RJ0 TJ0 0
theorem nmJ0 : ∀ a, a < 0 → ∀ b, b < 0 → a ≠ b → (TJ0 a).2.1 ≠ (TJ0 b).2.1 := by decide +kernel
theorem tyJ0_ok : ∀ k, k < 0 → parseFieldDescriptor (TJ0 k).2.2.1 = some (tyJ0 k) := by decide +kernel
abbrev cJ0_length_8abf5 : ByteArray := prog_16_method_54_code
def yJ0_length_8abf5 : MethodName := ⟨RJ0, "length", "()I"⟩
abbrev cJ0_charAt_5068e : ByteArray := prog_16_method_56_code
def yJ0_charAt_5068e : MethodName := ⟨RJ0, "charAt", "(I)C"⟩
abbrev cJ0_coder_7d493 : ByteArray := prog_16_method_152_code
def yJ0_coder_7d493 : MethodName := ⟨RJ0, "coder", "()B"⟩
abbrev cJ0_isLatin1_aae02 : ByteArray := prog_16_method_154_code
def yJ0_isLatin1_aae02 : MethodName := ⟨RJ0, "isLatin1", "()Z"⟩
abbrev cJ0_checkIndex_df160 : ByteArray := prog_16_method_155_code
def yJ0_checkIndex_df160 : MethodName := ⟨RJ0, "checkIndex", "(II)V"⟩
def RJ1 : String := "java/lang/StringLatin1"
def TJ1 : u_T := fun k => match k with
  | _ => ("", "", "", false)
def tyJ1 : Nat → FieldType := fun k => match k with
  | _ => .int
abbrev wsJ10 : List Cond := u_ws RJ1 TJ1 0
theorem nmJ1 : ∀ a, a < 0 → ∀ b, b < 0 → a ≠ b → (TJ1 a).2.1 ≠ (TJ1 b).2.1 := by decide +kernel
theorem tyJ1_ok : ∀ k, k < 0 → parseFieldDescriptor (TJ1 k).2.2.1 = some (tyJ1 k) := by decide +kernel
abbrev cJ1_charAt_3b067 : ByteArray := prog_17_method_2_code
def yJ1_charAt_3b067 : MethodName := ⟨RJ1, "charAt", "([BI)C"⟩
def RJ2 : String := "java/lang/StringUTF16"
def TJ2 : u_T := fun k => match k with
  | _ => ("", "", "", false)
def tyJ2 : Nat → FieldType := fun k => match k with
  | _ => .int
abbrev wsJ20 : List Cond := u_ws RJ2 TJ2 0
theorem nmJ2 : ∀ a, a < 0 → ∀ b, b < 0 → a ≠ b → (TJ2 a).2.1 ≠ (TJ2 b).2.1 := by decide +kernel
theorem tyJ2_ok : ∀ k, k < 0 → parseFieldDescriptor (TJ2 k).2.2.1 = some (tyJ2 k) := by decide +kernel
abbrev cJ2_getChar_3b067 : ByteArray := prog_18_method_5_code
def yJ2_getChar_3b067 : MethodName := ⟨RJ2, "getChar", "([BI)C"⟩
abbrev cJ2_length_9d52b : ByteArray := prog_18_method_6_code
def yJ2_length_9d52b : MethodName := ⟨RJ2, "length", "([B)I"⟩
abbrev cJ2_charAt_3b067 : ByteArray := prog_18_method_83_code
def yJ2_charAt_3b067 : MethodName := ⟨RJ2, "charAt", "([BI)C"⟩
abbrev cJ2_checkIndex_2214a : ByteArray := prog_18_method_91_code
def yJ2_checkIndex_2214a : MethodName := ⟨RJ2, "checkIndex", "(I[B)V"⟩
def RJ3 : String := "jdk/internal/util/Preconditions"
def TJ3 : u_T := fun k => match k with
  | _ => ("", "", "", false)
def tyJ3 : Nat → FieldType := fun k => match k with
  | _ => .int
abbrev wsJ30 : List Cond := u_ws RJ3 TJ3 0
theorem nmJ3 : ∀ a, a < 0 → ∀ b, b < 0 → a ≠ b → (TJ3 a).2.1 ≠ (TJ3 b).2.1 := by decide +kernel
theorem tyJ3_ok : ∀ k, k < 0 → parseFieldDescriptor (TJ3 k).2.2.1 = some (tyJ3 k) := by decide +kernel
abbrev cJ3_checkIndex_8e157 : ByteArray := prog_21_method_11_code
def yJ3_checkIndex_8e157 : MethodName := ⟨RJ3, "checkIndex", "(IILjava/util/function/BiFunction;)I"⟩
def RL : String := "FruitHallsLaw"
abbrev cL_about : ByteArray := method_3_code
def yL_about : MethodName := ⟨RL, "about", "(LFruitHalls;II[J)I"⟩
abbrev cL_sale : ByteArray := method_4_code
def yL_sale : MethodName := ⟨RL, "sale", "(LFruitHalls;II[J)I"⟩
abbrev cL_worth : ByteArray := method_5_code
def yL_worth : MethodName := ⟨RL, "worth", "(LFruitHalls;III[J)I"⟩
abbrev cL_law : ByteArray := code
def yL_law : MethodName := ⟨RL, "law", "([I)Z"⟩
abbrev vwCl : List vw_C := [(RX0, TX0, 4), (RX1, TX1, 4), (RX2, TX2, 8), (RX3, TX3, 5), (RX4, TX4, 7), (RX5, TX5, 11), (RX6, TX6, 5), (RX7, TX7, 8), (RX8, TX8, 2), (RX9, TX9, 12), (RX10, TX10, 43)]
end
section
theorem dX0_init_0 : decode cX0_init 0 = .ok (.aload_n 0, 1) := by decide +kernel
theorem dX0_init_1 : decode cX0_init 1 = .ok (.invokespecial 3, 3) := by decide +kernel
theorem dX0_init_4 : decode cX0_init 4 = .ok (.aload_n 0, 1) := by decide +kernel
theorem dX0_init_5 : decode cX0_init 5 = .ok (.bipush 10, 2) := by decide +kernel
theorem dX0_init_7 : decode cX0_init 7 = .ok (.newarray .int, 2) := by decide +kernel
theorem dX0_init_9 : decode cX0_init 9 = .ok (.putfield 9, 3) := by decide +kernel
theorem dX0_init_12 : decode cX0_init 12 = .ok (.aload_n 0, 1) := by decide +kernel
theorem dX0_init_13 : decode cX0_init 13 = .ok (.bipush 10, 2) := by decide +kernel
theorem dX0_init_15 : decode cX0_init 15 = .ok (.newarray .int, 2) := by decide +kernel
theorem dX0_init_17 : decode cX0_init 17 = .ok (.putfield 15, 3) := by decide +kernel
theorem dX0_init_20 : decode cX0_init 20 = .ok (.aload_n 0, 1) := by decide +kernel
theorem dX0_init_21 : decode cX0_init 21 = .ok (.sipush 160, 3) := by decide +kernel
theorem dX0_init_24 : decode cX0_init 24 = .ok (.newarray .int, 2) := by decide +kernel
theorem dX0_init_26 : decode cX0_init 26 = .ok (.putfield 18, 3) := by decide +kernel
theorem dX0_init_29 : decode cX0_init 29 = .ok (.aload_n 0, 1) := by decide +kernel
theorem dX0_init_30 : decode cX0_init 30 = .ok (.sipush 160, 3) := by decide +kernel
theorem dX0_init_33 : decode cX0_init 33 = .ok (.newarray .int, 2) := by decide +kernel
theorem dX0_init_35 : decode cX0_init 35 = .ok (.putfield 21, 3) := by decide +kernel
theorem dX0_init_38 : decode cX0_init 38 = .ok (.return_, 1) := by decide +kernel
theorem dX0_wantPlace_0 : decode cX0_wantPlace 0 = .ok (.iload_n 0, 1) := by decide +kernel
theorem dX0_wantPlace_1 : decode cX0_wantPlace 1 = .ok (.iconst 4, 1) := by decide +kernel
theorem dX0_wantPlace_2 : decode cX0_wantPlace 2 = .ok (.imul, 1) := by decide +kernel
theorem dX0_wantPlace_3 : decode cX0_wantPlace 3 = .ok (.iload_n 1, 1) := by decide +kernel
theorem dX0_wantPlace_4 : decode cX0_wantPlace 4 = .ok (.iadd, 1) := by decide +kernel
theorem dX0_wantPlace_5 : decode cX0_wantPlace 5 = .ok (.iconst 4, 1) := by decide +kernel
theorem dX0_wantPlace_6 : decode cX0_wantPlace 6 = .ok (.imul, 1) := by decide +kernel
theorem dX0_wantPlace_7 : decode cX0_wantPlace 7 = .ok (.iload_n 2, 1) := by decide +kernel
theorem dX0_wantPlace_8 : decode cX0_wantPlace 8 = .ok (.iadd, 1) := by decide +kernel
theorem dX0_wantPlace_9 : decode cX0_wantPlace 9 = .ok (.ireturn, 1) := by decide +kernel
theorem dX0_bidOf_0 : decode cX0_bidOf 0 = .ok (.iload_n 1, 1) := by decide +kernel
theorem dX0_bidOf_1 : decode cX0_bidOf 1 = .ok (.iload_n 2, 1) := by decide +kernel
theorem dX0_bidOf_2 : decode cX0_bidOf 2 = .ok (.iload_n 3, 1) := by decide +kernel
theorem dX0_bidOf_3 : decode cX0_bidOf 3 = .ok (.invokestatic 24, 3) := by decide +kernel
theorem dX0_bidOf_6 : decode cX0_bidOf 6 = .ok (.istore 6, 2) := by decide +kernel
theorem dX0_bidOf_8 : decode cX0_bidOf 8 = .ok (.aload_n 0, 1) := by decide +kernel
theorem dX0_bidOf_9 : decode cX0_bidOf 9 = .ok (.getfield 21, 3) := by decide +kernel
theorem dX0_bidOf_12 : decode cX0_bidOf 12 = .ok (.iload 6, 2) := by decide +kernel
theorem dX0_bidOf_14 : decode cX0_bidOf 14 = .ok (.iaload, 1) := by decide +kernel
theorem dX0_bidOf_15 : decode cX0_bidOf 15 = .ok (.istore 7, 2) := by decide +kernel
theorem dX0_bidOf_17 : decode cX0_bidOf 17 = .ok (.aload_n 0, 1) := by decide +kernel
theorem dX0_bidOf_18 : decode cX0_bidOf 18 = .ok (.getfield 18, 3) := by decide +kernel
theorem dX0_bidOf_21 : decode cX0_bidOf 21 = .ok (.iload 6, 2) := by decide +kernel
theorem dX0_bidOf_23 : decode cX0_bidOf 23 = .ok (.iaload, 1) := by decide +kernel
theorem dX0_bidOf_24 : decode cX0_bidOf 24 = .ok (.iload 4, 2) := by decide +kernel
theorem dX0_bidOf_26 : decode cX0_bidOf 26 = .ok (.if_icmp .lt 34, 3) := by decide +kernel
theorem dX0_bidOf_29 : decode cX0_bidOf 29 = .ok (.iload 7, 2) := by decide +kernel
theorem dX0_bidOf_31 : decode cX0_bidOf 31 = .ok (.iconst 1, 1) := by decide +kernel
theorem dX0_bidOf_32 : decode cX0_bidOf 32 = .ok (.if_icmp .lt 28, 3) := by decide +kernel
theorem dX0_bidOf_35 : decode cX0_bidOf 35 = .ok (.iload 7, 2) := by decide +kernel
theorem dX0_bidOf_37 : decode cX0_bidOf 37 = .ok (.iload 5, 2) := by decide +kernel
theorem dX0_bidOf_39 : decode cX0_bidOf 39 = .ok (.if_icmp .lt 21, 3) := by decide +kernel
theorem dX0_bidOf_42 : decode cX0_bidOf 42 = .ok (.iload 7, 2) := by decide +kernel
theorem dX0_bidOf_44 : decode cX0_bidOf 44 = .ok (.iload 4, 2) := by decide +kernel
theorem dX0_bidOf_46 : decode cX0_bidOf 46 = .ok (.imul, 1) := by decide +kernel
theorem dX0_bidOf_47 : decode cX0_bidOf 47 = .ok (.aload_n 0, 1) := by decide +kernel
theorem dX0_bidOf_48 : decode cX0_bidOf 48 = .ok (.getfield 15, 3) := by decide +kernel
theorem dX0_bidOf_51 : decode cX0_bidOf 51 = .ok (.iload_n 1, 1) := by decide +kernel
theorem dX0_bidOf_52 : decode cX0_bidOf 52 = .ok (.iaload, 1) := by decide +kernel
theorem dX0_bidOf_53 : decode cX0_bidOf 53 = .ok (.if_icmp .gt 7, 3) := by decide +kernel
theorem dX0_bidOf_56 : decode cX0_bidOf 56 = .ok (.iconst 1, 1) := by decide +kernel
theorem dX0_bidOf_57 : decode cX0_bidOf 57 = .ok (.goto 4, 3) := by decide +kernel
theorem dX0_bidOf_60 : decode cX0_bidOf 60 = .ok (.iconst 0, 1) := by decide +kernel
theorem dX0_bidOf_61 : decode cX0_bidOf 61 = .ok (.istore 8, 2) := by decide +kernel
theorem dX0_bidOf_63 : decode cX0_bidOf 63 = .ok (.iload 8, 2) := by decide +kernel
theorem dX0_bidOf_65 : decode cX0_bidOf 65 = .ok (.ifCond .eq 8, 3) := by decide +kernel
theorem dX0_bidOf_68 : decode cX0_bidOf 68 = .ok (.iload 7, 2) := by decide +kernel
theorem dX0_bidOf_70 : decode cX0_bidOf 70 = .ok (.goto 4, 3) := by decide +kernel
theorem dX0_bidOf_73 : decode cX0_bidOf 73 = .ok (.iconst 0, 1) := by decide +kernel
theorem dX0_bidOf_74 : decode cX0_bidOf 74 = .ok (.ireturn, 1) := by decide +kernel
theorem dX0_take_0 : decode cX0_take 0 = .ok (.aload_n 0, 1) := by decide +kernel
theorem dX0_take_1 : decode cX0_take 1 = .ok (.getfield 18, 3) := by decide +kernel
theorem dX0_take_4 : decode cX0_take 4 = .ok (.iload_n 2, 1) := by decide +kernel
theorem dX0_take_5 : decode cX0_take 5 = .ok (.dup2, 1) := by decide +kernel
theorem dX0_take_6 : decode cX0_take 6 = .ok (.iaload, 1) := by decide +kernel
theorem dX0_take_7 : decode cX0_take 7 = .ok (.iload_n 3, 1) := by decide +kernel
theorem dX0_take_8 : decode cX0_take 8 = .ok (.isub, 1) := by decide +kernel
theorem dX0_take_9 : decode cX0_take 9 = .ok (.iastore, 1) := by decide +kernel
theorem dX0_take_10 : decode cX0_take 10 = .ok (.aload_n 0, 1) := by decide +kernel
theorem dX0_take_11 : decode cX0_take 11 = .ok (.getfield 15, 3) := by decide +kernel
theorem dX0_take_14 : decode cX0_take 14 = .ok (.iload_n 1, 1) := by decide +kernel
theorem dX0_take_15 : decode cX0_take 15 = .ok (.dup2, 1) := by decide +kernel
theorem dX0_take_16 : decode cX0_take 16 = .ok (.iaload, 1) := by decide +kernel
theorem dX0_take_17 : decode cX0_take 17 = .ok (.iload_n 3, 1) := by decide +kernel
theorem dX0_take_18 : decode cX0_take 18 = .ok (.iload 4, 2) := by decide +kernel
theorem dX0_take_20 : decode cX0_take 20 = .ok (.imul, 1) := by decide +kernel
theorem dX0_take_21 : decode cX0_take 21 = .ok (.isub, 1) := by decide +kernel
theorem dX0_take_22 : decode cX0_take 22 = .ok (.iastore, 1) := by decide +kernel
theorem dX0_take_23 : decode cX0_take 23 = .ok (.return_, 1) := by decide +kernel
theorem dX0_restoreMoney_0 : decode cX0_restoreMoney 0 = .ok (.iconst 0, 1) := by decide +kernel
theorem dX0_restoreMoney_1 : decode cX0_restoreMoney 1 = .ok (.istore_n 1, 1) := by decide +kernel
theorem dX0_restoreMoney_2 : decode cX0_restoreMoney 2 = .ok (.iload_n 1, 1) := by decide +kernel
theorem dX0_restoreMoney_3 : decode cX0_restoreMoney 3 = .ok (.bipush 10, 2) := by decide +kernel
theorem dX0_restoreMoney_5 : decode cX0_restoreMoney 5 = .ok (.if_icmp .ge 21, 3) := by decide +kernel
theorem dX0_restoreMoney_8 : decode cX0_restoreMoney 8 = .ok (.aload_n 0, 1) := by decide +kernel
theorem dX0_restoreMoney_9 : decode cX0_restoreMoney 9 = .ok (.getfield 15, 3) := by decide +kernel
theorem dX0_restoreMoney_12 : decode cX0_restoreMoney 12 = .ok (.iload_n 1, 1) := by decide +kernel
theorem dX0_restoreMoney_13 : decode cX0_restoreMoney 13 = .ok (.aload_n 0, 1) := by decide +kernel
theorem dX0_restoreMoney_14 : decode cX0_restoreMoney 14 = .ok (.getfield 9, 3) := by decide +kernel
theorem dX0_restoreMoney_17 : decode cX0_restoreMoney 17 = .ok (.iload_n 1, 1) := by decide +kernel
theorem dX0_restoreMoney_18 : decode cX0_restoreMoney 18 = .ok (.iaload, 1) := by decide +kernel
theorem dX0_restoreMoney_19 : decode cX0_restoreMoney 19 = .ok (.iastore, 1) := by decide +kernel
theorem dX0_restoreMoney_20 : decode cX0_restoreMoney 20 = .ok (.iinc 1 1, 3) := by decide +kernel
theorem dX0_restoreMoney_23 : decode cX0_restoreMoney 23 = .ok (.goto (-21), 3) := by decide +kernel
theorem dX0_restoreMoney_26 : decode cX0_restoreMoney 26 = .ok (.return_, 1) := by decide +kernel
theorem dX1_init_0 : decode cX1_init 0 = .ok (.aload_n 0, 1) := by decide +kernel
theorem dX1_init_1 : decode cX1_init 1 = .ok (.invokespecial 3, 3) := by decide +kernel
theorem dX1_init_4 : decode cX1_init 4 = .ok (.aload_n 0, 1) := by decide +kernel
theorem dX1_init_5 : decode cX1_init 5 = .ok (.iconst 4, 1) := by decide +kernel
theorem dX1_init_6 : decode cX1_init 6 = .ok (.newarray .int, 2) := by decide +kernel
theorem dX1_init_8 : decode cX1_init 8 = .ok (.putfield 9, 3) := by decide +kernel
theorem dX1_init_11 : decode cX1_init 11 = .ok (.aload_n 0, 1) := by decide +kernel
theorem dX1_init_12 : decode cX1_init 12 = .ok (.iconst 4, 1) := by decide +kernel
theorem dX1_init_13 : decode cX1_init 13 = .ok (.newarray .int, 2) := by decide +kernel
theorem dX1_init_15 : decode cX1_init 15 = .ok (.putfield 15, 3) := by decide +kernel
theorem dX1_init_18 : decode cX1_init 18 = .ok (.aload_n 0, 1) := by decide +kernel
theorem dX1_init_19 : decode cX1_init 19 = .ok (.iconst 4, 1) := by decide +kernel
theorem dX1_init_20 : decode cX1_init 20 = .ok (.newarray .int, 2) := by decide +kernel
theorem dX1_init_22 : decode cX1_init 22 = .ok (.putfield 18, 3) := by decide +kernel
theorem dX1_init_25 : decode cX1_init 25 = .ok (.aload_n 0, 1) := by decide +kernel
theorem dX1_init_26 : decode cX1_init 26 = .ok (.iconst 0, 1) := by decide +kernel
theorem dX1_init_27 : decode cX1_init 27 = .ok (.putfield 21, 3) := by decide +kernel
theorem dX1_init_30 : decode cX1_init 30 = .ok (.return_, 1) := by decide +kernel
theorem dX1_dispatch_0 : decode cX1_dispatch 0 = .ok (.iconst 0, 1) := by decide +kernel
theorem dX1_dispatch_1 : decode cX1_dispatch 1 = .ok (.istore_n 3, 1) := by decide +kernel
theorem dX1_dispatch_2 : decode cX1_dispatch 2 = .ok (.iload_n 3, 1) := by decide +kernel
theorem dX1_dispatch_3 : decode cX1_dispatch 3 = .ok (.iconst 4, 1) := by decide +kernel
theorem dX1_dispatch_4 : decode cX1_dispatch 4 = .ok (.if_icmp .ge 44, 3) := by decide +kernel
theorem dX1_dispatch_7 : decode cX1_dispatch 7 = .ok (.aload_n 0, 1) := by decide +kernel
theorem dX1_dispatch_8 : decode cX1_dispatch 8 = .ok (.getfield 9, 3) := by decide +kernel
theorem dX1_dispatch_11 : decode cX1_dispatch 11 = .ok (.iload_n 3, 1) := by decide +kernel
theorem dX1_dispatch_12 : decode cX1_dispatch 12 = .ok (.aload_n 1, 1) := by decide +kernel
theorem dX1_dispatch_13 : decode cX1_dispatch 13 = .ok (.iconst 4, 1) := by decide +kernel
theorem dX1_dispatch_14 : decode cX1_dispatch 14 = .ok (.iload_n 3, 1) := by decide +kernel
theorem dX1_dispatch_15 : decode cX1_dispatch 15 = .ok (.imul, 1) := by decide +kernel
theorem dX1_dispatch_16 : decode cX1_dispatch 16 = .ok (.invokevirtual 25, 3) := by decide +kernel
theorem dX1_dispatch_19 : decode cX1_dispatch 19 = .ok (.iastore, 1) := by decide +kernel
theorem dX1_dispatch_20 : decode cX1_dispatch 20 = .ok (.aload_n 0, 1) := by decide +kernel
theorem dX1_dispatch_21 : decode cX1_dispatch 21 = .ok (.getfield 15, 3) := by decide +kernel
theorem dX1_dispatch_24 : decode cX1_dispatch 24 = .ok (.iload_n 3, 1) := by decide +kernel
theorem dX1_dispatch_25 : decode cX1_dispatch 25 = .ok (.aload_n 1, 1) := by decide +kernel
theorem dX1_dispatch_26 : decode cX1_dispatch 26 = .ok (.iconst 4, 1) := by decide +kernel
theorem dX1_dispatch_27 : decode cX1_dispatch 27 = .ok (.iload_n 3, 1) := by decide +kernel
theorem dX1_dispatch_28 : decode cX1_dispatch 28 = .ok (.imul, 1) := by decide +kernel
theorem dX1_dispatch_29 : decode cX1_dispatch 29 = .ok (.iconst 2, 1) := by decide +kernel
theorem dX1_dispatch_30 : decode cX1_dispatch 30 = .ok (.iadd, 1) := by decide +kernel
theorem dX1_dispatch_31 : decode cX1_dispatch 31 = .ok (.invokevirtual 25, 3) := by decide +kernel
theorem dX1_dispatch_34 : decode cX1_dispatch 34 = .ok (.iastore, 1) := by decide +kernel
theorem dX1_dispatch_35 : decode cX1_dispatch 35 = .ok (.aload_n 0, 1) := by decide +kernel
theorem dX1_dispatch_36 : decode cX1_dispatch 36 = .ok (.getfield 18, 3) := by decide +kernel
theorem dX1_dispatch_39 : decode cX1_dispatch 39 = .ok (.iload_n 3, 1) := by decide +kernel
theorem dX1_dispatch_40 : decode cX1_dispatch 40 = .ok (.iconst 0, 1) := by decide +kernel
theorem dX1_dispatch_41 : decode cX1_dispatch 41 = .ok (.iastore, 1) := by decide +kernel
theorem dX1_dispatch_42 : decode cX1_dispatch 42 = .ok (.iinc 3 1, 3) := by decide +kernel
theorem dX1_dispatch_45 : decode cX1_dispatch 45 = .ok (.goto (-43), 3) := by decide +kernel
theorem dX1_dispatch_48 : decode cX1_dispatch 48 = .ok (.iconst 0, 1) := by decide +kernel
theorem dX1_dispatch_49 : decode cX1_dispatch 49 = .ok (.istore_n 3, 1) := by decide +kernel
theorem dX1_dispatch_50 : decode cX1_dispatch 50 = .ok (.iconst 0, 1) := by decide +kernel
theorem dX1_dispatch_51 : decode cX1_dispatch 51 = .ok (.istore 4, 2) := by decide +kernel
theorem dX1_dispatch_53 : decode cX1_dispatch 53 = .ok (.iload 4, 2) := by decide +kernel
theorem dX1_dispatch_55 : decode cX1_dispatch 55 = .ok (.iload_n 2, 1) := by decide +kernel
theorem dX1_dispatch_56 : decode cX1_dispatch 56 = .ok (.if_icmp .ge 62, 3) := by decide +kernel
theorem dX1_dispatch_59 : decode cX1_dispatch 59 = .ok (.aload_n 0, 1) := by decide +kernel
theorem dX1_dispatch_60 : decode cX1_dispatch 60 = .ok (.invokevirtual 31, 3) := by decide +kernel
theorem dX1_dispatch_63 : decode cX1_dispatch 63 = .ok (.istore 5, 2) := by decide +kernel
theorem dX1_dispatch_65 : decode cX1_dispatch 65 = .ok (.iload_n 3, 1) := by decide +kernel
theorem dX1_dispatch_66 : decode cX1_dispatch 66 = .ok (.aload_n 0, 1) := by decide +kernel
theorem dX1_dispatch_67 : decode cX1_dispatch 67 = .ok (.getfield 9, 3) := by decide +kernel
theorem dX1_dispatch_70 : decode cX1_dispatch 70 = .ok (.iload 5, 2) := by decide +kernel
theorem dX1_dispatch_72 : decode cX1_dispatch 72 = .ok (.iaload, 1) := by decide +kernel
theorem dX1_dispatch_73 : decode cX1_dispatch 73 = .ok (.iadd, 1) := by decide +kernel
theorem dX1_dispatch_74 : decode cX1_dispatch 74 = .ok (.istore_n 3, 1) := by decide +kernel
theorem dX1_dispatch_75 : decode cX1_dispatch 75 = .ok (.aload_n 0, 1) := by decide +kernel
theorem dX1_dispatch_76 : decode cX1_dispatch 76 = .ok (.getfield 9, 3) := by decide +kernel
theorem dX1_dispatch_79 : decode cX1_dispatch 79 = .ok (.iload 5, 2) := by decide +kernel
theorem dX1_dispatch_81 : decode cX1_dispatch 81 = .ok (.aload_n 0, 1) := by decide +kernel
theorem dX1_dispatch_82 : decode cX1_dispatch 82 = .ok (.getfield 9, 3) := by decide +kernel
theorem dX1_dispatch_85 : decode cX1_dispatch 85 = .ok (.iload 5, 2) := by decide +kernel
theorem dX1_dispatch_87 : decode cX1_dispatch 87 = .ok (.iaload, 1) := by decide +kernel
theorem dX1_dispatch_88 : decode cX1_dispatch 88 = .ok (.aload_n 0, 1) := by decide +kernel
theorem dX1_dispatch_89 : decode cX1_dispatch 89 = .ok (.getfield 15, 3) := by decide +kernel
theorem dX1_dispatch_92 : decode cX1_dispatch 92 = .ok (.iload 5, 2) := by decide +kernel
theorem dX1_dispatch_94 : decode cX1_dispatch 94 = .ok (.iaload, 1) := by decide +kernel
theorem dX1_dispatch_95 : decode cX1_dispatch 95 = .ok (.isub, 1) := by decide +kernel
theorem dX1_dispatch_96 : decode cX1_dispatch 96 = .ok (.iconst 0, 1) := by decide +kernel
theorem dX1_dispatch_97 : decode cX1_dispatch 97 = .ok (.invokestatic 35, 3) := by decide +kernel
theorem dX1_dispatch_100 : decode cX1_dispatch 100 = .ok (.iastore, 1) := by decide +kernel
theorem dX1_dispatch_101 : decode cX1_dispatch 101 = .ok (.aload_n 0, 1) := by decide +kernel
theorem dX1_dispatch_102 : decode cX1_dispatch 102 = .ok (.getfield 18, 3) := by decide +kernel
theorem dX1_dispatch_105 : decode cX1_dispatch 105 = .ok (.iload 5, 2) := by decide +kernel
theorem dX1_dispatch_107 : decode cX1_dispatch 107 = .ok (.dup2, 1) := by decide +kernel
theorem dX1_dispatch_108 : decode cX1_dispatch 108 = .ok (.iaload, 1) := by decide +kernel
theorem dX1_dispatch_109 : decode cX1_dispatch 109 = .ok (.iconst 1, 1) := by decide +kernel
theorem dX1_dispatch_110 : decode cX1_dispatch 110 = .ok (.iadd, 1) := by decide +kernel
theorem dX1_dispatch_111 : decode cX1_dispatch 111 = .ok (.iastore, 1) := by decide +kernel
theorem dX1_dispatch_112 : decode cX1_dispatch 112 = .ok (.iinc 4 1, 3) := by decide +kernel
theorem dX1_dispatch_115 : decode cX1_dispatch 115 = .ok (.goto (-62), 3) := by decide +kernel
theorem dX1_dispatch_118 : decode cX1_dispatch 118 = .ok (.aload_n 0, 1) := by decide +kernel
theorem dX1_dispatch_119 : decode cX1_dispatch 119 = .ok (.iconst 1, 1) := by decide +kernel
theorem dX1_dispatch_120 : decode cX1_dispatch 120 = .ok (.putfield 21, 3) := by decide +kernel
theorem dX1_dispatch_123 : decode cX1_dispatch 123 = .ok (.iload_n 3, 1) := by decide +kernel
theorem dX1_dispatch_124 : decode cX1_dispatch 124 = .ok (.ireturn, 1) := by decide +kernel
theorem dX1_bestHall_0 : decode cX1_bestHall 0 = .ok (.iconst 0, 1) := by decide +kernel
theorem dX1_bestHall_1 : decode cX1_bestHall 1 = .ok (.istore_n 1, 1) := by decide +kernel
theorem dX1_bestHall_2 : decode cX1_bestHall 2 = .ok (.iconst 1, 1) := by decide +kernel
theorem dX1_bestHall_3 : decode cX1_bestHall 3 = .ok (.istore_n 2, 1) := by decide +kernel
theorem dX1_bestHall_4 : decode cX1_bestHall 4 = .ok (.iload_n 2, 1) := by decide +kernel
theorem dX1_bestHall_5 : decode cX1_bestHall 5 = .ok (.iconst 4, 1) := by decide +kernel
theorem dX1_bestHall_6 : decode cX1_bestHall 6 = .ok (.if_icmp .ge 26, 3) := by decide +kernel
theorem dX1_bestHall_9 : decode cX1_bestHall 9 = .ok (.aload_n 0, 1) := by decide +kernel
theorem dX1_bestHall_10 : decode cX1_bestHall 10 = .ok (.getfield 9, 3) := by decide +kernel
theorem dX1_bestHall_13 : decode cX1_bestHall 13 = .ok (.iload_n 2, 1) := by decide +kernel
theorem dX1_bestHall_14 : decode cX1_bestHall 14 = .ok (.iaload, 1) := by decide +kernel
theorem dX1_bestHall_15 : decode cX1_bestHall 15 = .ok (.aload_n 0, 1) := by decide +kernel
theorem dX1_bestHall_16 : decode cX1_bestHall 16 = .ok (.getfield 9, 3) := by decide +kernel
theorem dX1_bestHall_19 : decode cX1_bestHall 19 = .ok (.iload_n 1, 1) := by decide +kernel
theorem dX1_bestHall_20 : decode cX1_bestHall 20 = .ok (.iaload, 1) := by decide +kernel
theorem dX1_bestHall_21 : decode cX1_bestHall 21 = .ok (.if_icmp .le 5, 3) := by decide +kernel
theorem dX1_bestHall_24 : decode cX1_bestHall 24 = .ok (.iload_n 2, 1) := by decide +kernel
theorem dX1_bestHall_25 : decode cX1_bestHall 25 = .ok (.istore_n 1, 1) := by decide +kernel
theorem dX1_bestHall_26 : decode cX1_bestHall 26 = .ok (.iinc 2 1, 3) := by decide +kernel
theorem dX1_bestHall_29 : decode cX1_bestHall 29 = .ok (.goto (-25), 3) := by decide +kernel
theorem dX1_bestHall_32 : decode cX1_bestHall 32 = .ok (.iload_n 1, 1) := by decide +kernel
theorem dX1_bestHall_33 : decode cX1_bestHall 33 = .ok (.ireturn, 1) := by decide +kernel
theorem dX2_init_0 : decode cX2_init 0 = .ok (.aload_n 0, 1) := by decide +kernel
theorem dX2_init_1 : decode cX2_init 1 = .ok (.invokespecial 3, 3) := by decide +kernel
theorem dX2_init_4 : decode cX2_init 4 = .ok (.aload_n 0, 1) := by decide +kernel
theorem dX2_init_5 : decode cX2_init 5 = .ok (.bipush 100, 2) := by decide +kernel
theorem dX2_init_7 : decode cX2_init 7 = .ok (.newarray .int, 2) := by decide +kernel
theorem dX2_init_9 : decode cX2_init 9 = .ok (.putfield 9, 3) := by decide +kernel
theorem dX2_init_12 : decode cX2_init 12 = .ok (.aload_n 0, 1) := by decide +kernel
theorem dX2_init_13 : decode cX2_init 13 = .ok (.bipush 100, 2) := by decide +kernel
theorem dX2_init_15 : decode cX2_init 15 = .ok (.newarray .int, 2) := by decide +kernel
theorem dX2_init_17 : decode cX2_init 17 = .ok (.putfield 15, 3) := by decide +kernel
theorem dX2_init_20 : decode cX2_init 20 = .ok (.aload_n 0, 1) := by decide +kernel
theorem dX2_init_21 : decode cX2_init 21 = .ok (.bipush 100, 2) := by decide +kernel
theorem dX2_init_23 : decode cX2_init 23 = .ok (.newarray .int, 2) := by decide +kernel
theorem dX2_init_25 : decode cX2_init 25 = .ok (.putfield 18, 3) := by decide +kernel
theorem dX2_init_28 : decode cX2_init 28 = .ok (.aload_n 0, 1) := by decide +kernel
theorem dX2_init_29 : decode cX2_init 29 = .ok (.bipush 100, 2) := by decide +kernel
theorem dX2_init_31 : decode cX2_init 31 = .ok (.newarray .int, 2) := by decide +kernel
theorem dX2_init_33 : decode cX2_init 33 = .ok (.putfield 21, 3) := by decide +kernel
theorem dX2_init_36 : decode cX2_init 36 = .ok (.aload_n 0, 1) := by decide +kernel
theorem dX2_init_37 : decode cX2_init 37 = .ok (.bipush 100, 2) := by decide +kernel
theorem dX2_init_39 : decode cX2_init 39 = .ok (.newarray .int, 2) := by decide +kernel
theorem dX2_init_41 : decode cX2_init 41 = .ok (.putfield 24, 3) := by decide +kernel
theorem dX2_init_44 : decode cX2_init 44 = .ok (.aload_n 0, 1) := by decide +kernel
theorem dX2_init_45 : decode cX2_init 45 = .ok (.bipush 100, 2) := by decide +kernel
theorem dX2_init_47 : decode cX2_init 47 = .ok (.newarray .boolean, 2) := by decide +kernel
theorem dX2_init_49 : decode cX2_init 49 = .ok (.putfield 27, 3) := by decide +kernel
theorem dX2_init_52 : decode cX2_init 52 = .ok (.aload_n 0, 1) := by decide +kernel
theorem dX2_init_53 : decode cX2_init 53 = .ok (.bipush 100, 2) := by decide +kernel
theorem dX2_init_55 : decode cX2_init 55 = .ok (.newarray .int, 2) := by decide +kernel
theorem dX2_init_57 : decode cX2_init 57 = .ok (.putfield 31, 3) := by decide +kernel
theorem dX2_init_60 : decode cX2_init 60 = .ok (.aload_n 0, 1) := by decide +kernel
theorem dX2_init_61 : decode cX2_init 61 = .ok (.iconst 0, 1) := by decide +kernel
theorem dX2_init_62 : decode cX2_init 62 = .ok (.putfield 34, 3) := by decide +kernel
theorem dX2_init_65 : decode cX2_init 65 = .ok (.return_, 1) := by decide +kernel
theorem dX2_add_0 : decode cX2_add 0 = .ok (.aload_n 0, 1) := by decide +kernel
theorem dX2_add_1 : decode cX2_add 1 = .ok (.getfield 34, 3) := by decide +kernel
theorem dX2_add_4 : decode cX2_add 4 = .ok (.bipush 100, 2) := by decide +kernel
theorem dX2_add_6 : decode cX2_add 6 = .ok (.if_icmp .lt 5, 3) := by decide +kernel
theorem dX2_add_9 : decode cX2_add 9 = .ok (.iconst (-1), 1) := by decide +kernel
theorem dX2_add_10 : decode cX2_add 10 = .ok (.ireturn, 1) := by decide +kernel
theorem dX2_add_11 : decode cX2_add 11 = .ok (.aload_n 0, 1) := by decide +kernel
theorem dX2_add_12 : decode cX2_add 12 = .ok (.getfield 9, 3) := by decide +kernel
theorem dX2_add_15 : decode cX2_add 15 = .ok (.aload_n 0, 1) := by decide +kernel
theorem dX2_add_16 : decode cX2_add 16 = .ok (.getfield 34, 3) := by decide +kernel
theorem dX2_add_19 : decode cX2_add 19 = .ok (.iload_n 1, 1) := by decide +kernel
theorem dX2_add_20 : decode cX2_add 20 = .ok (.iastore, 1) := by decide +kernel
theorem dX2_add_21 : decode cX2_add 21 = .ok (.aload_n 0, 1) := by decide +kernel
theorem dX2_add_22 : decode cX2_add 22 = .ok (.getfield 15, 3) := by decide +kernel
theorem dX2_add_25 : decode cX2_add 25 = .ok (.aload_n 0, 1) := by decide +kernel
theorem dX2_add_26 : decode cX2_add 26 = .ok (.getfield 34, 3) := by decide +kernel
theorem dX2_add_29 : decode cX2_add 29 = .ok (.iload_n 2, 1) := by decide +kernel
theorem dX2_add_30 : decode cX2_add 30 = .ok (.iastore, 1) := by decide +kernel
theorem dX2_add_31 : decode cX2_add 31 = .ok (.aload_n 0, 1) := by decide +kernel
theorem dX2_add_32 : decode cX2_add 32 = .ok (.getfield 18, 3) := by decide +kernel
theorem dX2_add_35 : decode cX2_add 35 = .ok (.aload_n 0, 1) := by decide +kernel
theorem dX2_add_36 : decode cX2_add 36 = .ok (.getfield 34, 3) := by decide +kernel
theorem dX2_add_39 : decode cX2_add 39 = .ok (.iload_n 3, 1) := by decide +kernel
theorem dX2_add_40 : decode cX2_add 40 = .ok (.iastore, 1) := by decide +kernel
theorem dX2_add_41 : decode cX2_add 41 = .ok (.aload_n 0, 1) := by decide +kernel
theorem dX2_add_42 : decode cX2_add 42 = .ok (.getfield 21, 3) := by decide +kernel
theorem dX2_add_45 : decode cX2_add 45 = .ok (.aload_n 0, 1) := by decide +kernel
theorem dX2_add_46 : decode cX2_add 46 = .ok (.getfield 34, 3) := by decide +kernel
theorem dX2_add_49 : decode cX2_add 49 = .ok (.iload 4, 2) := by decide +kernel
theorem dX2_add_51 : decode cX2_add 51 = .ok (.iastore, 1) := by decide +kernel
theorem dX2_add_52 : decode cX2_add 52 = .ok (.aload_n 0, 1) := by decide +kernel
theorem dX2_add_53 : decode cX2_add 53 = .ok (.getfield 24, 3) := by decide +kernel
theorem dX2_add_56 : decode cX2_add 56 = .ok (.aload_n 0, 1) := by decide +kernel
theorem dX2_add_57 : decode cX2_add 57 = .ok (.getfield 34, 3) := by decide +kernel
theorem dX2_add_60 : decode cX2_add 60 = .ok (.iload 5, 2) := by decide +kernel
theorem dX2_add_62 : decode cX2_add 62 = .ok (.iastore, 1) := by decide +kernel
theorem dX2_add_63 : decode cX2_add 63 = .ok (.aload_n 0, 1) := by decide +kernel
theorem dX2_add_64 : decode cX2_add 64 = .ok (.getfield 27, 3) := by decide +kernel
theorem dX2_add_67 : decode cX2_add 67 = .ok (.aload_n 0, 1) := by decide +kernel
theorem dX2_add_68 : decode cX2_add 68 = .ok (.getfield 34, 3) := by decide +kernel
theorem dX2_add_71 : decode cX2_add 71 = .ok (.iconst 0, 1) := by decide +kernel
theorem dX2_add_72 : decode cX2_add 72 = .ok (.bastore, 1) := by decide +kernel
theorem dX2_add_73 : decode cX2_add 73 = .ok (.aload_n 0, 1) := by decide +kernel
theorem dX2_add_74 : decode cX2_add 74 = .ok (.getfield 31, 3) := by decide +kernel
theorem dX2_add_77 : decode cX2_add 77 = .ok (.aload_n 0, 1) := by decide +kernel
theorem dX2_add_78 : decode cX2_add 78 = .ok (.getfield 34, 3) := by decide +kernel
theorem dX2_add_81 : decode cX2_add 81 = .ok (.iconst (-1), 1) := by decide +kernel
theorem dX2_add_82 : decode cX2_add 82 = .ok (.iastore, 1) := by decide +kernel
theorem dX2_add_83 : decode cX2_add 83 = .ok (.aload_n 0, 1) := by decide +kernel
theorem dX2_add_84 : decode cX2_add 84 = .ok (.dup, 1) := by decide +kernel
theorem dX2_add_85 : decode cX2_add 85 = .ok (.getfield 34, 3) := by decide +kernel
theorem dX2_add_88 : decode cX2_add 88 = .ok (.iconst 1, 1) := by decide +kernel
theorem dX2_add_89 : decode cX2_add 89 = .ok (.iadd, 1) := by decide +kernel
theorem dX2_add_90 : decode cX2_add 90 = .ok (.putfield 34, 3) := by decide +kernel
theorem dX2_add_93 : decode cX2_add 93 = .ok (.aload_n 0, 1) := by decide +kernel
theorem dX2_add_94 : decode cX2_add 94 = .ok (.getfield 34, 3) := by decide +kernel
theorem dX2_add_97 : decode cX2_add 97 = .ok (.iconst 1, 1) := by decide +kernel
theorem dX2_add_98 : decode cX2_add 98 = .ok (.isub, 1) := by decide +kernel
theorem dX2_add_99 : decode cX2_add 99 = .ok (.ireturn, 1) := by decide +kernel
theorem dX2_rotWaiting_0 : decode cX2_rotWaiting 0 = .ok (.iconst 0, 1) := by decide +kernel
theorem dX2_rotWaiting_1 : decode cX2_rotWaiting 1 = .ok (.istore_n 2, 1) := by decide +kernel
theorem dX2_rotWaiting_2 : decode cX2_rotWaiting 2 = .ok (.iload_n 2, 1) := by decide +kernel
theorem dX2_rotWaiting_3 : decode cX2_rotWaiting 3 = .ok (.aload_n 0, 1) := by decide +kernel
theorem dX2_rotWaiting_4 : decode cX2_rotWaiting 4 = .ok (.getfield 34, 3) := by decide +kernel
theorem dX2_rotWaiting_7 : decode cX2_rotWaiting 7 = .ok (.if_icmp .ge 38, 3) := by decide +kernel
theorem dX2_rotWaiting_10 : decode cX2_rotWaiting 10 = .ok (.aload_n 0, 1) := by decide +kernel
theorem dX2_rotWaiting_11 : decode cX2_rotWaiting 11 = .ok (.getfield 27, 3) := by decide +kernel
theorem dX2_rotWaiting_14 : decode cX2_rotWaiting 14 = .ok (.iload_n 2, 1) := by decide +kernel
theorem dX2_rotWaiting_15 : decode cX2_rotWaiting 15 = .ok (.baload, 1) := by decide +kernel
theorem dX2_rotWaiting_16 : decode cX2_rotWaiting 16 = .ok (.ifCond .ne 23, 3) := by decide +kernel
theorem dX2_rotWaiting_19 : decode cX2_rotWaiting 19 = .ok (.aload_n 0, 1) := by decide +kernel
theorem dX2_rotWaiting_20 : decode cX2_rotWaiting 20 = .ok (.getfield 21, 3) := by decide +kernel
theorem dX2_rotWaiting_23 : decode cX2_rotWaiting 23 = .ok (.iload_n 2, 1) := by decide +kernel
theorem dX2_rotWaiting_24 : decode cX2_rotWaiting 24 = .ok (.dup2, 1) := by decide +kernel
theorem dX2_rotWaiting_25 : decode cX2_rotWaiting 25 = .ok (.iaload, 1) := by decide +kernel
theorem dX2_rotWaiting_26 : decode cX2_rotWaiting 26 = .ok (.aload_n 0, 1) := by decide +kernel
theorem dX2_rotWaiting_27 : decode cX2_rotWaiting 27 = .ok (.getfield 21, 3) := by decide +kernel
theorem dX2_rotWaiting_30 : decode cX2_rotWaiting 30 = .ok (.iload_n 2, 1) := by decide +kernel
theorem dX2_rotWaiting_31 : decode cX2_rotWaiting 31 = .ok (.iaload, 1) := by decide +kernel
theorem dX2_rotWaiting_32 : decode cX2_rotWaiting 32 = .ok (.iload_n 1, 1) := by decide +kernel
theorem dX2_rotWaiting_33 : decode cX2_rotWaiting 33 = .ok (.imul, 1) := by decide +kernel
theorem dX2_rotWaiting_34 : decode cX2_rotWaiting 34 = .ok (.bipush 100, 2) := by decide +kernel
theorem dX2_rotWaiting_36 : decode cX2_rotWaiting 36 = .ok (.idiv, 1) := by decide +kernel
theorem dX2_rotWaiting_37 : decode cX2_rotWaiting 37 = .ok (.isub, 1) := by decide +kernel
theorem dX2_rotWaiting_38 : decode cX2_rotWaiting 38 = .ok (.iastore, 1) := by decide +kernel
theorem dX2_rotWaiting_39 : decode cX2_rotWaiting 39 = .ok (.iinc 2 1, 3) := by decide +kernel
theorem dX2_rotWaiting_42 : decode cX2_rotWaiting 42 = .ok (.goto (-40), 3) := by decide +kernel
theorem dX2_rotWaiting_45 : decode cX2_rotWaiting 45 = .ok (.return_, 1) := by decide +kernel
theorem dX2_nextOffered_0 : decode cX2_nextOffered 0 = .ok (.iload_n 3, 1) := by decide +kernel
theorem dX2_nextOffered_1 : decode cX2_nextOffered 1 = .ok (.iconst 0, 1) := by decide +kernel
theorem dX2_nextOffered_2 : decode cX2_nextOffered 2 = .ok (.invokestatic 38, 3) := by decide +kernel
theorem dX2_nextOffered_5 : decode cX2_nextOffered 5 = .ok (.istore 4, 2) := by decide +kernel
theorem dX2_nextOffered_7 : decode cX2_nextOffered 7 = .ok (.iload 4, 2) := by decide +kernel
theorem dX2_nextOffered_9 : decode cX2_nextOffered 9 = .ok (.aload_n 0, 1) := by decide +kernel
theorem dX2_nextOffered_10 : decode cX2_nextOffered 10 = .ok (.getfield 34, 3) := by decide +kernel
theorem dX2_nextOffered_13 : decode cX2_nextOffered 13 = .ok (.if_icmp .ge 51, 3) := by decide +kernel
theorem dX2_nextOffered_16 : decode cX2_nextOffered 16 = .ok (.aload_n 0, 1) := by decide +kernel
theorem dX2_nextOffered_17 : decode cX2_nextOffered 17 = .ok (.getfield 9, 3) := by decide +kernel
theorem dX2_nextOffered_20 : decode cX2_nextOffered 20 = .ok (.iload 4, 2) := by decide +kernel
theorem dX2_nextOffered_22 : decode cX2_nextOffered 22 = .ok (.iaload, 1) := by decide +kernel
theorem dX2_nextOffered_23 : decode cX2_nextOffered 23 = .ok (.iload_n 1, 1) := by decide +kernel
theorem dX2_nextOffered_24 : decode cX2_nextOffered 24 = .ok (.if_icmp .ne 34, 3) := by decide +kernel
theorem dX2_nextOffered_27 : decode cX2_nextOffered 27 = .ok (.aload_n 0, 1) := by decide +kernel
theorem dX2_nextOffered_28 : decode cX2_nextOffered 28 = .ok (.getfield 24, 3) := by decide +kernel
theorem dX2_nextOffered_31 : decode cX2_nextOffered 31 = .ok (.iload 4, 2) := by decide +kernel
theorem dX2_nextOffered_33 : decode cX2_nextOffered 33 = .ok (.iaload, 1) := by decide +kernel
theorem dX2_nextOffered_34 : decode cX2_nextOffered 34 = .ok (.iload_n 2, 1) := by decide +kernel
theorem dX2_nextOffered_35 : decode cX2_nextOffered 35 = .ok (.if_icmp .ne 23, 3) := by decide +kernel
theorem dX2_nextOffered_38 : decode cX2_nextOffered 38 = .ok (.aload_n 0, 1) := by decide +kernel
theorem dX2_nextOffered_39 : decode cX2_nextOffered 39 = .ok (.getfield 27, 3) := by decide +kernel
theorem dX2_nextOffered_42 : decode cX2_nextOffered 42 = .ok (.iload 4, 2) := by decide +kernel
theorem dX2_nextOffered_44 : decode cX2_nextOffered 44 = .ok (.baload, 1) := by decide +kernel
theorem dX2_nextOffered_45 : decode cX2_nextOffered 45 = .ok (.ifCond .ne 13, 3) := by decide +kernel
theorem dX2_nextOffered_48 : decode cX2_nextOffered 48 = .ok (.aload_n 0, 1) := by decide +kernel
theorem dX2_nextOffered_49 : decode cX2_nextOffered 49 = .ok (.getfield 21, 3) := by decide +kernel
theorem dX2_nextOffered_52 : decode cX2_nextOffered 52 = .ok (.iload 4, 2) := by decide +kernel
theorem dX2_nextOffered_54 : decode cX2_nextOffered 54 = .ok (.iaload, 1) := by decide +kernel
theorem dX2_nextOffered_55 : decode cX2_nextOffered 55 = .ok (.ifCond .gt 9, 3) := by decide +kernel
theorem dX2_nextOffered_58 : decode cX2_nextOffered 58 = .ok (.iinc 4 1, 3) := by decide +kernel
theorem dX2_nextOffered_61 : decode cX2_nextOffered 61 = .ok (.goto (-54), 3) := by decide +kernel
theorem dX2_nextOffered_64 : decode cX2_nextOffered 64 = .ok (.iload 4, 2) := by decide +kernel
theorem dX2_nextOffered_66 : decode cX2_nextOffered 66 = .ok (.aload_n 0, 1) := by decide +kernel
theorem dX2_nextOffered_67 : decode cX2_nextOffered 67 = .ok (.getfield 34, 3) := by decide +kernel
theorem dX2_nextOffered_70 : decode cX2_nextOffered 70 = .ok (.invokestatic 44, 3) := by decide +kernel
theorem dX2_nextOffered_73 : decode cX2_nextOffered 73 = .ok (.ireturn, 1) := by decide +kernel
theorem dX3_init_0 : decode cX3_init 0 = .ok (.aload_n 0, 1) := by decide +kernel
theorem dX3_init_1 : decode cX3_init 1 = .ok (.invokespecial 3, 3) := by decide +kernel
theorem dX3_init_4 : decode cX3_init 4 = .ok (.aload_n 0, 1) := by decide +kernel
theorem dX3_init_5 : decode cX3_init 5 = .ok (.bipush 8, 2) := by decide +kernel
theorem dX3_init_7 : decode cX3_init 7 = .ok (.newarray .long, 2) := by decide +kernel
theorem dX3_init_9 : decode cX3_init 9 = .ok (.putfield 9, 3) := by decide +kernel
theorem dX3_init_12 : decode cX3_init 12 = .ok (.aload_n 0, 1) := by decide +kernel
theorem dX3_init_13 : decode cX3_init 13 = .ok (.bipush 8, 2) := by decide +kernel
theorem dX3_init_15 : decode cX3_init 15 = .ok (.newarray .long, 2) := by decide +kernel
theorem dX3_init_17 : decode cX3_init 17 = .ok (.putfield 15, 3) := by decide +kernel
theorem dX3_init_20 : decode cX3_init 20 = .ok (.aload_n 0, 1) := by decide +kernel
theorem dX3_init_21 : decode cX3_init 21 = .ok (.aload_n 1, 1) := by decide +kernel
theorem dX3_init_22 : decode cX3_init 22 = .ok (.putfield 18, 3) := by decide +kernel
theorem dX3_init_25 : decode cX3_init 25 = .ok (.aload_n 0, 1) := by decide +kernel
theorem dX3_init_26 : decode cX3_init 26 = .ok (.aload_n 2, 1) := by decide +kernel
theorem dX3_init_27 : decode cX3_init 27 = .ok (.putfield 22, 3) := by decide +kernel
theorem dX3_init_30 : decode cX3_init 30 = .ok (.aload_n 0, 1) := by decide +kernel
theorem dX3_init_31 : decode cX3_init 31 = .ok (.aload_n 3, 1) := by decide +kernel
theorem dX3_init_32 : decode cX3_init 32 = .ok (.putfield 26, 3) := by decide +kernel
theorem dX3_init_35 : decode cX3_init 35 = .ok (.return_, 1) := by decide +kernel
theorem dX3_claimOf_0 : decode cX3_claimOf 0 = .ok (.aload_n 0, 1) := by decide +kernel
theorem dX3_claimOf_1 : decode cX3_claimOf 1 = .ok (.getfield 22, 3) := by decide +kernel
theorem dX3_claimOf_4 : decode cX3_claimOf 4 = .ok (.getfield 30, 3) := by decide +kernel
theorem dX3_claimOf_7 : decode cX3_claimOf 7 = .ok (.iload_n 1, 1) := by decide +kernel
theorem dX3_claimOf_8 : decode cX3_claimOf 8 = .ok (.iaload, 1) := by decide +kernel
theorem dX3_claimOf_9 : decode cX3_claimOf 9 = .ok (.istore_n 2, 1) := by decide +kernel
theorem dX3_claimOf_10 : decode cX3_claimOf 10 = .ok (.iload_n 2, 1) := by decide +kernel
theorem dX3_claimOf_11 : decode cX3_claimOf 11 = .ok (.iconst (-1), 1) := by decide +kernel
theorem dX3_claimOf_12 : decode cX3_claimOf 12 = .ok (.if_icmp .eq 13, 3) := by decide +kernel
theorem dX3_claimOf_15 : decode cX3_claimOf 15 = .ok (.aload_n 0, 1) := by decide +kernel
theorem dX3_claimOf_16 : decode cX3_claimOf 16 = .ok (.getfield 26, 3) := by decide +kernel
theorem dX3_claimOf_19 : decode cX3_claimOf 19 = .ok (.getfield 36, 3) := by decide +kernel
theorem dX3_claimOf_22 : decode cX3_claimOf 22 = .ok (.ifCond .ne 5, 3) := by decide +kernel
theorem dX3_claimOf_25 : decode cX3_claimOf 25 = .ok (.iconst 0, 1) := by decide +kernel
theorem dX3_claimOf_26 : decode cX3_claimOf 26 = .ok (.ireturn, 1) := by decide +kernel
theorem dX3_claimOf_27 : decode cX3_claimOf 27 = .ok (.aload_n 0, 1) := by decide +kernel
theorem dX3_claimOf_28 : decode cX3_claimOf 28 = .ok (.getfield 22, 3) := by decide +kernel
theorem dX3_claimOf_31 : decode cX3_claimOf 31 = .ok (.getfield 42, 3) := by decide +kernel
theorem dX3_claimOf_34 : decode cX3_claimOf 34 = .ok (.iload_n 1, 1) := by decide +kernel
theorem dX3_claimOf_35 : decode cX3_claimOf 35 = .ok (.iaload, 1) := by decide +kernel
theorem dX3_claimOf_36 : decode cX3_claimOf 36 = .ok (.aload_n 0, 1) := by decide +kernel
theorem dX3_claimOf_37 : decode cX3_claimOf 37 = .ok (.getfield 22, 3) := by decide +kernel
theorem dX3_claimOf_40 : decode cX3_claimOf 40 = .ok (.getfield 42, 3) := by decide +kernel
theorem dX3_claimOf_43 : decode cX3_claimOf 43 = .ok (.iload_n 2, 1) := by decide +kernel
theorem dX3_claimOf_44 : decode cX3_claimOf 44 = .ok (.iaload, 1) := by decide +kernel
theorem dX3_claimOf_45 : decode cX3_claimOf 45 = .ok (.isub, 1) := by decide +kernel
theorem dX3_claimOf_46 : decode cX3_claimOf 46 = .ok (.iconst 0, 1) := by decide +kernel
theorem dX3_claimOf_47 : decode cX3_claimOf 47 = .ok (.invokestatic 45, 3) := by decide +kernel
theorem dX3_claimOf_50 : decode cX3_claimOf 50 = .ok (.aload_n 0, 1) := by decide +kernel
theorem dX3_claimOf_51 : decode cX3_claimOf 51 = .ok (.getfield 22, 3) := by decide +kernel
theorem dX3_claimOf_54 : decode cX3_claimOf 54 = .ok (.getfield 51, 3) := by decide +kernel
theorem dX3_claimOf_57 : decode cX3_claimOf 57 = .ok (.iload_n 2, 1) := by decide +kernel
theorem dX3_claimOf_58 : decode cX3_claimOf 58 = .ok (.iaload, 1) := by decide +kernel
theorem dX3_claimOf_59 : decode cX3_claimOf 59 = .ok (.imul, 1) := by decide +kernel
theorem dX3_claimOf_60 : decode cX3_claimOf 60 = .ok (.ireturn, 1) := by decide +kernel
theorem dX3_poolAsOf_0 : decode cX3_poolAsOf 0 = .ok (.lconst 0, 1) := by decide +kernel
theorem dX3_poolAsOf_1 : decode cX3_poolAsOf 1 = .ok (.lstore_n 2, 1) := by decide +kernel
theorem dX3_poolAsOf_2 : decode cX3_poolAsOf 2 = .ok (.iconst 0, 1) := by decide +kernel
theorem dX3_poolAsOf_3 : decode cX3_poolAsOf 3 = .ok (.istore 4, 2) := by decide +kernel
theorem dX3_poolAsOf_5 : decode cX3_poolAsOf 5 = .ok (.iload 4, 2) := by decide +kernel
theorem dX3_poolAsOf_7 : decode cX3_poolAsOf 7 = .ok (.aload_n 0, 1) := by decide +kernel
theorem dX3_poolAsOf_8 : decode cX3_poolAsOf 8 = .ok (.getfield 22, 3) := by decide +kernel
theorem dX3_poolAsOf_11 : decode cX3_poolAsOf 11 = .ok (.getfield 54, 3) := by decide +kernel
theorem dX3_poolAsOf_14 : decode cX3_poolAsOf 14 = .ok (.if_icmp .ge 93, 3) := by decide +kernel
theorem dX3_poolAsOf_17 : decode cX3_poolAsOf 17 = .ok (.aload_n 0, 1) := by decide +kernel
theorem dX3_poolAsOf_18 : decode cX3_poolAsOf 18 = .ok (.getfield 22, 3) := by decide +kernel
theorem dX3_poolAsOf_21 : decode cX3_poolAsOf 21 = .ok (.getfield 30, 3) := by decide +kernel
theorem dX3_poolAsOf_24 : decode cX3_poolAsOf 24 = .ok (.iload 4, 2) := by decide +kernel
theorem dX3_poolAsOf_26 : decode cX3_poolAsOf 26 = .ok (.iaload, 1) := by decide +kernel
theorem dX3_poolAsOf_27 : decode cX3_poolAsOf 27 = .ok (.istore 5, 2) := by decide +kernel
theorem dX3_poolAsOf_29 : decode cX3_poolAsOf 29 = .ok (.aload_n 0, 1) := by decide +kernel
theorem dX3_poolAsOf_30 : decode cX3_poolAsOf 30 = .ok (.getfield 22, 3) := by decide +kernel
theorem dX3_poolAsOf_33 : decode cX3_poolAsOf 33 = .ok (.iload 4, 2) := by decide +kernel
theorem dX3_poolAsOf_35 : decode cX3_poolAsOf 35 = .ok (.iload_n 1, 1) := by decide +kernel
theorem dX3_poolAsOf_36 : decode cX3_poolAsOf 36 = .ok (.invokevirtual 58, 3) := by decide +kernel
theorem dX3_poolAsOf_39 : decode cX3_poolAsOf 39 = .ok (.ifCond .eq 32, 3) := by decide +kernel
theorem dX3_poolAsOf_42 : decode cX3_poolAsOf 42 = .ok (.lload_n 2, 1) := by decide +kernel
theorem dX3_poolAsOf_43 : decode cX3_poolAsOf 43 = .ok (.aload_n 0, 1) := by decide +kernel
theorem dX3_poolAsOf_44 : decode cX3_poolAsOf 44 = .ok (.getfield 22, 3) := by decide +kernel
theorem dX3_poolAsOf_47 : decode cX3_poolAsOf 47 = .ok (.getfield 51, 3) := by decide +kernel
theorem dX3_poolAsOf_50 : decode cX3_poolAsOf 50 = .ok (.iload 4, 2) := by decide +kernel
theorem dX3_poolAsOf_52 : decode cX3_poolAsOf 52 = .ok (.iaload, 1) := by decide +kernel
theorem dX3_poolAsOf_53 : decode cX3_poolAsOf 53 = .ok (.i2l, 1) := by decide +kernel
theorem dX3_poolAsOf_54 : decode cX3_poolAsOf 54 = .ok (.aload_n 0, 1) := by decide +kernel
theorem dX3_poolAsOf_55 : decode cX3_poolAsOf 55 = .ok (.getfield 22, 3) := by decide +kernel
theorem dX3_poolAsOf_58 : decode cX3_poolAsOf 58 = .ok (.getfield 42, 3) := by decide +kernel
theorem dX3_poolAsOf_61 : decode cX3_poolAsOf 61 = .ok (.iload 4, 2) := by decide +kernel
theorem dX3_poolAsOf_63 : decode cX3_poolAsOf 63 = .ok (.iaload, 1) := by decide +kernel
theorem dX3_poolAsOf_64 : decode cX3_poolAsOf 64 = .ok (.i2l, 1) := by decide +kernel
theorem dX3_poolAsOf_65 : decode cX3_poolAsOf 65 = .ok (.lmul, 1) := by decide +kernel
theorem dX3_poolAsOf_66 : decode cX3_poolAsOf 66 = .ok (.ladd, 1) := by decide +kernel
theorem dX3_poolAsOf_67 : decode cX3_poolAsOf 67 = .ok (.lstore_n 2, 1) := by decide +kernel
theorem dX3_poolAsOf_68 : decode cX3_poolAsOf 68 = .ok (.goto 33, 3) := by decide +kernel
theorem dX3_poolAsOf_71 : decode cX3_poolAsOf 71 = .ok (.iload 5, 2) := by decide +kernel
theorem dX3_poolAsOf_73 : decode cX3_poolAsOf 73 = .ok (.iconst (-1), 1) := by decide +kernel
theorem dX3_poolAsOf_74 : decode cX3_poolAsOf 74 = .ok (.if_icmp .eq 27, 3) := by decide +kernel
theorem dX3_poolAsOf_77 : decode cX3_poolAsOf 77 = .ok (.aload_n 0, 1) := by decide +kernel
theorem dX3_poolAsOf_78 : decode cX3_poolAsOf 78 = .ok (.getfield 22, 3) := by decide +kernel
theorem dX3_poolAsOf_81 : decode cX3_poolAsOf 81 = .ok (.getfield 62, 3) := by decide +kernel
theorem dX3_poolAsOf_84 : decode cX3_poolAsOf 84 = .ok (.iload 5, 2) := by decide +kernel
theorem dX3_poolAsOf_86 : decode cX3_poolAsOf 86 = .ok (.iaload, 1) := by decide +kernel
theorem dX3_poolAsOf_87 : decode cX3_poolAsOf 87 = .ok (.iload_n 1, 1) := by decide +kernel
theorem dX3_poolAsOf_88 : decode cX3_poolAsOf 88 = .ok (.if_icmp .gt 13, 3) := by decide +kernel
theorem dX3_poolAsOf_91 : decode cX3_poolAsOf 91 = .ok (.lload_n 2, 1) := by decide +kernel
theorem dX3_poolAsOf_92 : decode cX3_poolAsOf 92 = .ok (.aload_n 0, 1) := by decide +kernel
theorem dX3_poolAsOf_93 : decode cX3_poolAsOf 93 = .ok (.iload 4, 2) := by decide +kernel
theorem dX3_poolAsOf_95 : decode cX3_poolAsOf 95 = .ok (.invokevirtual 65, 3) := by decide +kernel
theorem dX3_poolAsOf_98 : decode cX3_poolAsOf 98 = .ok (.i2l, 1) := by decide +kernel
theorem dX3_poolAsOf_99 : decode cX3_poolAsOf 99 = .ok (.ladd, 1) := by decide +kernel
theorem dX3_poolAsOf_100 : decode cX3_poolAsOf 100 = .ok (.lstore_n 2, 1) := by decide +kernel
theorem dX3_poolAsOf_101 : decode cX3_poolAsOf 101 = .ok (.iinc 4 1, 3) := by decide +kernel
theorem dX3_poolAsOf_104 : decode cX3_poolAsOf 104 = .ok (.goto (-99), 3) := by decide +kernel
theorem dX3_poolAsOf_107 : decode cX3_poolAsOf 107 = .ok (.lload_n 2, 1) := by decide +kernel
theorem dX3_poolAsOf_108 : decode cX3_poolAsOf 108 = .ok (.lreturn, 1) := by decide +kernel
theorem dX3_shareOf_0 : decode cX3_shareOf 0 = .ok (.aload_n 0, 1) := by decide +kernel
theorem dX3_shareOf_1 : decode cX3_shareOf 1 = .ok (.iload_n 2, 1) := by decide +kernel
theorem dX3_shareOf_2 : decode cX3_shareOf 2 = .ok (.invokevirtual 69, 3) := by decide +kernel
theorem dX3_shareOf_5 : decode cX3_shareOf 5 = .ok (.lstore_n 3, 1) := by decide +kernel
theorem dX3_shareOf_6 : decode cX3_shareOf 6 = .ok (.lload_n 3, 1) := by decide +kernel
theorem dX3_shareOf_7 : decode cX3_shareOf 7 = .ok (.lconst 1, 1) := by decide +kernel
theorem dX3_shareOf_8 : decode cX3_shareOf 8 = .ok (.lcmp, 1) := by decide +kernel
theorem dX3_shareOf_9 : decode cX3_shareOf 9 = .ok (.ifCond .ge 5, 3) := by decide +kernel
theorem dX3_shareOf_12 : decode cX3_shareOf 12 = .ok (.lconst 0, 1) := by decide +kernel
theorem dX3_shareOf_13 : decode cX3_shareOf 13 = .ok (.lreturn, 1) := by decide +kernel
theorem dX3_shareOf_14 : decode cX3_shareOf 14 = .ok (.aload_n 0, 1) := by decide +kernel
theorem dX3_shareOf_15 : decode cX3_shareOf 15 = .ok (.iload_n 2, 1) := by decide +kernel
theorem dX3_shareOf_16 : decode cX3_shareOf 16 = .ok (.invokevirtual 73, 3) := by decide +kernel
theorem dX3_shareOf_19 : decode cX3_shareOf 19 = .ok (.lstore 5, 2) := by decide +kernel
theorem dX3_shareOf_21 : decode cX3_shareOf 21 = .ok (.lload 5, 2) := by decide +kernel
theorem dX3_shareOf_23 : decode cX3_shareOf 23 = .ok (.lstore 7, 2) := by decide +kernel
theorem dX3_shareOf_25 : decode cX3_shareOf 25 = .ok (.iconst 0, 1) := by decide +kernel
theorem dX3_shareOf_26 : decode cX3_shareOf 26 = .ok (.istore 9, 2) := by decide +kernel
theorem dX3_shareOf_28 : decode cX3_shareOf 28 = .ok (.iload 9, 2) := by decide +kernel
theorem dX3_shareOf_30 : decode cX3_shareOf 30 = .ok (.bipush 8, 2) := by decide +kernel
theorem dX3_shareOf_32 : decode cX3_shareOf 32 = .ok (.if_icmp .ge 45, 3) := by decide +kernel
theorem dX3_shareOf_35 : decode cX3_shareOf 35 = .ok (.lload 7, 2) := by decide +kernel
theorem dX3_shareOf_37 : decode cX3_shareOf 37 = .ok (.lload 5, 2) := by decide +kernel
theorem dX3_shareOf_39 : decode cX3_shareOf 39 = .ok (.aload_n 0, 1) := by decide +kernel
theorem dX3_shareOf_40 : decode cX3_shareOf 40 = .ok (.getfield 9, 3) := by decide +kernel
theorem dX3_shareOf_43 : decode cX3_shareOf 43 = .ok (.iload 9, 2) := by decide +kernel
theorem dX3_shareOf_45 : decode cX3_shareOf 45 = .ok (.laload, 1) := by decide +kernel
theorem dX3_shareOf_46 : decode cX3_shareOf 46 = .ok (.lmul, 1) := by decide +kernel
theorem dX3_shareOf_47 : decode cX3_shareOf 47 = .ok (.lload_n 3, 1) := by decide +kernel
theorem dX3_shareOf_48 : decode cX3_shareOf 48 = .ok (.ldiv, 1) := by decide +kernel
theorem dX3_shareOf_49 : decode cX3_shareOf 49 = .ok (.lsub, 1) := by decide +kernel
theorem dX3_shareOf_50 : decode cX3_shareOf 50 = .ok (.lstore 7, 2) := by decide +kernel
theorem dX3_shareOf_52 : decode cX3_shareOf 52 = .ok (.aload_n 0, 1) := by decide +kernel
theorem dX3_shareOf_53 : decode cX3_shareOf 53 = .ok (.getfield 15, 3) := by decide +kernel
theorem dX3_shareOf_56 : decode cX3_shareOf 56 = .ok (.iload 9, 2) := by decide +kernel
theorem dX3_shareOf_58 : decode cX3_shareOf 58 = .ok (.lload 5, 2) := by decide +kernel
theorem dX3_shareOf_60 : decode cX3_shareOf 60 = .ok (.aload_n 0, 1) := by decide +kernel
theorem dX3_shareOf_61 : decode cX3_shareOf 61 = .ok (.getfield 9, 3) := by decide +kernel
theorem dX3_shareOf_64 : decode cX3_shareOf 64 = .ok (.iload 9, 2) := by decide +kernel
theorem dX3_shareOf_66 : decode cX3_shareOf 66 = .ok (.laload, 1) := by decide +kernel
theorem dX3_shareOf_67 : decode cX3_shareOf 67 = .ok (.lmul, 1) := by decide +kernel
theorem dX3_shareOf_68 : decode cX3_shareOf 68 = .ok (.lload_n 3, 1) := by decide +kernel
theorem dX3_shareOf_69 : decode cX3_shareOf 69 = .ok (.lrem, 1) := by decide +kernel
theorem dX3_shareOf_70 : decode cX3_shareOf 70 = .ok (.lastore, 1) := by decide +kernel
theorem dX3_shareOf_71 : decode cX3_shareOf 71 = .ok (.iinc 9 1, 3) := by decide +kernel
theorem dX3_shareOf_74 : decode cX3_shareOf 74 = .ok (.goto (-46), 3) := by decide +kernel
theorem dX3_shareOf_77 : decode cX3_shareOf 77 = .ok (.lload 5, 2) := by decide +kernel
theorem dX3_shareOf_79 : decode cX3_shareOf 79 = .ok (.aload_n 0, 1) := by decide +kernel
theorem dX3_shareOf_80 : decode cX3_shareOf 80 = .ok (.getfield 9, 3) := by decide +kernel
theorem dX3_shareOf_83 : decode cX3_shareOf 83 = .ok (.iload_n 1, 1) := by decide +kernel
theorem dX3_shareOf_84 : decode cX3_shareOf 84 = .ok (.laload, 1) := by decide +kernel
theorem dX3_shareOf_85 : decode cX3_shareOf 85 = .ok (.lmul, 1) := by decide +kernel
theorem dX3_shareOf_86 : decode cX3_shareOf 86 = .ok (.lload_n 3, 1) := by decide +kernel
theorem dX3_shareOf_87 : decode cX3_shareOf 87 = .ok (.ldiv, 1) := by decide +kernel
theorem dX3_shareOf_88 : decode cX3_shareOf 88 = .ok (.lstore 9, 2) := by decide +kernel
theorem dX3_shareOf_90 : decode cX3_shareOf 90 = .ok (.aload_n 0, 1) := by decide +kernel
theorem dX3_shareOf_91 : decode cX3_shareOf 91 = .ok (.iload_n 1, 1) := by decide +kernel
theorem dX3_shareOf_92 : decode cX3_shareOf 92 = .ok (.invokevirtual 76, 3) := by decide +kernel
theorem dX3_shareOf_95 : decode cX3_shareOf 95 = .ok (.i2l, 1) := by decide +kernel
theorem dX3_shareOf_96 : decode cX3_shareOf 96 = .ok (.lload 7, 2) := by decide +kernel
theorem dX3_shareOf_98 : decode cX3_shareOf 98 = .ok (.lcmp, 1) := by decide +kernel
theorem dX3_shareOf_99 : decode cX3_shareOf 99 = .ok (.ifCond .ge 10, 3) := by decide +kernel
theorem dX3_shareOf_102 : decode cX3_shareOf 102 = .ok (.lload 9, 2) := by decide +kernel
theorem dX3_shareOf_104 : decode cX3_shareOf 104 = .ok (.lconst 1, 1) := by decide +kernel
theorem dX3_shareOf_105 : decode cX3_shareOf 105 = .ok (.ladd, 1) := by decide +kernel
theorem dX3_shareOf_106 : decode cX3_shareOf 106 = .ok (.goto 5, 3) := by decide +kernel
theorem dX3_shareOf_109 : decode cX3_shareOf 109 = .ok (.lload 9, 2) := by decide +kernel
theorem dX3_shareOf_111 : decode cX3_shareOf 111 = .ok (.lreturn, 1) := by decide +kernel
theorem dX3_weigh_0 : decode cX3_weigh 0 = .ok (.iconst 0, 1) := by decide +kernel
theorem dX3_weigh_1 : decode cX3_weigh 1 = .ok (.istore_n 2, 1) := by decide +kernel
theorem dX3_weigh_2 : decode cX3_weigh 2 = .ok (.iload_n 2, 1) := by decide +kernel
theorem dX3_weigh_3 : decode cX3_weigh 3 = .ok (.bipush 8, 2) := by decide +kernel
theorem dX3_weigh_5 : decode cX3_weigh 5 = .ok (.if_icmp .ge 16, 3) := by decide +kernel
theorem dX3_weigh_8 : decode cX3_weigh 8 = .ok (.aload_n 0, 1) := by decide +kernel
theorem dX3_weigh_9 : decode cX3_weigh 9 = .ok (.getfield 9, 3) := by decide +kernel
theorem dX3_weigh_12 : decode cX3_weigh 12 = .ok (.iload_n 2, 1) := by decide +kernel
theorem dX3_weigh_13 : decode cX3_weigh 13 = .ok (.lconst 0, 1) := by decide +kernel
theorem dX3_weigh_14 : decode cX3_weigh 14 = .ok (.lastore, 1) := by decide +kernel
theorem dX3_weigh_15 : decode cX3_weigh 15 = .ok (.iinc 2 1, 3) := by decide +kernel
theorem dX3_weigh_18 : decode cX3_weigh 18 = .ok (.goto (-16), 3) := by decide +kernel
theorem dX3_weigh_21 : decode cX3_weigh 21 = .ok (.lconst 0, 1) := by decide +kernel
theorem dX3_weigh_22 : decode cX3_weigh 22 = .ok (.lstore_n 2, 1) := by decide +kernel
theorem dX3_weigh_23 : decode cX3_weigh 23 = .ok (.iconst 0, 1) := by decide +kernel
theorem dX3_weigh_24 : decode cX3_weigh 24 = .ok (.istore 4, 2) := by decide +kernel
theorem dX3_weigh_26 : decode cX3_weigh 26 = .ok (.iload 4, 2) := by decide +kernel
theorem dX3_weigh_28 : decode cX3_weigh 28 = .ok (.aload_n 0, 1) := by decide +kernel
theorem dX3_weigh_29 : decode cX3_weigh 29 = .ok (.getfield 22, 3) := by decide +kernel
theorem dX3_weigh_32 : decode cX3_weigh 32 = .ok (.getfield 54, 3) := by decide +kernel
theorem dX3_weigh_35 : decode cX3_weigh 35 = .ok (.if_icmp .ge 92, 3) := by decide +kernel
theorem dX3_weigh_38 : decode cX3_weigh 38 = .ok (.aload_n 0, 1) := by decide +kernel
theorem dX3_weigh_39 : decode cX3_weigh 39 = .ok (.getfield 22, 3) := by decide +kernel
theorem dX3_weigh_42 : decode cX3_weigh 42 = .ok (.iload 4, 2) := by decide +kernel
theorem dX3_weigh_44 : decode cX3_weigh 44 = .ok (.iload_n 1, 1) := by decide +kernel
theorem dX3_weigh_45 : decode cX3_weigh 45 = .ok (.invokevirtual 58, 3) := by decide +kernel
theorem dX3_weigh_48 : decode cX3_weigh 48 = .ok (.ifCond .eq 73, 3) := by decide +kernel
theorem dX3_weigh_51 : decode cX3_weigh 51 = .ok (.aload_n 0, 1) := by decide +kernel
theorem dX3_weigh_52 : decode cX3_weigh 52 = .ok (.getfield 22, 3) := by decide +kernel
theorem dX3_weigh_55 : decode cX3_weigh 55 = .ok (.getfield 79, 3) := by decide +kernel
theorem dX3_weigh_58 : decode cX3_weigh 58 = .ok (.iload 4, 2) := by decide +kernel
theorem dX3_weigh_60 : decode cX3_weigh 60 = .ok (.iaload, 1) := by decide +kernel
theorem dX3_weigh_61 : decode cX3_weigh 61 = .ok (.istore 5, 2) := by decide +kernel
theorem dX3_weigh_63 : decode cX3_weigh 63 = .ok (.aload_n 0, 1) := by decide +kernel
theorem dX3_weigh_64 : decode cX3_weigh 64 = .ok (.getfield 22, 3) := by decide +kernel
theorem dX3_weigh_67 : decode cX3_weigh 67 = .ok (.getfield 51, 3) := by decide +kernel
theorem dX3_weigh_70 : decode cX3_weigh 70 = .ok (.iload 4, 2) := by decide +kernel
theorem dX3_weigh_72 : decode cX3_weigh 72 = .ok (.iaload, 1) := by decide +kernel
theorem dX3_weigh_73 : decode cX3_weigh 73 = .ok (.i2l, 1) := by decide +kernel
theorem dX3_weigh_74 : decode cX3_weigh 74 = .ok (.aload_n 0, 1) := by decide +kernel
theorem dX3_weigh_75 : decode cX3_weigh 75 = .ok (.getfield 26, 3) := by decide +kernel
theorem dX3_weigh_78 : decode cX3_weigh 78 = .ok (.getfield 82, 3) := by decide +kernel
theorem dX3_weigh_81 : decode cX3_weigh 81 = .ok (.aload_n 0, 1) := by decide +kernel
theorem dX3_weigh_82 : decode cX3_weigh 82 = .ok (.getfield 18, 3) := by decide +kernel
theorem dX3_weigh_85 : decode cX3_weigh 85 = .ok (.getfield 85, 3) := by decide +kernel
theorem dX3_weigh_88 : decode cX3_weigh 88 = .ok (.iload 5, 2) := by decide +kernel
theorem dX3_weigh_90 : decode cX3_weigh 90 = .ok (.iaload, 1) := by decide +kernel
theorem dX3_weigh_91 : decode cX3_weigh 91 = .ok (.iaload, 1) := by decide +kernel
theorem dX3_weigh_92 : decode cX3_weigh 92 = .ok (.i2l, 1) := by decide +kernel
theorem dX3_weigh_93 : decode cX3_weigh 93 = .ok (.lmul, 1) := by decide +kernel
theorem dX3_weigh_94 : decode cX3_weigh 94 = .ok (.lstore 6, 2) := by decide +kernel
theorem dX3_weigh_96 : decode cX3_weigh 96 = .ok (.aload_n 0, 1) := by decide +kernel
theorem dX3_weigh_97 : decode cX3_weigh 97 = .ok (.getfield 9, 3) := by decide +kernel
theorem dX3_weigh_100 : decode cX3_weigh 100 = .ok (.aload_n 0, 1) := by decide +kernel
theorem dX3_weigh_101 : decode cX3_weigh 101 = .ok (.getfield 18, 3) := by decide +kernel
theorem dX3_weigh_104 : decode cX3_weigh 104 = .ok (.getfield 90, 3) := by decide +kernel
theorem dX3_weigh_107 : decode cX3_weigh 107 = .ok (.iload 5, 2) := by decide +kernel
theorem dX3_weigh_109 : decode cX3_weigh 109 = .ok (.iaload, 1) := by decide +kernel
theorem dX3_weigh_110 : decode cX3_weigh 110 = .ok (.dup2, 1) := by decide +kernel
theorem dX3_weigh_111 : decode cX3_weigh 111 = .ok (.laload, 1) := by decide +kernel
theorem dX3_weigh_112 : decode cX3_weigh 112 = .ok (.lload 6, 2) := by decide +kernel
theorem dX3_weigh_114 : decode cX3_weigh 114 = .ok (.ladd, 1) := by decide +kernel
theorem dX3_weigh_115 : decode cX3_weigh 115 = .ok (.lastore, 1) := by decide +kernel
theorem dX3_weigh_116 : decode cX3_weigh 116 = .ok (.lload_n 2, 1) := by decide +kernel
theorem dX3_weigh_117 : decode cX3_weigh 117 = .ok (.lload 6, 2) := by decide +kernel
theorem dX3_weigh_119 : decode cX3_weigh 119 = .ok (.ladd, 1) := by decide +kernel
theorem dX3_weigh_120 : decode cX3_weigh 120 = .ok (.lstore_n 2, 1) := by decide +kernel
theorem dX3_weigh_121 : decode cX3_weigh 121 = .ok (.iinc 4 1, 3) := by decide +kernel
theorem dX3_weigh_124 : decode cX3_weigh 124 = .ok (.goto (-98), 3) := by decide +kernel
theorem dX3_weigh_127 : decode cX3_weigh 127 = .ok (.lload_n 2, 1) := by decide +kernel
theorem dX3_weigh_128 : decode cX3_weigh 128 = .ok (.lreturn, 1) := by decide +kernel
theorem dX3_placeByRest_0 : decode cX3_placeByRest 0 = .ok (.iconst 0, 1) := by decide +kernel
theorem dX3_placeByRest_1 : decode cX3_placeByRest 1 = .ok (.istore_n 2, 1) := by decide +kernel
theorem dX3_placeByRest_2 : decode cX3_placeByRest 2 = .ok (.iconst 0, 1) := by decide +kernel
theorem dX3_placeByRest_3 : decode cX3_placeByRest 3 = .ok (.istore_n 3, 1) := by decide +kernel
theorem dX3_placeByRest_4 : decode cX3_placeByRest 4 = .ok (.iload_n 3, 1) := by decide +kernel
theorem dX3_placeByRest_5 : decode cX3_placeByRest 5 = .ok (.bipush 8, 2) := by decide +kernel
theorem dX3_placeByRest_7 : decode cX3_placeByRest 7 = .ok (.if_icmp .ge 49, 3) := by decide +kernel
theorem dX3_placeByRest_10 : decode cX3_placeByRest 10 = .ok (.aload_n 0, 1) := by decide +kernel
theorem dX3_placeByRest_11 : decode cX3_placeByRest 11 = .ok (.getfield 15, 3) := by decide +kernel
theorem dX3_placeByRest_14 : decode cX3_placeByRest 14 = .ok (.iload_n 3, 1) := by decide +kernel
theorem dX3_placeByRest_15 : decode cX3_placeByRest 15 = .ok (.laload, 1) := by decide +kernel
theorem dX3_placeByRest_16 : decode cX3_placeByRest 16 = .ok (.aload_n 0, 1) := by decide +kernel
theorem dX3_placeByRest_17 : decode cX3_placeByRest 17 = .ok (.getfield 15, 3) := by decide +kernel
theorem dX3_placeByRest_20 : decode cX3_placeByRest 20 = .ok (.iload_n 1, 1) := by decide +kernel
theorem dX3_placeByRest_21 : decode cX3_placeByRest 21 = .ok (.laload, 1) := by decide +kernel
theorem dX3_placeByRest_22 : decode cX3_placeByRest 22 = .ok (.lcmp, 1) := by decide +kernel
theorem dX3_placeByRest_23 : decode cX3_placeByRest 23 = .ok (.ifCond .gt 24, 3) := by decide +kernel
theorem dX3_placeByRest_26 : decode cX3_placeByRest 26 = .ok (.aload_n 0, 1) := by decide +kernel
theorem dX3_placeByRest_27 : decode cX3_placeByRest 27 = .ok (.getfield 15, 3) := by decide +kernel
theorem dX3_placeByRest_30 : decode cX3_placeByRest 30 = .ok (.iload_n 3, 1) := by decide +kernel
theorem dX3_placeByRest_31 : decode cX3_placeByRest 31 = .ok (.laload, 1) := by decide +kernel
theorem dX3_placeByRest_32 : decode cX3_placeByRest 32 = .ok (.aload_n 0, 1) := by decide +kernel
theorem dX3_placeByRest_33 : decode cX3_placeByRest 33 = .ok (.getfield 15, 3) := by decide +kernel
theorem dX3_placeByRest_36 : decode cX3_placeByRest 36 = .ok (.iload_n 1, 1) := by decide +kernel
theorem dX3_placeByRest_37 : decode cX3_placeByRest 37 = .ok (.laload, 1) := by decide +kernel
theorem dX3_placeByRest_38 : decode cX3_placeByRest 38 = .ok (.lcmp, 1) := by decide +kernel
theorem dX3_placeByRest_39 : decode cX3_placeByRest 39 = .ok (.ifCond .ne 11, 3) := by decide +kernel
theorem dX3_placeByRest_42 : decode cX3_placeByRest 42 = .ok (.iload_n 3, 1) := by decide +kernel
theorem dX3_placeByRest_43 : decode cX3_placeByRest 43 = .ok (.iload_n 1, 1) := by decide +kernel
theorem dX3_placeByRest_44 : decode cX3_placeByRest 44 = .ok (.if_icmp .ge 6, 3) := by decide +kernel
theorem dX3_placeByRest_47 : decode cX3_placeByRest 47 = .ok (.iinc 2 1, 3) := by decide +kernel
theorem dX3_placeByRest_50 : decode cX3_placeByRest 50 = .ok (.iinc 3 1, 3) := by decide +kernel
theorem dX3_placeByRest_53 : decode cX3_placeByRest 53 = .ok (.goto (-49), 3) := by decide +kernel
theorem dX3_placeByRest_56 : decode cX3_placeByRest 56 = .ok (.iload_n 2, 1) := by decide +kernel
theorem dX3_placeByRest_57 : decode cX3_placeByRest 57 = .ok (.ireturn, 1) := by decide +kernel
theorem dX4_init_0 : decode cX4_init 0 = .ok (.aload_n 0, 1) := by decide +kernel
theorem dX4_init_1 : decode cX4_init 1 = .ok (.invokespecial 3, 3) := by decide +kernel
theorem dX4_init_4 : decode cX4_init 4 = .ok (.aload_n 0, 1) := by decide +kernel
theorem dX4_init_5 : decode cX4_init 5 = .ok (.iconst 4, 1) := by decide +kernel
theorem dX4_init_6 : decode cX4_init 6 = .ok (.newarray .long, 2) := by decide +kernel
theorem dX4_init_8 : decode cX4_init 8 = .ok (.putfield 9, 3) := by decide +kernel
theorem dX4_init_11 : decode cX4_init 11 = .ok (.aload_n 0, 1) := by decide +kernel
theorem dX4_init_12 : decode cX4_init 12 = .ok (.iconst 4, 1) := by decide +kernel
theorem dX4_init_13 : decode cX4_init 13 = .ok (.newarray .long, 2) := by decide +kernel
theorem dX4_init_15 : decode cX4_init 15 = .ok (.putfield 15, 3) := by decide +kernel
theorem dX4_init_18 : decode cX4_init 18 = .ok (.aload_n 0, 1) := by decide +kernel
theorem dX4_init_19 : decode cX4_init 19 = .ok (.iconst 4, 1) := by decide +kernel
theorem dX4_init_20 : decode cX4_init 20 = .ok (.newarray .long, 2) := by decide +kernel
theorem dX4_init_22 : decode cX4_init 22 = .ok (.putfield 18, 3) := by decide +kernel
theorem dX4_init_25 : decode cX4_init 25 = .ok (.aload_n 0, 1) := by decide +kernel
theorem dX4_init_26 : decode cX4_init 26 = .ok (.aload_n 1, 1) := by decide +kernel
theorem dX4_init_27 : decode cX4_init 27 = .ok (.putfield 21, 3) := by decide +kernel
theorem dX4_init_30 : decode cX4_init 30 = .ok (.aload_n 0, 1) := by decide +kernel
theorem dX4_init_31 : decode cX4_init 31 = .ok (.aload_n 2, 1) := by decide +kernel
theorem dX4_init_32 : decode cX4_init 32 = .ok (.putfield 25, 3) := by decide +kernel
theorem dX4_init_35 : decode cX4_init 35 = .ok (.return_, 1) := by decide +kernel
theorem dX4_reckon_0 : decode cX4_reckon 0 = .ok (.lconst 0, 1) := by decide +kernel
theorem dX4_reckon_1 : decode cX4_reckon 1 = .ok (.lstore_n 3, 1) := by decide +kernel
theorem dX4_reckon_2 : decode cX4_reckon 2 = .ok (.aload_n 0, 1) := by decide +kernel
theorem dX4_reckon_3 : decode cX4_reckon 3 = .ok (.iload_n 1, 1) := by decide +kernel
theorem dX4_reckon_4 : decode cX4_reckon 4 = .ok (.iload_n 2, 1) := by decide +kernel
theorem dX4_reckon_5 : decode cX4_reckon 5 = .ok (.invokevirtual 29, 3) := by decide +kernel
theorem dX4_reckon_8 : decode cX4_reckon 8 = .ok (.lstore 5, 2) := by decide +kernel
theorem dX4_reckon_10 : decode cX4_reckon 10 = .ok (.lconst 1, 1) := by decide +kernel
theorem dX4_reckon_11 : decode cX4_reckon 11 = .ok (.lstore 7, 2) := by decide +kernel
theorem dX4_reckon_13 : decode cX4_reckon 13 = .ok (.iconst 0, 1) := by decide +kernel
theorem dX4_reckon_14 : decode cX4_reckon 14 = .ok (.istore 9, 2) := by decide +kernel
theorem dX4_reckon_16 : decode cX4_reckon 16 = .ok (.iload 9, 2) := by decide +kernel
theorem dX4_reckon_18 : decode cX4_reckon 18 = .ok (.iconst 4, 1) := by decide +kernel
theorem dX4_reckon_19 : decode cX4_reckon 19 = .ok (.if_icmp .ge 35, 3) := by decide +kernel
theorem dX4_reckon_22 : decode cX4_reckon 22 = .ok (.lload_n 3, 1) := by decide +kernel
theorem dX4_reckon_23 : decode cX4_reckon 23 = .ok (.aload_n 0, 1) := by decide +kernel
theorem dX4_reckon_24 : decode cX4_reckon 24 = .ok (.getfield 18, 3) := by decide +kernel
theorem dX4_reckon_27 : decode cX4_reckon 27 = .ok (.iload 9, 2) := by decide +kernel
theorem dX4_reckon_29 : decode cX4_reckon 29 = .ok (.laload, 1) := by decide +kernel
theorem dX4_reckon_30 : decode cX4_reckon 30 = .ok (.ladd, 1) := by decide +kernel
theorem dX4_reckon_31 : decode cX4_reckon 31 = .ok (.lstore_n 3, 1) := by decide +kernel
theorem dX4_reckon_32 : decode cX4_reckon 32 = .ok (.lload 7, 2) := by decide +kernel
theorem dX4_reckon_34 : decode cX4_reckon 34 = .ok (.aload_n 0, 1) := by decide +kernel
theorem dX4_reckon_35 : decode cX4_reckon 35 = .ok (.getfield 9, 3) := by decide +kernel
theorem dX4_reckon_38 : decode cX4_reckon 38 = .ok (.iload 9, 2) := by decide +kernel
theorem dX4_reckon_40 : decode cX4_reckon 40 = .ok (.laload, 1) := by decide +kernel
theorem dX4_reckon_41 : decode cX4_reckon 41 = .ok (.lconst 1, 1) := by decide +kernel
theorem dX4_reckon_42 : decode cX4_reckon 42 = .ok (.invokestatic 33, 3) := by decide +kernel
theorem dX4_reckon_45 : decode cX4_reckon 45 = .ok (.lmul, 1) := by decide +kernel
theorem dX4_reckon_46 : decode cX4_reckon 46 = .ok (.lstore 7, 2) := by decide +kernel
theorem dX4_reckon_48 : decode cX4_reckon 48 = .ok (.iinc 9 1, 3) := by decide +kernel
theorem dX4_reckon_51 : decode cX4_reckon 51 = .ok (.goto (-35), 3) := by decide +kernel
theorem dX4_reckon_54 : decode cX4_reckon 54 = .ok (.lload_n 3, 1) := by decide +kernel
theorem dX4_reckon_55 : decode cX4_reckon 55 = .ok (.lconst 1, 1) := by decide +kernel
theorem dX4_reckon_56 : decode cX4_reckon 56 = .ok (.lcmp, 1) := by decide +kernel
theorem dX4_reckon_57 : decode cX4_reckon 57 = .ok (.ifCond .ge 5, 3) := by decide +kernel
theorem dX4_reckon_60 : decode cX4_reckon 60 = .ok (.iconst 0, 1) := by decide +kernel
theorem dX4_reckon_61 : decode cX4_reckon 61 = .ok (.ireturn, 1) := by decide +kernel
theorem dX4_reckon_62 : decode cX4_reckon 62 = .ok (.aload_n 0, 1) := by decide +kernel
theorem dX4_reckon_63 : decode cX4_reckon 63 = .ok (.lload 5, 2) := by decide +kernel
theorem dX4_reckon_65 : decode cX4_reckon 65 = .ok (.lload 7, 2) := by decide +kernel
theorem dX4_reckon_67 : decode cX4_reckon 67 = .ok (.lmul, 1) := by decide +kernel
theorem dX4_reckon_68 : decode cX4_reckon 68 = .ok (.putfield 39, 3) := by decide +kernel
theorem dX4_reckon_71 : decode cX4_reckon 71 = .ok (.iconst 0, 1) := by decide +kernel
theorem dX4_reckon_72 : decode cX4_reckon 72 = .ok (.istore 9, 2) := by decide +kernel
theorem dX4_reckon_74 : decode cX4_reckon 74 = .ok (.iload 9, 2) := by decide +kernel
theorem dX4_reckon_76 : decode cX4_reckon 76 = .ok (.iconst 4, 1) := by decide +kernel
theorem dX4_reckon_77 : decode cX4_reckon 77 = .ok (.if_icmp .ge 48, 3) := by decide +kernel
theorem dX4_reckon_80 : decode cX4_reckon 80 = .ok (.aload_n 0, 1) := by decide +kernel
theorem dX4_reckon_81 : decode cX4_reckon 81 = .ok (.dup, 1) := by decide +kernel
theorem dX4_reckon_82 : decode cX4_reckon 82 = .ok (.getfield 39, 3) := by decide +kernel
theorem dX4_reckon_85 : decode cX4_reckon 85 = .ok (.aload_n 0, 1) := by decide +kernel
theorem dX4_reckon_86 : decode cX4_reckon 86 = .ok (.getfield 18, 3) := by decide +kernel
theorem dX4_reckon_89 : decode cX4_reckon 89 = .ok (.iload 9, 2) := by decide +kernel
theorem dX4_reckon_91 : decode cX4_reckon 91 = .ok (.laload, 1) := by decide +kernel
theorem dX4_reckon_92 : decode cX4_reckon 92 = .ok (.aload_n 0, 1) := by decide +kernel
theorem dX4_reckon_93 : decode cX4_reckon 93 = .ok (.getfield 15, 3) := by decide +kernel
theorem dX4_reckon_96 : decode cX4_reckon 96 = .ok (.iload 9, 2) := by decide +kernel
theorem dX4_reckon_98 : decode cX4_reckon 98 = .ok (.laload, 1) := by decide +kernel
theorem dX4_reckon_99 : decode cX4_reckon 99 = .ok (.lmul, 1) := by decide +kernel
theorem dX4_reckon_100 : decode cX4_reckon 100 = .ok (.lload 7, 2) := by decide +kernel
theorem dX4_reckon_102 : decode cX4_reckon 102 = .ok (.aload_n 0, 1) := by decide +kernel
theorem dX4_reckon_103 : decode cX4_reckon 103 = .ok (.getfield 9, 3) := by decide +kernel
theorem dX4_reckon_106 : decode cX4_reckon 106 = .ok (.iload 9, 2) := by decide +kernel
theorem dX4_reckon_108 : decode cX4_reckon 108 = .ok (.laload, 1) := by decide +kernel
theorem dX4_reckon_109 : decode cX4_reckon 109 = .ok (.lconst 1, 1) := by decide +kernel
theorem dX4_reckon_110 : decode cX4_reckon 110 = .ok (.invokestatic 33, 3) := by decide +kernel
theorem dX4_reckon_113 : decode cX4_reckon 113 = .ok (.ldiv, 1) := by decide +kernel
theorem dX4_reckon_114 : decode cX4_reckon 114 = .ok (.lmul, 1) := by decide +kernel
theorem dX4_reckon_115 : decode cX4_reckon 115 = .ok (.lsub, 1) := by decide +kernel
theorem dX4_reckon_116 : decode cX4_reckon 116 = .ok (.putfield 39, 3) := by decide +kernel
theorem dX4_reckon_119 : decode cX4_reckon 119 = .ok (.iinc 9 1, 3) := by decide +kernel
theorem dX4_reckon_122 : decode cX4_reckon 122 = .ok (.goto (-48), 3) := by decide +kernel
theorem dX4_reckon_125 : decode cX4_reckon 125 = .ok (.aload_n 0, 1) := by decide +kernel
theorem dX4_reckon_126 : decode cX4_reckon 126 = .ok (.lload_n 3, 1) := by decide +kernel
theorem dX4_reckon_127 : decode cX4_reckon 127 = .ok (.lload 7, 2) := by decide +kernel
theorem dX4_reckon_129 : decode cX4_reckon 129 = .ok (.lmul, 1) := by decide +kernel
theorem dX4_reckon_130 : decode cX4_reckon 130 = .ok (.putfield 43, 3) := by decide +kernel
theorem dX4_reckon_133 : decode cX4_reckon 133 = .ok (.aload_n 0, 1) := by decide +kernel
theorem dX4_reckon_134 : decode cX4_reckon 134 = .ok (.invokevirtual 46, 3) := by decide +kernel
theorem dX4_reckon_137 : decode cX4_reckon 137 = .ok (.iconst 1, 1) := by decide +kernel
theorem dX4_reckon_138 : decode cX4_reckon 138 = .ok (.ireturn, 1) := by decide +kernel
theorem dX4_gather_0 : decode cX4_gather 0 = .ok (.iconst 0, 1) := by decide +kernel
theorem dX4_gather_1 : decode cX4_gather 1 = .ok (.istore_n 3, 1) := by decide +kernel
theorem dX4_gather_2 : decode cX4_gather 2 = .ok (.iload_n 3, 1) := by decide +kernel
theorem dX4_gather_3 : decode cX4_gather 3 = .ok (.iconst 4, 1) := by decide +kernel
theorem dX4_gather_4 : decode cX4_gather 4 = .ok (.if_icmp .ge 30, 3) := by decide +kernel
theorem dX4_gather_7 : decode cX4_gather 7 = .ok (.aload_n 0, 1) := by decide +kernel
theorem dX4_gather_8 : decode cX4_gather 8 = .ok (.getfield 9, 3) := by decide +kernel
theorem dX4_gather_11 : decode cX4_gather 11 = .ok (.iload_n 3, 1) := by decide +kernel
theorem dX4_gather_12 : decode cX4_gather 12 = .ok (.lconst 0, 1) := by decide +kernel
theorem dX4_gather_13 : decode cX4_gather 13 = .ok (.lastore, 1) := by decide +kernel
theorem dX4_gather_14 : decode cX4_gather 14 = .ok (.aload_n 0, 1) := by decide +kernel
theorem dX4_gather_15 : decode cX4_gather 15 = .ok (.getfield 15, 3) := by decide +kernel
theorem dX4_gather_18 : decode cX4_gather 18 = .ok (.iload_n 3, 1) := by decide +kernel
theorem dX4_gather_19 : decode cX4_gather 19 = .ok (.lconst 0, 1) := by decide +kernel
theorem dX4_gather_20 : decode cX4_gather 20 = .ok (.lastore, 1) := by decide +kernel
theorem dX4_gather_21 : decode cX4_gather 21 = .ok (.aload_n 0, 1) := by decide +kernel
theorem dX4_gather_22 : decode cX4_gather 22 = .ok (.getfield 18, 3) := by decide +kernel
theorem dX4_gather_25 : decode cX4_gather 25 = .ok (.iload_n 3, 1) := by decide +kernel
theorem dX4_gather_26 : decode cX4_gather 26 = .ok (.lconst 0, 1) := by decide +kernel
theorem dX4_gather_27 : decode cX4_gather 27 = .ok (.lastore, 1) := by decide +kernel
theorem dX4_gather_28 : decode cX4_gather 28 = .ok (.iinc 3 1, 3) := by decide +kernel
theorem dX4_gather_31 : decode cX4_gather 31 = .ok (.goto (-29), 3) := by decide +kernel
theorem dX4_gather_34 : decode cX4_gather 34 = .ok (.lconst 0, 1) := by decide +kernel
theorem dX4_gather_35 : decode cX4_gather 35 = .ok (.lstore_n 3, 1) := by decide +kernel
theorem dX4_gather_36 : decode cX4_gather 36 = .ok (.iconst 0, 1) := by decide +kernel
theorem dX4_gather_37 : decode cX4_gather 37 = .ok (.istore 5, 2) := by decide +kernel
theorem dX4_gather_39 : decode cX4_gather 39 = .ok (.iload 5, 2) := by decide +kernel
theorem dX4_gather_41 : decode cX4_gather 41 = .ok (.aload_n 0, 1) := by decide +kernel
theorem dX4_gather_42 : decode cX4_gather 42 = .ok (.getfield 25, 3) := by decide +kernel
theorem dX4_gather_45 : decode cX4_gather 45 = .ok (.getfield 49, 3) := by decide +kernel
theorem dX4_gather_48 : decode cX4_gather 48 = .ok (.if_icmp .ge 117, 3) := by decide +kernel
theorem dX4_gather_51 : decode cX4_gather 51 = .ok (.aload_n 0, 1) := by decide +kernel
theorem dX4_gather_52 : decode cX4_gather 52 = .ok (.getfield 25, 3) := by decide +kernel
theorem dX4_gather_55 : decode cX4_gather 55 = .ok (.iload 5, 2) := by decide +kernel
theorem dX4_gather_57 : decode cX4_gather 57 = .ok (.iload_n 2, 1) := by decide +kernel
theorem dX4_gather_58 : decode cX4_gather 58 = .ok (.invokevirtual 55, 3) := by decide +kernel
theorem dX4_gather_61 : decode cX4_gather 61 = .ok (.ifCond .eq 98, 3) := by decide +kernel
theorem dX4_gather_64 : decode cX4_gather 64 = .ok (.aload_n 0, 1) := by decide +kernel
theorem dX4_gather_65 : decode cX4_gather 65 = .ok (.getfield 25, 3) := by decide +kernel
theorem dX4_gather_68 : decode cX4_gather 68 = .ok (.getfield 59, 3) := by decide +kernel
theorem dX4_gather_71 : decode cX4_gather 71 = .ok (.iload 5, 2) := by decide +kernel
theorem dX4_gather_73 : decode cX4_gather 73 = .ok (.iaload, 1) := by decide +kernel
theorem dX4_gather_74 : decode cX4_gather 74 = .ok (.istore 6, 2) := by decide +kernel
theorem dX4_gather_76 : decode cX4_gather 76 = .ok (.aload_n 0, 1) := by decide +kernel
theorem dX4_gather_77 : decode cX4_gather 77 = .ok (.getfield 21, 3) := by decide +kernel
theorem dX4_gather_80 : decode cX4_gather 80 = .ok (.getfield 63, 3) := by decide +kernel
theorem dX4_gather_83 : decode cX4_gather 83 = .ok (.iload 6, 2) := by decide +kernel
theorem dX4_gather_85 : decode cX4_gather 85 = .ok (.iaload, 1) := by decide +kernel
theorem dX4_gather_86 : decode cX4_gather 86 = .ok (.istore 7, 2) := by decide +kernel
theorem dX4_gather_88 : decode cX4_gather 88 = .ok (.aload_n 0, 1) := by decide +kernel
theorem dX4_gather_89 : decode cX4_gather 89 = .ok (.getfield 9, 3) := by decide +kernel
theorem dX4_gather_92 : decode cX4_gather 92 = .ok (.iload 7, 2) := by decide +kernel
theorem dX4_gather_94 : decode cX4_gather 94 = .ok (.dup2, 1) := by decide +kernel
theorem dX4_gather_95 : decode cX4_gather 95 = .ok (.laload, 1) := by decide +kernel
theorem dX4_gather_96 : decode cX4_gather 96 = .ok (.lconst 1, 1) := by decide +kernel
theorem dX4_gather_97 : decode cX4_gather 97 = .ok (.ladd, 1) := by decide +kernel
theorem dX4_gather_98 : decode cX4_gather 98 = .ok (.lastore, 1) := by decide +kernel
theorem dX4_gather_99 : decode cX4_gather 99 = .ok (.aload_n 0, 1) := by decide +kernel
theorem dX4_gather_100 : decode cX4_gather 100 = .ok (.getfield 15, 3) := by decide +kernel
theorem dX4_gather_103 : decode cX4_gather 103 = .ok (.iload 7, 2) := by decide +kernel
theorem dX4_gather_105 : decode cX4_gather 105 = .ok (.dup2, 1) := by decide +kernel
theorem dX4_gather_106 : decode cX4_gather 106 = .ok (.laload, 1) := by decide +kernel
theorem dX4_gather_107 : decode cX4_gather 107 = .ok (.aload_n 0, 1) := by decide +kernel
theorem dX4_gather_108 : decode cX4_gather 108 = .ok (.getfield 25, 3) := by decide +kernel
theorem dX4_gather_111 : decode cX4_gather 111 = .ok (.getfield 68, 3) := by decide +kernel
theorem dX4_gather_114 : decode cX4_gather 114 = .ok (.iload 5, 2) := by decide +kernel
theorem dX4_gather_116 : decode cX4_gather 116 = .ok (.iaload, 1) := by decide +kernel
theorem dX4_gather_117 : decode cX4_gather 117 = .ok (.i2l, 1) := by decide +kernel
theorem dX4_gather_118 : decode cX4_gather 118 = .ok (.ladd, 1) := by decide +kernel
theorem dX4_gather_119 : decode cX4_gather 119 = .ok (.lastore, 1) := by decide +kernel
theorem dX4_gather_120 : decode cX4_gather 120 = .ok (.aload_n 0, 1) := by decide +kernel
theorem dX4_gather_121 : decode cX4_gather 121 = .ok (.getfield 21, 3) := by decide +kernel
theorem dX4_gather_124 : decode cX4_gather 124 = .ok (.getfield 71, 3) := by decide +kernel
theorem dX4_gather_127 : decode cX4_gather 127 = .ok (.iload 6, 2) := by decide +kernel
theorem dX4_gather_129 : decode cX4_gather 129 = .ok (.iaload, 1) := by decide +kernel
theorem dX4_gather_130 : decode cX4_gather 130 = .ok (.iload_n 1, 1) := by decide +kernel
theorem dX4_gather_131 : decode cX4_gather 131 = .ok (.if_icmp .ne 28, 3) := by decide +kernel
theorem dX4_gather_134 : decode cX4_gather 134 = .ok (.aload_n 0, 1) := by decide +kernel
theorem dX4_gather_135 : decode cX4_gather 135 = .ok (.getfield 18, 3) := by decide +kernel
theorem dX4_gather_138 : decode cX4_gather 138 = .ok (.iload 7, 2) := by decide +kernel
theorem dX4_gather_140 : decode cX4_gather 140 = .ok (.dup2, 1) := by decide +kernel
theorem dX4_gather_141 : decode cX4_gather 141 = .ok (.laload, 1) := by decide +kernel
theorem dX4_gather_142 : decode cX4_gather 142 = .ok (.lconst 1, 1) := by decide +kernel
theorem dX4_gather_143 : decode cX4_gather 143 = .ok (.ladd, 1) := by decide +kernel
theorem dX4_gather_144 : decode cX4_gather 144 = .ok (.lastore, 1) := by decide +kernel
theorem dX4_gather_145 : decode cX4_gather 145 = .ok (.lload_n 3, 1) := by decide +kernel
theorem dX4_gather_146 : decode cX4_gather 146 = .ok (.aload_n 0, 1) := by decide +kernel
theorem dX4_gather_147 : decode cX4_gather 147 = .ok (.getfield 25, 3) := by decide +kernel
theorem dX4_gather_150 : decode cX4_gather 150 = .ok (.getfield 68, 3) := by decide +kernel
theorem dX4_gather_153 : decode cX4_gather 153 = .ok (.iload 5, 2) := by decide +kernel
theorem dX4_gather_155 : decode cX4_gather 155 = .ok (.iaload, 1) := by decide +kernel
theorem dX4_gather_156 : decode cX4_gather 156 = .ok (.i2l, 1) := by decide +kernel
theorem dX4_gather_157 : decode cX4_gather 157 = .ok (.ladd, 1) := by decide +kernel
theorem dX4_gather_158 : decode cX4_gather 158 = .ok (.lstore_n 3, 1) := by decide +kernel
theorem dX4_gather_159 : decode cX4_gather 159 = .ok (.iinc 5 1, 3) := by decide +kernel
theorem dX4_gather_162 : decode cX4_gather 162 = .ok (.goto (-123), 3) := by decide +kernel
theorem dX4_gather_165 : decode cX4_gather 165 = .ok (.lload_n 3, 1) := by decide +kernel
theorem dX4_gather_166 : decode cX4_gather 166 = .ok (.lreturn, 1) := by decide +kernel
theorem dX4_reduce_0 : decode cX4_reduce 0 = .ok (.aload_n 0, 1) := by decide +kernel
theorem dX4_reduce_1 : decode cX4_reduce 1 = .ok (.getfield 43, 3) := by decide +kernel
theorem dX4_reduce_4 : decode cX4_reduce 4 = .ok (.lstore_n 1, 1) := by decide +kernel
theorem dX4_reduce_5 : decode cX4_reduce 5 = .ok (.aload_n 0, 1) := by decide +kernel
theorem dX4_reduce_6 : decode cX4_reduce 6 = .ok (.getfield 39, 3) := by decide +kernel
theorem dX4_reduce_9 : decode cX4_reduce 9 = .ok (.invokestatic 74, 3) := by decide +kernel
theorem dX4_reduce_12 : decode cX4_reduce 12 = .ok (.lstore_n 3, 1) := by decide +kernel
theorem dX4_reduce_13 : decode cX4_reduce 13 = .ok (.iconst 0, 1) := by decide +kernel
theorem dX4_reduce_14 : decode cX4_reduce 14 = .ok (.istore 5, 2) := by decide +kernel
theorem dX4_reduce_16 : decode cX4_reduce 16 = .ok (.iload 5, 2) := by decide +kernel
theorem dX4_reduce_18 : decode cX4_reduce 18 = .ok (.sipush 200, 3) := by decide +kernel
theorem dX4_reduce_21 : decode cX4_reduce 21 = .ok (.if_icmp .ge 25, 3) := by decide +kernel
theorem dX4_reduce_24 : decode cX4_reduce 24 = .ok (.lload_n 3, 1) := by decide +kernel
theorem dX4_reduce_25 : decode cX4_reduce 25 = .ok (.lconst 0, 1) := by decide +kernel
theorem dX4_reduce_26 : decode cX4_reduce 26 = .ok (.lcmp, 1) := by decide +kernel
theorem dX4_reduce_27 : decode cX4_reduce 27 = .ok (.ifCond .eq 19, 3) := by decide +kernel
theorem dX4_reduce_30 : decode cX4_reduce 30 = .ok (.lload_n 1, 1) := by decide +kernel
theorem dX4_reduce_31 : decode cX4_reduce 31 = .ok (.lload_n 3, 1) := by decide +kernel
theorem dX4_reduce_32 : decode cX4_reduce 32 = .ok (.lrem, 1) := by decide +kernel
theorem dX4_reduce_33 : decode cX4_reduce 33 = .ok (.lstore 6, 2) := by decide +kernel
theorem dX4_reduce_35 : decode cX4_reduce 35 = .ok (.lload_n 3, 1) := by decide +kernel
theorem dX4_reduce_36 : decode cX4_reduce 36 = .ok (.lstore_n 1, 1) := by decide +kernel
theorem dX4_reduce_37 : decode cX4_reduce 37 = .ok (.lload 6, 2) := by decide +kernel
theorem dX4_reduce_39 : decode cX4_reduce 39 = .ok (.lstore_n 3, 1) := by decide +kernel
theorem dX4_reduce_40 : decode cX4_reduce 40 = .ok (.iinc 5 1, 3) := by decide +kernel
theorem dX4_reduce_43 : decode cX4_reduce 43 = .ok (.goto (-27), 3) := by decide +kernel
theorem dX4_reduce_46 : decode cX4_reduce 46 = .ok (.lload_n 1, 1) := by decide +kernel
theorem dX4_reduce_47 : decode cX4_reduce 47 = .ok (.lconst 1, 1) := by decide +kernel
theorem dX4_reduce_48 : decode cX4_reduce 48 = .ok (.lcmp, 1) := by decide +kernel
theorem dX4_reduce_49 : decode cX4_reduce 49 = .ok (.ifCond .le 23, 3) := by decide +kernel
theorem dX4_reduce_52 : decode cX4_reduce 52 = .ok (.aload_n 0, 1) := by decide +kernel
theorem dX4_reduce_53 : decode cX4_reduce 53 = .ok (.dup, 1) := by decide +kernel
theorem dX4_reduce_54 : decode cX4_reduce 54 = .ok (.getfield 39, 3) := by decide +kernel
theorem dX4_reduce_57 : decode cX4_reduce 57 = .ok (.lload_n 1, 1) := by decide +kernel
theorem dX4_reduce_58 : decode cX4_reduce 58 = .ok (.ldiv, 1) := by decide +kernel
theorem dX4_reduce_59 : decode cX4_reduce 59 = .ok (.putfield 39, 3) := by decide +kernel
theorem dX4_reduce_62 : decode cX4_reduce 62 = .ok (.aload_n 0, 1) := by decide +kernel
theorem dX4_reduce_63 : decode cX4_reduce 63 = .ok (.dup, 1) := by decide +kernel
theorem dX4_reduce_64 : decode cX4_reduce 64 = .ok (.getfield 43, 3) := by decide +kernel
theorem dX4_reduce_67 : decode cX4_reduce 67 = .ok (.lload_n 1, 1) := by decide +kernel
theorem dX4_reduce_68 : decode cX4_reduce 68 = .ok (.ldiv, 1) := by decide +kernel
theorem dX4_reduce_69 : decode cX4_reduce 69 = .ok (.putfield 43, 3) := by decide +kernel
theorem dX4_reduce_72 : decode cX4_reduce 72 = .ok (.return_, 1) := by decide +kernel
theorem dX5_init_0 : decode cX5_init 0 = .ok (.aload_n 0, 1) := by decide +kernel
theorem dX5_init_1 : decode cX5_init 1 = .ok (.invokespecial 3, 3) := by decide +kernel
theorem dX5_init_4 : decode cX5_init 4 = .ok (.aload_n 0, 1) := by decide +kernel
theorem dX5_init_5 : decode cX5_init 5 = .ok (.new 9, 3) := by decide +kernel
theorem dX5_init_8 : decode cX5_init 8 = .ok (.dup, 1) := by decide +kernel
theorem dX5_init_9 : decode cX5_init 9 = .ok (.invokespecial 11, 3) := by decide +kernel
theorem dX5_init_12 : decode cX5_init 12 = .ok (.putfield 12, 3) := by decide +kernel
theorem dX5_init_15 : decode cX5_init 15 = .ok (.aload_n 0, 1) := by decide +kernel
theorem dX5_init_16 : decode cX5_init 16 = .ok (.iconst 4, 1) := by decide +kernel
theorem dX5_init_17 : decode cX5_init 17 = .ok (.newarray .boolean, 2) := by decide +kernel
theorem dX5_init_19 : decode cX5_init 19 = .ok (.putfield 18, 3) := by decide +kernel
theorem dX5_init_22 : decode cX5_init 22 = .ok (.aload_n 0, 1) := by decide +kernel
theorem dX5_init_23 : decode cX5_init 23 = .ok (.iconst 4, 1) := by decide +kernel
theorem dX5_init_24 : decode cX5_init 24 = .ok (.newarray .boolean, 2) := by decide +kernel
theorem dX5_init_26 : decode cX5_init 26 = .ok (.putfield 22, 3) := by decide +kernel
theorem dX5_init_29 : decode cX5_init 29 = .ok (.aload_n 0, 1) := by decide +kernel
theorem dX5_init_30 : decode cX5_init 30 = .ok (.aload_n 1, 1) := by decide +kernel
theorem dX5_init_31 : decode cX5_init 31 = .ok (.putfield 25, 3) := by decide +kernel
theorem dX5_init_34 : decode cX5_init 34 = .ok (.return_, 1) := by decide +kernel
theorem dX5_read_0 : decode cX5_read 0 = .ok (.aload_n 0, 1) := by decide +kernel
theorem dX5_read_1 : decode cX5_read 1 = .ok (.invokevirtual 29, 3) := by decide +kernel
theorem dX5_read_4 : decode cX5_read 4 = .ok (.aload_n 0, 1) := by decide +kernel
theorem dX5_read_5 : decode cX5_read 5 = .ok (.invokevirtual 32, 3) := by decide +kernel
theorem dX5_read_8 : decode cX5_read 8 = .ok (.iconst 0, 1) := by decide +kernel
theorem dX5_read_9 : decode cX5_read 9 = .ok (.istore_n 1, 1) := by decide +kernel
theorem dX5_read_10 : decode cX5_read 10 = .ok (.iload_n 1, 1) := by decide +kernel
theorem dX5_read_11 : decode cX5_read 11 = .ok (.sipush 200, 3) := by decide +kernel
theorem dX5_read_14 : decode cX5_read 14 = .ok (.if_icmp .ge 31, 3) := by decide +kernel
theorem dX5_read_17 : decode cX5_read 17 = .ok (.aload_n 0, 1) := by decide +kernel
theorem dX5_read_18 : decode cX5_read 18 = .ok (.getfield 35, 3) := by decide +kernel
theorem dX5_read_21 : decode cX5_read 21 = .ok (.ifCond .eq 24, 3) := by decide +kernel
theorem dX5_read_24 : decode cX5_read 24 = .ok (.aload_n 0, 1) := by decide +kernel
theorem dX5_read_25 : decode cX5_read 25 = .ok (.getfield 39, 3) := by decide +kernel
theorem dX5_read_28 : decode cX5_read 28 = .ok (.ifCond .ne 17, 3) := by decide +kernel
theorem dX5_read_31 : decode cX5_read 31 = .ok (.aload_n 0, 1) := by decide +kernel
theorem dX5_read_32 : decode cX5_read 32 = .ok (.invokevirtual 42, 3) := by decide +kernel
theorem dX5_read_35 : decode cX5_read 35 = .ok (.aload_n 0, 1) := by decide +kernel
theorem dX5_read_36 : decode cX5_read 36 = .ok (.invokevirtual 32, 3) := by decide +kernel
theorem dX5_read_39 : decode cX5_read 39 = .ok (.iinc 1 1, 3) := by decide +kernel
theorem dX5_read_42 : decode cX5_read 42 = .ok (.goto (-32), 3) := by decide +kernel
theorem dX5_read_45 : decode cX5_read 45 = .ok (.return_, 1) := by decide +kernel
theorem dX5_forget_0 : decode cX5_forget 0 = .ok (.aload_n 0, 1) := by decide +kernel
theorem dX5_forget_1 : decode cX5_forget 1 = .ok (.getfield 12, 3) := by decide +kernel
theorem dX5_forget_4 : decode cX5_forget 4 = .ok (.invokevirtual 45, 3) := by decide +kernel
theorem dX5_forget_7 : decode cX5_forget 7 = .ok (.iconst 0, 1) := by decide +kernel
theorem dX5_forget_8 : decode cX5_forget 8 = .ok (.istore_n 1, 1) := by decide +kernel
theorem dX5_forget_9 : decode cX5_forget 9 = .ok (.iload_n 1, 1) := by decide +kernel
theorem dX5_forget_10 : decode cX5_forget 10 = .ok (.iconst 4, 1) := by decide +kernel
theorem dX5_forget_11 : decode cX5_forget 11 = .ok (.if_icmp .ge 23, 3) := by decide +kernel
theorem dX5_forget_14 : decode cX5_forget 14 = .ok (.aload_n 0, 1) := by decide +kernel
theorem dX5_forget_15 : decode cX5_forget 15 = .ok (.getfield 18, 3) := by decide +kernel
theorem dX5_forget_18 : decode cX5_forget 18 = .ok (.iload_n 1, 1) := by decide +kernel
theorem dX5_forget_19 : decode cX5_forget 19 = .ok (.iconst 0, 1) := by decide +kernel
theorem dX5_forget_20 : decode cX5_forget 20 = .ok (.bastore, 1) := by decide +kernel
theorem dX5_forget_21 : decode cX5_forget 21 = .ok (.aload_n 0, 1) := by decide +kernel
theorem dX5_forget_22 : decode cX5_forget 22 = .ok (.getfield 22, 3) := by decide +kernel
theorem dX5_forget_25 : decode cX5_forget 25 = .ok (.iload_n 1, 1) := by decide +kernel
theorem dX5_forget_26 : decode cX5_forget 26 = .ok (.iconst 0, 1) := by decide +kernel
theorem dX5_forget_27 : decode cX5_forget 27 = .ok (.bastore, 1) := by decide +kernel
theorem dX5_forget_28 : decode cX5_forget 28 = .ok (.iinc 1 1, 3) := by decide +kernel
theorem dX5_forget_31 : decode cX5_forget 31 = .ok (.goto (-22), 3) := by decide +kernel
theorem dX5_forget_34 : decode cX5_forget 34 = .ok (.aload_n 0, 1) := by decide +kernel
theorem dX5_forget_35 : decode cX5_forget 35 = .ok (.iconst 0, 1) := by decide +kernel
theorem dX5_forget_36 : decode cX5_forget 36 = .ok (.putfield 48, 3) := by decide +kernel
theorem dX5_forget_39 : decode cX5_forget 39 = .ok (.aload_n 0, 1) := by decide +kernel
theorem dX5_forget_40 : decode cX5_forget 40 = .ok (.iconst 0, 1) := by decide +kernel
theorem dX5_forget_41 : decode cX5_forget 41 = .ok (.putfield 52, 3) := by decide +kernel
theorem dX5_forget_44 : decode cX5_forget 44 = .ok (.aload_n 0, 1) := by decide +kernel
theorem dX5_forget_45 : decode cX5_forget 45 = .ok (.iconst 0, 1) := by decide +kernel
theorem dX5_forget_46 : decode cX5_forget 46 = .ok (.putfield 55, 3) := by decide +kernel
theorem dX5_forget_49 : decode cX5_forget 49 = .ok (.aload_n 0, 1) := by decide +kernel
theorem dX5_forget_50 : decode cX5_forget 50 = .ok (.iconst 0, 1) := by decide +kernel
theorem dX5_forget_51 : decode cX5_forget 51 = .ok (.putfield 39, 3) := by decide +kernel
theorem dX5_forget_54 : decode cX5_forget 54 = .ok (.aload_n 0, 1) := by decide +kernel
theorem dX5_forget_55 : decode cX5_forget 55 = .ok (.iconst 0, 1) := by decide +kernel
theorem dX5_forget_56 : decode cX5_forget 56 = .ok (.putfield 58, 3) := by decide +kernel
theorem dX5_forget_59 : decode cX5_forget 59 = .ok (.return_, 1) := by decide +kernel
theorem dX5_readRule_0 : decode cX5_readRule 0 = .ok (.aload_n 0, 1) := by decide +kernel
theorem dX5_readRule_1 : decode cX5_readRule 1 = .ok (.ldc 61, 2) := by decide +kernel
theorem dX5_readRule_3 : decode cX5_readRule 3 = .ok (.invokevirtual 63, 3) := by decide +kernel
theorem dX5_readRule_6 : decode cX5_readRule 6 = .ok (.ifCond .eq 24, 3) := by decide +kernel
theorem dX5_readRule_9 : decode cX5_readRule 9 = .ok (.aload_n 0, 1) := by decide +kernel
theorem dX5_readRule_10 : decode cX5_readRule 10 = .ok (.aload_n 0, 1) := by decide +kernel
theorem dX5_readRule_11 : decode cX5_readRule 11 = .ok (.getfield 12, 3) := by decide +kernel
theorem dX5_readRule_14 : decode cX5_readRule 14 = .ok (.getfield 67, 3) := by decide +kernel
theorem dX5_readRule_17 : decode cX5_readRule 17 = .ok (.aload_n 0, 1) := by decide +kernel
theorem dX5_readRule_18 : decode cX5_readRule 18 = .ok (.getfield 18, 3) := by decide +kernel
theorem dX5_readRule_21 : decode cX5_readRule 21 = .ok (.sipush 9999, 3) := by decide +kernel
theorem dX5_readRule_24 : decode cX5_readRule 24 = .ok (.invokevirtual 70, 3) := by decide +kernel
theorem dX5_readRule_27 : decode cX5_readRule 27 = .ok (.goto 68, 3) := by decide +kernel
theorem dX5_readRule_30 : decode cX5_readRule 30 = .ok (.aload_n 0, 1) := by decide +kernel
theorem dX5_readRule_31 : decode cX5_readRule 31 = .ok (.ldc 74, 2) := by decide +kernel
theorem dX5_readRule_33 : decode cX5_readRule 33 = .ok (.invokevirtual 63, 3) := by decide +kernel
theorem dX5_readRule_36 : decode cX5_readRule 36 = .ok (.ifCond .eq 23, 3) := by decide +kernel
theorem dX5_readRule_39 : decode cX5_readRule 39 = .ok (.aload_n 0, 1) := by decide +kernel
theorem dX5_readRule_40 : decode cX5_readRule 40 = .ok (.aload_n 0, 1) := by decide +kernel
theorem dX5_readRule_41 : decode cX5_readRule 41 = .ok (.getfield 12, 3) := by decide +kernel
theorem dX5_readRule_44 : decode cX5_readRule 44 = .ok (.getfield 76, 3) := by decide +kernel
theorem dX5_readRule_47 : decode cX5_readRule 47 = .ok (.aload_n 0, 1) := by decide +kernel
theorem dX5_readRule_48 : decode cX5_readRule 48 = .ok (.getfield 22, 3) := by decide +kernel
theorem dX5_readRule_51 : decode cX5_readRule 51 = .ok (.bipush 100, 2) := by decide +kernel
theorem dX5_readRule_53 : decode cX5_readRule 53 = .ok (.invokevirtual 70, 3) := by decide +kernel
theorem dX5_readRule_56 : decode cX5_readRule 56 = .ok (.goto 39, 3) := by decide +kernel
theorem dX5_readRule_59 : decode cX5_readRule 59 = .ok (.aload_n 0, 1) := by decide +kernel
theorem dX5_readRule_60 : decode cX5_readRule 60 = .ok (.ldc 78, 2) := by decide +kernel
theorem dX5_readRule_62 : decode cX5_readRule 62 = .ok (.invokevirtual 63, 3) := by decide +kernel
theorem dX5_readRule_65 : decode cX5_readRule 65 = .ok (.ifCond .eq 10, 3) := by decide +kernel
theorem dX5_readRule_68 : decode cX5_readRule 68 = .ok (.aload_n 0, 1) := by decide +kernel
theorem dX5_readRule_69 : decode cX5_readRule 69 = .ok (.invokevirtual 80, 3) := by decide +kernel
theorem dX5_readRule_72 : decode cX5_readRule 72 = .ok (.goto 23, 3) := by decide +kernel
theorem dX5_readRule_75 : decode cX5_readRule 75 = .ok (.aload_n 0, 1) := by decide +kernel
theorem dX5_readRule_76 : decode cX5_readRule 76 = .ok (.ldc 83, 2) := by decide +kernel
theorem dX5_readRule_78 : decode cX5_readRule 78 = .ok (.invokevirtual 63, 3) := by decide +kernel
theorem dX5_readRule_81 : decode cX5_readRule 81 = .ok (.ifCond .eq 10, 3) := by decide +kernel
theorem dX5_readRule_84 : decode cX5_readRule 84 = .ok (.aload_n 0, 1) := by decide +kernel
theorem dX5_readRule_85 : decode cX5_readRule 85 = .ok (.invokevirtual 85, 3) := by decide +kernel
theorem dX5_readRule_88 : decode cX5_readRule 88 = .ok (.goto 7, 3) := by decide +kernel
theorem dX5_readRule_91 : decode cX5_readRule 91 = .ok (.aload_n 0, 1) := by decide +kernel
theorem dX5_readRule_92 : decode cX5_readRule 92 = .ok (.invokevirtual 88, 3) := by decide +kernel
theorem dX5_readRule_95 : decode cX5_readRule 95 = .ok (.return_, 1) := by decide +kernel
theorem dX5_readByGrade_0 : decode cX5_readByGrade 0 = .ok (.aload_n 0, 1) := by decide +kernel
theorem dX5_readByGrade_1 : decode cX5_readByGrade 1 = .ok (.iconst 3, 1) := by decide +kernel
theorem dX5_readByGrade_2 : decode cX5_readByGrade 2 = .ok (.invokevirtual 91, 3) := by decide +kernel
theorem dX5_readByGrade_5 : decode cX5_readByGrade 5 = .ok (.istore 4, 2) := by decide +kernel
theorem dX5_readByGrade_7 : decode cX5_readByGrade 7 = .ok (.iload 4, 2) := by decide +kernel
theorem dX5_readByGrade_9 : decode cX5_readByGrade 9 = .ok (.iconst (-1), 1) := by decide +kernel
theorem dX5_readByGrade_10 : decode cX5_readByGrade 10 = .ok (.if_icmp .ne 4, 3) := by decide +kernel
theorem dX5_readByGrade_13 : decode cX5_readByGrade 13 = .ok (.return_, 1) := by decide +kernel
theorem dX5_readByGrade_14 : decode cX5_readByGrade 14 = .ok (.aload_n 2, 1) := by decide +kernel
theorem dX5_readByGrade_15 : decode cX5_readByGrade 15 = .ok (.iload 4, 2) := by decide +kernel
theorem dX5_readByGrade_17 : decode cX5_readByGrade 17 = .ok (.baload, 1) := by decide +kernel
theorem dX5_readByGrade_18 : decode cX5_readByGrade 18 = .ok (.ifCond .eq 9, 3) := by decide +kernel
theorem dX5_readByGrade_21 : decode cX5_readByGrade 21 = .ok (.aload_n 0, 1) := by decide +kernel
theorem dX5_readByGrade_22 : decode cX5_readByGrade 22 = .ok (.iconst 4, 1) := by decide +kernel
theorem dX5_readByGrade_23 : decode cX5_readByGrade 23 = .ok (.invokevirtual 95, 3) := by decide +kernel
theorem dX5_readByGrade_26 : decode cX5_readByGrade 26 = .ok (.return_, 1) := by decide +kernel
theorem dX5_readByGrade_27 : decode cX5_readByGrade 27 = .ok (.aload_n 2, 1) := by decide +kernel
theorem dX5_readByGrade_28 : decode cX5_readByGrade 28 = .ok (.iload 4, 2) := by decide +kernel
theorem dX5_readByGrade_30 : decode cX5_readByGrade 30 = .ok (.iconst 1, 1) := by decide +kernel
theorem dX5_readByGrade_31 : decode cX5_readByGrade 31 = .ok (.bastore, 1) := by decide +kernel
theorem dX5_readByGrade_32 : decode cX5_readByGrade 32 = .ok (.aload_n 0, 1) := by decide +kernel
theorem dX5_readByGrade_33 : decode cX5_readByGrade 33 = .ok (.iload_n 3, 1) := by decide +kernel
theorem dX5_readByGrade_34 : decode cX5_readByGrade 34 = .ok (.invokevirtual 91, 3) := by decide +kernel
theorem dX5_readByGrade_37 : decode cX5_readByGrade 37 = .ok (.istore 5, 2) := by decide +kernel
theorem dX5_readByGrade_39 : decode cX5_readByGrade 39 = .ok (.iload 5, 2) := by decide +kernel
theorem dX5_readByGrade_41 : decode cX5_readByGrade 41 = .ok (.iconst (-1), 1) := by decide +kernel
theorem dX5_readByGrade_42 : decode cX5_readByGrade 42 = .ok (.if_icmp .ne 4, 3) := by decide +kernel
theorem dX5_readByGrade_45 : decode cX5_readByGrade 45 = .ok (.return_, 1) := by decide +kernel
theorem dX5_readByGrade_46 : decode cX5_readByGrade 46 = .ok (.aload_n 1, 1) := by decide +kernel
theorem dX5_readByGrade_47 : decode cX5_readByGrade 47 = .ok (.iload 4, 2) := by decide +kernel
theorem dX5_readByGrade_49 : decode cX5_readByGrade 49 = .ok (.iload 5, 2) := by decide +kernel
theorem dX5_readByGrade_51 : decode cX5_readByGrade 51 = .ok (.iastore, 1) := by decide +kernel
theorem dX5_readByGrade_52 : decode cX5_readByGrade 52 = .ok (.aload_n 0, 1) := by decide +kernel
theorem dX5_readByGrade_53 : decode cX5_readByGrade 53 = .ok (.invokevirtual 99, 3) := by decide +kernel
theorem dX5_readByGrade_56 : decode cX5_readByGrade 56 = .ok (.return_, 1) := by decide +kernel
theorem dX5_readRot_0 : decode cX5_readRot 0 = .ok (.aload_n 0, 1) := by decide +kernel
theorem dX5_readRot_1 : decode cX5_readRot 1 = .ok (.getfield 48, 3) := by decide +kernel
theorem dX5_readRot_4 : decode cX5_readRot 4 = .ok (.ifCond .eq 9, 3) := by decide +kernel
theorem dX5_readRot_7 : decode cX5_readRot 7 = .ok (.aload_n 0, 1) := by decide +kernel
theorem dX5_readRot_8 : decode cX5_readRot 8 = .ok (.iconst 4, 1) := by decide +kernel
theorem dX5_readRot_9 : decode cX5_readRot 9 = .ok (.invokevirtual 95, 3) := by decide +kernel
theorem dX5_readRot_12 : decode cX5_readRot 12 = .ok (.return_, 1) := by decide +kernel
theorem dX5_readRot_13 : decode cX5_readRot 13 = .ok (.aload_n 0, 1) := by decide +kernel
theorem dX5_readRot_14 : decode cX5_readRot 14 = .ok (.iconst 1, 1) := by decide +kernel
theorem dX5_readRot_15 : decode cX5_readRot 15 = .ok (.putfield 48, 3) := by decide +kernel
theorem dX5_readRot_18 : decode cX5_readRot 18 = .ok (.aload_n 0, 1) := by decide +kernel
theorem dX5_readRot_19 : decode cX5_readRot 19 = .ok (.bipush 50, 2) := by decide +kernel
theorem dX5_readRot_21 : decode cX5_readRot 21 = .ok (.invokevirtual 91, 3) := by decide +kernel
theorem dX5_readRot_24 : decode cX5_readRot 24 = .ok (.istore_n 1, 1) := by decide +kernel
theorem dX5_readRot_25 : decode cX5_readRot 25 = .ok (.iload_n 1, 1) := by decide +kernel
theorem dX5_readRot_26 : decode cX5_readRot 26 = .ok (.iconst (-1), 1) := by decide +kernel
theorem dX5_readRot_27 : decode cX5_readRot 27 = .ok (.if_icmp .ne 4, 3) := by decide +kernel
theorem dX5_readRot_30 : decode cX5_readRot 30 = .ok (.return_, 1) := by decide +kernel
theorem dX5_readRot_31 : decode cX5_readRot 31 = .ok (.aload_n 0, 1) := by decide +kernel
theorem dX5_readRot_32 : decode cX5_readRot 32 = .ok (.getfield 12, 3) := by decide +kernel
theorem dX5_readRot_35 : decode cX5_readRot 35 = .ok (.iload_n 1, 1) := by decide +kernel
theorem dX5_readRot_36 : decode cX5_readRot 36 = .ok (.putfield 102, 3) := by decide +kernel
theorem dX5_readRot_39 : decode cX5_readRot 39 = .ok (.aload_n 0, 1) := by decide +kernel
theorem dX5_readRot_40 : decode cX5_readRot 40 = .ok (.invokevirtual 99, 3) := by decide +kernel
theorem dX5_readRot_43 : decode cX5_readRot 43 = .ok (.return_, 1) := by decide +kernel
theorem dX5_readLoss_0 : decode cX5_readLoss 0 = .ok (.aload_n 0, 1) := by decide +kernel
theorem dX5_readLoss_1 : decode cX5_readLoss 1 = .ok (.getfield 52, 3) := by decide +kernel
theorem dX5_readLoss_4 : decode cX5_readLoss 4 = .ok (.ifCond .eq 9, 3) := by decide +kernel
theorem dX5_readLoss_7 : decode cX5_readLoss 7 = .ok (.aload_n 0, 1) := by decide +kernel
theorem dX5_readLoss_8 : decode cX5_readLoss 8 = .ok (.iconst 4, 1) := by decide +kernel
theorem dX5_readLoss_9 : decode cX5_readLoss 9 = .ok (.invokevirtual 95, 3) := by decide +kernel
theorem dX5_readLoss_12 : decode cX5_readLoss 12 = .ok (.return_, 1) := by decide +kernel
theorem dX5_readLoss_13 : decode cX5_readLoss 13 = .ok (.aload_n 0, 1) := by decide +kernel
theorem dX5_readLoss_14 : decode cX5_readLoss 14 = .ok (.iconst 1, 1) := by decide +kernel
theorem dX5_readLoss_15 : decode cX5_readLoss 15 = .ok (.putfield 52, 3) := by decide +kernel
theorem dX5_readLoss_18 : decode cX5_readLoss 18 = .ok (.aload_n 0, 1) := by decide +kernel
theorem dX5_readLoss_19 : decode cX5_readLoss 19 = .ok (.invokevirtual 32, 3) := by decide +kernel
theorem dX5_readLoss_22 : decode cX5_readLoss 22 = .ok (.aload_n 0, 1) := by decide +kernel
theorem dX5_readLoss_23 : decode cX5_readLoss 23 = .ok (.ldc 104, 2) := by decide +kernel
theorem dX5_readLoss_25 : decode cX5_readLoss 25 = .ok (.invokevirtual 63, 3) := by decide +kernel
theorem dX5_readLoss_28 : decode cX5_readLoss 28 = .ok (.istore_n 1, 1) := by decide +kernel
theorem dX5_readLoss_29 : decode cX5_readLoss 29 = .ok (.iload_n 1, 1) := by decide +kernel
theorem dX5_readLoss_30 : decode cX5_readLoss 30 = .ok (.ifCond .ne 17, 3) := by decide +kernel
theorem dX5_readLoss_33 : decode cX5_readLoss 33 = .ok (.aload_n 0, 1) := by decide +kernel
theorem dX5_readLoss_34 : decode cX5_readLoss 34 = .ok (.ldc 106, 2) := by decide +kernel
theorem dX5_readLoss_36 : decode cX5_readLoss 36 = .ok (.invokevirtual 63, 3) := by decide +kernel
theorem dX5_readLoss_39 : decode cX5_readLoss 39 = .ok (.ifCond .ne 8, 3) := by decide +kernel
theorem dX5_readLoss_42 : decode cX5_readLoss 42 = .ok (.aload_n 0, 1) := by decide +kernel
theorem dX5_readLoss_43 : decode cX5_readLoss 43 = .ok (.invokevirtual 88, 3) := by decide +kernel
theorem dX5_readLoss_46 : decode cX5_readLoss 46 = .ok (.return_, 1) := by decide +kernel
theorem dX5_readLoss_47 : decode cX5_readLoss 47 = .ok (.aload_n 0, 1) := by decide +kernel
theorem dX5_readLoss_48 : decode cX5_readLoss 48 = .ok (.getfield 12, 3) := by decide +kernel
theorem dX5_readLoss_51 : decode cX5_readLoss 51 = .ok (.iload_n 1, 1) := by decide +kernel
theorem dX5_readLoss_52 : decode cX5_readLoss 52 = .ok (.putfield 108, 3) := by decide +kernel
theorem dX5_readLoss_55 : decode cX5_readLoss 55 = .ok (.aload_n 0, 1) := by decide +kernel
theorem dX5_readLoss_56 : decode cX5_readLoss 56 = .ok (.invokevirtual 99, 3) := by decide +kernel
theorem dX5_readLoss_59 : decode cX5_readLoss 59 = .ok (.return_, 1) := by decide +kernel
theorem dX5_finishRule_0 : decode cX5_finishRule 0 = .ok (.aload_n 0, 1) := by decide +kernel
theorem dX5_finishRule_1 : decode cX5_finishRule 1 = .ok (.invokevirtual 32, 3) := by decide +kernel
theorem dX5_finishRule_4 : decode cX5_finishRule 4 = .ok (.aload_n 0, 1) := by decide +kernel
theorem dX5_finishRule_5 : decode cX5_finishRule 5 = .ok (.getfield 35, 3) := by decide +kernel
theorem dX5_finishRule_8 : decode cX5_finishRule 8 = .ok (.iconst 3, 1) := by decide +kernel
theorem dX5_finishRule_9 : decode cX5_finishRule 9 = .ok (.if_icmp .ne 19, 3) := by decide +kernel
theorem dX5_finishRule_12 : decode cX5_finishRule 12 = .ok (.aload_n 0, 1) := by decide +kernel
theorem dX5_finishRule_13 : decode cX5_finishRule 13 = .ok (.getfield 12, 3) := by decide +kernel
theorem dX5_finishRule_16 : decode cX5_finishRule 16 = .ok (.dup, 1) := by decide +kernel
theorem dX5_finishRule_17 : decode cX5_finishRule 17 = .ok (.getfield 111, 3) := by decide +kernel
theorem dX5_finishRule_20 : decode cX5_finishRule 20 = .ok (.iconst 1, 1) := by decide +kernel
theorem dX5_finishRule_21 : decode cX5_finishRule 21 = .ok (.iadd, 1) := by decide +kernel
theorem dX5_finishRule_22 : decode cX5_finishRule 22 = .ok (.putfield 111, 3) := by decide +kernel
theorem dX5_finishRule_25 : decode cX5_finishRule 25 = .ok (.goto 7, 3) := by decide +kernel
theorem dX5_finishRule_28 : decode cX5_finishRule 28 = .ok (.aload_n 0, 1) := by decide +kernel
theorem dX5_finishRule_29 : decode cX5_finishRule 29 = .ok (.invokevirtual 88, 3) := by decide +kernel
theorem dX5_finishRule_32 : decode cX5_finishRule 32 = .ok (.return_, 1) := by decide +kernel
theorem dX5_takeNumber_0 : decode cX5_takeNumber 0 = .ok (.aload_n 0, 1) := by decide +kernel
theorem dX5_takeNumber_1 : decode cX5_takeNumber 1 = .ok (.invokevirtual 32, 3) := by decide +kernel
theorem dX5_takeNumber_4 : decode cX5_takeNumber 4 = .ok (.aload_n 0, 1) := by decide +kernel
theorem dX5_takeNumber_5 : decode cX5_takeNumber 5 = .ok (.getfield 35, 3) := by decide +kernel
theorem dX5_takeNumber_8 : decode cX5_takeNumber 8 = .ok (.iconst 2, 1) := by decide +kernel
theorem dX5_takeNumber_9 : decode cX5_takeNumber 9 = .ok (.if_icmp .eq 9, 3) := by decide +kernel
theorem dX5_takeNumber_12 : decode cX5_takeNumber 12 = .ok (.aload_n 0, 1) := by decide +kernel
theorem dX5_takeNumber_13 : decode cX5_takeNumber 13 = .ok (.invokevirtual 88, 3) := by decide +kernel
theorem dX5_takeNumber_16 : decode cX5_takeNumber 16 = .ok (.iconst (-1), 1) := by decide +kernel
theorem dX5_takeNumber_17 : decode cX5_takeNumber 17 = .ok (.ireturn, 1) := by decide +kernel
theorem dX5_takeNumber_18 : decode cX5_takeNumber 18 = .ok (.iconst 0, 1) := by decide +kernel
theorem dX5_takeNumber_19 : decode cX5_takeNumber 19 = .ok (.istore_n 2, 1) := by decide +kernel
theorem dX5_takeNumber_20 : decode cX5_takeNumber 20 = .ok (.aload_n 0, 1) := by decide +kernel
theorem dX5_takeNumber_21 : decode cX5_takeNumber 21 = .ok (.getfield 114, 3) := by decide +kernel
theorem dX5_takeNumber_24 : decode cX5_takeNumber 24 = .ok (.istore_n 3, 1) := by decide +kernel
theorem dX5_takeNumber_25 : decode cX5_takeNumber 25 = .ok (.iload_n 3, 1) := by decide +kernel
theorem dX5_takeNumber_26 : decode cX5_takeNumber 26 = .ok (.aload_n 0, 1) := by decide +kernel
theorem dX5_takeNumber_27 : decode cX5_takeNumber 27 = .ok (.getfield 55, 3) := by decide +kernel
theorem dX5_takeNumber_30 : decode cX5_takeNumber 30 = .ok (.if_icmp .ge 26, 3) := by decide +kernel
theorem dX5_takeNumber_33 : decode cX5_takeNumber 33 = .ok (.iload_n 2, 1) := by decide +kernel
theorem dX5_takeNumber_34 : decode cX5_takeNumber 34 = .ok (.bipush 10, 2) := by decide +kernel
theorem dX5_takeNumber_36 : decode cX5_takeNumber 36 = .ok (.imul, 1) := by decide +kernel
theorem dX5_takeNumber_37 : decode cX5_takeNumber 37 = .ok (.aload_n 0, 1) := by decide +kernel
theorem dX5_takeNumber_38 : decode cX5_takeNumber 38 = .ok (.getfield 25, 3) := by decide +kernel
theorem dX5_takeNumber_41 : decode cX5_takeNumber 41 = .ok (.iload_n 3, 1) := by decide +kernel
theorem dX5_takeNumber_42 : decode cX5_takeNumber 42 = .ok (.invokevirtual 117, 3) := by decide +kernel
theorem dX5_takeNumber_45 : decode cX5_takeNumber 45 = .ok (.iadd, 1) := by decide +kernel
theorem dX5_takeNumber_46 : decode cX5_takeNumber 46 = .ok (.bipush 48, 2) := by decide +kernel
theorem dX5_takeNumber_48 : decode cX5_takeNumber 48 = .ok (.isub, 1) := by decide +kernel
theorem dX5_takeNumber_49 : decode cX5_takeNumber 49 = .ok (.istore_n 2, 1) := by decide +kernel
theorem dX5_takeNumber_50 : decode cX5_takeNumber 50 = .ok (.iinc 3 1, 3) := by decide +kernel
theorem dX5_takeNumber_53 : decode cX5_takeNumber 53 = .ok (.goto (-28), 3) := by decide +kernel
theorem dX5_takeNumber_56 : decode cX5_takeNumber 56 = .ok (.iload_n 2, 1) := by decide +kernel
theorem dX5_takeNumber_57 : decode cX5_takeNumber 57 = .ok (.iload_n 1, 1) := by decide +kernel
theorem dX5_takeNumber_58 : decode cX5_takeNumber 58 = .ok (.if_icmp .le 10, 3) := by decide +kernel
theorem dX5_takeNumber_61 : decode cX5_takeNumber 61 = .ok (.aload_n 0, 1) := by decide +kernel
theorem dX5_takeNumber_62 : decode cX5_takeNumber 62 = .ok (.iconst 3, 1) := by decide +kernel
theorem dX5_takeNumber_63 : decode cX5_takeNumber 63 = .ok (.invokevirtual 95, 3) := by decide +kernel
theorem dX5_takeNumber_66 : decode cX5_takeNumber 66 = .ok (.iconst (-1), 1) := by decide +kernel
theorem dX5_takeNumber_67 : decode cX5_takeNumber 67 = .ok (.ireturn, 1) := by decide +kernel
theorem dX5_takeNumber_68 : decode cX5_takeNumber 68 = .ok (.iload_n 2, 1) := by decide +kernel
theorem dX5_takeNumber_69 : decode cX5_takeNumber 69 = .ok (.ireturn, 1) := by decide +kernel
theorem dX5_refuseToken_0 : decode cX5_refuseToken 0 = .ok (.aload_n 0, 1) := by decide +kernel
theorem dX5_refuseToken_1 : decode cX5_refuseToken 1 = .ok (.aload_n 0, 1) := by decide +kernel
theorem dX5_refuseToken_2 : decode cX5_refuseToken 2 = .ok (.getfield 35, 3) := by decide +kernel
theorem dX5_refuseToken_5 : decode cX5_refuseToken 5 = .ok (.iconst 4, 1) := by decide +kernel
theorem dX5_refuseToken_6 : decode cX5_refuseToken 6 = .ok (.if_icmp .ne 7, 3) := by decide +kernel
theorem dX5_refuseToken_9 : decode cX5_refuseToken 9 = .ok (.iconst 1, 1) := by decide +kernel
theorem dX5_refuseToken_10 : decode cX5_refuseToken 10 = .ok (.goto 4, 3) := by decide +kernel
theorem dX5_refuseToken_13 : decode cX5_refuseToken 13 = .ok (.iconst 2, 1) := by decide +kernel
theorem dX5_refuseToken_14 : decode cX5_refuseToken 14 = .ok (.invokevirtual 95, 3) := by decide +kernel
theorem dX5_refuseToken_17 : decode cX5_refuseToken 17 = .ok (.return_, 1) := by decide +kernel
theorem dX5_refuse_0 : decode cX5_refuse 0 = .ok (.aload_n 0, 1) := by decide +kernel
theorem dX5_refuse_1 : decode cX5_refuse 1 = .ok (.iload_n 1, 1) := by decide +kernel
theorem dX5_refuse_2 : decode cX5_refuse 2 = .ok (.putfield 39, 3) := by decide +kernel
theorem dX5_refuse_5 : decode cX5_refuse 5 = .ok (.aload_n 0, 1) := by decide +kernel
theorem dX5_refuse_6 : decode cX5_refuse 6 = .ok (.aload_n 0, 1) := by decide +kernel
theorem dX5_refuse_7 : decode cX5_refuse 7 = .ok (.getfield 114, 3) := by decide +kernel
theorem dX5_refuse_10 : decode cX5_refuse 10 = .ok (.putfield 58, 3) := by decide +kernel
theorem dX5_refuse_13 : decode cX5_refuse 13 = .ok (.return_, 1) := by decide +kernel
theorem dX5_step_0 : decode cX5_step 0 = .ok (.aload_n 0, 1) := by decide +kernel
theorem dX5_step_1 : decode cX5_step 1 = .ok (.aload_n 0, 1) := by decide +kernel
theorem dX5_step_2 : decode cX5_step 2 = .ok (.getfield 55, 3) := by decide +kernel
theorem dX5_step_5 : decode cX5_step 5 = .ok (.putfield 114, 3) := by decide +kernel
theorem dX5_step_8 : decode cX5_step 8 = .ok (.aload_n 0, 1) := by decide +kernel
theorem dX5_step_9 : decode cX5_step 9 = .ok (.getfield 114, 3) := by decide +kernel
theorem dX5_step_12 : decode cX5_step 12 = .ok (.aload_n 0, 1) := by decide +kernel
theorem dX5_step_13 : decode cX5_step 13 = .ok (.getfield 25, 3) := by decide +kernel
theorem dX5_step_16 : decode cX5_step 16 = .ok (.getfield 122, 3) := by decide +kernel
theorem dX5_step_19 : decode cX5_step 19 = .ok (.if_icmp .ge 33, 3) := by decide +kernel
theorem dX5_step_22 : decode cX5_step 22 = .ok (.aload_n 0, 1) := by decide +kernel
theorem dX5_step_23 : decode cX5_step 23 = .ok (.getfield 25, 3) := by decide +kernel
theorem dX5_step_26 : decode cX5_step 26 = .ok (.aload_n 0, 1) := by decide +kernel
theorem dX5_step_27 : decode cX5_step 27 = .ok (.getfield 114, 3) := by decide +kernel
theorem dX5_step_30 : decode cX5_step 30 = .ok (.invokevirtual 117, 3) := by decide +kernel
theorem dX5_step_33 : decode cX5_step 33 = .ok (.invokestatic 125, 3) := by decide +kernel
theorem dX5_step_36 : decode cX5_step 36 = .ok (.ifCond .eq 16, 3) := by decide +kernel
theorem dX5_step_39 : decode cX5_step 39 = .ok (.aload_n 0, 1) := by decide +kernel
theorem dX5_step_40 : decode cX5_step 40 = .ok (.dup, 1) := by decide +kernel
theorem dX5_step_41 : decode cX5_step 41 = .ok (.getfield 114, 3) := by decide +kernel
theorem dX5_step_44 : decode cX5_step 44 = .ok (.iconst 1, 1) := by decide +kernel
theorem dX5_step_45 : decode cX5_step 45 = .ok (.iadd, 1) := by decide +kernel
theorem dX5_step_46 : decode cX5_step 46 = .ok (.putfield 114, 3) := by decide +kernel
theorem dX5_step_49 : decode cX5_step 49 = .ok (.goto (-41), 3) := by decide +kernel
theorem dX5_step_52 : decode cX5_step 52 = .ok (.aload_n 0, 1) := by decide +kernel
theorem dX5_step_53 : decode cX5_step 53 = .ok (.getfield 25, 3) := by decide +kernel
theorem dX5_step_56 : decode cX5_step 56 = .ok (.aload_n 0, 1) := by decide +kernel
theorem dX5_step_57 : decode cX5_step 57 = .ok (.getfield 114, 3) := by decide +kernel
theorem dX5_step_60 : decode cX5_step 60 = .ok (.invokevirtual 117, 3) := by decide +kernel
theorem dX5_step_63 : decode cX5_step 63 = .ok (.istore_n 1, 1) := by decide +kernel
theorem dX5_step_64 : decode cX5_step 64 = .ok (.aload_n 0, 1) := by decide +kernel
theorem dX5_step_65 : decode cX5_step 65 = .ok (.getfield 114, 3) := by decide +kernel
theorem dX5_step_68 : decode cX5_step 68 = .ok (.aload_n 0, 1) := by decide +kernel
theorem dX5_step_69 : decode cX5_step 69 = .ok (.getfield 25, 3) := by decide +kernel
theorem dX5_step_72 : decode cX5_step 72 = .ok (.getfield 122, 3) := by decide +kernel
theorem dX5_step_75 : decode cX5_step 75 = .ok (.if_icmp .lt 19, 3) := by decide +kernel
theorem dX5_step_78 : decode cX5_step 78 = .ok (.aload_n 0, 1) := by decide +kernel
theorem dX5_step_79 : decode cX5_step 79 = .ok (.iconst 0, 1) := by decide +kernel
theorem dX5_step_80 : decode cX5_step 80 = .ok (.putfield 35, 3) := by decide +kernel
theorem dX5_step_83 : decode cX5_step 83 = .ok (.aload_n 0, 1) := by decide +kernel
theorem dX5_step_84 : decode cX5_step 84 = .ok (.aload_n 0, 1) := by decide +kernel
theorem dX5_step_85 : decode cX5_step 85 = .ok (.getfield 114, 3) := by decide +kernel
theorem dX5_step_88 : decode cX5_step 88 = .ok (.putfield 55, 3) := by decide +kernel
theorem dX5_step_91 : decode cX5_step 91 = .ok (.goto 49, 3) := by decide +kernel
theorem dX5_step_94 : decode cX5_step 94 = .ok (.iload_n 1, 1) := by decide +kernel
theorem dX5_step_95 : decode cX5_step 95 = .ok (.invokestatic 129, 3) := by decide +kernel
theorem dX5_step_98 : decode cX5_step 98 = .ok (.ifCond .ne 10, 3) := by decide +kernel
theorem dX5_step_101 : decode cX5_step 101 = .ok (.iload_n 1, 1) := by decide +kernel
theorem dX5_step_102 : decode cX5_step 102 = .ok (.invokestatic 132, 3) := by decide +kernel
theorem dX5_step_105 : decode cX5_step 105 = .ok (.ifCond .eq 10, 3) := by decide +kernel
theorem dX5_step_108 : decode cX5_step 108 = .ok (.aload_n 0, 1) := by decide +kernel
theorem dX5_step_109 : decode cX5_step 109 = .ok (.invokevirtual 135, 3) := by decide +kernel
theorem dX5_step_112 : decode cX5_step 112 = .ok (.goto 28, 3) := by decide +kernel
theorem dX5_step_115 : decode cX5_step 115 = .ok (.aload_n 0, 1) := by decide +kernel
theorem dX5_step_116 : decode cX5_step 116 = .ok (.iload_n 1, 1) := by decide +kernel
theorem dX5_step_117 : decode cX5_step 117 = .ok (.bipush 59, 2) := by decide +kernel
theorem dX5_step_119 : decode cX5_step 119 = .ok (.if_icmp .ne 7, 3) := by decide +kernel
theorem dX5_step_122 : decode cX5_step 122 = .ok (.iconst 3, 1) := by decide +kernel
theorem dX5_step_123 : decode cX5_step 123 = .ok (.goto 4, 3) := by decide +kernel
theorem dX5_step_126 : decode cX5_step 126 = .ok (.iconst 4, 1) := by decide +kernel
theorem dX5_step_127 : decode cX5_step 127 = .ok (.putfield 35, 3) := by decide +kernel
theorem dX5_step_130 : decode cX5_step 130 = .ok (.aload_n 0, 1) := by decide +kernel
theorem dX5_step_131 : decode cX5_step 131 = .ok (.aload_n 0, 1) := by decide +kernel
theorem dX5_step_132 : decode cX5_step 132 = .ok (.getfield 114, 3) := by decide +kernel
theorem dX5_step_135 : decode cX5_step 135 = .ok (.iconst 1, 1) := by decide +kernel
theorem dX5_step_136 : decode cX5_step 136 = .ok (.iadd, 1) := by decide +kernel
theorem dX5_step_137 : decode cX5_step 137 = .ok (.putfield 55, 3) := by decide +kernel
theorem dX5_step_140 : decode cX5_step 140 = .ok (.return_, 1) := by decide +kernel
theorem dX5_stepOverRun_0 : decode cX5_stepOverRun 0 = .ok (.iconst 0, 1) := by decide +kernel
theorem dX5_stepOverRun_1 : decode cX5_stepOverRun 1 = .ok (.istore_n 1, 1) := by decide +kernel
theorem dX5_stepOverRun_2 : decode cX5_stepOverRun 2 = .ok (.iconst 0, 1) := by decide +kernel
theorem dX5_stepOverRun_3 : decode cX5_stepOverRun 3 = .ok (.istore_n 2, 1) := by decide +kernel
theorem dX5_stepOverRun_4 : decode cX5_stepOverRun 4 = .ok (.aload_n 0, 1) := by decide +kernel
theorem dX5_stepOverRun_5 : decode cX5_stepOverRun 5 = .ok (.aload_n 0, 1) := by decide +kernel
theorem dX5_stepOverRun_6 : decode cX5_stepOverRun 6 = .ok (.getfield 114, 3) := by decide +kernel
theorem dX5_stepOverRun_9 : decode cX5_stepOverRun 9 = .ok (.putfield 55, 3) := by decide +kernel
theorem dX5_stepOverRun_12 : decode cX5_stepOverRun 12 = .ok (.aload_n 0, 1) := by decide +kernel
theorem dX5_stepOverRun_13 : decode cX5_stepOverRun 13 = .ok (.getfield 55, 3) := by decide +kernel
theorem dX5_stepOverRun_16 : decode cX5_stepOverRun 16 = .ok (.aload_n 0, 1) := by decide +kernel
theorem dX5_stepOverRun_17 : decode cX5_stepOverRun 17 = .ok (.getfield 25, 3) := by decide +kernel
theorem dX5_stepOverRun_20 : decode cX5_stepOverRun 20 = .ok (.getfield 122, 3) := by decide +kernel
theorem dX5_stepOverRun_23 : decode cX5_stepOverRun 23 = .ok (.if_icmp .ge 76, 3) := by decide +kernel
theorem dX5_stepOverRun_26 : decode cX5_stepOverRun 26 = .ok (.aload_n 0, 1) := by decide +kernel
theorem dX5_stepOverRun_27 : decode cX5_stepOverRun 27 = .ok (.getfield 25, 3) := by decide +kernel
theorem dX5_stepOverRun_30 : decode cX5_stepOverRun 30 = .ok (.aload_n 0, 1) := by decide +kernel
theorem dX5_stepOverRun_31 : decode cX5_stepOverRun 31 = .ok (.getfield 55, 3) := by decide +kernel
theorem dX5_stepOverRun_34 : decode cX5_stepOverRun 34 = .ok (.invokevirtual 117, 3) := by decide +kernel
theorem dX5_stepOverRun_37 : decode cX5_stepOverRun 37 = .ok (.invokestatic 129, 3) := by decide +kernel
theorem dX5_stepOverRun_40 : decode cX5_stepOverRun 40 = .ok (.ifCond .ne 20, 3) := by decide +kernel
theorem dX5_stepOverRun_43 : decode cX5_stepOverRun 43 = .ok (.aload_n 0, 1) := by decide +kernel
theorem dX5_stepOverRun_44 : decode cX5_stepOverRun 44 = .ok (.getfield 25, 3) := by decide +kernel
theorem dX5_stepOverRun_47 : decode cX5_stepOverRun 47 = .ok (.aload_n 0, 1) := by decide +kernel
theorem dX5_stepOverRun_48 : decode cX5_stepOverRun 48 = .ok (.getfield 55, 3) := by decide +kernel
theorem dX5_stepOverRun_51 : decode cX5_stepOverRun 51 = .ok (.invokevirtual 117, 3) := by decide +kernel
theorem dX5_stepOverRun_54 : decode cX5_stepOverRun 54 = .ok (.invokestatic 132, 3) := by decide +kernel
theorem dX5_stepOverRun_57 : decode cX5_stepOverRun 57 = .ok (.ifCond .eq 42, 3) := by decide +kernel
theorem dX5_stepOverRun_60 : decode cX5_stepOverRun 60 = .ok (.aload_n 0, 1) := by decide +kernel
theorem dX5_stepOverRun_61 : decode cX5_stepOverRun 61 = .ok (.getfield 25, 3) := by decide +kernel
theorem dX5_stepOverRun_64 : decode cX5_stepOverRun 64 = .ok (.aload_n 0, 1) := by decide +kernel
theorem dX5_stepOverRun_65 : decode cX5_stepOverRun 65 = .ok (.getfield 55, 3) := by decide +kernel
theorem dX5_stepOverRun_68 : decode cX5_stepOverRun 68 = .ok (.invokevirtual 117, 3) := by decide +kernel
theorem dX5_stepOverRun_71 : decode cX5_stepOverRun 71 = .ok (.invokestatic 129, 3) := by decide +kernel
theorem dX5_stepOverRun_74 : decode cX5_stepOverRun 74 = .ok (.ifCond .eq 9, 3) := by decide +kernel
theorem dX5_stepOverRun_77 : decode cX5_stepOverRun 77 = .ok (.iinc 1 1, 3) := by decide +kernel
theorem dX5_stepOverRun_80 : decode cX5_stepOverRun 80 = .ok (.goto 6, 3) := by decide +kernel
theorem dX5_stepOverRun_83 : decode cX5_stepOverRun 83 = .ok (.iinc 2 1, 3) := by decide +kernel
theorem dX5_stepOverRun_86 : decode cX5_stepOverRun 86 = .ok (.aload_n 0, 1) := by decide +kernel
theorem dX5_stepOverRun_87 : decode cX5_stepOverRun 87 = .ok (.dup, 1) := by decide +kernel
theorem dX5_stepOverRun_88 : decode cX5_stepOverRun 88 = .ok (.getfield 55, 3) := by decide +kernel
theorem dX5_stepOverRun_91 : decode cX5_stepOverRun 91 = .ok (.iconst 1, 1) := by decide +kernel
theorem dX5_stepOverRun_92 : decode cX5_stepOverRun 92 = .ok (.iadd, 1) := by decide +kernel
theorem dX5_stepOverRun_93 : decode cX5_stepOverRun 93 = .ok (.putfield 55, 3) := by decide +kernel
theorem dX5_stepOverRun_96 : decode cX5_stepOverRun 96 = .ok (.goto (-84), 3) := by decide +kernel
theorem dX5_stepOverRun_99 : decode cX5_stepOverRun 99 = .ok (.iload_n 2, 1) := by decide +kernel
theorem dX5_stepOverRun_100 : decode cX5_stepOverRun 100 = .ok (.ifCond .ne 11, 3) := by decide +kernel
theorem dX5_stepOverRun_103 : decode cX5_stepOverRun 103 = .ok (.aload_n 0, 1) := by decide +kernel
theorem dX5_stepOverRun_104 : decode cX5_stepOverRun 104 = .ok (.iconst 1, 1) := by decide +kernel
theorem dX5_stepOverRun_105 : decode cX5_stepOverRun 105 = .ok (.putfield 35, 3) := by decide +kernel
theorem dX5_stepOverRun_108 : decode cX5_stepOverRun 108 = .ok (.goto 21, 3) := by decide +kernel
theorem dX5_stepOverRun_111 : decode cX5_stepOverRun 111 = .ok (.aload_n 0, 1) := by decide +kernel
theorem dX5_stepOverRun_112 : decode cX5_stepOverRun 112 = .ok (.iload_n 1, 1) := by decide +kernel
theorem dX5_stepOverRun_113 : decode cX5_stepOverRun 113 = .ok (.ifCond .ne 12, 3) := by decide +kernel
theorem dX5_stepOverRun_116 : decode cX5_stepOverRun 116 = .ok (.iload_n 2, 1) := by decide +kernel
theorem dX5_stepOverRun_117 : decode cX5_stepOverRun 117 = .ok (.iconst 4, 1) := by decide +kernel
theorem dX5_stepOverRun_118 : decode cX5_stepOverRun 118 = .ok (.if_icmp .gt 7, 3) := by decide +kernel
theorem dX5_stepOverRun_121 : decode cX5_stepOverRun 121 = .ok (.iconst 2, 1) := by decide +kernel
theorem dX5_stepOverRun_122 : decode cX5_stepOverRun 122 = .ok (.goto 4, 3) := by decide +kernel
theorem dX5_stepOverRun_125 : decode cX5_stepOverRun 125 = .ok (.iconst 4, 1) := by decide +kernel
theorem dX5_stepOverRun_126 : decode cX5_stepOverRun 126 = .ok (.putfield 35, 3) := by decide +kernel
theorem dX5_stepOverRun_129 : decode cX5_stepOverRun 129 = .ok (.return_, 1) := by decide +kernel
theorem dX5_isWord_0 : decode cX5_isWord 0 = .ok (.aload_n 0, 1) := by decide +kernel
theorem dX5_isWord_1 : decode cX5_isWord 1 = .ok (.getfield 35, 3) := by decide +kernel
theorem dX5_isWord_4 : decode cX5_isWord 4 = .ok (.iconst 1, 1) := by decide +kernel
theorem dX5_isWord_5 : decode cX5_isWord 5 = .ok (.if_icmp .ne 19, 3) := by decide +kernel
theorem dX5_isWord_8 : decode cX5_isWord 8 = .ok (.aload_n 0, 1) := by decide +kernel
theorem dX5_isWord_9 : decode cX5_isWord 9 = .ok (.getfield 55, 3) := by decide +kernel
theorem dX5_isWord_12 : decode cX5_isWord 12 = .ok (.aload_n 0, 1) := by decide +kernel
theorem dX5_isWord_13 : decode cX5_isWord 13 = .ok (.getfield 114, 3) := by decide +kernel
theorem dX5_isWord_16 : decode cX5_isWord 16 = .ok (.isub, 1) := by decide +kernel
theorem dX5_isWord_17 : decode cX5_isWord 17 = .ok (.aload_n 1, 1) := by decide +kernel
theorem dX5_isWord_18 : decode cX5_isWord 18 = .ok (.invokevirtual 138, 3) := by decide +kernel
theorem dX5_isWord_21 : decode cX5_isWord 21 = .ok (.if_icmp .eq 5, 3) := by decide +kernel
theorem dX5_isWord_24 : decode cX5_isWord 24 = .ok (.iconst 0, 1) := by decide +kernel
theorem dX5_isWord_25 : decode cX5_isWord 25 = .ok (.ireturn, 1) := by decide +kernel
theorem dX5_isWord_26 : decode cX5_isWord 26 = .ok (.iconst 0, 1) := by decide +kernel
theorem dX5_isWord_27 : decode cX5_isWord 27 = .ok (.istore_n 2, 1) := by decide +kernel
theorem dX5_isWord_28 : decode cX5_isWord 28 = .ok (.iload_n 2, 1) := by decide +kernel
theorem dX5_isWord_29 : decode cX5_isWord 29 = .ok (.aload_n 1, 1) := by decide +kernel
theorem dX5_isWord_30 : decode cX5_isWord 30 = .ok (.invokevirtual 138, 3) := by decide +kernel
theorem dX5_isWord_33 : decode cX5_isWord 33 = .ok (.if_icmp .ge 32, 3) := by decide +kernel
theorem dX5_isWord_36 : decode cX5_isWord 36 = .ok (.aload_n 0, 1) := by decide +kernel
theorem dX5_isWord_37 : decode cX5_isWord 37 = .ok (.getfield 25, 3) := by decide +kernel
theorem dX5_isWord_40 : decode cX5_isWord 40 = .ok (.aload_n 0, 1) := by decide +kernel
theorem dX5_isWord_41 : decode cX5_isWord 41 = .ok (.getfield 114, 3) := by decide +kernel
theorem dX5_isWord_44 : decode cX5_isWord 44 = .ok (.iload_n 2, 1) := by decide +kernel
theorem dX5_isWord_45 : decode cX5_isWord 45 = .ok (.iadd, 1) := by decide +kernel
theorem dX5_isWord_46 : decode cX5_isWord 46 = .ok (.invokevirtual 117, 3) := by decide +kernel
theorem dX5_isWord_49 : decode cX5_isWord 49 = .ok (.aload_n 1, 1) := by decide +kernel
theorem dX5_isWord_50 : decode cX5_isWord 50 = .ok (.iload_n 2, 1) := by decide +kernel
theorem dX5_isWord_51 : decode cX5_isWord 51 = .ok (.invokevirtual 144, 3) := by decide +kernel
theorem dX5_isWord_54 : decode cX5_isWord 54 = .ok (.if_icmp .eq 5, 3) := by decide +kernel
theorem dX5_isWord_57 : decode cX5_isWord 57 = .ok (.iconst 0, 1) := by decide +kernel
theorem dX5_isWord_58 : decode cX5_isWord 58 = .ok (.ireturn, 1) := by decide +kernel
theorem dX5_isWord_59 : decode cX5_isWord 59 = .ok (.iinc 2 1, 3) := by decide +kernel
theorem dX5_isWord_62 : decode cX5_isWord 62 = .ok (.goto (-34), 3) := by decide +kernel
theorem dX5_isWord_65 : decode cX5_isWord 65 = .ok (.iconst 1, 1) := by decide +kernel
theorem dX5_isWord_66 : decode cX5_isWord 66 = .ok (.ireturn, 1) := by decide +kernel
theorem dX5_isBlank_0 : decode cX5_isBlank 0 = .ok (.iload_n 0, 1) := by decide +kernel
theorem dX5_isBlank_1 : decode cX5_isBlank 1 = .ok (.bipush 32, 2) := by decide +kernel
theorem dX5_isBlank_3 : decode cX5_isBlank 3 = .ok (.if_icmp .eq 9, 3) := by decide +kernel
theorem dX5_isBlank_6 : decode cX5_isBlank 6 = .ok (.iload_n 0, 1) := by decide +kernel
theorem dX5_isBlank_7 : decode cX5_isBlank 7 = .ok (.bipush 10, 2) := by decide +kernel
theorem dX5_isBlank_9 : decode cX5_isBlank 9 = .ok (.if_icmp .ne 7, 3) := by decide +kernel
theorem dX5_isBlank_12 : decode cX5_isBlank 12 = .ok (.iconst 1, 1) := by decide +kernel
theorem dX5_isBlank_13 : decode cX5_isBlank 13 = .ok (.goto 4, 3) := by decide +kernel
theorem dX5_isBlank_16 : decode cX5_isBlank 16 = .ok (.iconst 0, 1) := by decide +kernel
theorem dX5_isBlank_17 : decode cX5_isBlank 17 = .ok (.ireturn, 1) := by decide +kernel
theorem dX5_isLetter_0 : decode cX5_isLetter 0 = .ok (.iload_n 0, 1) := by decide +kernel
theorem dX5_isLetter_1 : decode cX5_isLetter 1 = .ok (.bipush 97, 2) := by decide +kernel
theorem dX5_isLetter_3 : decode cX5_isLetter 3 = .ok (.if_icmp .lt 13, 3) := by decide +kernel
theorem dX5_isLetter_6 : decode cX5_isLetter 6 = .ok (.iload_n 0, 1) := by decide +kernel
theorem dX5_isLetter_7 : decode cX5_isLetter 7 = .ok (.bipush 122, 2) := by decide +kernel
theorem dX5_isLetter_9 : decode cX5_isLetter 9 = .ok (.if_icmp .gt 7, 3) := by decide +kernel
theorem dX5_isLetter_12 : decode cX5_isLetter 12 = .ok (.iconst 1, 1) := by decide +kernel
theorem dX5_isLetter_13 : decode cX5_isLetter 13 = .ok (.goto 4, 3) := by decide +kernel
theorem dX5_isLetter_16 : decode cX5_isLetter 16 = .ok (.iconst 0, 1) := by decide +kernel
theorem dX5_isLetter_17 : decode cX5_isLetter 17 = .ok (.ireturn, 1) := by decide +kernel
theorem dX5_isDigit_0 : decode cX5_isDigit 0 = .ok (.iload_n 0, 1) := by decide +kernel
theorem dX5_isDigit_1 : decode cX5_isDigit 1 = .ok (.bipush 48, 2) := by decide +kernel
theorem dX5_isDigit_3 : decode cX5_isDigit 3 = .ok (.if_icmp .lt 13, 3) := by decide +kernel
theorem dX5_isDigit_6 : decode cX5_isDigit 6 = .ok (.iload_n 0, 1) := by decide +kernel
theorem dX5_isDigit_7 : decode cX5_isDigit 7 = .ok (.bipush 57, 2) := by decide +kernel
theorem dX5_isDigit_9 : decode cX5_isDigit 9 = .ok (.if_icmp .gt 7, 3) := by decide +kernel
theorem dX5_isDigit_12 : decode cX5_isDigit 12 = .ok (.iconst 1, 1) := by decide +kernel
theorem dX5_isDigit_13 : decode cX5_isDigit 13 = .ok (.goto 4, 3) := by decide +kernel
theorem dX5_isDigit_16 : decode cX5_isDigit 16 = .ok (.iconst 0, 1) := by decide +kernel
theorem dX5_isDigit_17 : decode cX5_isDigit 17 = .ok (.ireturn, 1) := by decide +kernel
theorem dX6_init_0 : decode cX6_init 0 = .ok (.aload_n 0, 1) := by decide +kernel
theorem dX6_init_1 : decode cX6_init 1 = .ok (.invokespecial 3, 3) := by decide +kernel
theorem dX6_init_4 : decode cX6_init 4 = .ok (.aload_n 0, 1) := by decide +kernel
theorem dX6_init_5 : decode cX6_init 5 = .ok (.iconst 4, 1) := by decide +kernel
theorem dX6_init_6 : decode cX6_init 6 = .ok (.newarray .int, 2) := by decide +kernel
theorem dX6_init_8 : decode cX6_init 8 = .ok (.putfield 9, 3) := by decide +kernel
theorem dX6_init_11 : decode cX6_init 11 = .ok (.aload_n 0, 1) := by decide +kernel
theorem dX6_init_12 : decode cX6_init 12 = .ok (.iconst 4, 1) := by decide +kernel
theorem dX6_init_13 : decode cX6_init 13 = .ok (.newarray .int, 2) := by decide +kernel
theorem dX6_init_15 : decode cX6_init 15 = .ok (.putfield 15, 3) := by decide +kernel
theorem dX6_init_18 : decode cX6_init 18 = .ok (.aload_n 0, 1) := by decide +kernel
theorem dX6_init_19 : decode cX6_init 19 = .ok (.invokevirtual 18, 3) := by decide +kernel
theorem dX6_init_22 : decode cX6_init 22 = .ok (.return_, 1) := by decide +kernel
theorem dX6_clear_0 : decode cX6_clear 0 = .ok (.iconst 0, 1) := by decide +kernel
theorem dX6_clear_1 : decode cX6_clear 1 = .ok (.istore_n 1, 1) := by decide +kernel
theorem dX6_clear_2 : decode cX6_clear 2 = .ok (.iload_n 1, 1) := by decide +kernel
theorem dX6_clear_3 : decode cX6_clear 3 = .ok (.iconst 4, 1) := by decide +kernel
theorem dX6_clear_4 : decode cX6_clear 4 = .ok (.if_icmp .ge 23, 3) := by decide +kernel
theorem dX6_clear_7 : decode cX6_clear 7 = .ok (.aload_n 0, 1) := by decide +kernel
theorem dX6_clear_8 : decode cX6_clear 8 = .ok (.getfield 9, 3) := by decide +kernel
theorem dX6_clear_11 : decode cX6_clear 11 = .ok (.iload_n 1, 1) := by decide +kernel
theorem dX6_clear_12 : decode cX6_clear 12 = .ok (.iconst 0, 1) := by decide +kernel
theorem dX6_clear_13 : decode cX6_clear 13 = .ok (.iastore, 1) := by decide +kernel
theorem dX6_clear_14 : decode cX6_clear 14 = .ok (.aload_n 0, 1) := by decide +kernel
theorem dX6_clear_15 : decode cX6_clear 15 = .ok (.getfield 15, 3) := by decide +kernel
theorem dX6_clear_18 : decode cX6_clear 18 = .ok (.iload_n 1, 1) := by decide +kernel
theorem dX6_clear_19 : decode cX6_clear 19 = .ok (.iconst 1, 1) := by decide +kernel
theorem dX6_clear_20 : decode cX6_clear 20 = .ok (.iastore, 1) := by decide +kernel
theorem dX6_clear_21 : decode cX6_clear 21 = .ok (.iinc 1 1, 3) := by decide +kernel
theorem dX6_clear_24 : decode cX6_clear 24 = .ok (.goto (-22), 3) := by decide +kernel
theorem dX6_clear_27 : decode cX6_clear 27 = .ok (.aload_n 0, 1) := by decide +kernel
theorem dX6_clear_28 : decode cX6_clear 28 = .ok (.iconst 0, 1) := by decide +kernel
theorem dX6_clear_29 : decode cX6_clear 29 = .ok (.putfield 21, 3) := by decide +kernel
theorem dX6_clear_32 : decode cX6_clear 32 = .ok (.aload_n 0, 1) := by decide +kernel
theorem dX6_clear_33 : decode cX6_clear 33 = .ok (.iconst 0, 1) := by decide +kernel
theorem dX6_clear_34 : decode cX6_clear 34 = .ok (.putfield 25, 3) := by decide +kernel
theorem dX6_clear_37 : decode cX6_clear 37 = .ok (.aload_n 0, 1) := by decide +kernel
theorem dX6_clear_38 : decode cX6_clear 38 = .ok (.iconst 0, 1) := by decide +kernel
theorem dX6_clear_39 : decode cX6_clear 39 = .ok (.putfield 29, 3) := by decide +kernel
theorem dX6_clear_42 : decode cX6_clear 42 = .ok (.return_, 1) := by decide +kernel
theorem dX6_copy_0 : decode cX6_copy 0 = .ok (.iconst 0, 1) := by decide +kernel
theorem dX6_copy_1 : decode cX6_copy 1 = .ok (.istore_n 2, 1) := by decide +kernel
theorem dX6_copy_2 : decode cX6_copy 2 = .ok (.iload_n 2, 1) := by decide +kernel
theorem dX6_copy_3 : decode cX6_copy 3 = .ok (.iconst 4, 1) := by decide +kernel
theorem dX6_copy_4 : decode cX6_copy 4 = .ok (.if_icmp .ge 33, 3) := by decide +kernel
theorem dX6_copy_7 : decode cX6_copy 7 = .ok (.aload_n 0, 1) := by decide +kernel
theorem dX6_copy_8 : decode cX6_copy 8 = .ok (.getfield 9, 3) := by decide +kernel
theorem dX6_copy_11 : decode cX6_copy 11 = .ok (.iload_n 2, 1) := by decide +kernel
theorem dX6_copy_12 : decode cX6_copy 12 = .ok (.aload_n 1, 1) := by decide +kernel
theorem dX6_copy_13 : decode cX6_copy 13 = .ok (.getfield 9, 3) := by decide +kernel
theorem dX6_copy_16 : decode cX6_copy 16 = .ok (.iload_n 2, 1) := by decide +kernel
theorem dX6_copy_17 : decode cX6_copy 17 = .ok (.iaload, 1) := by decide +kernel
theorem dX6_copy_18 : decode cX6_copy 18 = .ok (.iastore, 1) := by decide +kernel
theorem dX6_copy_19 : decode cX6_copy 19 = .ok (.aload_n 0, 1) := by decide +kernel
theorem dX6_copy_20 : decode cX6_copy 20 = .ok (.getfield 15, 3) := by decide +kernel
theorem dX6_copy_23 : decode cX6_copy 23 = .ok (.iload_n 2, 1) := by decide +kernel
theorem dX6_copy_24 : decode cX6_copy 24 = .ok (.aload_n 1, 1) := by decide +kernel
theorem dX6_copy_25 : decode cX6_copy 25 = .ok (.getfield 15, 3) := by decide +kernel
theorem dX6_copy_28 : decode cX6_copy 28 = .ok (.iload_n 2, 1) := by decide +kernel
theorem dX6_copy_29 : decode cX6_copy 29 = .ok (.iaload, 1) := by decide +kernel
theorem dX6_copy_30 : decode cX6_copy 30 = .ok (.iastore, 1) := by decide +kernel
theorem dX6_copy_31 : decode cX6_copy 31 = .ok (.iinc 2 1, 3) := by decide +kernel
theorem dX6_copy_34 : decode cX6_copy 34 = .ok (.goto (-32), 3) := by decide +kernel
theorem dX6_copy_37 : decode cX6_copy 37 = .ok (.aload_n 0, 1) := by decide +kernel
theorem dX6_copy_38 : decode cX6_copy 38 = .ok (.aload_n 1, 1) := by decide +kernel
theorem dX6_copy_39 : decode cX6_copy 39 = .ok (.getfield 21, 3) := by decide +kernel
theorem dX6_copy_42 : decode cX6_copy 42 = .ok (.putfield 21, 3) := by decide +kernel
theorem dX6_copy_45 : decode cX6_copy 45 = .ok (.aload_n 0, 1) := by decide +kernel
theorem dX6_copy_46 : decode cX6_copy 46 = .ok (.aload_n 1, 1) := by decide +kernel
theorem dX6_copy_47 : decode cX6_copy 47 = .ok (.getfield 25, 3) := by decide +kernel
theorem dX6_copy_50 : decode cX6_copy 50 = .ok (.putfield 25, 3) := by decide +kernel
theorem dX6_copy_53 : decode cX6_copy 53 = .ok (.aload_n 0, 1) := by decide +kernel
theorem dX6_copy_54 : decode cX6_copy 54 = .ok (.aload_n 1, 1) := by decide +kernel
theorem dX6_copy_55 : decode cX6_copy 55 = .ok (.getfield 29, 3) := by decide +kernel
theorem dX6_copy_58 : decode cX6_copy 58 = .ok (.putfield 29, 3) := by decide +kernel
theorem dX6_copy_61 : decode cX6_copy 61 = .ok (.return_, 1) := by decide +kernel
theorem dX7_init_0 : decode cX7_init 0 = .ok (.aload_n 0, 1) := by decide +kernel
theorem dX7_init_1 : decode cX7_init 1 = .ok (.invokespecial 3, 3) := by decide +kernel
theorem dX7_init_4 : decode cX7_init 4 = .ok (.aload_n 0, 1) := by decide +kernel
theorem dX7_init_5 : decode cX7_init 5 = .ok (.sipush 400, 3) := by decide +kernel
theorem dX7_init_8 : decode cX7_init 8 = .ok (.newarray .int, 2) := by decide +kernel
theorem dX7_init_10 : decode cX7_init 10 = .ok (.putfield 9, 3) := by decide +kernel
theorem dX7_init_13 : decode cX7_init 13 = .ok (.aload_n 0, 1) := by decide +kernel
theorem dX7_init_14 : decode cX7_init 14 = .ok (.sipush 400, 3) := by decide +kernel
theorem dX7_init_17 : decode cX7_init 17 = .ok (.newarray .int, 2) := by decide +kernel
theorem dX7_init_19 : decode cX7_init 19 = .ok (.putfield 15, 3) := by decide +kernel
theorem dX7_init_22 : decode cX7_init 22 = .ok (.aload_n 0, 1) := by decide +kernel
theorem dX7_init_23 : decode cX7_init 23 = .ok (.sipush 400, 3) := by decide +kernel
theorem dX7_init_26 : decode cX7_init 26 = .ok (.newarray .int, 2) := by decide +kernel
theorem dX7_init_28 : decode cX7_init 28 = .ok (.putfield 18, 3) := by decide +kernel
theorem dX7_init_31 : decode cX7_init 31 = .ok (.aload_n 0, 1) := by decide +kernel
theorem dX7_init_32 : decode cX7_init 32 = .ok (.sipush 400, 3) := by decide +kernel
theorem dX7_init_35 : decode cX7_init 35 = .ok (.newarray .int, 2) := by decide +kernel
theorem dX7_init_37 : decode cX7_init 37 = .ok (.putfield 21, 3) := by decide +kernel
theorem dX7_init_40 : decode cX7_init 40 = .ok (.aload_n 0, 1) := by decide +kernel
theorem dX7_init_41 : decode cX7_init 41 = .ok (.sipush 400, 3) := by decide +kernel
theorem dX7_init_44 : decode cX7_init 44 = .ok (.newarray .int, 2) := by decide +kernel
theorem dX7_init_46 : decode cX7_init 46 = .ok (.putfield 24, 3) := by decide +kernel
theorem dX7_init_49 : decode cX7_init 49 = .ok (.aload_n 0, 1) := by decide +kernel
theorem dX7_init_50 : decode cX7_init 50 = .ok (.sipush 400, 3) := by decide +kernel
theorem dX7_init_53 : decode cX7_init 53 = .ok (.newarray .int, 2) := by decide +kernel
theorem dX7_init_55 : decode cX7_init 55 = .ok (.putfield 27, 3) := by decide +kernel
theorem dX7_init_58 : decode cX7_init 58 = .ok (.aload_n 0, 1) := by decide +kernel
theorem dX7_init_59 : decode cX7_init 59 = .ok (.sipush 400, 3) := by decide +kernel
theorem dX7_init_62 : decode cX7_init 62 = .ok (.newarray .int, 2) := by decide +kernel
theorem dX7_init_64 : decode cX7_init 64 = .ok (.putfield 30, 3) := by decide +kernel
theorem dX7_init_67 : decode cX7_init 67 = .ok (.aload_n 0, 1) := by decide +kernel
theorem dX7_init_68 : decode cX7_init 68 = .ok (.iconst 0, 1) := by decide +kernel
theorem dX7_init_69 : decode cX7_init 69 = .ok (.putfield 33, 3) := by decide +kernel
theorem dX7_init_72 : decode cX7_init 72 = .ok (.return_, 1) := by decide +kernel
theorem dX7_add_0 : decode cX7_add 0 = .ok (.aload_n 0, 1) := by decide +kernel
theorem dX7_add_1 : decode cX7_add 1 = .ok (.getfield 33, 3) := by decide +kernel
theorem dX7_add_4 : decode cX7_add 4 = .ok (.sipush 400, 3) := by decide +kernel
theorem dX7_add_7 : decode cX7_add 7 = .ok (.if_icmp .lt 5, 3) := by decide +kernel
theorem dX7_add_10 : decode cX7_add 10 = .ok (.iconst (-1), 1) := by decide +kernel
theorem dX7_add_11 : decode cX7_add 11 = .ok (.ireturn, 1) := by decide +kernel
theorem dX7_add_12 : decode cX7_add 12 = .ok (.aload_n 0, 1) := by decide +kernel
theorem dX7_add_13 : decode cX7_add 13 = .ok (.getfield 9, 3) := by decide +kernel
theorem dX7_add_16 : decode cX7_add 16 = .ok (.aload_n 0, 1) := by decide +kernel
theorem dX7_add_17 : decode cX7_add 17 = .ok (.getfield 33, 3) := by decide +kernel
theorem dX7_add_20 : decode cX7_add 20 = .ok (.iload_n 1, 1) := by decide +kernel
theorem dX7_add_21 : decode cX7_add 21 = .ok (.iastore, 1) := by decide +kernel
theorem dX7_add_22 : decode cX7_add 22 = .ok (.aload_n 0, 1) := by decide +kernel
theorem dX7_add_23 : decode cX7_add 23 = .ok (.getfield 15, 3) := by decide +kernel
theorem dX7_add_26 : decode cX7_add 26 = .ok (.aload_n 0, 1) := by decide +kernel
theorem dX7_add_27 : decode cX7_add 27 = .ok (.getfield 33, 3) := by decide +kernel
theorem dX7_add_30 : decode cX7_add 30 = .ok (.iload_n 2, 1) := by decide +kernel
theorem dX7_add_31 : decode cX7_add 31 = .ok (.iastore, 1) := by decide +kernel
theorem dX7_add_32 : decode cX7_add 32 = .ok (.aload_n 0, 1) := by decide +kernel
theorem dX7_add_33 : decode cX7_add 33 = .ok (.getfield 18, 3) := by decide +kernel
theorem dX7_add_36 : decode cX7_add 36 = .ok (.aload_n 0, 1) := by decide +kernel
theorem dX7_add_37 : decode cX7_add 37 = .ok (.getfield 33, 3) := by decide +kernel
theorem dX7_add_40 : decode cX7_add 40 = .ok (.iload_n 3, 1) := by decide +kernel
theorem dX7_add_41 : decode cX7_add 41 = .ok (.iastore, 1) := by decide +kernel
theorem dX7_add_42 : decode cX7_add 42 = .ok (.aload_n 0, 1) := by decide +kernel
theorem dX7_add_43 : decode cX7_add 43 = .ok (.getfield 21, 3) := by decide +kernel
theorem dX7_add_46 : decode cX7_add 46 = .ok (.aload_n 0, 1) := by decide +kernel
theorem dX7_add_47 : decode cX7_add 47 = .ok (.getfield 33, 3) := by decide +kernel
theorem dX7_add_50 : decode cX7_add 50 = .ok (.iload 4, 2) := by decide +kernel
theorem dX7_add_52 : decode cX7_add 52 = .ok (.iastore, 1) := by decide +kernel
theorem dX7_add_53 : decode cX7_add 53 = .ok (.aload_n 0, 1) := by decide +kernel
theorem dX7_add_54 : decode cX7_add 54 = .ok (.getfield 24, 3) := by decide +kernel
theorem dX7_add_57 : decode cX7_add 57 = .ok (.aload_n 0, 1) := by decide +kernel
theorem dX7_add_58 : decode cX7_add 58 = .ok (.getfield 33, 3) := by decide +kernel
theorem dX7_add_61 : decode cX7_add 61 = .ok (.iload 5, 2) := by decide +kernel
theorem dX7_add_63 : decode cX7_add 63 = .ok (.iastore, 1) := by decide +kernel
theorem dX7_add_64 : decode cX7_add 64 = .ok (.aload_n 0, 1) := by decide +kernel
theorem dX7_add_65 : decode cX7_add 65 = .ok (.getfield 27, 3) := by decide +kernel
theorem dX7_add_68 : decode cX7_add 68 = .ok (.aload_n 0, 1) := by decide +kernel
theorem dX7_add_69 : decode cX7_add 69 = .ok (.getfield 33, 3) := by decide +kernel
theorem dX7_add_72 : decode cX7_add 72 = .ok (.iconst (-1), 1) := by decide +kernel
theorem dX7_add_73 : decode cX7_add 73 = .ok (.iastore, 1) := by decide +kernel
theorem dX7_add_74 : decode cX7_add 74 = .ok (.aload_n 0, 1) := by decide +kernel
theorem dX7_add_75 : decode cX7_add 75 = .ok (.getfield 30, 3) := by decide +kernel
theorem dX7_add_78 : decode cX7_add 78 = .ok (.aload_n 0, 1) := by decide +kernel
theorem dX7_add_79 : decode cX7_add 79 = .ok (.getfield 33, 3) := by decide +kernel
theorem dX7_add_82 : decode cX7_add 82 = .ok (.iconst (-1), 1) := by decide +kernel
theorem dX7_add_83 : decode cX7_add 83 = .ok (.iastore, 1) := by decide +kernel
theorem dX7_add_84 : decode cX7_add 84 = .ok (.aload_n 0, 1) := by decide +kernel
theorem dX7_add_85 : decode cX7_add 85 = .ok (.dup, 1) := by decide +kernel
theorem dX7_add_86 : decode cX7_add 86 = .ok (.getfield 33, 3) := by decide +kernel
theorem dX7_add_89 : decode cX7_add 89 = .ok (.iconst 1, 1) := by decide +kernel
theorem dX7_add_90 : decode cX7_add 90 = .ok (.iadd, 1) := by decide +kernel
theorem dX7_add_91 : decode cX7_add 91 = .ok (.putfield 33, 3) := by decide +kernel
theorem dX7_add_94 : decode cX7_add 94 = .ok (.aload_n 0, 1) := by decide +kernel
theorem dX7_add_95 : decode cX7_add 95 = .ok (.getfield 33, 3) := by decide +kernel
theorem dX7_add_98 : decode cX7_add 98 = .ok (.iconst 1, 1) := by decide +kernel
theorem dX7_add_99 : decode cX7_add 99 = .ok (.isub, 1) := by decide +kernel
theorem dX7_add_100 : decode cX7_add 100 = .ok (.ireturn, 1) := by decide +kernel
theorem dX7_countsAsOf_0 : decode cX7_countsAsOf 0 = .ok (.aload_n 0, 1) := by decide +kernel
theorem dX7_countsAsOf_1 : decode cX7_countsAsOf 1 = .ok (.getfield 18, 3) := by decide +kernel
theorem dX7_countsAsOf_4 : decode cX7_countsAsOf 4 = .ok (.iload_n 1, 1) := by decide +kernel
theorem dX7_countsAsOf_5 : decode cX7_countsAsOf 5 = .ok (.iaload, 1) := by decide +kernel
theorem dX7_countsAsOf_6 : decode cX7_countsAsOf 6 = .ok (.iload_n 2, 1) := by decide +kernel
theorem dX7_countsAsOf_7 : decode cX7_countsAsOf 7 = .ok (.if_icmp .gt 27, 3) := by decide +kernel
theorem dX7_countsAsOf_10 : decode cX7_countsAsOf 10 = .ok (.aload_n 0, 1) := by decide +kernel
theorem dX7_countsAsOf_11 : decode cX7_countsAsOf 11 = .ok (.getfield 27, 3) := by decide +kernel
theorem dX7_countsAsOf_14 : decode cX7_countsAsOf 14 = .ok (.iload_n 1, 1) := by decide +kernel
theorem dX7_countsAsOf_15 : decode cX7_countsAsOf 15 = .ok (.iaload, 1) := by decide +kernel
theorem dX7_countsAsOf_16 : decode cX7_countsAsOf 16 = .ok (.iconst (-1), 1) := by decide +kernel
theorem dX7_countsAsOf_17 : decode cX7_countsAsOf 17 = .ok (.if_icmp .eq 13, 3) := by decide +kernel
theorem dX7_countsAsOf_20 : decode cX7_countsAsOf 20 = .ok (.aload_n 0, 1) := by decide +kernel
theorem dX7_countsAsOf_21 : decode cX7_countsAsOf 21 = .ok (.getfield 27, 3) := by decide +kernel
theorem dX7_countsAsOf_24 : decode cX7_countsAsOf 24 = .ok (.iload_n 1, 1) := by decide +kernel
theorem dX7_countsAsOf_25 : decode cX7_countsAsOf 25 = .ok (.iaload, 1) := by decide +kernel
theorem dX7_countsAsOf_26 : decode cX7_countsAsOf 26 = .ok (.iload_n 2, 1) := by decide +kernel
theorem dX7_countsAsOf_27 : decode cX7_countsAsOf 27 = .ok (.if_icmp .le 7, 3) := by decide +kernel
theorem dX7_countsAsOf_30 : decode cX7_countsAsOf 30 = .ok (.iconst 1, 1) := by decide +kernel
theorem dX7_countsAsOf_31 : decode cX7_countsAsOf 31 = .ok (.goto 4, 3) := by decide +kernel
theorem dX7_countsAsOf_34 : decode cX7_countsAsOf 34 = .ok (.iconst 0, 1) := by decide +kernel
theorem dX7_countsAsOf_35 : decode cX7_countsAsOf 35 = .ok (.ireturn, 1) := by decide +kernel
theorem dX8_init_0 : decode cX8_init 0 = .ok (.aload_n 0, 1) := by decide +kernel
theorem dX8_init_1 : decode cX8_init 1 = .ok (.invokespecial 3, 3) := by decide +kernel
theorem dX8_init_4 : decode cX8_init 4 = .ok (.aload_n 0, 1) := by decide +kernel
theorem dX8_init_5 : decode cX8_init 5 = .ok (.sipush 200, 3) := by decide +kernel
theorem dX8_init_8 : decode cX8_init 8 = .ok (.newarray .int, 2) := by decide +kernel
theorem dX8_init_10 : decode cX8_init 10 = .ok (.putfield 9, 3) := by decide +kernel
theorem dX8_init_13 : decode cX8_init 13 = .ok (.aload_n 0, 1) := by decide +kernel
theorem dX8_init_14 : decode cX8_init 14 = .ok (.iconst 0, 1) := by decide +kernel
theorem dX8_init_15 : decode cX8_init 15 = .ok (.putfield 15, 3) := by decide +kernel
theorem dX8_init_18 : decode cX8_init 18 = .ok (.return_, 1) := by decide +kernel
theorem dX8_append_0 : decode cX8_append 0 = .ok (.aload_n 0, 1) := by decide +kernel
theorem dX8_append_1 : decode cX8_append 1 = .ok (.getfield 15, 3) := by decide +kernel
theorem dX8_append_4 : decode cX8_append 4 = .ok (.iconst 4, 1) := by decide +kernel
theorem dX8_append_5 : decode cX8_append 5 = .ok (.iadd, 1) := by decide +kernel
theorem dX8_append_6 : decode cX8_append 6 = .ok (.sipush 200, 3) := by decide +kernel
theorem dX8_append_9 : decode cX8_append 9 = .ok (.if_icmp .le 4, 3) := by decide +kernel
theorem dX8_append_12 : decode cX8_append 12 = .ok (.return_, 1) := by decide +kernel
theorem dX8_append_13 : decode cX8_append 13 = .ok (.aload_n 0, 1) := by decide +kernel
theorem dX8_append_14 : decode cX8_append 14 = .ok (.getfield 9, 3) := by decide +kernel
theorem dX8_append_17 : decode cX8_append 17 = .ok (.aload_n 0, 1) := by decide +kernel
theorem dX8_append_18 : decode cX8_append 18 = .ok (.getfield 15, 3) := by decide +kernel
theorem dX8_append_21 : decode cX8_append 21 = .ok (.iload_n 1, 1) := by decide +kernel
theorem dX8_append_22 : decode cX8_append 22 = .ok (.bipush 24, 2) := by decide +kernel
theorem dX8_append_24 : decode cX8_append 24 = .ok (.iushr, 1) := by decide +kernel
theorem dX8_append_25 : decode cX8_append 25 = .ok (.iastore, 1) := by decide +kernel
theorem dX8_append_26 : decode cX8_append 26 = .ok (.aload_n 0, 1) := by decide +kernel
theorem dX8_append_27 : decode cX8_append 27 = .ok (.getfield 9, 3) := by decide +kernel
theorem dX8_append_30 : decode cX8_append 30 = .ok (.aload_n 0, 1) := by decide +kernel
theorem dX8_append_31 : decode cX8_append 31 = .ok (.getfield 15, 3) := by decide +kernel
theorem dX8_append_34 : decode cX8_append 34 = .ok (.iconst 1, 1) := by decide +kernel
theorem dX8_append_35 : decode cX8_append 35 = .ok (.iadd, 1) := by decide +kernel
theorem dX8_append_36 : decode cX8_append 36 = .ok (.iload_n 1, 1) := by decide +kernel
theorem dX8_append_37 : decode cX8_append 37 = .ok (.bipush 16, 2) := by decide +kernel
theorem dX8_append_39 : decode cX8_append 39 = .ok (.iushr, 1) := by decide +kernel
theorem dX8_append_40 : decode cX8_append 40 = .ok (.sipush 255, 3) := by decide +kernel
theorem dX8_append_43 : decode cX8_append 43 = .ok (.iand, 1) := by decide +kernel
theorem dX8_append_44 : decode cX8_append 44 = .ok (.iastore, 1) := by decide +kernel
theorem dX8_append_45 : decode cX8_append 45 = .ok (.aload_n 0, 1) := by decide +kernel
theorem dX8_append_46 : decode cX8_append 46 = .ok (.getfield 9, 3) := by decide +kernel
theorem dX8_append_49 : decode cX8_append 49 = .ok (.aload_n 0, 1) := by decide +kernel
theorem dX8_append_50 : decode cX8_append 50 = .ok (.getfield 15, 3) := by decide +kernel
theorem dX8_append_53 : decode cX8_append 53 = .ok (.iconst 2, 1) := by decide +kernel
theorem dX8_append_54 : decode cX8_append 54 = .ok (.iadd, 1) := by decide +kernel
theorem dX8_append_55 : decode cX8_append 55 = .ok (.iload_n 1, 1) := by decide +kernel
theorem dX8_append_56 : decode cX8_append 56 = .ok (.bipush 8, 2) := by decide +kernel
theorem dX8_append_58 : decode cX8_append 58 = .ok (.iushr, 1) := by decide +kernel
theorem dX8_append_59 : decode cX8_append 59 = .ok (.sipush 255, 3) := by decide +kernel
theorem dX8_append_62 : decode cX8_append 62 = .ok (.iand, 1) := by decide +kernel
theorem dX8_append_63 : decode cX8_append 63 = .ok (.iastore, 1) := by decide +kernel
theorem dX8_append_64 : decode cX8_append 64 = .ok (.aload_n 0, 1) := by decide +kernel
theorem dX8_append_65 : decode cX8_append 65 = .ok (.getfield 9, 3) := by decide +kernel
theorem dX8_append_68 : decode cX8_append 68 = .ok (.aload_n 0, 1) := by decide +kernel
theorem dX8_append_69 : decode cX8_append 69 = .ok (.getfield 15, 3) := by decide +kernel
theorem dX8_append_72 : decode cX8_append 72 = .ok (.iconst 3, 1) := by decide +kernel
theorem dX8_append_73 : decode cX8_append 73 = .ok (.iadd, 1) := by decide +kernel
theorem dX8_append_74 : decode cX8_append 74 = .ok (.iload_n 1, 1) := by decide +kernel
theorem dX8_append_75 : decode cX8_append 75 = .ok (.sipush 255, 3) := by decide +kernel
theorem dX8_append_78 : decode cX8_append 78 = .ok (.iand, 1) := by decide +kernel
theorem dX8_append_79 : decode cX8_append 79 = .ok (.iastore, 1) := by decide +kernel
theorem dX8_append_80 : decode cX8_append 80 = .ok (.aload_n 0, 1) := by decide +kernel
theorem dX8_append_81 : decode cX8_append 81 = .ok (.dup, 1) := by decide +kernel
theorem dX8_append_82 : decode cX8_append 82 = .ok (.getfield 15, 3) := by decide +kernel
theorem dX8_append_85 : decode cX8_append 85 = .ok (.iconst 4, 1) := by decide +kernel
theorem dX8_append_86 : decode cX8_append 86 = .ok (.iadd, 1) := by decide +kernel
theorem dX8_append_87 : decode cX8_append 87 = .ok (.putfield 15, 3) := by decide +kernel
theorem dX8_append_90 : decode cX8_append 90 = .ok (.return_, 1) := by decide +kernel
theorem dX8_byteAt_0 : decode cX8_byteAt 0 = .ok (.iload_n 1, 1) := by decide +kernel
theorem dX8_byteAt_1 : decode cX8_byteAt 1 = .ok (.aload_n 0, 1) := by decide +kernel
theorem dX8_byteAt_2 : decode cX8_byteAt 2 = .ok (.getfield 15, 3) := by decide +kernel
theorem dX8_byteAt_5 : decode cX8_byteAt 5 = .ok (.invokestatic 19, 3) := by decide +kernel
theorem dX8_byteAt_8 : decode cX8_byteAt 8 = .ok (.ifCond .eq 12, 3) := by decide +kernel
theorem dX8_byteAt_11 : decode cX8_byteAt 11 = .ok (.aload_n 0, 1) := by decide +kernel
theorem dX8_byteAt_12 : decode cX8_byteAt 12 = .ok (.getfield 9, 3) := by decide +kernel
theorem dX8_byteAt_15 : decode cX8_byteAt 15 = .ok (.iload_n 1, 1) := by decide +kernel
theorem dX8_byteAt_16 : decode cX8_byteAt 16 = .ok (.iaload, 1) := by decide +kernel
theorem dX8_byteAt_17 : decode cX8_byteAt 17 = .ok (.goto 4, 3) := by decide +kernel
theorem dX8_byteAt_20 : decode cX8_byteAt 20 = .ok (.iconst 0, 1) := by decide +kernel
theorem dX8_byteAt_21 : decode cX8_byteAt 21 = .ok (.ireturn, 1) := by decide +kernel
theorem dX8_pairAt_0 : decode cX8_pairAt 0 = .ok (.aload_n 0, 1) := by decide +kernel
theorem dX8_pairAt_1 : decode cX8_pairAt 1 = .ok (.iload_n 1, 1) := by decide +kernel
theorem dX8_pairAt_2 : decode cX8_pairAt 2 = .ok (.invokevirtual 23, 3) := by decide +kernel
theorem dX8_pairAt_5 : decode cX8_pairAt 5 = .ok (.sipush 256, 3) := by decide +kernel
theorem dX8_pairAt_8 : decode cX8_pairAt 8 = .ok (.imul, 1) := by decide +kernel
theorem dX8_pairAt_9 : decode cX8_pairAt 9 = .ok (.aload_n 0, 1) := by decide +kernel
theorem dX8_pairAt_10 : decode cX8_pairAt 10 = .ok (.iload_n 1, 1) := by decide +kernel
theorem dX8_pairAt_11 : decode cX8_pairAt 11 = .ok (.iconst 1, 1) := by decide +kernel
theorem dX8_pairAt_12 : decode cX8_pairAt 12 = .ok (.iadd, 1) := by decide +kernel
theorem dX8_pairAt_13 : decode cX8_pairAt 13 = .ok (.invokevirtual 23, 3) := by decide +kernel
theorem dX8_pairAt_16 : decode cX8_pairAt 16 = .ok (.iadd, 1) := by decide +kernel
theorem dX8_pairAt_17 : decode cX8_pairAt 17 = .ok (.ireturn, 1) := by decide +kernel
theorem dX9_init_0 : decode cX9_init 0 = .ok (.aload_n 0, 1) := by decide +kernel
theorem dX9_init_1 : decode cX9_init 1 = .ok (.invokespecial 1, 3) := by decide +kernel
theorem dX9_init_4 : decode cX9_init 4 = .ok (.aload_n 0, 1) := by decide +kernel
theorem dX9_init_5 : decode cX9_init 5 = .ok (.new 7, 3) := by decide +kernel
theorem dX9_init_8 : decode cX9_init 8 = .ok (.dup, 1) := by decide +kernel
theorem dX9_init_9 : decode cX9_init 9 = .ok (.invokespecial 9, 3) := by decide +kernel
theorem dX9_init_12 : decode cX9_init 12 = .ok (.putfield 10, 3) := by decide +kernel
theorem dX9_init_15 : decode cX9_init 15 = .ok (.aload_n 0, 1) := by decide +kernel
theorem dX9_init_16 : decode cX9_init 16 = .ok (.new 16, 3) := by decide +kernel
theorem dX9_init_19 : decode cX9_init 19 = .ok (.dup, 1) := by decide +kernel
theorem dX9_init_20 : decode cX9_init 20 = .ok (.invokespecial 18, 3) := by decide +kernel
theorem dX9_init_23 : decode cX9_init 23 = .ok (.putfield 19, 3) := by decide +kernel
theorem dX9_init_26 : decode cX9_init 26 = .ok (.aload_n 0, 1) := by decide +kernel
theorem dX9_init_27 : decode cX9_init 27 = .ok (.new 23, 3) := by decide +kernel
theorem dX9_init_30 : decode cX9_init 30 = .ok (.dup, 1) := by decide +kernel
theorem dX9_init_31 : decode cX9_init 31 = .ok (.aload_n 0, 1) := by decide +kernel
theorem dX9_init_32 : decode cX9_init 32 = .ok (.getfield 10, 3) := by decide +kernel
theorem dX9_init_35 : decode cX9_init 35 = .ok (.invokespecial 25, 3) := by decide +kernel
theorem dX9_init_38 : decode cX9_init 38 = .ok (.putfield 28, 3) := by decide +kernel
theorem dX9_init_41 : decode cX9_init 41 = .ok (.aload_n 0, 1) := by decide +kernel
theorem dX9_init_42 : decode cX9_init 42 = .ok (.new 32, 3) := by decide +kernel
theorem dX9_init_45 : decode cX9_init 45 = .ok (.dup, 1) := by decide +kernel
theorem dX9_init_46 : decode cX9_init 46 = .ok (.invokespecial 34, 3) := by decide +kernel
theorem dX9_init_49 : decode cX9_init 49 = .ok (.putfield 35, 3) := by decide +kernel
theorem dX9_init_52 : decode cX9_init 52 = .ok (.aload_n 0, 1) := by decide +kernel
theorem dX9_init_53 : decode cX9_init 53 = .ok (.new 39, 3) := by decide +kernel
theorem dX9_init_56 : decode cX9_init 56 = .ok (.dup, 1) := by decide +kernel
theorem dX9_init_57 : decode cX9_init 57 = .ok (.invokespecial 41, 3) := by decide +kernel
theorem dX9_init_60 : decode cX9_init 60 = .ok (.putfield 42, 3) := by decide +kernel
theorem dX9_init_63 : decode cX9_init 63 = .ok (.aload_n 0, 1) := by decide +kernel
theorem dX9_init_64 : decode cX9_init 64 = .ok (.new 46, 3) := by decide +kernel
theorem dX9_init_67 : decode cX9_init 67 = .ok (.dup, 1) := by decide +kernel
theorem dX9_init_68 : decode cX9_init 68 = .ok (.invokespecial 48, 3) := by decide +kernel
theorem dX9_init_71 : decode cX9_init 71 = .ok (.putfield 49, 3) := by decide +kernel
theorem dX9_init_74 : decode cX9_init 74 = .ok (.aload_n 0, 1) := by decide +kernel
theorem dX9_init_75 : decode cX9_init 75 = .ok (.new 53, 3) := by decide +kernel
theorem dX9_init_78 : decode cX9_init 78 = .ok (.dup, 1) := by decide +kernel
theorem dX9_init_79 : decode cX9_init 79 = .ok (.aload_n 0, 1) := by decide +kernel
theorem dX9_init_80 : decode cX9_init 80 = .ok (.getfield 35, 3) := by decide +kernel
theorem dX9_init_83 : decode cX9_init 83 = .ok (.aload_n 0, 1) := by decide +kernel
theorem dX9_init_84 : decode cX9_init 84 = .ok (.getfield 42, 3) := by decide +kernel
theorem dX9_init_87 : decode cX9_init 87 = .ok (.aload_n 0, 1) := by decide +kernel
theorem dX9_init_88 : decode cX9_init 88 = .ok (.getfield 19, 3) := by decide +kernel
theorem dX9_init_91 : decode cX9_init 91 = .ok (.invokespecial 55, 3) := by decide +kernel
theorem dX9_init_94 : decode cX9_init 94 = .ok (.putfield 58, 3) := by decide +kernel
theorem dX9_init_97 : decode cX9_init 97 = .ok (.aload_n 0, 1) := by decide +kernel
theorem dX9_init_98 : decode cX9_init 98 = .ok (.new 62, 3) := by decide +kernel
theorem dX9_init_101 : decode cX9_init 101 = .ok (.dup, 1) := by decide +kernel
theorem dX9_init_102 : decode cX9_init 102 = .ok (.aload_n 0, 1) := by decide +kernel
theorem dX9_init_103 : decode cX9_init 103 = .ok (.getfield 35, 3) := by decide +kernel
theorem dX9_init_106 : decode cX9_init 106 = .ok (.aload_n 0, 1) := by decide +kernel
theorem dX9_init_107 : decode cX9_init 107 = .ok (.getfield 42, 3) := by decide +kernel
theorem dX9_init_110 : decode cX9_init 110 = .ok (.invokespecial 64, 3) := by decide +kernel
theorem dX9_init_113 : decode cX9_init 113 = .ok (.putfield 67, 3) := by decide +kernel
theorem dX9_init_116 : decode cX9_init 116 = .ok (.aload_n 0, 1) := by decide +kernel
theorem dX9_init_117 : decode cX9_init 117 = .ok (.new 71, 3) := by decide +kernel
theorem dX9_init_120 : decode cX9_init 120 = .ok (.dup, 1) := by decide +kernel
theorem dX9_init_121 : decode cX9_init 121 = .ok (.invokespecial 73, 3) := by decide +kernel
theorem dX9_init_124 : decode cX9_init 124 = .ok (.putfield 74, 3) := by decide +kernel
theorem dX9_init_127 : decode cX9_init 127 = .ok (.aload_n 0, 1) := by decide +kernel
theorem dX9_init_128 : decode cX9_init 128 = .ok (.bipush 8, 2) := by decide +kernel
theorem dX9_init_130 : decode cX9_init 130 = .ok (.newarray .int, 2) := by decide +kernel
theorem dX9_init_132 : decode cX9_init 132 = .ok (.putfield 78, 3) := by decide +kernel
theorem dX9_init_135 : decode cX9_init 135 = .ok (.aload_n 0, 1) := by decide +kernel
theorem dX9_init_136 : decode cX9_init 136 = .ok (.iconst 0, 1) := by decide +kernel
theorem dX9_init_137 : decode cX9_init 137 = .ok (.putfield 82, 3) := by decide +kernel
theorem dX9_init_140 : decode cX9_init 140 = .ok (.aload_n 0, 1) := by decide +kernel
theorem dX9_init_141 : decode cX9_init 141 = .ok (.iconst 0, 1) := by decide +kernel
theorem dX9_init_142 : decode cX9_init 142 = .ok (.putfield 86, 3) := by decide +kernel
theorem dX9_init_145 : decode cX9_init 145 = .ok (.return_, 1) := by decide +kernel
theorem dX9_feed_0 : decode cX9_feed 0 = .ok (.aload_n 0, 1) := by decide +kernel
theorem dX9_feed_1 : decode cX9_feed 1 = .ok (.getfield 10, 3) := by decide +kernel
theorem dX9_feed_4 : decode cX9_feed 4 = .ok (.getfield 89, 3) := by decide +kernel
theorem dX9_feed_7 : decode cX9_feed 7 = .ok (.bipush 20, 2) := by decide +kernel
theorem dX9_feed_9 : decode cX9_feed 9 = .ok (.iadd, 1) := by decide +kernel
theorem dX9_feed_10 : decode cX9_feed 10 = .ok (.sipush 200, 3) := by decide +kernel
theorem dX9_feed_13 : decode cX9_feed 13 = .ok (.if_icmp .le 5, 3) := by decide +kernel
theorem dX9_feed_16 : decode cX9_feed 16 = .ok (.iconst (-1), 1) := by decide +kernel
theorem dX9_feed_17 : decode cX9_feed 17 = .ok (.ireturn, 1) := by decide +kernel
theorem dX9_feed_18 : decode cX9_feed 18 = .ok (.aload_n 0, 1) := by decide +kernel
theorem dX9_feed_19 : decode cX9_feed 19 = .ok (.getfield 10, 3) := by decide +kernel
theorem dX9_feed_22 : decode cX9_feed 22 = .ok (.iload_n 1, 1) := by decide +kernel
theorem dX9_feed_23 : decode cX9_feed 23 = .ok (.invokevirtual 92, 3) := by decide +kernel
theorem dX9_feed_26 : decode cX9_feed 26 = .ok (.aload_n 0, 1) := by decide +kernel
theorem dX9_feed_27 : decode cX9_feed 27 = .ok (.getfield 10, 3) := by decide +kernel
theorem dX9_feed_30 : decode cX9_feed 30 = .ok (.iload_n 2, 1) := by decide +kernel
theorem dX9_feed_31 : decode cX9_feed 31 = .ok (.invokevirtual 92, 3) := by decide +kernel
theorem dX9_feed_34 : decode cX9_feed 34 = .ok (.aload_n 0, 1) := by decide +kernel
theorem dX9_feed_35 : decode cX9_feed 35 = .ok (.getfield 10, 3) := by decide +kernel
theorem dX9_feed_38 : decode cX9_feed 38 = .ok (.iload_n 3, 1) := by decide +kernel
theorem dX9_feed_39 : decode cX9_feed 39 = .ok (.invokevirtual 92, 3) := by decide +kernel
theorem dX9_feed_42 : decode cX9_feed 42 = .ok (.aload_n 0, 1) := by decide +kernel
theorem dX9_feed_43 : decode cX9_feed 43 = .ok (.getfield 10, 3) := by decide +kernel
theorem dX9_feed_46 : decode cX9_feed 46 = .ok (.iload 4, 2) := by decide +kernel
theorem dX9_feed_48 : decode cX9_feed 48 = .ok (.invokevirtual 92, 3) := by decide +kernel
theorem dX9_feed_51 : decode cX9_feed 51 = .ok (.aload_n 0, 1) := by decide +kernel
theorem dX9_feed_52 : decode cX9_feed 52 = .ok (.getfield 10, 3) := by decide +kernel
theorem dX9_feed_55 : decode cX9_feed 55 = .ok (.iload 5, 2) := by decide +kernel
theorem dX9_feed_57 : decode cX9_feed 57 = .ok (.invokevirtual 92, 3) := by decide +kernel
theorem dX9_feed_60 : decode cX9_feed 60 = .ok (.aload_n 0, 1) := by decide +kernel
theorem dX9_feed_61 : decode cX9_feed 61 = .ok (.getfield 10, 3) := by decide +kernel
theorem dX9_feed_64 : decode cX9_feed 64 = .ok (.getfield 89, 3) := by decide +kernel
theorem dX9_feed_67 : decode cX9_feed 67 = .ok (.ireturn, 1) := by decide +kernel
theorem dX9_end_0 : decode cX9_end 0 = .ok (.iload_n 1, 1) := by decide +kernel
theorem dX9_end_1 : decode cX9_end 1 = .ok (.ifCond .lt 14, 3) := by decide +kernel
theorem dX9_end_4 : decode cX9_end 4 = .ok (.iload_n 1, 1) := by decide +kernel
theorem dX9_end_5 : decode cX9_end 5 = .ok (.aload_n 0, 1) := by decide +kernel
theorem dX9_end_6 : decode cX9_end 6 = .ok (.getfield 10, 3) := by decide +kernel
theorem dX9_end_9 : decode cX9_end 9 = .ok (.getfield 89, 3) := by decide +kernel
theorem dX9_end_12 : decode cX9_end 12 = .ok (.if_icmp .le 5, 3) := by decide +kernel
theorem dX9_end_15 : decode cX9_end 15 = .ok (.iconst 0, 1) := by decide +kernel
theorem dX9_end_16 : decode cX9_end 16 = .ok (.ireturn, 1) := by decide +kernel
theorem dX9_end_17 : decode cX9_end 17 = .ok (.aload_n 0, 1) := by decide +kernel
theorem dX9_end_18 : decode cX9_end 18 = .ok (.getfield 10, 3) := by decide +kernel
theorem dX9_end_21 : decode cX9_end 21 = .ok (.iload_n 1, 1) := by decide +kernel
theorem dX9_end_22 : decode cX9_end 22 = .ok (.putfield 89, 3) := by decide +kernel
theorem dX9_end_25 : decode cX9_end 25 = .ok (.iconst 1, 1) := by decide +kernel
theorem dX9_end_26 : decode cX9_end 26 = .ok (.ireturn, 1) := by decide +kernel
theorem dX9_rules_0 : decode cX9_rules 0 = .ok (.aload_n 0, 1) := by decide +kernel
theorem dX9_rules_1 : decode cX9_rules 1 = .ok (.getfield 28, 3) := by decide +kernel
theorem dX9_rules_4 : decode cX9_rules 4 = .ok (.invokevirtual 96, 3) := by decide +kernel
theorem dX9_rules_7 : decode cX9_rules 7 = .ok (.aload_n 0, 1) := by decide +kernel
theorem dX9_rules_8 : decode cX9_rules 8 = .ok (.getfield 10, 3) := by decide +kernel
theorem dX9_rules_11 : decode cX9_rules 11 = .ok (.iconst 0, 1) := by decide +kernel
theorem dX9_rules_12 : decode cX9_rules 12 = .ok (.putfield 89, 3) := by decide +kernel
theorem dX9_rules_15 : decode cX9_rules 15 = .ok (.aload_n 0, 1) := by decide +kernel
theorem dX9_rules_16 : decode cX9_rules 16 = .ok (.aload_n 0, 1) := by decide +kernel
theorem dX9_rules_17 : decode cX9_rules 17 = .ok (.getfield 28, 3) := by decide +kernel
theorem dX9_rules_20 : decode cX9_rules 20 = .ok (.getfield 99, 3) := by decide +kernel
theorem dX9_rules_23 : decode cX9_rules 23 = .ok (.putfield 86, 3) := by decide +kernel
theorem dX9_rules_26 : decode cX9_rules 26 = .ok (.aload_n 0, 1) := by decide +kernel
theorem dX9_rules_27 : decode cX9_rules 27 = .ok (.getfield 86, 3) := by decide +kernel
theorem dX9_rules_30 : decode cX9_rules 30 = .ok (.ifCond .eq 13, 3) := by decide +kernel
theorem dX9_rules_33 : decode cX9_rules 33 = .ok (.iconst (-1), 1) := by decide +kernel
theorem dX9_rules_34 : decode cX9_rules 34 = .ok (.aload_n 0, 1) := by decide +kernel
theorem dX9_rules_35 : decode cX9_rules 35 = .ok (.getfield 28, 3) := by decide +kernel
theorem dX9_rules_38 : decode cX9_rules 38 = .ok (.getfield 102, 3) := by decide +kernel
theorem dX9_rules_41 : decode cX9_rules 41 = .ok (.isub, 1) := by decide +kernel
theorem dX9_rules_42 : decode cX9_rules 42 = .ok (.ireturn, 1) := by decide +kernel
theorem dX9_rules_43 : decode cX9_rules 43 = .ok (.aload_n 0, 1) := by decide +kernel
theorem dX9_rules_44 : decode cX9_rules 44 = .ok (.getfield 19, 3) := by decide +kernel
theorem dX9_rules_47 : decode cX9_rules 47 = .ok (.aload_n 0, 1) := by decide +kernel
theorem dX9_rules_48 : decode cX9_rules 48 = .ok (.getfield 28, 3) := by decide +kernel
theorem dX9_rules_51 : decode cX9_rules 51 = .ok (.getfield 105, 3) := by decide +kernel
theorem dX9_rules_54 : decode cX9_rules 54 = .ok (.invokevirtual 108, 3) := by decide +kernel
theorem dX9_rules_57 : decode cX9_rules 57 = .ok (.aload_n 0, 1) := by decide +kernel
theorem dX9_rules_58 : decode cX9_rules 58 = .ok (.getfield 19, 3) := by decide +kernel
theorem dX9_rules_61 : decode cX9_rules 61 = .ok (.getfield 112, 3) := by decide +kernel
theorem dX9_rules_64 : decode cX9_rules 64 = .ok (.ireturn, 1) := by decide +kernel
theorem dX9_fault_0 : decode cX9_fault 0 = .ok (.aload_n 0, 1) := by decide +kernel
theorem dX9_fault_1 : decode cX9_fault 1 = .ok (.getfield 86, 3) := by decide +kernel
theorem dX9_fault_4 : decode cX9_fault 4 = .ok (.ireturn, 1) := by decide +kernel
theorem dX9_lot_0 : decode cX9_lot 0 = .ok (.iload_n 1, 1) := by decide +kernel
theorem dX9_lot_1 : decode cX9_lot 1 = .ok (.bipush 8, 2) := by decide +kernel
theorem dX9_lot_3 : decode cX9_lot 3 = .ok (.invokestatic 115, 3) := by decide +kernel
theorem dX9_lot_6 : decode cX9_lot 6 = .ok (.ifCond .eq 47, 3) := by decide +kernel
theorem dX9_lot_9 : decode cX9_lot 9 = .ok (.iload_n 2, 1) := by decide +kernel
theorem dX9_lot_10 : decode cX9_lot 10 = .ok (.bipush 6, 2) := by decide +kernel
theorem dX9_lot_12 : decode cX9_lot 12 = .ok (.invokestatic 115, 3) := by decide +kernel
theorem dX9_lot_15 : decode cX9_lot 15 = .ok (.ifCond .eq 38, 3) := by decide +kernel
theorem dX9_lot_18 : decode cX9_lot 18 = .ok (.iload_n 3, 1) := by decide +kernel
theorem dX9_lot_19 : decode cX9_lot 19 = .ok (.iconst 4, 1) := by decide +kernel
theorem dX9_lot_20 : decode cX9_lot 20 = .ok (.invokestatic 115, 3) := by decide +kernel
theorem dX9_lot_23 : decode cX9_lot 23 = .ok (.ifCond .eq 30, 3) := by decide +kernel
theorem dX9_lot_26 : decode cX9_lot 26 = .ok (.iload 4, 2) := by decide +kernel
theorem dX9_lot_28 : decode cX9_lot 28 = .ok (.iconst 1, 1) := by decide +kernel
theorem dX9_lot_29 : decode cX9_lot 29 = .ok (.if_icmp .lt 24, 3) := by decide +kernel
theorem dX9_lot_32 : decode cX9_lot 32 = .ok (.iload 4, 2) := by decide +kernel
theorem dX9_lot_34 : decode cX9_lot 34 = .ok (.sipush 500, 3) := by decide +kernel
theorem dX9_lot_37 : decode cX9_lot 37 = .ok (.if_icmp .gt 16, 3) := by decide +kernel
theorem dX9_lot_40 : decode cX9_lot 40 = .ok (.iload 5, 2) := by decide +kernel
theorem dX9_lot_42 : decode cX9_lot 42 = .ok (.iconst 4, 1) := by decide +kernel
theorem dX9_lot_43 : decode cX9_lot 43 = .ok (.invokestatic 115, 3) := by decide +kernel
theorem dX9_lot_46 : decode cX9_lot 46 = .ok (.ifCond .eq 7, 3) := by decide +kernel
theorem dX9_lot_49 : decode cX9_lot 49 = .ok (.iconst 1, 1) := by decide +kernel
theorem dX9_lot_50 : decode cX9_lot 50 = .ok (.goto 4, 3) := by decide +kernel
theorem dX9_lot_53 : decode cX9_lot 53 = .ok (.iconst 0, 1) := by decide +kernel
theorem dX9_lot_54 : decode cX9_lot 54 = .ok (.istore 6, 2) := by decide +kernel
theorem dX9_lot_56 : decode cX9_lot 56 = .ok (.iload 6, 2) := by decide +kernel
theorem dX9_lot_58 : decode cX9_lot 58 = .ok (.ifCond .eq 15, 3) := by decide +kernel
theorem dX9_lot_61 : decode cX9_lot 61 = .ok (.aload_n 0, 1) := by decide +kernel
theorem dX9_lot_62 : decode cX9_lot 62 = .ok (.getfield 35, 3) := by decide +kernel
theorem dX9_lot_65 : decode cX9_lot 65 = .ok (.getfield 119, 3) := by decide +kernel
theorem dX9_lot_68 : decode cX9_lot 68 = .ok (.bipush 100, 2) := by decide +kernel
theorem dX9_lot_70 : decode cX9_lot 70 = .ok (.if_icmp .lt 5, 3) := by decide +kernel
theorem dX9_lot_73 : decode cX9_lot 73 = .ok (.iconst (-1), 1) := by decide +kernel
theorem dX9_lot_74 : decode cX9_lot 74 = .ok (.ireturn, 1) := by decide +kernel
theorem dX9_lot_75 : decode cX9_lot 75 = .ok (.aload_n 0, 1) := by decide +kernel
theorem dX9_lot_76 : decode cX9_lot 76 = .ok (.getfield 35, 3) := by decide +kernel
theorem dX9_lot_79 : decode cX9_lot 79 = .ok (.iload_n 1, 1) := by decide +kernel
theorem dX9_lot_80 : decode cX9_lot 80 = .ok (.iload_n 2, 1) := by decide +kernel
theorem dX9_lot_81 : decode cX9_lot 81 = .ok (.iload_n 3, 1) := by decide +kernel
theorem dX9_lot_82 : decode cX9_lot 82 = .ok (.iload 4, 2) := by decide +kernel
theorem dX9_lot_84 : decode cX9_lot 84 = .ok (.iload 5, 2) := by decide +kernel
theorem dX9_lot_86 : decode cX9_lot 86 = .ok (.invokevirtual 120, 3) := by decide +kernel
theorem dX9_lot_89 : decode cX9_lot 89 = .ok (.ireturn, 1) := by decide +kernel
theorem dX9_money_0 : decode cX9_money 0 = .ok (.iload_n 1, 1) := by decide +kernel
theorem dX9_money_1 : decode cX9_money 1 = .ok (.bipush 10, 2) := by decide +kernel
theorem dX9_money_3 : decode cX9_money 3 = .ok (.invokestatic 115, 3) := by decide +kernel
theorem dX9_money_6 : decode cX9_money 6 = .ok (.ifCond .eq 13, 3) := by decide +kernel
theorem dX9_money_9 : decode cX9_money 9 = .ok (.iload_n 2, 1) := by decide +kernel
theorem dX9_money_10 : decode cX9_money 10 = .ok (.ifCond .lt 9, 3) := by decide +kernel
theorem dX9_money_13 : decode cX9_money 13 = .ok (.iload_n 2, 1) := by decide +kernel
theorem dX9_money_14 : decode cX9_money 14 = .ok (.ldc 124, 2) := by decide +kernel
theorem dX9_money_16 : decode cX9_money 16 = .ok (.if_icmp .le 5, 3) := by decide +kernel
theorem dX9_money_19 : decode cX9_money 19 = .ok (.iconst 0, 1) := by decide +kernel
theorem dX9_money_20 : decode cX9_money 20 = .ok (.ireturn, 1) := by decide +kernel
theorem dX9_money_21 : decode cX9_money 21 = .ok (.aload_n 0, 1) := by decide +kernel
theorem dX9_money_22 : decode cX9_money 22 = .ok (.getfield 49, 3) := by decide +kernel
theorem dX9_money_25 : decode cX9_money 25 = .ok (.getfield 125, 3) := by decide +kernel
theorem dX9_money_28 : decode cX9_money 28 = .ok (.iload_n 1, 1) := by decide +kernel
theorem dX9_money_29 : decode cX9_money 29 = .ok (.iload_n 2, 1) := by decide +kernel
theorem dX9_money_30 : decode cX9_money 30 = .ok (.iastore, 1) := by decide +kernel
theorem dX9_money_31 : decode cX9_money 31 = .ok (.aload_n 0, 1) := by decide +kernel
theorem dX9_money_32 : decode cX9_money 32 = .ok (.getfield 49, 3) := by decide +kernel
theorem dX9_money_35 : decode cX9_money 35 = .ok (.getfield 128, 3) := by decide +kernel
theorem dX9_money_38 : decode cX9_money 38 = .ok (.iload_n 1, 1) := by decide +kernel
theorem dX9_money_39 : decode cX9_money 39 = .ok (.iload_n 2, 1) := by decide +kernel
theorem dX9_money_40 : decode cX9_money 40 = .ok (.iastore, 1) := by decide +kernel
theorem dX9_money_41 : decode cX9_money 41 = .ok (.iconst 1, 1) := by decide +kernel
theorem dX9_money_42 : decode cX9_money 42 = .ok (.ireturn, 1) := by decide +kernel
theorem dX9_want_0 : decode cX9_want 0 = .ok (.iload_n 1, 1) := by decide +kernel
theorem dX9_want_1 : decode cX9_want 1 = .ok (.iload_n 2, 1) := by decide +kernel
theorem dX9_want_2 : decode cX9_want 2 = .ok (.iload_n 3, 1) := by decide +kernel
theorem dX9_want_3 : decode cX9_want 3 = .ok (.invokestatic 131, 3) := by decide +kernel
theorem dX9_want_6 : decode cX9_want 6 = .ok (.ifCond .eq 33, 3) := by decide +kernel
theorem dX9_want_9 : decode cX9_want 9 = .ok (.iload 4, 2) := by decide +kernel
theorem dX9_want_11 : decode cX9_want 11 = .ok (.ifCond .lt 28, 3) := by decide +kernel
theorem dX9_want_14 : decode cX9_want 14 = .ok (.iload 4, 2) := by decide +kernel
theorem dX9_want_16 : decode cX9_want 16 = .ok (.sipush 5000, 3) := by decide +kernel
theorem dX9_want_19 : decode cX9_want 19 = .ok (.if_icmp .gt 20, 3) := by decide +kernel
theorem dX9_want_22 : decode cX9_want 22 = .ok (.iload 5, 2) := by decide +kernel
theorem dX9_want_24 : decode cX9_want 24 = .ok (.ifCond .lt 15, 3) := by decide +kernel
theorem dX9_want_27 : decode cX9_want 27 = .ok (.iload 5, 2) := by decide +kernel
theorem dX9_want_29 : decode cX9_want 29 = .ok (.sipush 9999, 3) := by decide +kernel
theorem dX9_want_32 : decode cX9_want 32 = .ok (.if_icmp .gt 7, 3) := by decide +kernel
theorem dX9_want_35 : decode cX9_want 35 = .ok (.iconst 1, 1) := by decide +kernel
theorem dX9_want_36 : decode cX9_want 36 = .ok (.goto 4, 3) := by decide +kernel
theorem dX9_want_39 : decode cX9_want 39 = .ok (.iconst 0, 1) := by decide +kernel
theorem dX9_want_40 : decode cX9_want 40 = .ok (.istore 6, 2) := by decide +kernel
theorem dX9_want_42 : decode cX9_want 42 = .ok (.iload 6, 2) := by decide +kernel
theorem dX9_want_44 : decode cX9_want 44 = .ok (.ifCond .ne 5, 3) := by decide +kernel
theorem dX9_want_47 : decode cX9_want 47 = .ok (.iconst 0, 1) := by decide +kernel
theorem dX9_want_48 : decode cX9_want 48 = .ok (.ireturn, 1) := by decide +kernel
theorem dX9_want_49 : decode cX9_want 49 = .ok (.iload_n 1, 1) := by decide +kernel
theorem dX9_want_50 : decode cX9_want 50 = .ok (.iload_n 2, 1) := by decide +kernel
theorem dX9_want_51 : decode cX9_want 51 = .ok (.iload_n 3, 1) := by decide +kernel
theorem dX9_want_52 : decode cX9_want 52 = .ok (.invokestatic 135, 3) := by decide +kernel
theorem dX9_want_55 : decode cX9_want 55 = .ok (.istore 7, 2) := by decide +kernel
theorem dX9_want_57 : decode cX9_want 57 = .ok (.aload_n 0, 1) := by decide +kernel
theorem dX9_want_58 : decode cX9_want 58 = .ok (.getfield 49, 3) := by decide +kernel
theorem dX9_want_61 : decode cX9_want 61 = .ok (.getfield 139, 3) := by decide +kernel
theorem dX9_want_64 : decode cX9_want 64 = .ok (.iload 7, 2) := by decide +kernel
theorem dX9_want_66 : decode cX9_want 66 = .ok (.iload 4, 2) := by decide +kernel
theorem dX9_want_68 : decode cX9_want 68 = .ok (.iastore, 1) := by decide +kernel
theorem dX9_want_69 : decode cX9_want 69 = .ok (.aload_n 0, 1) := by decide +kernel
theorem dX9_want_70 : decode cX9_want 70 = .ok (.getfield 49, 3) := by decide +kernel
theorem dX9_want_73 : decode cX9_want 73 = .ok (.getfield 142, 3) := by decide +kernel
theorem dX9_want_76 : decode cX9_want 76 = .ok (.iload 7, 2) := by decide +kernel
theorem dX9_want_78 : decode cX9_want 78 = .ok (.iload 5, 2) := by decide +kernel
theorem dX9_want_80 : decode cX9_want 80 = .ok (.iastore, 1) := by decide +kernel
theorem dX9_want_81 : decode cX9_want 81 = .ok (.iconst 1, 1) := by decide +kernel
theorem dX9_want_82 : decode cX9_want 82 = .ok (.ireturn, 1) := by decide +kernel
theorem dX9_auction_0 : decode cX9_auction 0 = .ok (.iload_n 1, 1) := by decide +kernel
theorem dX9_auction_1 : decode cX9_auction 1 = .ok (.iconst 4, 1) := by decide +kernel
theorem dX9_auction_2 : decode cX9_auction 2 = .ok (.invokestatic 115, 3) := by decide +kernel
theorem dX9_auction_5 : decode cX9_auction 5 = .ok (.ifCond .ne 5, 3) := by decide +kernel
theorem dX9_auction_8 : decode cX9_auction 8 = .ok (.iconst (-1), 1) := by decide +kernel
theorem dX9_auction_9 : decode cX9_auction 9 = .ok (.ireturn, 1) := by decide +kernel
theorem dX9_auction_10 : decode cX9_auction 10 = .ok (.iconst 0, 1) := by decide +kernel
theorem dX9_auction_11 : decode cX9_auction 11 = .ok (.istore_n 2, 1) := by decide +kernel
theorem dX9_auction_12 : decode cX9_auction 12 = .ok (.iload_n 2, 1) := by decide +kernel
theorem dX9_auction_13 : decode cX9_auction 13 = .ok (.bipush 8, 2) := by decide +kernel
theorem dX9_auction_15 : decode cX9_auction 15 = .ok (.if_icmp .ge 16, 3) := by decide +kernel
theorem dX9_auction_18 : decode cX9_auction 18 = .ok (.aload_n 0, 1) := by decide +kernel
theorem dX9_auction_19 : decode cX9_auction 19 = .ok (.getfield 78, 3) := by decide +kernel
theorem dX9_auction_22 : decode cX9_auction 22 = .ok (.iload_n 2, 1) := by decide +kernel
theorem dX9_auction_23 : decode cX9_auction 23 = .ok (.iconst 0, 1) := by decide +kernel
theorem dX9_auction_24 : decode cX9_auction 24 = .ok (.iastore, 1) := by decide +kernel
theorem dX9_auction_25 : decode cX9_auction 25 = .ok (.iinc 2 1, 3) := by decide +kernel
theorem dX9_auction_28 : decode cX9_auction 28 = .ok (.goto (-16), 3) := by decide +kernel
theorem dX9_auction_31 : decode cX9_auction 31 = .ok (.aload_n 0, 1) := by decide +kernel
theorem dX9_auction_32 : decode cX9_auction 32 = .ok (.getfield 42, 3) := by decide +kernel
theorem dX9_auction_35 : decode cX9_auction 35 = .ok (.getfield 145, 3) := by decide +kernel
theorem dX9_auction_38 : decode cX9_auction 38 = .ok (.istore_n 2, 1) := by decide +kernel
theorem dX9_auction_39 : decode cX9_auction 39 = .ok (.iconst 1, 1) := by decide +kernel
theorem dX9_auction_40 : decode cX9_auction 40 = .ok (.istore_n 3, 1) := by decide +kernel
theorem dX9_auction_41 : decode cX9_auction 41 = .ok (.iconst 0, 1) := by decide +kernel
theorem dX9_auction_42 : decode cX9_auction 42 = .ok (.istore 4, 2) := by decide +kernel
theorem dX9_auction_44 : decode cX9_auction 44 = .ok (.iload 4, 2) := by decide +kernel
theorem dX9_auction_46 : decode cX9_auction 46 = .ok (.bipush 100, 2) := by decide +kernel
theorem dX9_auction_48 : decode cX9_auction 48 = .ok (.if_icmp .ge 19, 3) := by decide +kernel
theorem dX9_auction_51 : decode cX9_auction 51 = .ok (.iload_n 3, 1) := by decide +kernel
theorem dX9_auction_52 : decode cX9_auction 52 = .ok (.ifCond .eq 15, 3) := by decide +kernel
theorem dX9_auction_55 : decode cX9_auction 55 = .ok (.aload_n 0, 1) := by decide +kernel
theorem dX9_auction_56 : decode cX9_auction 56 = .ok (.iload_n 1, 1) := by decide +kernel
theorem dX9_auction_57 : decode cX9_auction 57 = .ok (.invokevirtual 146, 3) := by decide +kernel
theorem dX9_auction_60 : decode cX9_auction 60 = .ok (.istore_n 3, 1) := by decide +kernel
theorem dX9_auction_61 : decode cX9_auction 61 = .ok (.iinc 4 1, 3) := by decide +kernel
theorem dX9_auction_64 : decode cX9_auction 64 = .ok (.goto (-20), 3) := by decide +kernel
theorem dX9_auction_67 : decode cX9_auction 67 = .ok (.aload_n 0, 1) := by decide +kernel
theorem dX9_auction_68 : decode cX9_auction 68 = .ok (.getfield 42, 3) := by decide +kernel
theorem dX9_auction_71 : decode cX9_auction 71 = .ok (.getfield 145, 3) := by decide +kernel
theorem dX9_auction_74 : decode cX9_auction 74 = .ok (.iload_n 2, 1) := by decide +kernel
theorem dX9_auction_75 : decode cX9_auction 75 = .ok (.isub, 1) := by decide +kernel
theorem dX9_auction_76 : decode cX9_auction 76 = .ok (.ireturn, 1) := by decide +kernel
theorem dX9_reject_0 : decode cX9_reject 0 = .ok (.iload_n 1, 1) := by decide +kernel
theorem dX9_reject_1 : decode cX9_reject 1 = .ok (.aload_n 0, 1) := by decide +kernel
theorem dX9_reject_2 : decode cX9_reject 2 = .ok (.getfield 42, 3) := by decide +kernel
theorem dX9_reject_5 : decode cX9_reject 5 = .ok (.getfield 145, 3) := by decide +kernel
theorem dX9_reject_8 : decode cX9_reject 8 = .ok (.invokestatic 115, 3) := by decide +kernel
theorem dX9_reject_11 : decode cX9_reject 11 = .ok (.ifCond .eq 16, 3) := by decide +kernel
theorem dX9_reject_14 : decode cX9_reject 14 = .ok (.aload_n 0, 1) := by decide +kernel
theorem dX9_reject_15 : decode cX9_reject 15 = .ok (.getfield 42, 3) := by decide +kernel
theorem dX9_reject_18 : decode cX9_reject 18 = .ok (.getfield 150, 3) := by decide +kernel
theorem dX9_reject_21 : decode cX9_reject 21 = .ok (.iload_n 1, 1) := by decide +kernel
theorem dX9_reject_22 : decode cX9_reject 22 = .ok (.iaload, 1) := by decide +kernel
theorem dX9_reject_23 : decode cX9_reject 23 = .ok (.iconst (-1), 1) := by decide +kernel
theorem dX9_reject_24 : decode cX9_reject 24 = .ok (.if_icmp .eq 5, 3) := by decide +kernel
theorem dX9_reject_27 : decode cX9_reject 27 = .ok (.iconst 0, 1) := by decide +kernel
theorem dX9_reject_28 : decode cX9_reject 28 = .ok (.ireturn, 1) := by decide +kernel
theorem dX9_reject_29 : decode cX9_reject 29 = .ok (.aload_n 0, 1) := by decide +kernel
theorem dX9_reject_30 : decode cX9_reject 30 = .ok (.getfield 42, 3) := by decide +kernel
theorem dX9_reject_33 : decode cX9_reject 33 = .ok (.getfield 153, 3) := by decide +kernel
theorem dX9_reject_36 : decode cX9_reject 36 = .ok (.iload_n 1, 1) := by decide +kernel
theorem dX9_reject_37 : decode cX9_reject 37 = .ok (.iaload, 1) := by decide +kernel
theorem dX9_reject_38 : decode cX9_reject 38 = .ok (.istore_n 2, 1) := by decide +kernel
theorem dX9_reject_39 : decode cX9_reject 39 = .ok (.aload_n 0, 1) := by decide +kernel
theorem dX9_reject_40 : decode cX9_reject 40 = .ok (.getfield 35, 3) := by decide +kernel
theorem dX9_reject_43 : decode cX9_reject 43 = .ok (.getfield 156, 3) := by decide +kernel
theorem dX9_reject_46 : decode cX9_reject 46 = .ok (.iload_n 2, 1) := by decide +kernel
theorem dX9_reject_47 : decode cX9_reject 47 = .ok (.iaload, 1) := by decide +kernel
theorem dX9_reject_48 : decode cX9_reject 48 = .ok (.iload_n 1, 1) := by decide +kernel
theorem dX9_reject_49 : decode cX9_reject 49 = .ok (.if_icmp .eq 5, 3) := by decide +kernel
theorem dX9_reject_52 : decode cX9_reject 52 = .ok (.iconst 0, 1) := by decide +kernel
theorem dX9_reject_53 : decode cX9_reject 53 = .ok (.ireturn, 1) := by decide +kernel
theorem dX9_reject_54 : decode cX9_reject 54 = .ok (.aload_n 0, 1) := by decide +kernel
theorem dX9_reject_55 : decode cX9_reject 55 = .ok (.getfield 42, 3) := by decide +kernel
theorem dX9_reject_58 : decode cX9_reject 58 = .ok (.getfield 150, 3) := by decide +kernel
theorem dX9_reject_61 : decode cX9_reject 61 = .ok (.iload_n 1, 1) := by decide +kernel
theorem dX9_reject_62 : decode cX9_reject 62 = .ok (.aload_n 0, 1) := by decide +kernel
theorem dX9_reject_63 : decode cX9_reject 63 = .ok (.getfield 82, 3) := by decide +kernel
theorem dX9_reject_66 : decode cX9_reject 66 = .ok (.iastore, 1) := by decide +kernel
theorem dX9_reject_67 : decode cX9_reject 67 = .ok (.aload_n 0, 1) := by decide +kernel
theorem dX9_reject_68 : decode cX9_reject 68 = .ok (.getfield 35, 3) := by decide +kernel
theorem dX9_reject_71 : decode cX9_reject 71 = .ok (.getfield 159, 3) := by decide +kernel
theorem dX9_reject_74 : decode cX9_reject 74 = .ok (.iload_n 2, 1) := by decide +kernel
theorem dX9_reject_75 : decode cX9_reject 75 = .ok (.iconst 0, 1) := by decide +kernel
theorem dX9_reject_76 : decode cX9_reject 76 = .ok (.bastore, 1) := by decide +kernel
theorem dX9_reject_77 : decode cX9_reject 77 = .ok (.iconst 1, 1) := by decide +kernel
theorem dX9_reject_78 : decode cX9_reject 78 = .ok (.ireturn, 1) := by decide +kernel
theorem dX9_next_0 : decode cX9_next 0 = .ok (.aload_n 0, 1) := by decide +kernel
theorem dX9_next_1 : decode cX9_next 1 = .ok (.getfield 82, 3) := by decide +kernel
theorem dX9_next_4 : decode cX9_next 4 = .ok (.sipush 999, 3) := by decide +kernel
theorem dX9_next_7 : decode cX9_next 7 = .ok (.if_icmp .lt 5, 3) := by decide +kernel
theorem dX9_next_10 : decode cX9_next 10 = .ok (.iconst (-1), 1) := by decide +kernel
theorem dX9_next_11 : decode cX9_next 11 = .ok (.ireturn, 1) := by decide +kernel
theorem dX9_next_12 : decode cX9_next 12 = .ok (.aload_n 0, 1) := by decide +kernel
theorem dX9_next_13 : decode cX9_next 13 = .ok (.getfield 35, 3) := by decide +kernel
theorem dX9_next_16 : decode cX9_next 16 = .ok (.aload_n 0, 1) := by decide +kernel
theorem dX9_next_17 : decode cX9_next 17 = .ok (.getfield 19, 3) := by decide +kernel
theorem dX9_next_20 : decode cX9_next 20 = .ok (.getfield 163, 3) := by decide +kernel
theorem dX9_next_23 : decode cX9_next 23 = .ok (.invokevirtual 166, 3) := by decide +kernel
theorem dX9_next_26 : decode cX9_next 26 = .ok (.aload_n 0, 1) := by decide +kernel
theorem dX9_next_27 : decode cX9_next 27 = .ok (.getfield 49, 3) := by decide +kernel
theorem dX9_next_30 : decode cX9_next 30 = .ok (.invokevirtual 169, 3) := by decide +kernel
theorem dX9_next_33 : decode cX9_next 33 = .ok (.aload_n 0, 1) := by decide +kernel
theorem dX9_next_34 : decode cX9_next 34 = .ok (.dup, 1) := by decide +kernel
theorem dX9_next_35 : decode cX9_next 35 = .ok (.getfield 82, 3) := by decide +kernel
theorem dX9_next_38 : decode cX9_next 38 = .ok (.iconst 1, 1) := by decide +kernel
theorem dX9_next_39 : decode cX9_next 39 = .ok (.iadd, 1) := by decide +kernel
theorem dX9_next_40 : decode cX9_next 40 = .ok (.putfield 82, 3) := by decide +kernel
theorem dX9_next_43 : decode cX9_next 43 = .ok (.aload_n 0, 1) := by decide +kernel
theorem dX9_next_44 : decode cX9_next 44 = .ok (.getfield 82, 3) := by decide +kernel
theorem dX9_next_47 : decode cX9_next 47 = .ok (.ireturn, 1) := by decide +kernel
theorem dX9_about_0 : decode cX9_about 0 = .ok (.iload_n 1, 1) := by decide +kernel
theorem dX9_about_1 : decode cX9_about 1 = .ok (.aload_n 0, 1) := by decide +kernel
theorem dX9_about_2 : decode cX9_about 2 = .ok (.getfield 35, 3) := by decide +kernel
theorem dX9_about_5 : decode cX9_about 5 = .ok (.getfield 119, 3) := by decide +kernel
theorem dX9_about_8 : decode cX9_about 8 = .ok (.invokestatic 115, 3) := by decide +kernel
theorem dX9_about_11 : decode cX9_about 11 = .ok (.ifCond .ne 13, 3) := by decide +kernel
theorem dX9_about_14 : decode cX9_about 14 = .ok (.new 172, 3) := by decide +kernel
theorem dX9_about_17 : decode cX9_about 17 = .ok (.dup, 1) := by decide +kernel
theorem dX9_about_18 : decode cX9_about 18 = .ok (.ldc 174, 2) := by decide +kernel
theorem dX9_about_20 : decode cX9_about 20 = .ok (.invokespecial 176, 3) := by decide +kernel
theorem dX9_about_23 : decode cX9_about 23 = .ok (.athrow, 1) := by decide +kernel
theorem dX9_about_24 : decode cX9_about 24 = .ok (.iload_n 2, 1) := by decide +kernel
theorem dX9_about_25 : decode cX9_about 25 = .ok (.tableswitch 121 0 6 #[43, 53, 63, 73, 83, 93, 111], 43) := by decide +kernel
theorem dX9_about_68 : decode cX9_about 68 = .ok (.aload_n 0, 1) := by decide +kernel
theorem dX9_about_69 : decode cX9_about 69 = .ok (.getfield 35, 3) := by decide +kernel
theorem dX9_about_72 : decode cX9_about 72 = .ok (.getfield 179, 3) := by decide +kernel
theorem dX9_about_75 : decode cX9_about 75 = .ok (.iload_n 1, 1) := by decide +kernel
theorem dX9_about_76 : decode cX9_about 76 = .ok (.iaload, 1) := by decide +kernel
theorem dX9_about_77 : decode cX9_about 77 = .ok (.ireturn, 1) := by decide +kernel
theorem dX9_about_78 : decode cX9_about 78 = .ok (.aload_n 0, 1) := by decide +kernel
theorem dX9_about_79 : decode cX9_about 79 = .ok (.getfield 35, 3) := by decide +kernel
theorem dX9_about_82 : decode cX9_about 82 = .ok (.getfield 182, 3) := by decide +kernel
theorem dX9_about_85 : decode cX9_about 85 = .ok (.iload_n 1, 1) := by decide +kernel
theorem dX9_about_86 : decode cX9_about 86 = .ok (.iaload, 1) := by decide +kernel
theorem dX9_about_87 : decode cX9_about 87 = .ok (.ireturn, 1) := by decide +kernel
theorem dX9_about_88 : decode cX9_about 88 = .ok (.aload_n 0, 1) := by decide +kernel
theorem dX9_about_89 : decode cX9_about 89 = .ok (.getfield 35, 3) := by decide +kernel
theorem dX9_about_92 : decode cX9_about 92 = .ok (.getfield 185, 3) := by decide +kernel
theorem dX9_about_95 : decode cX9_about 95 = .ok (.iload_n 1, 1) := by decide +kernel
theorem dX9_about_96 : decode cX9_about 96 = .ok (.iaload, 1) := by decide +kernel
theorem dX9_about_97 : decode cX9_about 97 = .ok (.ireturn, 1) := by decide +kernel
theorem dX9_about_98 : decode cX9_about 98 = .ok (.aload_n 0, 1) := by decide +kernel
theorem dX9_about_99 : decode cX9_about 99 = .ok (.getfield 35, 3) := by decide +kernel
theorem dX9_about_102 : decode cX9_about 102 = .ok (.getfield 188, 3) := by decide +kernel
theorem dX9_about_105 : decode cX9_about 105 = .ok (.iload_n 1, 1) := by decide +kernel
theorem dX9_about_106 : decode cX9_about 106 = .ok (.iaload, 1) := by decide +kernel
theorem dX9_about_107 : decode cX9_about 107 = .ok (.ireturn, 1) := by decide +kernel
theorem dX9_about_108 : decode cX9_about 108 = .ok (.aload_n 0, 1) := by decide +kernel
theorem dX9_about_109 : decode cX9_about 109 = .ok (.getfield 35, 3) := by decide +kernel
theorem dX9_about_112 : decode cX9_about 112 = .ok (.getfield 191, 3) := by decide +kernel
theorem dX9_about_115 : decode cX9_about 115 = .ok (.iload_n 1, 1) := by decide +kernel
theorem dX9_about_116 : decode cX9_about 116 = .ok (.iaload, 1) := by decide +kernel
theorem dX9_about_117 : decode cX9_about 117 = .ok (.ireturn, 1) := by decide +kernel
theorem dX9_about_118 : decode cX9_about 118 = .ok (.aload_n 0, 1) := by decide +kernel
theorem dX9_about_119 : decode cX9_about 119 = .ok (.getfield 35, 3) := by decide +kernel
theorem dX9_about_122 : decode cX9_about 122 = .ok (.getfield 159, 3) := by decide +kernel
theorem dX9_about_125 : decode cX9_about 125 = .ok (.iload_n 1, 1) := by decide +kernel
theorem dX9_about_126 : decode cX9_about 126 = .ok (.baload, 1) := by decide +kernel
theorem dX9_about_127 : decode cX9_about 127 = .ok (.ifCond .eq 7, 3) := by decide +kernel
theorem dX9_about_130 : decode cX9_about 130 = .ok (.iconst 1, 1) := by decide +kernel
theorem dX9_about_131 : decode cX9_about 131 = .ok (.goto 4, 3) := by decide +kernel
theorem dX9_about_134 : decode cX9_about 134 = .ok (.iconst 0, 1) := by decide +kernel
theorem dX9_about_135 : decode cX9_about 135 = .ok (.ireturn, 1) := by decide +kernel
theorem dX9_about_136 : decode cX9_about 136 = .ok (.aload_n 0, 1) := by decide +kernel
theorem dX9_about_137 : decode cX9_about 137 = .ok (.getfield 35, 3) := by decide +kernel
theorem dX9_about_140 : decode cX9_about 140 = .ok (.getfield 156, 3) := by decide +kernel
theorem dX9_about_143 : decode cX9_about 143 = .ok (.iload_n 1, 1) := by decide +kernel
theorem dX9_about_144 : decode cX9_about 144 = .ok (.iaload, 1) := by decide +kernel
theorem dX9_about_145 : decode cX9_about 145 = .ok (.ireturn, 1) := by decide +kernel
theorem dX9_about_146 : decode cX9_about 146 = .ok (.new 172, 3) := by decide +kernel
theorem dX9_about_149 : decode cX9_about 149 = .ok (.dup, 1) := by decide +kernel
theorem dX9_about_150 : decode cX9_about 150 = .ok (.ldc 194, 2) := by decide +kernel
theorem dX9_about_152 : decode cX9_about 152 = .ok (.invokespecial 176, 3) := by decide +kernel
theorem dX9_about_155 : decode cX9_about 155 = .ok (.athrow, 1) := by decide +kernel
theorem dX9_sale_0 : decode cX9_sale 0 = .ok (.iload_n 1, 1) := by decide +kernel
theorem dX9_sale_1 : decode cX9_sale 1 = .ok (.aload_n 0, 1) := by decide +kernel
theorem dX9_sale_2 : decode cX9_sale 2 = .ok (.getfield 42, 3) := by decide +kernel
theorem dX9_sale_5 : decode cX9_sale 5 = .ok (.getfield 145, 3) := by decide +kernel
theorem dX9_sale_8 : decode cX9_sale 8 = .ok (.invokestatic 115, 3) := by decide +kernel
theorem dX9_sale_11 : decode cX9_sale 11 = .ok (.ifCond .ne 13, 3) := by decide +kernel
theorem dX9_sale_14 : decode cX9_sale 14 = .ok (.new 172, 3) := by decide +kernel
theorem dX9_sale_17 : decode cX9_sale 17 = .ok (.dup, 1) := by decide +kernel
theorem dX9_sale_18 : decode cX9_sale 18 = .ok (.ldc 196, 2) := by decide +kernel
theorem dX9_sale_20 : decode cX9_sale 20 = .ok (.invokespecial 176, 3) := by decide +kernel
theorem dX9_sale_23 : decode cX9_sale 23 = .ok (.athrow, 1) := by decide +kernel
theorem dX9_sale_24 : decode cX9_sale 24 = .ok (.iload_n 2, 1) := by decide +kernel
theorem dX9_sale_25 : decode cX9_sale 25 = .ok (.tableswitch 112 0 6 #[43, 53, 63, 73, 83, 93, 103], 43) := by decide +kernel
theorem dX9_sale_68 : decode cX9_sale 68 = .ok (.aload_n 0, 1) := by decide +kernel
theorem dX9_sale_69 : decode cX9_sale 69 = .ok (.getfield 42, 3) := by decide +kernel
theorem dX9_sale_72 : decode cX9_sale 72 = .ok (.getfield 153, 3) := by decide +kernel
theorem dX9_sale_75 : decode cX9_sale 75 = .ok (.iload_n 1, 1) := by decide +kernel
theorem dX9_sale_76 : decode cX9_sale 76 = .ok (.iaload, 1) := by decide +kernel
theorem dX9_sale_77 : decode cX9_sale 77 = .ok (.ireturn, 1) := by decide +kernel
theorem dX9_sale_78 : decode cX9_sale 78 = .ok (.aload_n 0, 1) := by decide +kernel
theorem dX9_sale_79 : decode cX9_sale 79 = .ok (.getfield 42, 3) := by decide +kernel
theorem dX9_sale_82 : decode cX9_sale 82 = .ok (.getfield 198, 3) := by decide +kernel
theorem dX9_sale_85 : decode cX9_sale 85 = .ok (.iload_n 1, 1) := by decide +kernel
theorem dX9_sale_86 : decode cX9_sale 86 = .ok (.iaload, 1) := by decide +kernel
theorem dX9_sale_87 : decode cX9_sale 87 = .ok (.ireturn, 1) := by decide +kernel
theorem dX9_sale_88 : decode cX9_sale 88 = .ok (.aload_n 0, 1) := by decide +kernel
theorem dX9_sale_89 : decode cX9_sale 89 = .ok (.getfield 42, 3) := by decide +kernel
theorem dX9_sale_92 : decode cX9_sale 92 = .ok (.getfield 201, 3) := by decide +kernel
theorem dX9_sale_95 : decode cX9_sale 95 = .ok (.iload_n 1, 1) := by decide +kernel
theorem dX9_sale_96 : decode cX9_sale 96 = .ok (.iaload, 1) := by decide +kernel
theorem dX9_sale_97 : decode cX9_sale 97 = .ok (.ireturn, 1) := by decide +kernel
theorem dX9_sale_98 : decode cX9_sale 98 = .ok (.aload_n 0, 1) := by decide +kernel
theorem dX9_sale_99 : decode cX9_sale 99 = .ok (.getfield 42, 3) := by decide +kernel
theorem dX9_sale_102 : decode cX9_sale 102 = .ok (.getfield 204, 3) := by decide +kernel
theorem dX9_sale_105 : decode cX9_sale 105 = .ok (.iload_n 1, 1) := by decide +kernel
theorem dX9_sale_106 : decode cX9_sale 106 = .ok (.iaload, 1) := by decide +kernel
theorem dX9_sale_107 : decode cX9_sale 107 = .ok (.ireturn, 1) := by decide +kernel
theorem dX9_sale_108 : decode cX9_sale 108 = .ok (.aload_n 0, 1) := by decide +kernel
theorem dX9_sale_109 : decode cX9_sale 109 = .ok (.getfield 42, 3) := by decide +kernel
theorem dX9_sale_112 : decode cX9_sale 112 = .ok (.getfield 205, 3) := by decide +kernel
theorem dX9_sale_115 : decode cX9_sale 115 = .ok (.iload_n 1, 1) := by decide +kernel
theorem dX9_sale_116 : decode cX9_sale 116 = .ok (.iaload, 1) := by decide +kernel
theorem dX9_sale_117 : decode cX9_sale 117 = .ok (.ireturn, 1) := by decide +kernel
theorem dX9_sale_118 : decode cX9_sale 118 = .ok (.aload_n 0, 1) := by decide +kernel
theorem dX9_sale_119 : decode cX9_sale 119 = .ok (.getfield 42, 3) := by decide +kernel
theorem dX9_sale_122 : decode cX9_sale 122 = .ok (.getfield 150, 3) := by decide +kernel
theorem dX9_sale_125 : decode cX9_sale 125 = .ok (.iload_n 1, 1) := by decide +kernel
theorem dX9_sale_126 : decode cX9_sale 126 = .ok (.iaload, 1) := by decide +kernel
theorem dX9_sale_127 : decode cX9_sale 127 = .ok (.ireturn, 1) := by decide +kernel
theorem dX9_sale_128 : decode cX9_sale 128 = .ok (.aload_n 0, 1) := by decide +kernel
theorem dX9_sale_129 : decode cX9_sale 129 = .ok (.getfield 58, 3) := by decide +kernel
theorem dX9_sale_132 : decode cX9_sale 132 = .ok (.iload_n 1, 1) := by decide +kernel
theorem dX9_sale_133 : decode cX9_sale 133 = .ok (.invokevirtual 208, 3) := by decide +kernel
theorem dX9_sale_136 : decode cX9_sale 136 = .ok (.ireturn, 1) := by decide +kernel
theorem dX9_sale_137 : decode cX9_sale 137 = .ok (.new 172, 3) := by decide +kernel
theorem dX9_sale_140 : decode cX9_sale 140 = .ok (.dup, 1) := by decide +kernel
theorem dX9_sale_141 : decode cX9_sale 141 = .ok (.ldc 212, 2) := by decide +kernel
theorem dX9_sale_143 : decode cX9_sale 143 = .ok (.invokespecial 176, 3) := by decide +kernel
theorem dX9_sale_146 : decode cX9_sale 146 = .ok (.athrow, 1) := by decide +kernel
theorem dX9_left_0 : decode cX9_left 0 = .ok (.iload_n 1, 1) := by decide +kernel
theorem dX9_left_1 : decode cX9_left 1 = .ok (.bipush 10, 2) := by decide +kernel
theorem dX9_left_3 : decode cX9_left 3 = .ok (.invokestatic 115, 3) := by decide +kernel
theorem dX9_left_6 : decode cX9_left 6 = .ok (.ifCond .eq 15, 3) := by decide +kernel
theorem dX9_left_9 : decode cX9_left 9 = .ok (.aload_n 0, 1) := by decide +kernel
theorem dX9_left_10 : decode cX9_left 10 = .ok (.getfield 49, 3) := by decide +kernel
theorem dX9_left_13 : decode cX9_left 13 = .ok (.getfield 128, 3) := by decide +kernel
theorem dX9_left_16 : decode cX9_left 16 = .ok (.iload_n 1, 1) := by decide +kernel
theorem dX9_left_17 : decode cX9_left 17 = .ok (.iaload, 1) := by decide +kernel
theorem dX9_left_18 : decode cX9_left 18 = .ok (.goto 4, 3) := by decide +kernel
theorem dX9_left_21 : decode cX9_left 21 = .ok (.iconst (-1), 1) := by decide +kernel
theorem dX9_left_22 : decode cX9_left 22 = .ok (.ireturn, 1) := by decide +kernel
theorem dX9_wanted_0 : decode cX9_wanted 0 = .ok (.iload_n 1, 1) := by decide +kernel
theorem dX9_wanted_1 : decode cX9_wanted 1 = .ok (.iload_n 2, 1) := by decide +kernel
theorem dX9_wanted_2 : decode cX9_wanted 2 = .ok (.iload_n 3, 1) := by decide +kernel
theorem dX9_wanted_3 : decode cX9_wanted 3 = .ok (.invokestatic 131, 3) := by decide +kernel
theorem dX9_wanted_6 : decode cX9_wanted 6 = .ok (.ifCond .ne 5, 3) := by decide +kernel
theorem dX9_wanted_9 : decode cX9_wanted 9 = .ok (.iconst (-1), 1) := by decide +kernel
theorem dX9_wanted_10 : decode cX9_wanted 10 = .ok (.ireturn, 1) := by decide +kernel
theorem dX9_wanted_11 : decode cX9_wanted 11 = .ok (.aload_n 0, 1) := by decide +kernel
theorem dX9_wanted_12 : decode cX9_wanted 12 = .ok (.getfield 49, 3) := by decide +kernel
theorem dX9_wanted_15 : decode cX9_wanted 15 = .ok (.getfield 139, 3) := by decide +kernel
theorem dX9_wanted_18 : decode cX9_wanted 18 = .ok (.iload_n 1, 1) := by decide +kernel
theorem dX9_wanted_19 : decode cX9_wanted 19 = .ok (.iload_n 2, 1) := by decide +kernel
theorem dX9_wanted_20 : decode cX9_wanted 20 = .ok (.iload_n 3, 1) := by decide +kernel
theorem dX9_wanted_21 : decode cX9_wanted 21 = .ok (.invokestatic 135, 3) := by decide +kernel
theorem dX9_wanted_24 : decode cX9_wanted 24 = .ok (.iaload, 1) := by decide +kernel
theorem dX9_wanted_25 : decode cX9_wanted 25 = .ok (.ireturn, 1) := by decide +kernel
theorem dX9_pool_0 : decode cX9_pool 0 = .ok (.aload_n 0, 1) := by decide +kernel
theorem dX9_pool_1 : decode cX9_pool 1 = .ok (.getfield 58, 3) := by decide +kernel
theorem dX9_pool_4 : decode cX9_pool 4 = .ok (.iload_n 1, 1) := by decide +kernel
theorem dX9_pool_5 : decode cX9_pool 5 = .ok (.invokevirtual 214, 3) := by decide +kernel
theorem dX9_pool_8 : decode cX9_pool 8 = .ok (.l2i, 1) := by decide +kernel
theorem dX9_pool_9 : decode cX9_pool 9 = .ok (.ireturn, 1) := by decide +kernel
theorem dX9_pay_0 : decode cX9_pay 0 = .ok (.iload_n 1, 1) := by decide +kernel
theorem dX9_pay_1 : decode cX9_pay 1 = .ok (.bipush 8, 2) := by decide +kernel
theorem dX9_pay_3 : decode cX9_pay 3 = .ok (.invokestatic 115, 3) := by decide +kernel
theorem dX9_pay_6 : decode cX9_pay 6 = .ok (.ifCond .eq 16, 3) := by decide +kernel
theorem dX9_pay_9 : decode cX9_pay 9 = .ok (.aload_n 0, 1) := by decide +kernel
theorem dX9_pay_10 : decode cX9_pay 10 = .ok (.getfield 58, 3) := by decide +kernel
theorem dX9_pay_13 : decode cX9_pay 13 = .ok (.iload_n 1, 1) := by decide +kernel
theorem dX9_pay_14 : decode cX9_pay 14 = .ok (.iload_n 2, 1) := by decide +kernel
theorem dX9_pay_15 : decode cX9_pay 15 = .ok (.invokevirtual 218, 3) := by decide +kernel
theorem dX9_pay_18 : decode cX9_pay 18 = .ok (.l2i, 1) := by decide +kernel
theorem dX9_pay_19 : decode cX9_pay 19 = .ok (.goto 4, 3) := by decide +kernel
theorem dX9_pay_22 : decode cX9_pay 22 = .ok (.iconst (-1), 1) := by decide +kernel
theorem dX9_pay_23 : decode cX9_pay 23 = .ok (.ireturn, 1) := by decide +kernel
theorem dX9_worth_0 : decode cX9_worth 0 = .ok (.iload_n 1, 1) := by decide +kernel
theorem dX9_worth_1 : decode cX9_worth 1 = .ok (.bipush 6, 2) := by decide +kernel
theorem dX9_worth_3 : decode cX9_worth 3 = .ok (.invokestatic 115, 3) := by decide +kernel
theorem dX9_worth_6 : decode cX9_worth 6 = .ok (.ifCond .ne 13, 3) := by decide +kernel
theorem dX9_worth_9 : decode cX9_worth 9 = .ok (.new 172, 3) := by decide +kernel
theorem dX9_worth_12 : decode cX9_worth 12 = .ok (.dup, 1) := by decide +kernel
theorem dX9_worth_13 : decode cX9_worth 13 = .ok (.ldc 222, 2) := by decide +kernel
theorem dX9_worth_15 : decode cX9_worth 15 = .ok (.invokespecial 176, 3) := by decide +kernel
theorem dX9_worth_18 : decode cX9_worth 18 = .ok (.athrow, 1) := by decide +kernel
theorem dX9_worth_19 : decode cX9_worth 19 = .ok (.iload_n 3, 1) := by decide +kernel
theorem dX9_worth_20 : decode cX9_worth 20 = .ok (.ifCond .eq 18, 3) := by decide +kernel
theorem dX9_worth_23 : decode cX9_worth 23 = .ok (.iload_n 3, 1) := by decide +kernel
theorem dX9_worth_24 : decode cX9_worth 24 = .ok (.iconst 1, 1) := by decide +kernel
theorem dX9_worth_25 : decode cX9_worth 25 = .ok (.if_icmp .eq 13, 3) := by decide +kernel
theorem dX9_worth_28 : decode cX9_worth 28 = .ok (.new 172, 3) := by decide +kernel
theorem dX9_worth_31 : decode cX9_worth 31 = .ok (.dup, 1) := by decide +kernel
theorem dX9_worth_32 : decode cX9_worth 32 = .ok (.ldc 224, 2) := by decide +kernel
theorem dX9_worth_34 : decode cX9_worth 34 = .ok (.invokespecial 176, 3) := by decide +kernel
theorem dX9_worth_37 : decode cX9_worth 37 = .ok (.athrow, 1) := by decide +kernel
theorem dX9_worth_38 : decode cX9_worth 38 = .ok (.aload_n 0, 1) := by decide +kernel
theorem dX9_worth_39 : decode cX9_worth 39 = .ok (.getfield 67, 3) := by decide +kernel
theorem dX9_worth_42 : decode cX9_worth 42 = .ok (.iload_n 1, 1) := by decide +kernel
theorem dX9_worth_43 : decode cX9_worth 43 = .ok (.iload_n 2, 1) := by decide +kernel
theorem dX9_worth_44 : decode cX9_worth 44 = .ok (.invokevirtual 226, 3) := by decide +kernel
theorem dX9_worth_47 : decode cX9_worth 47 = .ok (.ifCond .ne 13, 3) := by decide +kernel
theorem dX9_worth_50 : decode cX9_worth 50 = .ok (.new 172, 3) := by decide +kernel
theorem dX9_worth_53 : decode cX9_worth 53 = .ok (.dup, 1) := by decide +kernel
theorem dX9_worth_54 : decode cX9_worth 54 = .ok (.ldc 229, 2) := by decide +kernel
theorem dX9_worth_56 : decode cX9_worth 56 = .ok (.invokespecial 176, 3) := by decide +kernel
theorem dX9_worth_59 : decode cX9_worth 59 = .ok (.athrow, 1) := by decide +kernel
theorem dX9_worth_60 : decode cX9_worth 60 = .ok (.iload_n 3, 1) := by decide +kernel
theorem dX9_worth_61 : decode cX9_worth 61 = .ok (.ifCond .ne 13, 3) := by decide +kernel
theorem dX9_worth_64 : decode cX9_worth 64 = .ok (.aload_n 0, 1) := by decide +kernel
theorem dX9_worth_65 : decode cX9_worth 65 = .ok (.getfield 67, 3) := by decide +kernel
theorem dX9_worth_68 : decode cX9_worth 68 = .ok (.getfield 231, 3) := by decide +kernel
theorem dX9_worth_71 : decode cX9_worth 71 = .ok (.goto 10, 3) := by decide +kernel
theorem dX9_worth_74 : decode cX9_worth 74 = .ok (.aload_n 0, 1) := by decide +kernel
theorem dX9_worth_75 : decode cX9_worth 75 = .ok (.getfield 67, 3) := by decide +kernel
theorem dX9_worth_78 : decode cX9_worth 78 = .ok (.getfield 235, 3) := by decide +kernel
theorem dX9_worth_81 : decode cX9_worth 81 = .ok (.lreturn, 1) := by decide +kernel
theorem dX9_wire_0 : decode cX9_wire 0 = .ok (.iload_n 1, 1) := by decide +kernel
theorem dX9_wire_1 : decode cX9_wire 1 = .ok (.iconst 4, 1) := by decide +kernel
theorem dX9_wire_2 : decode cX9_wire 2 = .ok (.invokestatic 115, 3) := by decide +kernel
theorem dX9_wire_5 : decode cX9_wire 5 = .ok (.ifCond .eq 37, 3) := by decide +kernel
theorem dX9_wire_8 : decode cX9_wire 8 = .ok (.iload_n 2, 1) := by decide +kernel
theorem dX9_wire_9 : decode cX9_wire 9 = .ok (.iconst 4, 1) := by decide +kernel
theorem dX9_wire_10 : decode cX9_wire 10 = .ok (.invokestatic 115, 3) := by decide +kernel
theorem dX9_wire_13 : decode cX9_wire 13 = .ok (.ifCond .eq 29, 3) := by decide +kernel
theorem dX9_wire_16 : decode cX9_wire 16 = .ok (.iload_n 3, 1) := by decide +kernel
theorem dX9_wire_17 : decode cX9_wire 17 = .ok (.ifCond .lt 25, 3) := by decide +kernel
theorem dX9_wire_20 : decode cX9_wire 20 = .ok (.iload_n 3, 1) := by decide +kernel
theorem dX9_wire_21 : decode cX9_wire 21 = .ok (.sipush 999, 3) := by decide +kernel
theorem dX9_wire_24 : decode cX9_wire 24 = .ok (.if_icmp .gt 18, 3) := by decide +kernel
theorem dX9_wire_27 : decode cX9_wire 27 = .ok (.iload 4, 2) := by decide +kernel
theorem dX9_wire_29 : decode cX9_wire 29 = .ok (.ifCond .lt 13, 3) := by decide +kernel
theorem dX9_wire_32 : decode cX9_wire 32 = .ok (.iload 4, 2) := by decide +kernel
theorem dX9_wire_34 : decode cX9_wire 34 = .ok (.iconst 3, 1) := by decide +kernel
theorem dX9_wire_35 : decode cX9_wire 35 = .ok (.if_icmp .gt 7, 3) := by decide +kernel
theorem dX9_wire_38 : decode cX9_wire 38 = .ok (.iconst 1, 1) := by decide +kernel
theorem dX9_wire_39 : decode cX9_wire 39 = .ok (.goto 4, 3) := by decide +kernel
theorem dX9_wire_42 : decode cX9_wire 42 = .ok (.iconst 0, 1) := by decide +kernel
theorem dX9_wire_43 : decode cX9_wire 43 = .ok (.istore 5, 2) := by decide +kernel
theorem dX9_wire_45 : decode cX9_wire 45 = .ok (.iload 5, 2) := by decide +kernel
theorem dX9_wire_47 : decode cX9_wire 47 = .ok (.ifCond .ne 5, 3) := by decide +kernel
theorem dX9_wire_50 : decode cX9_wire 50 = .ok (.iconst (-1), 1) := by decide +kernel
theorem dX9_wire_51 : decode cX9_wire 51 = .ok (.ireturn, 1) := by decide +kernel
theorem dX9_wire_52 : decode cX9_wire 52 = .ok (.iconst 0, 1) := by decide +kernel
theorem dX9_wire_53 : decode cX9_wire 53 = .ok (.istore 6, 2) := by decide +kernel
theorem dX9_wire_55 : decode cX9_wire 55 = .ok (.iconst 0, 1) := by decide +kernel
theorem dX9_wire_56 : decode cX9_wire 56 = .ok (.istore 7, 2) := by decide +kernel
theorem dX9_wire_58 : decode cX9_wire 58 = .ok (.iconst 0, 1) := by decide +kernel
theorem dX9_wire_59 : decode cX9_wire 59 = .ok (.istore 8, 2) := by decide +kernel
theorem dX9_wire_61 : decode cX9_wire 61 = .ok (.iconst 0, 1) := by decide +kernel
theorem dX9_wire_62 : decode cX9_wire 62 = .ok (.istore 9, 2) := by decide +kernel
theorem dX9_wire_64 : decode cX9_wire 64 = .ok (.iconst 0, 1) := by decide +kernel
theorem dX9_wire_65 : decode cX9_wire 65 = .ok (.istore 10, 2) := by decide +kernel
theorem dX9_wire_67 : decode cX9_wire 67 = .ok (.iload 10, 2) := by decide +kernel
theorem dX9_wire_69 : decode cX9_wire 69 = .ok (.aload_n 0, 1) := by decide +kernel
theorem dX9_wire_70 : decode cX9_wire 70 = .ok (.getfield 42, 3) := by decide +kernel
theorem dX9_wire_73 : decode cX9_wire 73 = .ok (.getfield 145, 3) := by decide +kernel
theorem dX9_wire_76 : decode cX9_wire 76 = .ok (.if_icmp .ge 79, 3) := by decide +kernel
theorem dX9_wire_79 : decode cX9_wire 79 = .ok (.aload_n 0, 1) := by decide +kernel
theorem dX9_wire_80 : decode cX9_wire 80 = .ok (.iload 10, 2) := by decide +kernel
theorem dX9_wire_82 : decode cX9_wire 82 = .ok (.iload_n 1, 1) := by decide +kernel
theorem dX9_wire_83 : decode cX9_wire 83 = .ok (.iload_n 2, 1) := by decide +kernel
theorem dX9_wire_84 : decode cX9_wire 84 = .ok (.iload_n 3, 1) := by decide +kernel
theorem dX9_wire_85 : decode cX9_wire 85 = .ok (.invokevirtual 238, 3) := by decide +kernel
theorem dX9_wire_88 : decode cX9_wire 88 = .ok (.ifCond .eq 61, 3) := by decide +kernel
theorem dX9_wire_91 : decode cX9_wire 91 = .ok (.aload_n 0, 1) := by decide +kernel
theorem dX9_wire_92 : decode cX9_wire 92 = .ok (.getfield 42, 3) := by decide +kernel
theorem dX9_wire_95 : decode cX9_wire 95 = .ok (.getfield 205, 3) := by decide +kernel
theorem dX9_wire_98 : decode cX9_wire 98 = .ok (.iload 10, 2) := by decide +kernel
theorem dX9_wire_100 : decode cX9_wire 100 = .ok (.iaload, 1) := by decide +kernel
theorem dX9_wire_101 : decode cX9_wire 101 = .ok (.istore 11, 2) := by decide +kernel
theorem dX9_wire_103 : decode cX9_wire 103 = .ok (.iload 6, 2) := by decide +kernel
theorem dX9_wire_105 : decode cX9_wire 105 = .ok (.ifCond .ne 8, 3) := by decide +kernel
theorem dX9_wire_108 : decode cX9_wire 108 = .ok (.iload 11, 2) := by decide +kernel
theorem dX9_wire_110 : decode cX9_wire 110 = .ok (.goto 10, 3) := by decide +kernel
theorem dX9_wire_113 : decode cX9_wire 113 = .ok (.iload 8, 2) := by decide +kernel
theorem dX9_wire_115 : decode cX9_wire 115 = .ok (.iload 11, 2) := by decide +kernel
theorem dX9_wire_117 : decode cX9_wire 117 = .ok (.invokestatic 242, 3) := by decide +kernel
theorem dX9_wire_120 : decode cX9_wire 120 = .ok (.istore 8, 2) := by decide +kernel
theorem dX9_wire_122 : decode cX9_wire 122 = .ok (.iload 9, 2) := by decide +kernel
theorem dX9_wire_124 : decode cX9_wire 124 = .ok (.iload 11, 2) := by decide +kernel
theorem dX9_wire_126 : decode cX9_wire 126 = .ok (.invokestatic 248, 3) := by decide +kernel
theorem dX9_wire_129 : decode cX9_wire 129 = .ok (.istore 9, 2) := by decide +kernel
theorem dX9_wire_131 : decode cX9_wire 131 = .ok (.iload 7, 2) := by decide +kernel
theorem dX9_wire_133 : decode cX9_wire 133 = .ok (.aload_n 0, 1) := by decide +kernel
theorem dX9_wire_134 : decode cX9_wire 134 = .ok (.getfield 42, 3) := by decide +kernel
theorem dX9_wire_137 : decode cX9_wire 137 = .ok (.getfield 204, 3) := by decide +kernel
theorem dX9_wire_140 : decode cX9_wire 140 = .ok (.iload 10, 2) := by decide +kernel
theorem dX9_wire_142 : decode cX9_wire 142 = .ok (.iaload, 1) := by decide +kernel
theorem dX9_wire_143 : decode cX9_wire 143 = .ok (.iadd, 1) := by decide +kernel
theorem dX9_wire_144 : decode cX9_wire 144 = .ok (.istore 7, 2) := by decide +kernel
theorem dX9_wire_146 : decode cX9_wire 146 = .ok (.iinc 6 1, 3) := by decide +kernel
theorem dX9_wire_149 : decode cX9_wire 149 = .ok (.iinc 10 1, 3) := by decide +kernel
theorem dX9_wire_152 : decode cX9_wire 152 = .ok (.goto (-85), 3) := by decide +kernel
theorem dX9_wire_155 : decode cX9_wire 155 = .ok (.iload 4, 2) := by decide +kernel
theorem dX9_wire_157 : decode cX9_wire 157 = .ok (.tableswitch 36 0 2 #[27, 30, 33], 27) := by decide +kernel
theorem dX9_wire_184 : decode cX9_wire 184 = .ok (.iload 6, 2) := by decide +kernel
theorem dX9_wire_186 : decode cX9_wire 186 = .ok (.ireturn, 1) := by decide +kernel
theorem dX9_wire_187 : decode cX9_wire 187 = .ok (.iload 7, 2) := by decide +kernel
theorem dX9_wire_189 : decode cX9_wire 189 = .ok (.ireturn, 1) := by decide +kernel
theorem dX9_wire_190 : decode cX9_wire 190 = .ok (.iload 8, 2) := by decide +kernel
theorem dX9_wire_192 : decode cX9_wire 192 = .ok (.ireturn, 1) := by decide +kernel
theorem dX9_wire_193 : decode cX9_wire 193 = .ok (.iload 9, 2) := by decide +kernel
theorem dX9_wire_195 : decode cX9_wire 195 = .ok (.ireturn, 1) := by decide +kernel
theorem dX9_cars_0 : decode cX9_cars 0 = .ok (.aload_n 0, 1) := by decide +kernel
theorem dX9_cars_1 : decode cX9_cars 1 = .ok (.getfield 10, 3) := by decide +kernel
theorem dX9_cars_4 : decode cX9_cars 4 = .ok (.getfield 89, 3) := by decide +kernel
theorem dX9_cars_7 : decode cX9_cars 7 = .ok (.bipush 16, 2) := by decide +kernel
theorem dX9_cars_9 : decode cX9_cars 9 = .ok (.if_icmp .ne 18, 3) := by decide +kernel
theorem dX9_cars_12 : decode cX9_cars 12 = .ok (.iload_n 1, 1) := by decide +kernel
theorem dX9_cars_13 : decode cX9_cars 13 = .ok (.iconst 1, 1) := by decide +kernel
theorem dX9_cars_14 : decode cX9_cars 14 = .ok (.if_icmp .lt 13, 3) := by decide +kernel
theorem dX9_cars_17 : decode cX9_cars 17 = .ok (.iload_n 1, 1) := by decide +kernel
theorem dX9_cars_18 : decode cX9_cars 18 = .ok (.bipush 40, 2) := by decide +kernel
theorem dX9_cars_20 : decode cX9_cars 20 = .ok (.if_icmp .gt 7, 3) := by decide +kernel
theorem dX9_cars_23 : decode cX9_cars 23 = .ok (.iconst 1, 1) := by decide +kernel
theorem dX9_cars_24 : decode cX9_cars 24 = .ok (.goto 4, 3) := by decide +kernel
theorem dX9_cars_27 : decode cX9_cars 27 = .ok (.iconst 0, 1) := by decide +kernel
theorem dX9_cars_28 : decode cX9_cars 28 = .ok (.istore_n 2, 1) := by decide +kernel
theorem dX9_cars_29 : decode cX9_cars 29 = .ok (.iload_n 2, 1) := by decide +kernel
theorem dX9_cars_30 : decode cX9_cars 30 = .ok (.ifCond .eq 18, 3) := by decide +kernel
theorem dX9_cars_33 : decode cX9_cars 33 = .ok (.aload_n 0, 1) := by decide +kernel
theorem dX9_cars_34 : decode cX9_cars 34 = .ok (.getfield 74, 3) := by decide +kernel
theorem dX9_cars_37 : decode cX9_cars 37 = .ok (.aload_n 0, 1) := by decide +kernel
theorem dX9_cars_38 : decode cX9_cars 38 = .ok (.getfield 10, 3) := by decide +kernel
theorem dX9_cars_41 : decode cX9_cars 41 = .ok (.iload_n 1, 1) := by decide +kernel
theorem dX9_cars_42 : decode cX9_cars 42 = .ok (.invokevirtual 251, 3) := by decide +kernel
theorem dX9_cars_45 : decode cX9_cars 45 = .ok (.goto 4, 3) := by decide +kernel
theorem dX9_cars_48 : decode cX9_cars 48 = .ok (.iconst (-1), 1) := by decide +kernel
theorem dX9_cars_49 : decode cX9_cars 49 = .ok (.istore_n 3, 1) := by decide +kernel
theorem dX9_cars_50 : decode cX9_cars 50 = .ok (.aload_n 0, 1) := by decide +kernel
theorem dX9_cars_51 : decode cX9_cars 51 = .ok (.getfield 10, 3) := by decide +kernel
theorem dX9_cars_54 : decode cX9_cars 54 = .ok (.iconst 0, 1) := by decide +kernel
theorem dX9_cars_55 : decode cX9_cars 55 = .ok (.putfield 89, 3) := by decide +kernel
theorem dX9_cars_58 : decode cX9_cars 58 = .ok (.iload_n 3, 1) := by decide +kernel
theorem dX9_cars_59 : decode cX9_cars 59 = .ok (.ireturn, 1) := by decide +kernel
theorem dX9_sent_0 : decode cX9_sent 0 = .ok (.aload_n 0, 1) := by decide +kernel
theorem dX9_sent_1 : decode cX9_sent 1 = .ok (.getfield 74, 3) := by decide +kernel
theorem dX9_sent_4 : decode cX9_sent 4 = .ok (.getfield 255, 3) := by decide +kernel
theorem dX9_sent_7 : decode cX9_sent 7 = .ok (.ifCond .eq 23, 3) := by decide +kernel
theorem dX9_sent_10 : decode cX9_sent 10 = .ok (.iload_n 1, 1) := by decide +kernel
theorem dX9_sent_11 : decode cX9_sent 11 = .ok (.iconst 4, 1) := by decide +kernel
theorem dX9_sent_12 : decode cX9_sent 12 = .ok (.invokestatic 115, 3) := by decide +kernel
theorem dX9_sent_15 : decode cX9_sent 15 = .ok (.ifCond .eq 15, 3) := by decide +kernel
theorem dX9_sent_18 : decode cX9_sent 18 = .ok (.aload_n 0, 1) := by decide +kernel
theorem dX9_sent_19 : decode cX9_sent 19 = .ok (.getfield 74, 3) := by decide +kernel
theorem dX9_sent_22 : decode cX9_sent 22 = .ok (.getfield 259, 3) := by decide +kernel
theorem dX9_sent_25 : decode cX9_sent 25 = .ok (.iload_n 1, 1) := by decide +kernel
theorem dX9_sent_26 : decode cX9_sent 26 = .ok (.iaload, 1) := by decide +kernel
theorem dX9_sent_27 : decode cX9_sent 27 = .ok (.goto 4, 3) := by decide +kernel
theorem dX9_sent_30 : decode cX9_sent 30 = .ok (.iconst (-1), 1) := by decide +kernel
theorem dX9_sent_31 : decode cX9_sent 31 = .ok (.ireturn, 1) := by decide +kernel
theorem dX9_count_0 : decode cX9_count 0 = .ok (.iload_n 1, 1) := by decide +kernel
theorem dX9_count_1 : decode cX9_count 1 = .ok (.tableswitch 72 0 4 #[35, 40, 48, 56, 64], 35) := by decide +kernel
theorem dX9_count_36 : decode cX9_count 36 = .ok (.aload_n 0, 1) := by decide +kernel
theorem dX9_count_37 : decode cX9_count 37 = .ok (.getfield 82, 3) := by decide +kernel
theorem dX9_count_40 : decode cX9_count 40 = .ok (.ireturn, 1) := by decide +kernel
theorem dX9_count_41 : decode cX9_count 41 = .ok (.aload_n 0, 1) := by decide +kernel
theorem dX9_count_42 : decode cX9_count 42 = .ok (.getfield 35, 3) := by decide +kernel
theorem dX9_count_45 : decode cX9_count 45 = .ok (.getfield 119, 3) := by decide +kernel
theorem dX9_count_48 : decode cX9_count 48 = .ok (.ireturn, 1) := by decide +kernel
theorem dX9_count_49 : decode cX9_count 49 = .ok (.aload_n 0, 1) := by decide +kernel
theorem dX9_count_50 : decode cX9_count 50 = .ok (.getfield 42, 3) := by decide +kernel
theorem dX9_count_53 : decode cX9_count 53 = .ok (.getfield 145, 3) := by decide +kernel
theorem dX9_count_56 : decode cX9_count 56 = .ok (.ireturn, 1) := by decide +kernel
theorem dX9_count_57 : decode cX9_count 57 = .ok (.aload_n 0, 1) := by decide +kernel
theorem dX9_count_58 : decode cX9_count 58 = .ok (.getfield 19, 3) := by decide +kernel
theorem dX9_count_61 : decode cX9_count 61 = .ok (.getfield 112, 3) := by decide +kernel
theorem dX9_count_64 : decode cX9_count 64 = .ok (.ireturn, 1) := by decide +kernel
theorem dX9_count_65 : decode cX9_count 65 = .ok (.aload_n 0, 1) := by decide +kernel
theorem dX9_count_66 : decode cX9_count 66 = .ok (.getfield 10, 3) := by decide +kernel
theorem dX9_count_69 : decode cX9_count 69 = .ok (.getfield 89, 3) := by decide +kernel
theorem dX9_count_72 : decode cX9_count 72 = .ok (.ireturn, 1) := by decide +kernel
theorem dX9_count_73 : decode cX9_count 73 = .ok (.iconst (-1), 1) := by decide +kernel
theorem dX9_count_74 : decode cX9_count 74 = .ok (.ireturn, 1) := by decide +kernel
theorem dX9_isBelow_0 : decode cX9_isBelow 0 = .ok (.iload_n 0, 1) := by decide +kernel
theorem dX9_isBelow_1 : decode cX9_isBelow 1 = .ok (.ifCond .lt 12, 3) := by decide +kernel
theorem dX9_isBelow_4 : decode cX9_isBelow 4 = .ok (.iload_n 0, 1) := by decide +kernel
theorem dX9_isBelow_5 : decode cX9_isBelow 5 = .ok (.iload_n 1, 1) := by decide +kernel
theorem dX9_isBelow_6 : decode cX9_isBelow 6 = .ok (.if_icmp .ge 7, 3) := by decide +kernel
theorem dX9_isBelow_9 : decode cX9_isBelow 9 = .ok (.iconst 1, 1) := by decide +kernel
theorem dX9_isBelow_10 : decode cX9_isBelow 10 = .ok (.goto 4, 3) := by decide +kernel
theorem dX9_isBelow_13 : decode cX9_isBelow 13 = .ok (.iconst 0, 1) := by decide +kernel
theorem dX9_isBelow_14 : decode cX9_isBelow 14 = .ok (.ireturn, 1) := by decide +kernel
theorem dX9_isWantPlace_0 : decode cX9_isWantPlace 0 = .ok (.iload_n 0, 1) := by decide +kernel
theorem dX9_isWantPlace_1 : decode cX9_isWantPlace 1 = .ok (.bipush 10, 2) := by decide +kernel
theorem dX9_isWantPlace_3 : decode cX9_isWantPlace 3 = .ok (.invokestatic 115, 3) := by decide +kernel
theorem dX9_isWantPlace_6 : decode cX9_isWantPlace 6 = .ok (.ifCond .eq 23, 3) := by decide +kernel
theorem dX9_isWantPlace_9 : decode cX9_isWantPlace 9 = .ok (.iload_n 1, 1) := by decide +kernel
theorem dX9_isWantPlace_10 : decode cX9_isWantPlace 10 = .ok (.iconst 4, 1) := by decide +kernel
theorem dX9_isWantPlace_11 : decode cX9_isWantPlace 11 = .ok (.invokestatic 115, 3) := by decide +kernel
theorem dX9_isWantPlace_14 : decode cX9_isWantPlace 14 = .ok (.ifCond .eq 15, 3) := by decide +kernel
theorem dX9_isWantPlace_17 : decode cX9_isWantPlace 17 = .ok (.iload_n 2, 1) := by decide +kernel
theorem dX9_isWantPlace_18 : decode cX9_isWantPlace 18 = .ok (.iconst 4, 1) := by decide +kernel
theorem dX9_isWantPlace_19 : decode cX9_isWantPlace 19 = .ok (.invokestatic 115, 3) := by decide +kernel
theorem dX9_isWantPlace_22 : decode cX9_isWantPlace 22 = .ok (.ifCond .eq 7, 3) := by decide +kernel
theorem dX9_isWantPlace_25 : decode cX9_isWantPlace 25 = .ok (.iconst 1, 1) := by decide +kernel
theorem dX9_isWantPlace_26 : decode cX9_isWantPlace 26 = .ok (.goto 4, 3) := by decide +kernel
theorem dX9_isWantPlace_29 : decode cX9_isWantPlace 29 = .ok (.iconst 0, 1) := by decide +kernel
theorem dX9_isWantPlace_30 : decode cX9_isWantPlace 30 = .ok (.ireturn, 1) := by decide +kernel
theorem dX9_offerRound_0 : decode cX9_offerRound 0 = .ok (.iconst 0, 1) := by decide +kernel
theorem dX9_offerRound_1 : decode cX9_offerRound 1 = .ok (.istore_n 2, 1) := by decide +kernel
theorem dX9_offerRound_2 : decode cX9_offerRound 2 = .ok (.iconst 0, 1) := by decide +kernel
theorem dX9_offerRound_3 : decode cX9_offerRound 3 = .ok (.istore_n 3, 1) := by decide +kernel
theorem dX9_offerRound_4 : decode cX9_offerRound 4 = .ok (.iload_n 3, 1) := by decide +kernel
theorem dX9_offerRound_5 : decode cX9_offerRound 5 = .ok (.bipush 8, 2) := by decide +kernel
theorem dX9_offerRound_7 : decode cX9_offerRound 7 = .ok (.if_icmp .ge 70, 3) := by decide +kernel
theorem dX9_offerRound_10 : decode cX9_offerRound 10 = .ok (.aload_n 0, 1) := by decide +kernel
theorem dX9_offerRound_11 : decode cX9_offerRound 11 = .ok (.getfield 82, 3) := by decide +kernel
theorem dX9_offerRound_14 : decode cX9_offerRound 14 = .ok (.iload_n 3, 1) := by decide +kernel
theorem dX9_offerRound_15 : decode cX9_offerRound 15 = .ok (.iadd, 1) := by decide +kernel
theorem dX9_offerRound_16 : decode cX9_offerRound 16 = .ok (.bipush 8, 2) := by decide +kernel
theorem dX9_offerRound_18 : decode cX9_offerRound 18 = .ok (.irem, 1) := by decide +kernel
theorem dX9_offerRound_19 : decode cX9_offerRound 19 = .ok (.istore 4, 2) := by decide +kernel
theorem dX9_offerRound_21 : decode cX9_offerRound 21 = .ok (.aload_n 0, 1) := by decide +kernel
theorem dX9_offerRound_22 : decode cX9_offerRound 22 = .ok (.getfield 35, 3) := by decide +kernel
theorem dX9_offerRound_25 : decode cX9_offerRound 25 = .ok (.iload 4, 2) := by decide +kernel
theorem dX9_offerRound_27 : decode cX9_offerRound 27 = .ok (.iload_n 1, 1) := by decide +kernel
theorem dX9_offerRound_28 : decode cX9_offerRound 28 = .ok (.aload_n 0, 1) := by decide +kernel
theorem dX9_offerRound_29 : decode cX9_offerRound 29 = .ok (.getfield 78, 3) := by decide +kernel
theorem dX9_offerRound_32 : decode cX9_offerRound 32 = .ok (.iload 4, 2) := by decide +kernel
theorem dX9_offerRound_34 : decode cX9_offerRound 34 = .ok (.iaload, 1) := by decide +kernel
theorem dX9_offerRound_35 : decode cX9_offerRound 35 = .ok (.invokevirtual 262, 3) := by decide +kernel
theorem dX9_offerRound_38 : decode cX9_offerRound 38 = .ok (.istore 5, 2) := by decide +kernel
theorem dX9_offerRound_40 : decode cX9_offerRound 40 = .ok (.aload_n 0, 1) := by decide +kernel
theorem dX9_offerRound_41 : decode cX9_offerRound 41 = .ok (.getfield 78, 3) := by decide +kernel
theorem dX9_offerRound_44 : decode cX9_offerRound 44 = .ok (.iload 4, 2) := by decide +kernel
theorem dX9_offerRound_46 : decode cX9_offerRound 46 = .ok (.iload 5, 2) := by decide +kernel
theorem dX9_offerRound_48 : decode cX9_offerRound 48 = .ok (.iconst 1, 1) := by decide +kernel
theorem dX9_offerRound_49 : decode cX9_offerRound 49 = .ok (.iadd, 1) := by decide +kernel
theorem dX9_offerRound_50 : decode cX9_offerRound 50 = .ok (.iastore, 1) := by decide +kernel
theorem dX9_offerRound_51 : decode cX9_offerRound 51 = .ok (.iload 5, 2) := by decide +kernel
theorem dX9_offerRound_53 : decode cX9_offerRound 53 = .ok (.aload_n 0, 1) := by decide +kernel
theorem dX9_offerRound_54 : decode cX9_offerRound 54 = .ok (.getfield 35, 3) := by decide +kernel
theorem dX9_offerRound_57 : decode cX9_offerRound 57 = .ok (.getfield 119, 3) := by decide +kernel
theorem dX9_offerRound_60 : decode cX9_offerRound 60 = .ok (.if_icmp .ge 11, 3) := by decide +kernel
theorem dX9_offerRound_63 : decode cX9_offerRound 63 = .ok (.aload_n 0, 1) := by decide +kernel
theorem dX9_offerRound_64 : decode cX9_offerRound 64 = .ok (.iload 5, 2) := by decide +kernel
theorem dX9_offerRound_66 : decode cX9_offerRound 66 = .ok (.invokevirtual 265, 3) := by decide +kernel
theorem dX9_offerRound_69 : decode cX9_offerRound 69 = .ok (.iconst 1, 1) := by decide +kernel
theorem dX9_offerRound_70 : decode cX9_offerRound 70 = .ok (.istore_n 2, 1) := by decide +kernel
theorem dX9_offerRound_71 : decode cX9_offerRound 71 = .ok (.iinc 3 1, 3) := by decide +kernel
theorem dX9_offerRound_74 : decode cX9_offerRound 74 = .ok (.goto (-70), 3) := by decide +kernel
theorem dX9_offerRound_77 : decode cX9_offerRound 77 = .ok (.iload_n 2, 1) := by decide +kernel
theorem dX9_offerRound_78 : decode cX9_offerRound 78 = .ok (.ireturn, 1) := by decide +kernel
theorem dX9_offerLot_0 : decode cX9_offerLot 0 = .ok (.aload_n 0, 1) := by decide +kernel
theorem dX9_offerLot_1 : decode cX9_offerLot 1 = .ok (.getfield 42, 3) := by decide +kernel
theorem dX9_offerLot_4 : decode cX9_offerLot 4 = .ok (.getfield 145, 3) := by decide +kernel
theorem dX9_offerLot_7 : decode cX9_offerLot 7 = .ok (.sipush 400, 3) := by decide +kernel
theorem dX9_offerLot_10 : decode cX9_offerLot 10 = .ok (.if_icmp .lt 4, 3) := by decide +kernel
theorem dX9_offerLot_13 : decode cX9_offerLot 13 = .ok (.return_, 1) := by decide +kernel
theorem dX9_offerLot_14 : decode cX9_offerLot 14 = .ok (.aload_n 0, 1) := by decide +kernel
theorem dX9_offerLot_15 : decode cX9_offerLot 15 = .ok (.getfield 35, 3) := by decide +kernel
theorem dX9_offerLot_18 : decode cX9_offerLot 18 = .ok (.getfield 188, 3) := by decide +kernel
theorem dX9_offerLot_21 : decode cX9_offerLot 21 = .ok (.iload_n 1, 1) := by decide +kernel
theorem dX9_offerLot_22 : decode cX9_offerLot 22 = .ok (.iaload, 1) := by decide +kernel
theorem dX9_offerLot_23 : decode cX9_offerLot 23 = .ok (.istore_n 2, 1) := by decide +kernel
theorem dX9_offerLot_24 : decode cX9_offerLot 24 = .ok (.aload_n 0, 1) := by decide +kernel
theorem dX9_offerLot_25 : decode cX9_offerLot 25 = .ok (.getfield 19, 3) := by decide +kernel
theorem dX9_offerLot_28 : decode cX9_offerLot 28 = .ok (.getfield 268, 3) := by decide +kernel
theorem dX9_offerLot_31 : decode cX9_offerLot 31 = .ok (.aload_n 0, 1) := by decide +kernel
theorem dX9_offerLot_32 : decode cX9_offerLot 32 = .ok (.getfield 35, 3) := by decide +kernel
theorem dX9_offerLot_35 : decode cX9_offerLot 35 = .ok (.getfield 185, 3) := by decide +kernel
theorem dX9_offerLot_38 : decode cX9_offerLot 38 = .ok (.iload_n 1, 1) := by decide +kernel
theorem dX9_offerLot_39 : decode cX9_offerLot 39 = .ok (.iaload, 1) := by decide +kernel
theorem dX9_offerLot_40 : decode cX9_offerLot 40 = .ok (.iaload, 1) := by decide +kernel
theorem dX9_offerLot_41 : decode cX9_offerLot 41 = .ok (.istore_n 3, 1) := by decide +kernel
theorem dX9_offerLot_42 : decode cX9_offerLot 42 = .ok (.iconst (-1), 1) := by decide +kernel
theorem dX9_offerLot_43 : decode cX9_offerLot 43 = .ok (.istore 4, 2) := by decide +kernel
theorem dX9_offerLot_45 : decode cX9_offerLot 45 = .ok (.iconst 0, 1) := by decide +kernel
theorem dX9_offerLot_46 : decode cX9_offerLot 46 = .ok (.istore 5, 2) := by decide +kernel
theorem dX9_offerLot_48 : decode cX9_offerLot 48 = .ok (.iconst 0, 1) := by decide +kernel
theorem dX9_offerLot_49 : decode cX9_offerLot 49 = .ok (.istore 6, 2) := by decide +kernel
theorem dX9_offerLot_51 : decode cX9_offerLot 51 = .ok (.iconst 0, 1) := by decide +kernel
theorem dX9_offerLot_52 : decode cX9_offerLot 52 = .ok (.istore 7, 2) := by decide +kernel
theorem dX9_offerLot_54 : decode cX9_offerLot 54 = .ok (.iload 7, 2) := by decide +kernel
theorem dX9_offerLot_56 : decode cX9_offerLot 56 = .ok (.bipush 10, 2) := by decide +kernel
theorem dX9_offerLot_58 : decode cX9_offerLot 58 = .ok (.if_icmp .ge 71, 3) := by decide +kernel
theorem dX9_offerLot_61 : decode cX9_offerLot 61 = .ok (.aload_n 0, 1) := by decide +kernel
theorem dX9_offerLot_62 : decode cX9_offerLot 62 = .ok (.getfield 49, 3) := by decide +kernel
theorem dX9_offerLot_65 : decode cX9_offerLot 65 = .ok (.iload 7, 2) := by decide +kernel
theorem dX9_offerLot_67 : decode cX9_offerLot 67 = .ok (.aload_n 0, 1) := by decide +kernel
theorem dX9_offerLot_68 : decode cX9_offerLot 68 = .ok (.getfield 35, 3) := by decide +kernel
theorem dX9_offerLot_71 : decode cX9_offerLot 71 = .ok (.getfield 191, 3) := by decide +kernel
theorem dX9_offerLot_74 : decode cX9_offerLot 74 = .ok (.iload_n 1, 1) := by decide +kernel
theorem dX9_offerLot_75 : decode cX9_offerLot 75 = .ok (.iaload, 1) := by decide +kernel
theorem dX9_offerLot_76 : decode cX9_offerLot 76 = .ok (.aload_n 0, 1) := by decide +kernel
theorem dX9_offerLot_77 : decode cX9_offerLot 77 = .ok (.getfield 35, 3) := by decide +kernel
theorem dX9_offerLot_80 : decode cX9_offerLot 80 = .ok (.getfield 185, 3) := by decide +kernel
theorem dX9_offerLot_83 : decode cX9_offerLot 83 = .ok (.iload_n 1, 1) := by decide +kernel
theorem dX9_offerLot_84 : decode cX9_offerLot 84 = .ok (.iaload, 1) := by decide +kernel
theorem dX9_offerLot_85 : decode cX9_offerLot 85 = .ok (.iload_n 2, 1) := by decide +kernel
theorem dX9_offerLot_86 : decode cX9_offerLot 86 = .ok (.iload_n 3, 1) := by decide +kernel
theorem dX9_offerLot_87 : decode cX9_offerLot 87 = .ok (.invokevirtual 271, 3) := by decide +kernel
theorem dX9_offerLot_90 : decode cX9_offerLot 90 = .ok (.istore 8, 2) := by decide +kernel
theorem dX9_offerLot_92 : decode cX9_offerLot 92 = .ok (.iload 8, 2) := by decide +kernel
theorem dX9_offerLot_94 : decode cX9_offerLot 94 = .ok (.iload 5, 2) := by decide +kernel
theorem dX9_offerLot_96 : decode cX9_offerLot 96 = .ok (.if_icmp .le 18, 3) := by decide +kernel
theorem dX9_offerLot_99 : decode cX9_offerLot 99 = .ok (.iload 5, 2) := by decide +kernel
theorem dX9_offerLot_101 : decode cX9_offerLot 101 = .ok (.istore 6, 2) := by decide +kernel
theorem dX9_offerLot_103 : decode cX9_offerLot 103 = .ok (.iload 8, 2) := by decide +kernel
theorem dX9_offerLot_105 : decode cX9_offerLot 105 = .ok (.istore 5, 2) := by decide +kernel
theorem dX9_offerLot_107 : decode cX9_offerLot 107 = .ok (.iload 7, 2) := by decide +kernel
theorem dX9_offerLot_109 : decode cX9_offerLot 109 = .ok (.istore 4, 2) := by decide +kernel
theorem dX9_offerLot_111 : decode cX9_offerLot 111 = .ok (.goto 12, 3) := by decide +kernel
theorem dX9_offerLot_114 : decode cX9_offerLot 114 = .ok (.iload 6, 2) := by decide +kernel
theorem dX9_offerLot_116 : decode cX9_offerLot 116 = .ok (.iload 8, 2) := by decide +kernel
theorem dX9_offerLot_118 : decode cX9_offerLot 118 = .ok (.invokestatic 248, 3) := by decide +kernel
theorem dX9_offerLot_121 : decode cX9_offerLot 121 = .ok (.istore 6, 2) := by decide +kernel
theorem dX9_offerLot_123 : decode cX9_offerLot 123 = .ok (.iinc 7 1, 3) := by decide +kernel
theorem dX9_offerLot_126 : decode cX9_offerLot 126 = .ok (.goto (-72), 3) := by decide +kernel
theorem dX9_offerLot_129 : decode cX9_offerLot 129 = .ok (.iload 4, 2) := by decide +kernel
theorem dX9_offerLot_131 : decode cX9_offerLot 131 = .ok (.iconst (-1), 1) := by decide +kernel
theorem dX9_offerLot_132 : decode cX9_offerLot 132 = .ok (.if_icmp .eq 20, 3) := by decide +kernel
theorem dX9_offerLot_135 : decode cX9_offerLot 135 = .ok (.aload_n 0, 1) := by decide +kernel
theorem dX9_offerLot_136 : decode cX9_offerLot 136 = .ok (.iload_n 1, 1) := by decide +kernel
theorem dX9_offerLot_137 : decode cX9_offerLot 137 = .ok (.iload 4, 2) := by decide +kernel
theorem dX9_offerLot_139 : decode cX9_offerLot 139 = .ok (.iload 6, 2) := by decide +kernel
theorem dX9_offerLot_141 : decode cX9_offerLot 141 = .ok (.iload_n 3, 1) := by decide +kernel
theorem dX9_offerLot_142 : decode cX9_offerLot 142 = .ok (.invokestatic 248, 3) := by decide +kernel
theorem dX9_offerLot_145 : decode cX9_offerLot 145 = .ok (.iconst 1, 1) := by decide +kernel
theorem dX9_offerLot_146 : decode cX9_offerLot 146 = .ok (.invokestatic 248, 3) := by decide +kernel
theorem dX9_offerLot_149 : decode cX9_offerLot 149 = .ok (.invokevirtual 274, 3) := by decide +kernel
theorem dX9_offerLot_152 : decode cX9_offerLot 152 = .ok (.return_, 1) := by decide +kernel
theorem dX9_sell_0 : decode cX9_sell 0 = .ok (.aload_n 0, 1) := by decide +kernel
theorem dX9_sell_1 : decode cX9_sell 1 = .ok (.getfield 35, 3) := by decide +kernel
theorem dX9_sell_4 : decode cX9_sell 4 = .ok (.getfield 188, 3) := by decide +kernel
theorem dX9_sell_7 : decode cX9_sell 7 = .ok (.iload_n 1, 1) := by decide +kernel
theorem dX9_sell_8 : decode cX9_sell 8 = .ok (.iaload, 1) := by decide +kernel
theorem dX9_sell_9 : decode cX9_sell 9 = .ok (.istore 4, 2) := by decide +kernel
theorem dX9_sell_11 : decode cX9_sell 11 = .ok (.aload_n 0, 1) := by decide +kernel
theorem dX9_sell_12 : decode cX9_sell 12 = .ok (.getfield 49, 3) := by decide +kernel
theorem dX9_sell_15 : decode cX9_sell 15 = .ok (.iload_n 2, 1) := by decide +kernel
theorem dX9_sell_16 : decode cX9_sell 16 = .ok (.iload_n 2, 1) := by decide +kernel
theorem dX9_sell_17 : decode cX9_sell 17 = .ok (.aload_n 0, 1) := by decide +kernel
theorem dX9_sell_18 : decode cX9_sell 18 = .ok (.getfield 35, 3) := by decide +kernel
theorem dX9_sell_21 : decode cX9_sell 21 = .ok (.getfield 191, 3) := by decide +kernel
theorem dX9_sell_24 : decode cX9_sell 24 = .ok (.iload_n 1, 1) := by decide +kernel
theorem dX9_sell_25 : decode cX9_sell 25 = .ok (.iaload, 1) := by decide +kernel
theorem dX9_sell_26 : decode cX9_sell 26 = .ok (.aload_n 0, 1) := by decide +kernel
theorem dX9_sell_27 : decode cX9_sell 27 = .ok (.getfield 35, 3) := by decide +kernel
theorem dX9_sell_30 : decode cX9_sell 30 = .ok (.getfield 185, 3) := by decide +kernel
theorem dX9_sell_33 : decode cX9_sell 33 = .ok (.iload_n 1, 1) := by decide +kernel
theorem dX9_sell_34 : decode cX9_sell 34 = .ok (.iaload, 1) := by decide +kernel
theorem dX9_sell_35 : decode cX9_sell 35 = .ok (.invokestatic 135, 3) := by decide +kernel
theorem dX9_sell_38 : decode cX9_sell 38 = .ok (.iload 4, 2) := by decide +kernel
theorem dX9_sell_40 : decode cX9_sell 40 = .ok (.iload_n 3, 1) := by decide +kernel
theorem dX9_sell_41 : decode cX9_sell 41 = .ok (.invokevirtual 278, 3) := by decide +kernel
theorem dX9_sell_44 : decode cX9_sell 44 = .ok (.aload_n 0, 1) := by decide +kernel
theorem dX9_sell_45 : decode cX9_sell 45 = .ok (.getfield 42, 3) := by decide +kernel
theorem dX9_sell_48 : decode cX9_sell 48 = .ok (.iload_n 1, 1) := by decide +kernel
theorem dX9_sell_49 : decode cX9_sell 49 = .ok (.iload_n 2, 1) := by decide +kernel
theorem dX9_sell_50 : decode cX9_sell 50 = .ok (.aload_n 0, 1) := by decide +kernel
theorem dX9_sell_51 : decode cX9_sell 51 = .ok (.getfield 82, 3) := by decide +kernel
theorem dX9_sell_54 : decode cX9_sell 54 = .ok (.iload 4, 2) := by decide +kernel
theorem dX9_sell_56 : decode cX9_sell 56 = .ok (.iload_n 3, 1) := by decide +kernel
theorem dX9_sell_57 : decode cX9_sell 57 = .ok (.invokevirtual 282, 3) := by decide +kernel
theorem dX9_sell_60 : decode cX9_sell 60 = .ok (.istore 5, 2) := by decide +kernel
theorem dX9_sell_62 : decode cX9_sell 62 = .ok (.aload_n 0, 1) := by decide +kernel
theorem dX9_sell_63 : decode cX9_sell 63 = .ok (.getfield 35, 3) := by decide +kernel
theorem dX9_sell_66 : decode cX9_sell 66 = .ok (.getfield 156, 3) := by decide +kernel
theorem dX9_sell_69 : decode cX9_sell 69 = .ok (.iload_n 1, 1) := by decide +kernel
theorem dX9_sell_70 : decode cX9_sell 70 = .ok (.iaload, 1) := by decide +kernel
theorem dX9_sell_71 : decode cX9_sell 71 = .ok (.istore 6, 2) := by decide +kernel
theorem dX9_sell_73 : decode cX9_sell 73 = .ok (.iload 6, 2) := by decide +kernel
theorem dX9_sell_75 : decode cX9_sell 75 = .ok (.iconst (-1), 1) := by decide +kernel
theorem dX9_sell_76 : decode cX9_sell 76 = .ok (.if_icmp .eq 15, 3) := by decide +kernel
theorem dX9_sell_79 : decode cX9_sell 79 = .ok (.aload_n 0, 1) := by decide +kernel
theorem dX9_sell_80 : decode cX9_sell 80 = .ok (.getfield 42, 3) := by decide +kernel
theorem dX9_sell_83 : decode cX9_sell 83 = .ok (.getfield 283, 3) := by decide +kernel
theorem dX9_sell_86 : decode cX9_sell 86 = .ok (.iload 6, 2) := by decide +kernel
theorem dX9_sell_88 : decode cX9_sell 88 = .ok (.iload 5, 2) := by decide +kernel
theorem dX9_sell_90 : decode cX9_sell 90 = .ok (.iastore, 1) := by decide +kernel
theorem dX9_sell_91 : decode cX9_sell 91 = .ok (.aload_n 0, 1) := by decide +kernel
theorem dX9_sell_92 : decode cX9_sell 92 = .ok (.getfield 35, 3) := by decide +kernel
theorem dX9_sell_95 : decode cX9_sell 95 = .ok (.getfield 156, 3) := by decide +kernel
theorem dX9_sell_98 : decode cX9_sell 98 = .ok (.iload_n 1, 1) := by decide +kernel
theorem dX9_sell_99 : decode cX9_sell 99 = .ok (.iload 5, 2) := by decide +kernel
theorem dX9_sell_101 : decode cX9_sell 101 = .ok (.iastore, 1) := by decide +kernel
theorem dX9_sell_102 : decode cX9_sell 102 = .ok (.aload_n 0, 1) := by decide +kernel
theorem dX9_sell_103 : decode cX9_sell 103 = .ok (.getfield 35, 3) := by decide +kernel
theorem dX9_sell_106 : decode cX9_sell 106 = .ok (.getfield 159, 3) := by decide +kernel
theorem dX9_sell_109 : decode cX9_sell 109 = .ok (.iload_n 1, 1) := by decide +kernel
theorem dX9_sell_110 : decode cX9_sell 110 = .ok (.iconst 1, 1) := by decide +kernel
theorem dX9_sell_111 : decode cX9_sell 111 = .ok (.bastore, 1) := by decide +kernel
theorem dX9_sell_112 : decode cX9_sell 112 = .ok (.return_, 1) := by decide +kernel
theorem dX9_isWired_0 : decode cX9_isWired 0 = .ok (.aload_n 0, 1) := by decide +kernel
theorem dX9_isWired_1 : decode cX9_isWired 1 = .ok (.getfield 42, 3) := by decide +kernel
theorem dX9_isWired_4 : decode cX9_isWired 4 = .ok (.getfield 153, 3) := by decide +kernel
theorem dX9_isWired_7 : decode cX9_isWired 7 = .ok (.iload_n 1, 1) := by decide +kernel
theorem dX9_isWired_8 : decode cX9_isWired 8 = .ok (.iaload, 1) := by decide +kernel
theorem dX9_isWired_9 : decode cX9_isWired 9 = .ok (.istore 5, 2) := by decide +kernel
theorem dX9_isWired_11 : decode cX9_isWired 11 = .ok (.aload_n 0, 1) := by decide +kernel
theorem dX9_isWired_12 : decode cX9_isWired 12 = .ok (.getfield 42, 3) := by decide +kernel
theorem dX9_isWired_15 : decode cX9_isWired 15 = .ok (.getfield 201, 3) := by decide +kernel
theorem dX9_isWired_18 : decode cX9_isWired 18 = .ok (.iload_n 1, 1) := by decide +kernel
theorem dX9_isWired_19 : decode cX9_isWired 19 = .ok (.iaload, 1) := by decide +kernel
theorem dX9_isWired_20 : decode cX9_isWired 20 = .ok (.iload 4, 2) := by decide +kernel
theorem dX9_isWired_22 : decode cX9_isWired 22 = .ok (.if_icmp .ne 48, 3) := by decide +kernel
theorem dX9_isWired_25 : decode cX9_isWired 25 = .ok (.aload_n 0, 1) := by decide +kernel
theorem dX9_isWired_26 : decode cX9_isWired 26 = .ok (.getfield 35, 3) := by decide +kernel
theorem dX9_isWired_29 : decode cX9_isWired 29 = .ok (.getfield 191, 3) := by decide +kernel
theorem dX9_isWired_32 : decode cX9_isWired 32 = .ok (.iload 5, 2) := by decide +kernel
theorem dX9_isWired_34 : decode cX9_isWired 34 = .ok (.iaload, 1) := by decide +kernel
theorem dX9_isWired_35 : decode cX9_isWired 35 = .ok (.iload_n 2, 1) := by decide +kernel
theorem dX9_isWired_36 : decode cX9_isWired 36 = .ok (.if_icmp .ne 34, 3) := by decide +kernel
theorem dX9_isWired_39 : decode cX9_isWired 39 = .ok (.aload_n 0, 1) := by decide +kernel
theorem dX9_isWired_40 : decode cX9_isWired 40 = .ok (.getfield 35, 3) := by decide +kernel
theorem dX9_isWired_43 : decode cX9_isWired 43 = .ok (.getfield 185, 3) := by decide +kernel
theorem dX9_isWired_46 : decode cX9_isWired 46 = .ok (.iload 5, 2) := by decide +kernel
theorem dX9_isWired_48 : decode cX9_isWired 48 = .ok (.iaload, 1) := by decide +kernel
theorem dX9_isWired_49 : decode cX9_isWired 49 = .ok (.iload_n 3, 1) := by decide +kernel
theorem dX9_isWired_50 : decode cX9_isWired 50 = .ok (.if_icmp .ne 20, 3) := by decide +kernel
theorem dX9_isWired_53 : decode cX9_isWired 53 = .ok (.aload_n 0, 1) := by decide +kernel
theorem dX9_isWired_54 : decode cX9_isWired 54 = .ok (.getfield 42, 3) := by decide +kernel
theorem dX9_isWired_57 : decode cX9_isWired 57 = .ok (.iload_n 1, 1) := by decide +kernel
theorem dX9_isWired_58 : decode cX9_isWired 58 = .ok (.iload 4, 2) := by decide +kernel
theorem dX9_isWired_60 : decode cX9_isWired 60 = .ok (.invokevirtual 286, 3) := by decide +kernel
theorem dX9_isWired_63 : decode cX9_isWired 63 = .ok (.ifCond .eq 7, 3) := by decide +kernel
theorem dX9_isWired_66 : decode cX9_isWired 66 = .ok (.iconst 1, 1) := by decide +kernel
theorem dX9_isWired_67 : decode cX9_isWired 67 = .ok (.goto 4, 3) := by decide +kernel
theorem dX9_isWired_70 : decode cX9_isWired 70 = .ok (.iconst 0, 1) := by decide +kernel
theorem dX9_isWired_71 : decode cX9_isWired 71 = .ok (.ireturn, 1) := by decide +kernel
theorem dJ9_abs_067f4_0 : decode cJ9_abs_067f4 0 = .ok (.lload_n 0, 1) := by decide +kernel
theorem dJ9_abs_067f4_1 : decode cJ9_abs_067f4 1 = .ok (.lconst 0, 1) := by decide +kernel
theorem dJ9_abs_067f4_2 : decode cJ9_abs_067f4 2 = .ok (.lcmp, 1) := by decide +kernel
theorem dJ9_abs_067f4_3 : decode cJ9_abs_067f4 3 = .ok (.ifCond .ge 8, 3) := by decide +kernel
theorem dJ9_abs_067f4_6 : decode cJ9_abs_067f4 6 = .ok (.lload_n 0, 1) := by decide +kernel
theorem dJ9_abs_067f4_7 : decode cJ9_abs_067f4 7 = .ok (.lneg, 1) := by decide +kernel
theorem dJ9_abs_067f4_8 : decode cJ9_abs_067f4 8 = .ok (.goto 4, 3) := by decide +kernel
theorem dJ9_abs_067f4_11 : decode cJ9_abs_067f4 11 = .ok (.lload_n 0, 1) := by decide +kernel
theorem dJ9_abs_067f4_12 : decode cJ9_abs_067f4 12 = .ok (.lreturn, 1) := by decide +kernel
theorem dJ9_max_7cf53_0 : decode cJ9_max_7cf53 0 = .ok (.iload_n 0, 1) := by decide +kernel
theorem dJ9_max_7cf53_1 : decode cJ9_max_7cf53 1 = .ok (.iload_n 1, 1) := by decide +kernel
theorem dJ9_max_7cf53_2 : decode cJ9_max_7cf53 2 = .ok (.if_icmp .lt 7, 3) := by decide +kernel
theorem dJ9_max_7cf53_5 : decode cJ9_max_7cf53 5 = .ok (.iload_n 0, 1) := by decide +kernel
theorem dJ9_max_7cf53_6 : decode cJ9_max_7cf53 6 = .ok (.goto 4, 3) := by decide +kernel
theorem dJ9_max_7cf53_9 : decode cJ9_max_7cf53 9 = .ok (.iload_n 1, 1) := by decide +kernel
theorem dJ9_max_7cf53_10 : decode cJ9_max_7cf53 10 = .ok (.ireturn, 1) := by decide +kernel
theorem dJ9_max_f86c9_0 : decode cJ9_max_f86c9 0 = .ok (.lload_n 0, 1) := by decide +kernel
theorem dJ9_max_f86c9_1 : decode cJ9_max_f86c9 1 = .ok (.lload_n 2, 1) := by decide +kernel
theorem dJ9_max_f86c9_2 : decode cJ9_max_f86c9 2 = .ok (.lcmp, 1) := by decide +kernel
theorem dJ9_max_f86c9_3 : decode cJ9_max_f86c9 3 = .ok (.ifCond .lt 7, 3) := by decide +kernel
theorem dJ9_max_f86c9_6 : decode cJ9_max_f86c9 6 = .ok (.lload_n 0, 1) := by decide +kernel
theorem dJ9_max_f86c9_7 : decode cJ9_max_f86c9 7 = .ok (.goto 4, 3) := by decide +kernel
theorem dJ9_max_f86c9_10 : decode cJ9_max_f86c9 10 = .ok (.lload_n 2, 1) := by decide +kernel
theorem dJ9_max_f86c9_11 : decode cJ9_max_f86c9 11 = .ok (.lreturn, 1) := by decide +kernel
theorem dJ9_min_7cf53_0 : decode cJ9_min_7cf53 0 = .ok (.iload_n 0, 1) := by decide +kernel
theorem dJ9_min_7cf53_1 : decode cJ9_min_7cf53 1 = .ok (.iload_n 1, 1) := by decide +kernel
theorem dJ9_min_7cf53_2 : decode cJ9_min_7cf53 2 = .ok (.if_icmp .gt 7, 3) := by decide +kernel
theorem dJ9_min_7cf53_5 : decode cJ9_min_7cf53 5 = .ok (.iload_n 0, 1) := by decide +kernel
theorem dJ9_min_7cf53_6 : decode cJ9_min_7cf53 6 = .ok (.goto 4, 3) := by decide +kernel
theorem dJ9_min_7cf53_9 : decode cJ9_min_7cf53 9 = .ok (.iload_n 1, 1) := by decide +kernel
theorem dJ9_min_7cf53_10 : decode cJ9_min_7cf53 10 = .ok (.ireturn, 1) := by decide +kernel
theorem dJ0_length_8abf5_0 : decode cJ0_length_8abf5 0 = .ok (.aload_n 0, 1) := by decide +kernel
theorem dJ0_length_8abf5_1 : decode cJ0_length_8abf5 1 = .ok (.getfield 9, 3) := by decide +kernel
theorem dJ0_length_8abf5_4 : decode cJ0_length_8abf5 4 = .ok (.arraylength, 1) := by decide +kernel
theorem dJ0_length_8abf5_5 : decode cJ0_length_8abf5 5 = .ok (.aload_n 0, 1) := by decide +kernel
theorem dJ0_length_8abf5_6 : decode cJ0_length_8abf5 6 = .ok (.invokevirtual 335, 3) := by decide +kernel
theorem dJ0_length_8abf5_9 : decode cJ0_length_8abf5 9 = .ok (.ishr, 1) := by decide +kernel
theorem dJ0_length_8abf5_10 : decode cJ0_length_8abf5 10 = .ok (.ireturn, 1) := by decide +kernel
theorem dJ0_charAt_5068e_0 : decode cJ0_charAt_5068e 0 = .ok (.aload_n 0, 1) := by decide +kernel
theorem dJ0_charAt_5068e_1 : decode cJ0_charAt_5068e 1 = .ok (.invokevirtual 492, 3) := by decide +kernel
theorem dJ0_charAt_5068e_4 : decode cJ0_charAt_5068e 4 = .ok (.ifCond .eq 12, 3) := by decide +kernel
theorem dJ0_charAt_5068e_7 : decode cJ0_charAt_5068e 7 = .ok (.aload_n 0, 1) := by decide +kernel
theorem dJ0_charAt_5068e_8 : decode cJ0_charAt_5068e 8 = .ok (.getfield 9, 3) := by decide +kernel
theorem dJ0_charAt_5068e_11 : decode cJ0_charAt_5068e 11 = .ok (.iload_n 1, 1) := by decide +kernel
theorem dJ0_charAt_5068e_12 : decode cJ0_charAt_5068e 12 = .ok (.invokestatic 495, 3) := by decide +kernel
theorem dJ0_charAt_5068e_15 : decode cJ0_charAt_5068e 15 = .ok (.ireturn, 1) := by decide +kernel
theorem dJ0_charAt_5068e_16 : decode cJ0_charAt_5068e 16 = .ok (.aload_n 0, 1) := by decide +kernel
theorem dJ0_charAt_5068e_17 : decode cJ0_charAt_5068e 17 = .ok (.getfield 9, 3) := by decide +kernel
theorem dJ0_charAt_5068e_20 : decode cJ0_charAt_5068e 20 = .ok (.iload_n 1, 1) := by decide +kernel
theorem dJ0_charAt_5068e_21 : decode cJ0_charAt_5068e 21 = .ok (.invokestatic 498, 3) := by decide +kernel
theorem dJ0_charAt_5068e_24 : decode cJ0_charAt_5068e 24 = .ok (.ireturn, 1) := by decide +kernel
theorem dJ0_coder_7d493_0 : decode cJ0_coder_7d493 0 = .ok (.getstatic 38, 3) := by decide +kernel
theorem dJ0_coder_7d493_3 : decode cJ0_coder_7d493 3 = .ok (.ifCond .eq 10, 3) := by decide +kernel
theorem dJ0_coder_7d493_6 : decode cJ0_coder_7d493 6 = .ok (.aload_n 0, 1) := by decide +kernel
theorem dJ0_coder_7d493_7 : decode cJ0_coder_7d493 7 = .ok (.getfield 15, 3) := by decide +kernel
theorem dJ0_coder_7d493_10 : decode cJ0_coder_7d493 10 = .ok (.goto 4, 3) := by decide +kernel
theorem dJ0_coder_7d493_13 : decode cJ0_coder_7d493 13 = .ok (.iconst 1, 1) := by decide +kernel
theorem dJ0_coder_7d493_14 : decode cJ0_coder_7d493 14 = .ok (.ireturn, 1) := by decide +kernel
theorem dJ0_isLatin1_aae02_0 : decode cJ0_isLatin1_aae02 0 = .ok (.getstatic 38, 3) := by decide +kernel
theorem dJ0_isLatin1_aae02_3 : decode cJ0_isLatin1_aae02 3 = .ok (.ifCond .eq 14, 3) := by decide +kernel
theorem dJ0_isLatin1_aae02_6 : decode cJ0_isLatin1_aae02 6 = .ok (.aload_n 0, 1) := by decide +kernel
theorem dJ0_isLatin1_aae02_7 : decode cJ0_isLatin1_aae02 7 = .ok (.getfield 15, 3) := by decide +kernel
theorem dJ0_isLatin1_aae02_10 : decode cJ0_isLatin1_aae02 10 = .ok (.ifCond .ne 7, 3) := by decide +kernel
theorem dJ0_isLatin1_aae02_13 : decode cJ0_isLatin1_aae02 13 = .ok (.iconst 1, 1) := by decide +kernel
theorem dJ0_isLatin1_aae02_14 : decode cJ0_isLatin1_aae02 14 = .ok (.goto 4, 3) := by decide +kernel
theorem dJ0_isLatin1_aae02_17 : decode cJ0_isLatin1_aae02 17 = .ok (.iconst 0, 1) := by decide +kernel
theorem dJ0_isLatin1_aae02_18 : decode cJ0_isLatin1_aae02 18 = .ok (.ireturn, 1) := by decide +kernel
theorem dJ0_checkIndex_df160_0 : decode cJ0_checkIndex_df160 0 = .ok (.iload_n 0, 1) := by decide +kernel
theorem dJ0_checkIndex_df160_1 : decode cJ0_checkIndex_df160 1 = .ok (.iload_n 1, 1) := by decide +kernel
theorem dJ0_checkIndex_df160_2 : decode cJ0_checkIndex_df160 2 = .ok (.getstatic 1053, 3) := by decide +kernel
theorem dJ0_checkIndex_df160_5 : decode cJ0_checkIndex_df160 5 = .ok (.invokestatic 1059, 3) := by decide +kernel
theorem dJ0_checkIndex_df160_8 : decode cJ0_checkIndex_df160 8 = .ok (.pop, 1) := by decide +kernel
theorem dJ0_checkIndex_df160_9 : decode cJ0_checkIndex_df160 9 = .ok (.return_, 1) := by decide +kernel
theorem dJ1_charAt_3b067_0 : decode cJ1_charAt_3b067 0 = .ok (.iload_n 1, 1) := by decide +kernel
theorem dJ1_charAt_3b067_1 : decode cJ1_charAt_3b067 1 = .ok (.aload_n 0, 1) := by decide +kernel
theorem dJ1_charAt_3b067_2 : decode cJ1_charAt_3b067 2 = .ok (.arraylength, 1) := by decide +kernel
theorem dJ1_charAt_3b067_3 : decode cJ1_charAt_3b067 3 = .ok (.invokestatic 9, 3) := by decide +kernel
theorem dJ1_charAt_3b067_6 : decode cJ1_charAt_3b067 6 = .ok (.aload_n 0, 1) := by decide +kernel
theorem dJ1_charAt_3b067_7 : decode cJ1_charAt_3b067 7 = .ok (.iload_n 1, 1) := by decide +kernel
theorem dJ1_charAt_3b067_8 : decode cJ1_charAt_3b067 8 = .ok (.baload, 1) := by decide +kernel
theorem dJ1_charAt_3b067_9 : decode cJ1_charAt_3b067 9 = .ok (.sipush 255, 3) := by decide +kernel
theorem dJ1_charAt_3b067_12 : decode cJ1_charAt_3b067 12 = .ok (.iand, 1) := by decide +kernel
theorem dJ1_charAt_3b067_13 : decode cJ1_charAt_3b067 13 = .ok (.i2c, 1) := by decide +kernel
theorem dJ1_charAt_3b067_14 : decode cJ1_charAt_3b067 14 = .ok (.ireturn, 1) := by decide +kernel
theorem dJ2_getChar_3b067_0 : decode cJ2_getChar_3b067 0 = .ok (.getstatic 44, 3) := by decide +kernel
theorem dJ2_getChar_3b067_3 : decode cJ2_getChar_3b067 3 = .ok (.ifCond .ne 25, 3) := by decide +kernel
theorem dJ2_getChar_3b067_6 : decode cJ2_getChar_3b067 6 = .ok (.iload_n 1, 1) := by decide +kernel
theorem dJ2_getChar_3b067_7 : decode cJ2_getChar_3b067 7 = .ok (.ifCond .lt 11, 3) := by decide +kernel
theorem dJ2_getChar_3b067_10 : decode cJ2_getChar_3b067 10 = .ok (.iload_n 1, 1) := by decide +kernel
theorem dJ2_getChar_3b067_11 : decode cJ2_getChar_3b067 11 = .ok (.aload_n 0, 1) := by decide +kernel
theorem dJ2_getChar_3b067_12 : decode cJ2_getChar_3b067 12 = .ok (.invokestatic 48, 3) := by decide +kernel
theorem dJ2_getChar_3b067_15 : decode cJ2_getChar_3b067 15 = .ok (.if_icmp .lt 13, 3) := by decide +kernel
theorem dJ2_getChar_3b067_18 : decode cJ2_getChar_3b067 18 = .ok (.new 52, 3) := by decide +kernel
theorem dJ2_getChar_3b067_21 : decode cJ2_getChar_3b067 21 = .ok (.dup, 1) := by decide +kernel
theorem dJ2_getChar_3b067_22 : decode cJ2_getChar_3b067 22 = .ok (.ldc 54, 2) := by decide +kernel
theorem dJ2_getChar_3b067_24 : decode cJ2_getChar_3b067 24 = .ok (.invokespecial 56, 3) := by decide +kernel
theorem dJ2_getChar_3b067_27 : decode cJ2_getChar_3b067 27 = .ok (.athrow, 1) := by decide +kernel
theorem dJ2_getChar_3b067_28 : decode cJ2_getChar_3b067 28 = .ok (.iload_n 1, 1) := by decide +kernel
theorem dJ2_getChar_3b067_29 : decode cJ2_getChar_3b067 29 = .ok (.iconst 1, 1) := by decide +kernel
theorem dJ2_getChar_3b067_30 : decode cJ2_getChar_3b067 30 = .ok (.ishl, 1) := by decide +kernel
theorem dJ2_getChar_3b067_31 : decode cJ2_getChar_3b067 31 = .ok (.istore_n 1, 1) := by decide +kernel
theorem dJ2_getChar_3b067_32 : decode cJ2_getChar_3b067 32 = .ok (.aload_n 0, 1) := by decide +kernel
theorem dJ2_getChar_3b067_33 : decode cJ2_getChar_3b067 33 = .ok (.iload_n 1, 1) := by decide +kernel
theorem dJ2_getChar_3b067_34 : decode cJ2_getChar_3b067 34 = .ok (.iinc 1 1, 3) := by decide +kernel
theorem dJ2_getChar_3b067_37 : decode cJ2_getChar_3b067 37 = .ok (.baload, 1) := by decide +kernel
theorem dJ2_getChar_3b067_38 : decode cJ2_getChar_3b067 38 = .ok (.sipush 255, 3) := by decide +kernel
theorem dJ2_getChar_3b067_41 : decode cJ2_getChar_3b067 41 = .ok (.iand, 1) := by decide +kernel
theorem dJ2_getChar_3b067_42 : decode cJ2_getChar_3b067 42 = .ok (.getstatic 59, 3) := by decide +kernel
theorem dJ2_getChar_3b067_45 : decode cJ2_getChar_3b067 45 = .ok (.ishl, 1) := by decide +kernel
theorem dJ2_getChar_3b067_46 : decode cJ2_getChar_3b067 46 = .ok (.aload_n 0, 1) := by decide +kernel
theorem dJ2_getChar_3b067_47 : decode cJ2_getChar_3b067 47 = .ok (.iload_n 1, 1) := by decide +kernel
theorem dJ2_getChar_3b067_48 : decode cJ2_getChar_3b067 48 = .ok (.baload, 1) := by decide +kernel
theorem dJ2_getChar_3b067_49 : decode cJ2_getChar_3b067 49 = .ok (.sipush 255, 3) := by decide +kernel
theorem dJ2_getChar_3b067_52 : decode cJ2_getChar_3b067 52 = .ok (.iand, 1) := by decide +kernel
theorem dJ2_getChar_3b067_53 : decode cJ2_getChar_3b067 53 = .ok (.getstatic 63, 3) := by decide +kernel
theorem dJ2_getChar_3b067_56 : decode cJ2_getChar_3b067 56 = .ok (.ishl, 1) := by decide +kernel
theorem dJ2_getChar_3b067_57 : decode cJ2_getChar_3b067 57 = .ok (.ior, 1) := by decide +kernel
theorem dJ2_getChar_3b067_58 : decode cJ2_getChar_3b067 58 = .ok (.i2c, 1) := by decide +kernel
theorem dJ2_getChar_3b067_59 : decode cJ2_getChar_3b067 59 = .ok (.ireturn, 1) := by decide +kernel
theorem dJ2_length_9d52b_0 : decode cJ2_length_9d52b 0 = .ok (.aload_n 0, 1) := by decide +kernel
theorem dJ2_length_9d52b_1 : decode cJ2_length_9d52b 1 = .ok (.arraylength, 1) := by decide +kernel
theorem dJ2_length_9d52b_2 : decode cJ2_length_9d52b 2 = .ok (.iconst 1, 1) := by decide +kernel
theorem dJ2_length_9d52b_3 : decode cJ2_length_9d52b 3 = .ok (.ishr, 1) := by decide +kernel
theorem dJ2_length_9d52b_4 : decode cJ2_length_9d52b 4 = .ok (.ireturn, 1) := by decide +kernel
theorem dJ2_charAt_3b067_0 : decode cJ2_charAt_3b067 0 = .ok (.iload_n 1, 1) := by decide +kernel
theorem dJ2_charAt_3b067_1 : decode cJ2_charAt_3b067 1 = .ok (.aload_n 0, 1) := by decide +kernel
theorem dJ2_charAt_3b067_2 : decode cJ2_charAt_3b067 2 = .ok (.invokestatic 67, 3) := by decide +kernel
theorem dJ2_charAt_3b067_5 : decode cJ2_charAt_3b067 5 = .ok (.aload_n 0, 1) := by decide +kernel
theorem dJ2_charAt_3b067_6 : decode cJ2_charAt_3b067 6 = .ok (.iload_n 1, 1) := by decide +kernel
theorem dJ2_charAt_3b067_7 : decode cJ2_charAt_3b067 7 = .ok (.invokestatic 71, 3) := by decide +kernel
theorem dJ2_charAt_3b067_10 : decode cJ2_charAt_3b067 10 = .ok (.ireturn, 1) := by decide +kernel
theorem dJ2_checkIndex_2214a_0 : decode cJ2_checkIndex_2214a 0 = .ok (.iload_n 0, 1) := by decide +kernel
theorem dJ2_checkIndex_2214a_1 : decode cJ2_checkIndex_2214a 1 = .ok (.aload_n 1, 1) := by decide +kernel
theorem dJ2_checkIndex_2214a_2 : decode cJ2_checkIndex_2214a 2 = .ok (.invokestatic 48, 3) := by decide +kernel
theorem dJ2_checkIndex_2214a_5 : decode cJ2_checkIndex_2214a 5 = .ok (.invokestatic 414, 3) := by decide +kernel
theorem dJ2_checkIndex_2214a_8 : decode cJ2_checkIndex_2214a 8 = .ok (.return_, 1) := by decide +kernel
theorem dJ3_checkIndex_8e157_0 : decode cJ3_checkIndex_8e157 0 = .ok (.iload_n 0, 1) := by decide +kernel
theorem dJ3_checkIndex_8e157_1 : decode cJ3_checkIndex_8e157 1 = .ok (.ifCond .lt 8, 3) := by decide +kernel
theorem dJ3_checkIndex_8e157_4 : decode cJ3_checkIndex_8e157 4 = .ok (.iload_n 0, 1) := by decide +kernel
theorem dJ3_checkIndex_8e157_5 : decode cJ3_checkIndex_8e157 5 = .ok (.iload_n 1, 1) := by decide +kernel
theorem dJ3_checkIndex_8e157_6 : decode cJ3_checkIndex_8e157 6 = .ok (.if_icmp .lt 10, 3) := by decide +kernel
theorem dJ3_checkIndex_8e157_9 : decode cJ3_checkIndex_8e157 9 = .ok (.aload_n 2, 1) := by decide +kernel
theorem dJ3_checkIndex_8e157_10 : decode cJ3_checkIndex_8e157 10 = .ok (.iload_n 0, 1) := by decide +kernel
theorem dJ3_checkIndex_8e157_11 : decode cJ3_checkIndex_8e157 11 = .ok (.iload_n 1, 1) := by decide +kernel
theorem dJ3_checkIndex_8e157_12 : decode cJ3_checkIndex_8e157 12 = .ok (.invokestatic 95, 3) := by decide +kernel
theorem dJ3_checkIndex_8e157_15 : decode cJ3_checkIndex_8e157 15 = .ok (.athrow, 1) := by decide +kernel
theorem dJ3_checkIndex_8e157_16 : decode cJ3_checkIndex_8e157 16 = .ok (.iload_n 0, 1) := by decide +kernel
theorem dJ3_checkIndex_8e157_17 : decode cJ3_checkIndex_8e157 17 = .ok (.ireturn, 1) := by decide +kernel
end
section
theorem dX10_init_0 : decode cX10_init 0 = .ok (.aload_n 0, 1) := by decide +kernel
theorem dX10_init_1 : decode cX10_init 1 = .ok (.invokespecial 1, 3) := by decide +kernel
theorem dX10_init_4 : decode cX10_init 4 = .ok (.aload_n 0, 1) := by decide +kernel
theorem dX10_init_5 : decode cX10_init 5 = .ok (.sipush 200, 3) := by decide +kernel
theorem dX10_init_8 : decode cX10_init 8 = .ok (.newarray .byte, 2) := by decide +kernel
theorem dX10_init_10 : decode cX10_init 10 = .ok (.putfield 7, 3) := by decide +kernel
theorem dX10_init_13 : decode cX10_init 13 = .ok (.aload_n 0, 1) := by decide +kernel
theorem dX10_init_14 : decode cX10_init 14 = .ok (.bipush 10, 2) := by decide +kernel
theorem dX10_init_16 : decode cX10_init 16 = .ok (.newarray .int, 2) := by decide +kernel
theorem dX10_init_18 : decode cX10_init 18 = .ok (.dup, 1) := by decide +kernel
theorem dX10_init_19 : decode cX10_init 19 = .ok (.iconst 0, 1) := by decide +kernel
theorem dX10_init_20 : decode cX10_init 20 = .ok (.iconst 0, 1) := by decide +kernel
theorem dX10_init_21 : decode cX10_init 21 = .ok (.iastore, 1) := by decide +kernel
theorem dX10_init_22 : decode cX10_init 22 = .ok (.dup, 1) := by decide +kernel
theorem dX10_init_23 : decode cX10_init 23 = .ok (.iconst 1, 1) := by decide +kernel
theorem dX10_init_24 : decode cX10_init 24 = .ok (.iconst 0, 1) := by decide +kernel
theorem dX10_init_25 : decode cX10_init 25 = .ok (.iastore, 1) := by decide +kernel
theorem dX10_init_26 : decode cX10_init 26 = .ok (.dup, 1) := by decide +kernel
theorem dX10_init_27 : decode cX10_init 27 = .ok (.iconst 2, 1) := by decide +kernel
theorem dX10_init_28 : decode cX10_init 28 = .ok (.iconst 0, 1) := by decide +kernel
theorem dX10_init_29 : decode cX10_init 29 = .ok (.iastore, 1) := by decide +kernel
theorem dX10_init_30 : decode cX10_init 30 = .ok (.dup, 1) := by decide +kernel
theorem dX10_init_31 : decode cX10_init 31 = .ok (.iconst 3, 1) := by decide +kernel
theorem dX10_init_32 : decode cX10_init 32 = .ok (.iconst 0, 1) := by decide +kernel
theorem dX10_init_33 : decode cX10_init 33 = .ok (.iastore, 1) := by decide +kernel
theorem dX10_init_34 : decode cX10_init 34 = .ok (.dup, 1) := by decide +kernel
theorem dX10_init_35 : decode cX10_init 35 = .ok (.iconst 4, 1) := by decide +kernel
theorem dX10_init_36 : decode cX10_init 36 = .ok (.iconst 1, 1) := by decide +kernel
theorem dX10_init_37 : decode cX10_init 37 = .ok (.iastore, 1) := by decide +kernel
theorem dX10_init_38 : decode cX10_init 38 = .ok (.dup, 1) := by decide +kernel
theorem dX10_init_39 : decode cX10_init 39 = .ok (.iconst 5, 1) := by decide +kernel
theorem dX10_init_40 : decode cX10_init 40 = .ok (.iconst 1, 1) := by decide +kernel
theorem dX10_init_41 : decode cX10_init 41 = .ok (.iastore, 1) := by decide +kernel
theorem dX10_init_42 : decode cX10_init 42 = .ok (.dup, 1) := by decide +kernel
theorem dX10_init_43 : decode cX10_init 43 = .ok (.bipush 6, 2) := by decide +kernel
theorem dX10_init_45 : decode cX10_init 45 = .ok (.iconst 1, 1) := by decide +kernel
theorem dX10_init_46 : decode cX10_init 46 = .ok (.iastore, 1) := by decide +kernel
theorem dX10_init_47 : decode cX10_init 47 = .ok (.dup, 1) := by decide +kernel
theorem dX10_init_48 : decode cX10_init 48 = .ok (.bipush 7, 2) := by decide +kernel
theorem dX10_init_50 : decode cX10_init 50 = .ok (.iconst 1, 1) := by decide +kernel
theorem dX10_init_51 : decode cX10_init 51 = .ok (.iastore, 1) := by decide +kernel
theorem dX10_init_52 : decode cX10_init 52 = .ok (.dup, 1) := by decide +kernel
theorem dX10_init_53 : decode cX10_init 53 = .ok (.bipush 8, 2) := by decide +kernel
theorem dX10_init_55 : decode cX10_init 55 = .ok (.iconst 0, 1) := by decide +kernel
theorem dX10_init_56 : decode cX10_init 56 = .ok (.iastore, 1) := by decide +kernel
theorem dX10_init_57 : decode cX10_init 57 = .ok (.dup, 1) := by decide +kernel
theorem dX10_init_58 : decode cX10_init 58 = .ok (.bipush 9, 2) := by decide +kernel
theorem dX10_init_60 : decode cX10_init 60 = .ok (.iconst 0, 1) := by decide +kernel
theorem dX10_init_61 : decode cX10_init 61 = .ok (.iastore, 1) := by decide +kernel
theorem dX10_init_62 : decode cX10_init 62 = .ok (.putfield 13, 3) := by decide +kernel
theorem dX10_init_65 : decode cX10_init 65 = .ok (.aload_n 0, 1) := by decide +kernel
theorem dX10_init_66 : decode cX10_init 66 = .ok (.bipush 10, 2) := by decide +kernel
theorem dX10_init_68 : decode cX10_init 68 = .ok (.newarray .int, 2) := by decide +kernel
theorem dX10_init_70 : decode cX10_init 70 = .ok (.putfield 17, 3) := by decide +kernel
theorem dX10_init_73 : decode cX10_init 73 = .ok (.aload_n 0, 1) := by decide +kernel
theorem dX10_init_74 : decode cX10_init 74 = .ok (.bipush 10, 2) := by decide +kernel
theorem dX10_init_76 : decode cX10_init 76 = .ok (.newarray .boolean, 2) := by decide +kernel
theorem dX10_init_78 : decode cX10_init 78 = .ok (.putfield 20, 3) := by decide +kernel
theorem dX10_init_81 : decode cX10_init 81 = .ok (.aload_n 0, 1) := by decide +kernel
theorem dX10_init_82 : decode cX10_init 82 = .ok (.bipush 100, 2) := by decide +kernel
theorem dX10_init_84 : decode cX10_init 84 = .ok (.newarray .int, 2) := by decide +kernel
theorem dX10_init_86 : decode cX10_init 86 = .ok (.putfield 24, 3) := by decide +kernel
theorem dX10_init_89 : decode cX10_init 89 = .ok (.aload_n 0, 1) := by decide +kernel
theorem dX10_init_90 : decode cX10_init 90 = .ok (.bipush 100, 2) := by decide +kernel
theorem dX10_init_92 : decode cX10_init 92 = .ok (.newarray .int, 2) := by decide +kernel
theorem dX10_init_94 : decode cX10_init 94 = .ok (.putfield 27, 3) := by decide +kernel
theorem dX10_init_97 : decode cX10_init 97 = .ok (.aload_n 0, 1) := by decide +kernel
theorem dX10_init_98 : decode cX10_init 98 = .ok (.bipush 100, 2) := by decide +kernel
theorem dX10_init_100 : decode cX10_init 100 = .ok (.newarray .int, 2) := by decide +kernel
theorem dX10_init_102 : decode cX10_init 102 = .ok (.putfield 30, 3) := by decide +kernel
theorem dX10_init_105 : decode cX10_init 105 = .ok (.aload_n 0, 1) := by decide +kernel
theorem dX10_init_106 : decode cX10_init 106 = .ok (.bipush 100, 2) := by decide +kernel
theorem dX10_init_108 : decode cX10_init 108 = .ok (.newarray .int, 2) := by decide +kernel
theorem dX10_init_110 : decode cX10_init 110 = .ok (.putfield 33, 3) := by decide +kernel
theorem dX10_init_113 : decode cX10_init 113 = .ok (.aload_n 0, 1) := by decide +kernel
theorem dX10_init_114 : decode cX10_init 114 = .ok (.bipush 100, 2) := by decide +kernel
theorem dX10_init_116 : decode cX10_init 116 = .ok (.newarray .int, 2) := by decide +kernel
theorem dX10_init_118 : decode cX10_init 118 = .ok (.putfield 36, 3) := by decide +kernel
theorem dX10_init_121 : decode cX10_init 121 = .ok (.aload_n 0, 1) := by decide +kernel
theorem dX10_init_122 : decode cX10_init 122 = .ok (.bipush 100, 2) := by decide +kernel
theorem dX10_init_124 : decode cX10_init 124 = .ok (.newarray .int, 2) := by decide +kernel
theorem dX10_init_126 : decode cX10_init 126 = .ok (.putfield 39, 3) := by decide +kernel
theorem dX10_init_129 : decode cX10_init 129 = .ok (.aload_n 0, 1) := by decide +kernel
theorem dX10_init_130 : decode cX10_init 130 = .ok (.bipush 100, 2) := by decide +kernel
theorem dX10_init_132 : decode cX10_init 132 = .ok (.newarray .boolean, 2) := by decide +kernel
theorem dX10_init_134 : decode cX10_init 134 = .ok (.putfield 42, 3) := by decide +kernel
theorem dX10_init_137 : decode cX10_init 137 = .ok (.aload_n 0, 1) := by decide +kernel
theorem dX10_init_138 : decode cX10_init 138 = .ok (.bipush 10, 2) := by decide +kernel
theorem dX10_init_140 : decode cX10_init 140 = .ok (.newarray .int, 2) := by decide +kernel
theorem dX10_init_142 : decode cX10_init 142 = .ok (.putfield 45, 3) := by decide +kernel
theorem dX10_init_145 : decode cX10_init 145 = .ok (.aload_n 0, 1) := by decide +kernel
theorem dX10_init_146 : decode cX10_init 146 = .ok (.bipush 10, 2) := by decide +kernel
theorem dX10_init_148 : decode cX10_init 148 = .ok (.newarray .int, 2) := by decide +kernel
theorem dX10_init_150 : decode cX10_init 150 = .ok (.putfield 48, 3) := by decide +kernel
theorem dX10_init_153 : decode cX10_init 153 = .ok (.aload_n 0, 1) := by decide +kernel
theorem dX10_init_154 : decode cX10_init 154 = .ok (.sipush 160, 3) := by decide +kernel
theorem dX10_init_157 : decode cX10_init 157 = .ok (.newarray .int, 2) := by decide +kernel
theorem dX10_init_159 : decode cX10_init 159 = .ok (.putfield 51, 3) := by decide +kernel
theorem dX10_init_162 : decode cX10_init 162 = .ok (.aload_n 0, 1) := by decide +kernel
theorem dX10_init_163 : decode cX10_init 163 = .ok (.sipush 160, 3) := by decide +kernel
theorem dX10_init_166 : decode cX10_init 166 = .ok (.newarray .int, 2) := by decide +kernel
theorem dX10_init_168 : decode cX10_init 168 = .ok (.putfield 54, 3) := by decide +kernel
theorem dX10_init_171 : decode cX10_init 171 = .ok (.aload_n 0, 1) := by decide +kernel
theorem dX10_init_172 : decode cX10_init 172 = .ok (.sipush 400, 3) := by decide +kernel
theorem dX10_init_175 : decode cX10_init 175 = .ok (.newarray .int, 2) := by decide +kernel
theorem dX10_init_177 : decode cX10_init 177 = .ok (.putfield 57, 3) := by decide +kernel
theorem dX10_init_180 : decode cX10_init 180 = .ok (.aload_n 0, 1) := by decide +kernel
theorem dX10_init_181 : decode cX10_init 181 = .ok (.sipush 400, 3) := by decide +kernel
theorem dX10_init_184 : decode cX10_init 184 = .ok (.newarray .int, 2) := by decide +kernel
theorem dX10_init_186 : decode cX10_init 186 = .ok (.putfield 60, 3) := by decide +kernel
theorem dX10_init_189 : decode cX10_init 189 = .ok (.aload_n 0, 1) := by decide +kernel
theorem dX10_init_190 : decode cX10_init 190 = .ok (.sipush 400, 3) := by decide +kernel
theorem dX10_init_193 : decode cX10_init 193 = .ok (.newarray .int, 2) := by decide +kernel
theorem dX10_init_195 : decode cX10_init 195 = .ok (.putfield 63, 3) := by decide +kernel
theorem dX10_init_198 : decode cX10_init 198 = .ok (.aload_n 0, 1) := by decide +kernel
theorem dX10_init_199 : decode cX10_init 199 = .ok (.sipush 400, 3) := by decide +kernel
theorem dX10_init_202 : decode cX10_init 202 = .ok (.newarray .int, 2) := by decide +kernel
theorem dX10_init_204 : decode cX10_init 204 = .ok (.putfield 66, 3) := by decide +kernel
theorem dX10_init_207 : decode cX10_init 207 = .ok (.aload_n 0, 1) := by decide +kernel
theorem dX10_init_208 : decode cX10_init 208 = .ok (.sipush 400, 3) := by decide +kernel
theorem dX10_init_211 : decode cX10_init 211 = .ok (.newarray .int, 2) := by decide +kernel
theorem dX10_init_213 : decode cX10_init 213 = .ok (.putfield 69, 3) := by decide +kernel
theorem dX10_init_216 : decode cX10_init 216 = .ok (.aload_n 0, 1) := by decide +kernel
theorem dX10_init_217 : decode cX10_init 217 = .ok (.sipush 400, 3) := by decide +kernel
theorem dX10_init_220 : decode cX10_init 220 = .ok (.newarray .int, 2) := by decide +kernel
theorem dX10_init_222 : decode cX10_init 222 = .ok (.putfield 72, 3) := by decide +kernel
theorem dX10_init_225 : decode cX10_init 225 = .ok (.aload_n 0, 1) := by decide +kernel
theorem dX10_init_226 : decode cX10_init 226 = .ok (.bipush 100, 2) := by decide +kernel
theorem dX10_init_228 : decode cX10_init 228 = .ok (.newarray .int, 2) := by decide +kernel
theorem dX10_init_230 : decode cX10_init 230 = .ok (.putfield 75, 3) := by decide +kernel
theorem dX10_init_233 : decode cX10_init 233 = .ok (.aload_n 0, 1) := by decide +kernel
theorem dX10_init_234 : decode cX10_init 234 = .ok (.bipush 100, 2) := by decide +kernel
theorem dX10_init_236 : decode cX10_init 236 = .ok (.newarray .int, 2) := by decide +kernel
theorem dX10_init_238 : decode cX10_init 238 = .ok (.putfield 78, 3) := by decide +kernel
theorem dX10_init_241 : decode cX10_init 241 = .ok (.aload_n 0, 1) := by decide +kernel
theorem dX10_init_242 : decode cX10_init 242 = .ok (.bipush 8, 2) := by decide +kernel
theorem dX10_init_244 : decode cX10_init 244 = .ok (.newarray .long, 2) := by decide +kernel
theorem dX10_init_246 : decode cX10_init 246 = .ok (.putfield 81, 3) := by decide +kernel
theorem dX10_init_249 : decode cX10_init 249 = .ok (.aload_n 0, 1) := by decide +kernel
theorem dX10_init_250 : decode cX10_init 250 = .ok (.bipush 8, 2) := by decide +kernel
theorem dX10_init_252 : decode cX10_init 252 = .ok (.newarray .long, 2) := by decide +kernel
theorem dX10_init_254 : decode cX10_init 254 = .ok (.putfield 85, 3) := by decide +kernel
theorem dX10_init_257 : decode cX10_init 257 = .ok (.aload_n 0, 1) := by decide +kernel
theorem dX10_init_258 : decode cX10_init 258 = .ok (.bipush 8, 2) := by decide +kernel
theorem dX10_init_260 : decode cX10_init 260 = .ok (.newarray .long, 2) := by decide +kernel
theorem dX10_init_262 : decode cX10_init 262 = .ok (.putfield 88, 3) := by decide +kernel
theorem dX10_init_265 : decode cX10_init 265 = .ok (.aload_n 0, 1) := by decide +kernel
theorem dX10_init_266 : decode cX10_init 266 = .ok (.sipush 164, 3) := by decide +kernel
theorem dX10_init_269 : decode cX10_init 269 = .ok (.newarray .int, 2) := by decide +kernel
theorem dX10_init_271 : decode cX10_init 271 = .ok (.putfield 91, 3) := by decide +kernel
theorem dX10_init_274 : decode cX10_init 274 = .ok (.aload_n 0, 1) := by decide +kernel
theorem dX10_init_275 : decode cX10_init 275 = .ok (.iconst 4, 1) := by decide +kernel
theorem dX10_init_276 : decode cX10_init 276 = .ok (.newarray .int, 2) := by decide +kernel
theorem dX10_init_278 : decode cX10_init 278 = .ok (.putfield 94, 3) := by decide +kernel
theorem dX10_init_281 : decode cX10_init 281 = .ok (.return_, 1) := by decide +kernel
theorem dX10_thrown_0 : decode cX10_thrown 0 = .ok (.aload_n 0, 1) := by decide +kernel
theorem dX10_thrown_1 : decode cX10_thrown 1 = .ok (.getfield 97, 3) := by decide +kernel
theorem dX10_thrown_4 : decode cX10_thrown 4 = .ok (.ireturn, 1) := by decide +kernel
theorem dX10_throwsIf_0 : decode cX10_throwsIf 0 = .ok (.aload_n 0, 1) := by decide +kernel
theorem dX10_throwsIf_1 : decode cX10_throwsIf 1 = .ok (.iload_n 1, 1) := by decide +kernel
theorem dX10_throwsIf_2 : decode cX10_throwsIf 2 = .ok (.ifCond .eq 7, 3) := by decide +kernel
theorem dX10_throwsIf_5 : decode cX10_throwsIf 5 = .ok (.iconst 1, 1) := by decide +kernel
theorem dX10_throwsIf_6 : decode cX10_throwsIf 6 = .ok (.goto 4, 3) := by decide +kernel
theorem dX10_throwsIf_9 : decode cX10_throwsIf 9 = .ok (.iconst 0, 1) := by decide +kernel
theorem dX10_throwsIf_10 : decode cX10_throwsIf 10 = .ok (.putfield 97, 3) := by decide +kernel
theorem dX10_throwsIf_13 : decode cX10_throwsIf 13 = .ok (.iload_n 1, 1) := by decide +kernel
theorem dX10_throwsIf_14 : decode cX10_throwsIf 14 = .ok (.ireturn, 1) := by decide +kernel
theorem dX10_feed_0 : decode cX10_feed 0 = .ok (.aload_n 0, 1) := by decide +kernel
theorem dX10_feed_1 : decode cX10_feed 1 = .ok (.iconst 0, 1) := by decide +kernel
theorem dX10_feed_2 : decode cX10_feed 2 = .ok (.putfield 97, 3) := by decide +kernel
theorem dX10_feed_5 : decode cX10_feed 5 = .ok (.aload_n 0, 1) := by decide +kernel
theorem dX10_feed_6 : decode cX10_feed 6 = .ok (.getfield 101, 3) := by decide +kernel
theorem dX10_feed_9 : decode cX10_feed 9 = .ok (.bipush 20, 2) := by decide +kernel
theorem dX10_feed_11 : decode cX10_feed 11 = .ok (.iadd, 1) := by decide +kernel
theorem dX10_feed_12 : decode cX10_feed 12 = .ok (.sipush 200, 3) := by decide +kernel
theorem dX10_feed_15 : decode cX10_feed 15 = .ok (.if_icmp .le 5, 3) := by decide +kernel
theorem dX10_feed_18 : decode cX10_feed 18 = .ok (.iconst (-1), 1) := by decide +kernel
theorem dX10_feed_19 : decode cX10_feed 19 = .ok (.ireturn, 1) := by decide +kernel
theorem dX10_feed_20 : decode cX10_feed 20 = .ok (.aload_n 0, 1) := by decide +kernel
theorem dX10_feed_21 : decode cX10_feed 21 = .ok (.iload_n 1, 1) := by decide +kernel
theorem dX10_feed_22 : decode cX10_feed 22 = .ok (.invokevirtual 104, 3) := by decide +kernel
theorem dX10_feed_25 : decode cX10_feed 25 = .ok (.aload_n 0, 1) := by decide +kernel
theorem dX10_feed_26 : decode cX10_feed 26 = .ok (.iload_n 2, 1) := by decide +kernel
theorem dX10_feed_27 : decode cX10_feed 27 = .ok (.invokevirtual 104, 3) := by decide +kernel
theorem dX10_feed_30 : decode cX10_feed 30 = .ok (.aload_n 0, 1) := by decide +kernel
theorem dX10_feed_31 : decode cX10_feed 31 = .ok (.iload_n 3, 1) := by decide +kernel
theorem dX10_feed_32 : decode cX10_feed 32 = .ok (.invokevirtual 104, 3) := by decide +kernel
theorem dX10_feed_35 : decode cX10_feed 35 = .ok (.aload_n 0, 1) := by decide +kernel
theorem dX10_feed_36 : decode cX10_feed 36 = .ok (.iload 4, 2) := by decide +kernel
theorem dX10_feed_38 : decode cX10_feed 38 = .ok (.invokevirtual 104, 3) := by decide +kernel
theorem dX10_feed_41 : decode cX10_feed 41 = .ok (.aload_n 0, 1) := by decide +kernel
theorem dX10_feed_42 : decode cX10_feed 42 = .ok (.iload 5, 2) := by decide +kernel
theorem dX10_feed_44 : decode cX10_feed 44 = .ok (.invokevirtual 104, 3) := by decide +kernel
theorem dX10_feed_47 : decode cX10_feed 47 = .ok (.aload_n 0, 1) := by decide +kernel
theorem dX10_feed_48 : decode cX10_feed 48 = .ok (.getfield 101, 3) := by decide +kernel
theorem dX10_feed_51 : decode cX10_feed 51 = .ok (.ireturn, 1) := by decide +kernel
theorem dX10_four_0 : decode cX10_four 0 = .ok (.bipush 24, 2) := by decide +kernel
theorem dX10_four_2 : decode cX10_four 2 = .ok (.istore_n 2, 1) := by decide +kernel
theorem dX10_four_3 : decode cX10_four 3 = .ok (.iload_n 2, 1) := by decide +kernel
theorem dX10_four_4 : decode cX10_four 4 = .ok (.ifCond .lt 32, 3) := by decide +kernel
theorem dX10_four_7 : decode cX10_four 7 = .ok (.aload_n 0, 1) := by decide +kernel
theorem dX10_four_8 : decode cX10_four 8 = .ok (.getfield 7, 3) := by decide +kernel
theorem dX10_four_11 : decode cX10_four 11 = .ok (.aload_n 0, 1) := by decide +kernel
theorem dX10_four_12 : decode cX10_four 12 = .ok (.getfield 101, 3) := by decide +kernel
theorem dX10_four_15 : decode cX10_four 15 = .ok (.iload_n 1, 1) := by decide +kernel
theorem dX10_four_16 : decode cX10_four 16 = .ok (.iload_n 2, 1) := by decide +kernel
theorem dX10_four_17 : decode cX10_four 17 = .ok (.ishr, 1) := by decide +kernel
theorem dX10_four_18 : decode cX10_four 18 = .ok (.i2b, 1) := by decide +kernel
theorem dX10_four_19 : decode cX10_four 19 = .ok (.bastore, 1) := by decide +kernel
theorem dX10_four_20 : decode cX10_four 20 = .ok (.aload_n 0, 1) := by decide +kernel
theorem dX10_four_21 : decode cX10_four 21 = .ok (.dup, 1) := by decide +kernel
theorem dX10_four_22 : decode cX10_four 22 = .ok (.getfield 101, 3) := by decide +kernel
theorem dX10_four_25 : decode cX10_four 25 = .ok (.iconst 1, 1) := by decide +kernel
theorem dX10_four_26 : decode cX10_four 26 = .ok (.iadd, 1) := by decide +kernel
theorem dX10_four_27 : decode cX10_four 27 = .ok (.putfield 101, 3) := by decide +kernel
theorem dX10_four_30 : decode cX10_four 30 = .ok (.iinc 2 (-8), 3) := by decide +kernel
theorem dX10_four_33 : decode cX10_four 33 = .ok (.goto (-30), 3) := by decide +kernel
theorem dX10_four_36 : decode cX10_four 36 = .ok (.return_, 1) := by decide +kernel
theorem dX10_end_0 : decode cX10_end 0 = .ok (.aload_n 0, 1) := by decide +kernel
theorem dX10_end_1 : decode cX10_end 1 = .ok (.iconst 0, 1) := by decide +kernel
theorem dX10_end_2 : decode cX10_end 2 = .ok (.putfield 97, 3) := by decide +kernel
theorem dX10_end_5 : decode cX10_end 5 = .ok (.iload_n 1, 1) := by decide +kernel
theorem dX10_end_6 : decode cX10_end 6 = .ok (.ifCond .lt 11, 3) := by decide +kernel
theorem dX10_end_9 : decode cX10_end 9 = .ok (.iload_n 1, 1) := by decide +kernel
theorem dX10_end_10 : decode cX10_end 10 = .ok (.aload_n 0, 1) := by decide +kernel
theorem dX10_end_11 : decode cX10_end 11 = .ok (.getfield 101, 3) := by decide +kernel
theorem dX10_end_14 : decode cX10_end 14 = .ok (.if_icmp .le 5, 3) := by decide +kernel
theorem dX10_end_17 : decode cX10_end 17 = .ok (.iconst 0, 1) := by decide +kernel
theorem dX10_end_18 : decode cX10_end 18 = .ok (.ireturn, 1) := by decide +kernel
theorem dX10_end_19 : decode cX10_end 19 = .ok (.aload_n 0, 1) := by decide +kernel
theorem dX10_end_20 : decode cX10_end 20 = .ok (.iload_n 1, 1) := by decide +kernel
theorem dX10_end_21 : decode cX10_end 21 = .ok (.putfield 101, 3) := by decide +kernel
theorem dX10_end_24 : decode cX10_end 24 = .ok (.iconst 1, 1) := by decide +kernel
theorem dX10_end_25 : decode cX10_end 25 = .ok (.ireturn, 1) := by decide +kernel
theorem dX10_taken_0 : decode cX10_taken 0 = .ok (.aload_n 0, 1) := by decide +kernel
theorem dX10_taken_1 : decode cX10_taken 1 = .ok (.aload_n 0, 1) := by decide +kernel
theorem dX10_taken_2 : decode cX10_taken 2 = .ok (.getfield 101, 3) := by decide +kernel
theorem dX10_taken_5 : decode cX10_taken 5 = .ok (.putfield 108, 3) := by decide +kernel
theorem dX10_taken_8 : decode cX10_taken 8 = .ok (.aload_n 0, 1) := by decide +kernel
theorem dX10_taken_9 : decode cX10_taken 9 = .ok (.iconst 0, 1) := by decide +kernel
theorem dX10_taken_10 : decode cX10_taken 10 = .ok (.putfield 101, 3) := by decide +kernel
theorem dX10_taken_13 : decode cX10_taken 13 = .ok (.aload_n 0, 1) := by decide +kernel
theorem dX10_taken_14 : decode cX10_taken 14 = .ok (.iconst 0, 1) := by decide +kernel
theorem dX10_taken_15 : decode cX10_taken 15 = .ok (.putfield 111, 3) := by decide +kernel
theorem dX10_taken_18 : decode cX10_taken 18 = .ok (.return_, 1) := by decide +kernel
theorem dX10_peek_0 : decode cX10_peek 0 = .ok (.aload_n 0, 1) := by decide +kernel
theorem dX10_peek_1 : decode cX10_peek 1 = .ok (.getfield 111, 3) := by decide +kernel
theorem dX10_peek_4 : decode cX10_peek 4 = .ok (.aload_n 0, 1) := by decide +kernel
theorem dX10_peek_5 : decode cX10_peek 5 = .ok (.getfield 108, 3) := by decide +kernel
theorem dX10_peek_8 : decode cX10_peek 8 = .ok (.if_icmp .ge 19, 3) := by decide +kernel
theorem dX10_peek_11 : decode cX10_peek 11 = .ok (.aload_n 0, 1) := by decide +kernel
theorem dX10_peek_12 : decode cX10_peek 12 = .ok (.getfield 7, 3) := by decide +kernel
theorem dX10_peek_15 : decode cX10_peek 15 = .ok (.aload_n 0, 1) := by decide +kernel
theorem dX10_peek_16 : decode cX10_peek 16 = .ok (.getfield 111, 3) := by decide +kernel
theorem dX10_peek_19 : decode cX10_peek 19 = .ok (.baload, 1) := by decide +kernel
theorem dX10_peek_20 : decode cX10_peek 20 = .ok (.sipush 255, 3) := by decide +kernel
theorem dX10_peek_23 : decode cX10_peek 23 = .ok (.iand, 1) := by decide +kernel
theorem dX10_peek_24 : decode cX10_peek 24 = .ok (.goto 4, 3) := by decide +kernel
theorem dX10_peek_27 : decode cX10_peek 27 = .ok (.iconst (-1), 1) := by decide +kernel
theorem dX10_peek_28 : decode cX10_peek 28 = .ok (.ireturn, 1) := by decide +kernel
theorem dX10_isSmall_0 : decode cX10_isSmall 0 = .ok (.iload_n 0, 1) := by decide +kernel
theorem dX10_isSmall_1 : decode cX10_isSmall 1 = .ok (.bipush 97, 2) := by decide +kernel
theorem dX10_isSmall_3 : decode cX10_isSmall 3 = .ok (.if_icmp .lt 13, 3) := by decide +kernel
theorem dX10_isSmall_6 : decode cX10_isSmall 6 = .ok (.iload_n 0, 1) := by decide +kernel
theorem dX10_isSmall_7 : decode cX10_isSmall 7 = .ok (.bipush 122, 2) := by decide +kernel
theorem dX10_isSmall_9 : decode cX10_isSmall 9 = .ok (.if_icmp .gt 7, 3) := by decide +kernel
theorem dX10_isSmall_12 : decode cX10_isSmall 12 = .ok (.iconst 1, 1) := by decide +kernel
theorem dX10_isSmall_13 : decode cX10_isSmall 13 = .ok (.goto 4, 3) := by decide +kernel
theorem dX10_isSmall_16 : decode cX10_isSmall 16 = .ok (.iconst 0, 1) := by decide +kernel
theorem dX10_isSmall_17 : decode cX10_isSmall 17 = .ok (.ireturn, 1) := by decide +kernel
theorem dX10_isDigit_0 : decode cX10_isDigit 0 = .ok (.iload_n 0, 1) := by decide +kernel
theorem dX10_isDigit_1 : decode cX10_isDigit 1 = .ok (.bipush 48, 2) := by decide +kernel
theorem dX10_isDigit_3 : decode cX10_isDigit 3 = .ok (.if_icmp .lt 13, 3) := by decide +kernel
theorem dX10_isDigit_6 : decode cX10_isDigit 6 = .ok (.iload_n 0, 1) := by decide +kernel
theorem dX10_isDigit_7 : decode cX10_isDigit 7 = .ok (.bipush 57, 2) := by decide +kernel
theorem dX10_isDigit_9 : decode cX10_isDigit 9 = .ok (.if_icmp .gt 7, 3) := by decide +kernel
theorem dX10_isDigit_12 : decode cX10_isDigit 12 = .ok (.iconst 1, 1) := by decide +kernel
theorem dX10_isDigit_13 : decode cX10_isDigit 13 = .ok (.goto 4, 3) := by decide +kernel
theorem dX10_isDigit_16 : decode cX10_isDigit 16 = .ok (.iconst 0, 1) := by decide +kernel
theorem dX10_isDigit_17 : decode cX10_isDigit 17 = .ok (.ireturn, 1) := by decide +kernel
theorem dX10_next0_0 : decode cX10_next0 0 = .ok (.aload_n 0, 1) := by decide +kernel
theorem dX10_next0_1 : decode cX10_next0 1 = .ok (.invokevirtual 114, 3) := by decide +kernel
theorem dX10_next0_4 : decode cX10_next0 4 = .ok (.bipush 32, 2) := by decide +kernel
theorem dX10_next0_6 : decode cX10_next0 6 = .ok (.if_icmp .eq 12, 3) := by decide +kernel
theorem dX10_next0_9 : decode cX10_next0 9 = .ok (.aload_n 0, 1) := by decide +kernel
theorem dX10_next0_10 : decode cX10_next0 10 = .ok (.invokevirtual 114, 3) := by decide +kernel
theorem dX10_next0_13 : decode cX10_next0 13 = .ok (.bipush 10, 2) := by decide +kernel
theorem dX10_next0_15 : decode cX10_next0 15 = .ok (.if_icmp .ne 16, 3) := by decide +kernel
theorem dX10_next0_18 : decode cX10_next0 18 = .ok (.aload_n 0, 1) := by decide +kernel
theorem dX10_next0_19 : decode cX10_next0 19 = .ok (.dup, 1) := by decide +kernel
theorem dX10_next0_20 : decode cX10_next0 20 = .ok (.getfield 111, 3) := by decide +kernel
theorem dX10_next0_23 : decode cX10_next0 23 = .ok (.iconst 1, 1) := by decide +kernel
theorem dX10_next0_24 : decode cX10_next0 24 = .ok (.iadd, 1) := by decide +kernel
theorem dX10_next0_25 : decode cX10_next0 25 = .ok (.putfield 111, 3) := by decide +kernel
theorem dX10_next0_28 : decode cX10_next0 28 = .ok (.goto (-28), 3) := by decide +kernel
theorem dX10_next0_31 : decode cX10_next0 31 = .ok (.aload_n 0, 1) := by decide +kernel
theorem dX10_next0_32 : decode cX10_next0 32 = .ok (.aload_n 0, 1) := by decide +kernel
theorem dX10_next0_33 : decode cX10_next0 33 = .ok (.getfield 111, 3) := by decide +kernel
theorem dX10_next0_36 : decode cX10_next0 36 = .ok (.putfield 118, 3) := by decide +kernel
theorem dX10_next0_39 : decode cX10_next0 39 = .ok (.aload_n 0, 1) := by decide +kernel
theorem dX10_next0_40 : decode cX10_next0 40 = .ok (.invokevirtual 114, 3) := by decide +kernel
theorem dX10_next0_43 : decode cX10_next0 43 = .ok (.istore_n 1, 1) := by decide +kernel
theorem dX10_next0_44 : decode cX10_next0 44 = .ok (.iload_n 1, 1) := by decide +kernel
theorem dX10_next0_45 : decode cX10_next0 45 = .ok (.ifCond .ge 9, 3) := by decide +kernel
theorem dX10_next0_48 : decode cX10_next0 48 = .ok (.aload_n 0, 1) := by decide +kernel
theorem dX10_next0_49 : decode cX10_next0 49 = .ok (.iconst 0, 1) := by decide +kernel
theorem dX10_next0_50 : decode cX10_next0 50 = .ok (.putfield 121, 3) := by decide +kernel
theorem dX10_next0_53 : decode cX10_next0 53 = .ok (.return_, 1) := by decide +kernel
theorem dX10_next0_54 : decode cX10_next0 54 = .ok (.iload_n 1, 1) := by decide +kernel
theorem dX10_next0_55 : decode cX10_next0 55 = .ok (.invokestatic 124, 3) := by decide +kernel
theorem dX10_next0_58 : decode cX10_next0 58 = .ok (.ifCond .ne 36, 3) := by decide +kernel
theorem dX10_next0_61 : decode cX10_next0 61 = .ok (.iload_n 1, 1) := by decide +kernel
theorem dX10_next0_62 : decode cX10_next0 62 = .ok (.invokestatic 128, 3) := by decide +kernel
theorem dX10_next0_65 : decode cX10_next0 65 = .ok (.ifCond .ne 29, 3) := by decide +kernel
theorem dX10_next0_68 : decode cX10_next0 68 = .ok (.aload_n 0, 1) := by decide +kernel
theorem dX10_next0_69 : decode cX10_next0 69 = .ok (.iload_n 1, 1) := by decide +kernel
theorem dX10_next0_70 : decode cX10_next0 70 = .ok (.bipush 59, 2) := by decide +kernel
theorem dX10_next0_72 : decode cX10_next0 72 = .ok (.if_icmp .ne 7, 3) := by decide +kernel
theorem dX10_next0_75 : decode cX10_next0 75 = .ok (.iconst 3, 1) := by decide +kernel
theorem dX10_next0_76 : decode cX10_next0 76 = .ok (.goto 4, 3) := by decide +kernel
theorem dX10_next0_79 : decode cX10_next0 79 = .ok (.iconst 4, 1) := by decide +kernel
theorem dX10_next0_80 : decode cX10_next0 80 = .ok (.putfield 121, 3) := by decide +kernel
theorem dX10_next0_83 : decode cX10_next0 83 = .ok (.aload_n 0, 1) := by decide +kernel
theorem dX10_next0_84 : decode cX10_next0 84 = .ok (.dup, 1) := by decide +kernel
theorem dX10_next0_85 : decode cX10_next0 85 = .ok (.getfield 111, 3) := by decide +kernel
theorem dX10_next0_88 : decode cX10_next0 88 = .ok (.iconst 1, 1) := by decide +kernel
theorem dX10_next0_89 : decode cX10_next0 89 = .ok (.iadd, 1) := by decide +kernel
theorem dX10_next0_90 : decode cX10_next0 90 = .ok (.putfield 111, 3) := by decide +kernel
theorem dX10_next0_93 : decode cX10_next0 93 = .ok (.return_, 1) := by decide +kernel
theorem dX10_next0_94 : decode cX10_next0 94 = .ok (.iload_n 1, 1) := by decide +kernel
theorem dX10_next0_95 : decode cX10_next0 95 = .ok (.invokestatic 124, 3) := by decide +kernel
theorem dX10_next0_98 : decode cX10_next0 98 = .ok (.istore_n 2, 1) := by decide +kernel
theorem dX10_next0_99 : decode cX10_next0 99 = .ok (.iconst 1, 1) := by decide +kernel
theorem dX10_next0_100 : decode cX10_next0 100 = .ok (.istore_n 3, 1) := by decide +kernel
theorem dX10_next0_101 : decode cX10_next0 101 = .ok (.iconst 0, 1) := by decide +kernel
theorem dX10_next0_102 : decode cX10_next0 102 = .ok (.istore 4, 2) := by decide +kernel
theorem dX10_next0_104 : decode cX10_next0 104 = .ok (.aload_n 0, 1) := by decide +kernel
theorem dX10_next0_105 : decode cX10_next0 105 = .ok (.lconst 0, 1) := by decide +kernel
theorem dX10_next0_106 : decode cX10_next0 106 = .ok (.putfield 131, 3) := by decide +kernel
theorem dX10_next0_109 : decode cX10_next0 109 = .ok (.aload_n 0, 1) := by decide +kernel
theorem dX10_next0_110 : decode cX10_next0 110 = .ok (.iconst 0, 1) := by decide +kernel
theorem dX10_next0_111 : decode cX10_next0 111 = .ok (.putfield 135, 3) := by decide +kernel
theorem dX10_next0_114 : decode cX10_next0 114 = .ok (.aload_n 0, 1) := by decide +kernel
theorem dX10_next0_115 : decode cX10_next0 115 = .ok (.invokevirtual 114, 3) := by decide +kernel
theorem dX10_next0_118 : decode cX10_next0 118 = .ok (.invokestatic 124, 3) := by decide +kernel
theorem dX10_next0_121 : decode cX10_next0 121 = .ok (.ifCond .ne 13, 3) := by decide +kernel
theorem dX10_next0_124 : decode cX10_next0 124 = .ok (.aload_n 0, 1) := by decide +kernel
theorem dX10_next0_125 : decode cX10_next0 125 = .ok (.invokevirtual 114, 3) := by decide +kernel
theorem dX10_next0_128 : decode cX10_next0 128 = .ok (.invokestatic 128, 3) := by decide +kernel
theorem dX10_next0_131 : decode cX10_next0 131 = .ok (.ifCond .eq 89, 3) := by decide +kernel
theorem dX10_next0_134 : decode cX10_next0 134 = .ok (.iload_n 3, 1) := by decide +kernel
theorem dX10_next0_135 : decode cX10_next0 135 = .ok (.ifCond .eq 18, 3) := by decide +kernel
theorem dX10_next0_138 : decode cX10_next0 138 = .ok (.aload_n 0, 1) := by decide +kernel
theorem dX10_next0_139 : decode cX10_next0 139 = .ok (.invokevirtual 114, 3) := by decide +kernel
theorem dX10_next0_142 : decode cX10_next0 142 = .ok (.invokestatic 124, 3) := by decide +kernel
theorem dX10_next0_145 : decode cX10_next0 145 = .ok (.iload_n 2, 1) := by decide +kernel
theorem dX10_next0_146 : decode cX10_next0 146 = .ok (.if_icmp .ne 7, 3) := by decide +kernel
theorem dX10_next0_149 : decode cX10_next0 149 = .ok (.iconst 1, 1) := by decide +kernel
theorem dX10_next0_150 : decode cX10_next0 150 = .ok (.goto 4, 3) := by decide +kernel
theorem dX10_next0_153 : decode cX10_next0 153 = .ok (.iconst 0, 1) := by decide +kernel
theorem dX10_next0_154 : decode cX10_next0 154 = .ok (.istore_n 3, 1) := by decide +kernel
theorem dX10_next0_155 : decode cX10_next0 155 = .ok (.iload 4, 2) := by decide +kernel
theorem dX10_next0_157 : decode cX10_next0 157 = .ok (.bipush 8, 2) := by decide +kernel
theorem dX10_next0_159 : decode cX10_next0 159 = .ok (.if_icmp .ge 20, 3) := by decide +kernel
theorem dX10_next0_162 : decode cX10_next0 162 = .ok (.aload_n 0, 1) := by decide +kernel
theorem dX10_next0_163 : decode cX10_next0 163 = .ok (.aload_n 0, 1) := by decide +kernel
theorem dX10_next0_164 : decode cX10_next0 164 = .ok (.getfield 131, 3) := by decide +kernel
theorem dX10_next0_167 : decode cX10_next0 167 = .ok (.bipush 8, 2) := by decide +kernel
theorem dX10_next0_169 : decode cX10_next0 169 = .ok (.lshl, 1) := by decide +kernel
theorem dX10_next0_170 : decode cX10_next0 170 = .ok (.aload_n 0, 1) := by decide +kernel
theorem dX10_next0_171 : decode cX10_next0 171 = .ok (.invokevirtual 114, 3) := by decide +kernel
theorem dX10_next0_174 : decode cX10_next0 174 = .ok (.i2l, 1) := by decide +kernel
theorem dX10_next0_175 : decode cX10_next0 175 = .ok (.lor, 1) := by decide +kernel
theorem dX10_next0_176 : decode cX10_next0 176 = .ok (.putfield 131, 3) := by decide +kernel
theorem dX10_next0_179 : decode cX10_next0 179 = .ok (.iload 4, 2) := by decide +kernel
theorem dX10_next0_181 : decode cX10_next0 181 = .ok (.iconst 4, 1) := by decide +kernel
theorem dX10_next0_182 : decode cX10_next0 182 = .ok (.if_icmp .ge 22, 3) := by decide +kernel
theorem dX10_next0_185 : decode cX10_next0 185 = .ok (.aload_n 0, 1) := by decide +kernel
theorem dX10_next0_186 : decode cX10_next0 186 = .ok (.bipush 10, 2) := by decide +kernel
theorem dX10_next0_188 : decode cX10_next0 188 = .ok (.aload_n 0, 1) := by decide +kernel
theorem dX10_next0_189 : decode cX10_next0 189 = .ok (.getfield 135, 3) := by decide +kernel
theorem dX10_next0_192 : decode cX10_next0 192 = .ok (.imul, 1) := by decide +kernel
theorem dX10_next0_193 : decode cX10_next0 193 = .ok (.aload_n 0, 1) := by decide +kernel
theorem dX10_next0_194 : decode cX10_next0 194 = .ok (.invokevirtual 114, 3) := by decide +kernel
theorem dX10_next0_197 : decode cX10_next0 197 = .ok (.iadd, 1) := by decide +kernel
theorem dX10_next0_198 : decode cX10_next0 198 = .ok (.bipush 48, 2) := by decide +kernel
theorem dX10_next0_200 : decode cX10_next0 200 = .ok (.isub, 1) := by decide +kernel
theorem dX10_next0_201 : decode cX10_next0 201 = .ok (.putfield 135, 3) := by decide +kernel
theorem dX10_next0_204 : decode cX10_next0 204 = .ok (.iinc 4 1, 3) := by decide +kernel
theorem dX10_next0_207 : decode cX10_next0 207 = .ok (.aload_n 0, 1) := by decide +kernel
theorem dX10_next0_208 : decode cX10_next0 208 = .ok (.dup, 1) := by decide +kernel
theorem dX10_next0_209 : decode cX10_next0 209 = .ok (.getfield 111, 3) := by decide +kernel
theorem dX10_next0_212 : decode cX10_next0 212 = .ok (.iconst 1, 1) := by decide +kernel
theorem dX10_next0_213 : decode cX10_next0 213 = .ok (.iadd, 1) := by decide +kernel
theorem dX10_next0_214 : decode cX10_next0 214 = .ok (.putfield 111, 3) := by decide +kernel
theorem dX10_next0_217 : decode cX10_next0 217 = .ok (.goto (-103), 3) := by decide +kernel
theorem dX10_next0_220 : decode cX10_next0 220 = .ok (.iload 4, 2) := by decide +kernel
theorem dX10_next0_222 : decode cX10_next0 222 = .ok (.bipush 8, 2) := by decide +kernel
theorem dX10_next0_224 : decode cX10_next0 224 = .ok (.if_icmp .le 8, 3) := by decide +kernel
theorem dX10_next0_227 : decode cX10_next0 227 = .ok (.aload_n 0, 1) := by decide +kernel
theorem dX10_next0_228 : decode cX10_next0 228 = .ok (.lconst 0, 1) := by decide +kernel
theorem dX10_next0_229 : decode cX10_next0 229 = .ok (.putfield 131, 3) := by decide +kernel
theorem dX10_next0_232 : decode cX10_next0 232 = .ok (.aload_n 0, 1) := by decide +kernel
theorem dX10_next0_233 : decode cX10_next0 233 = .ok (.iload_n 3, 1) := by decide +kernel
theorem dX10_next0_234 : decode cX10_next0 234 = .ok (.ifCond .eq 13, 3) := by decide +kernel
theorem dX10_next0_237 : decode cX10_next0 237 = .ok (.iload_n 2, 1) := by decide +kernel
theorem dX10_next0_238 : decode cX10_next0 238 = .ok (.ifCond .ne 13, 3) := by decide +kernel
theorem dX10_next0_241 : decode cX10_next0 241 = .ok (.iload 4, 2) := by decide +kernel
theorem dX10_next0_243 : decode cX10_next0 243 = .ok (.iconst 4, 1) := by decide +kernel
theorem dX10_next0_244 : decode cX10_next0 244 = .ok (.if_icmp .le 7, 3) := by decide +kernel
theorem dX10_next0_247 : decode cX10_next0 247 = .ok (.iconst 4, 1) := by decide +kernel
theorem dX10_next0_248 : decode cX10_next0 248 = .ok (.goto 12, 3) := by decide +kernel
theorem dX10_next0_251 : decode cX10_next0 251 = .ok (.iload_n 2, 1) := by decide +kernel
theorem dX10_next0_252 : decode cX10_next0 252 = .ok (.ifCond .eq 7, 3) := by decide +kernel
theorem dX10_next0_255 : decode cX10_next0 255 = .ok (.iconst 1, 1) := by decide +kernel
theorem dX10_next0_256 : decode cX10_next0 256 = .ok (.goto 4, 3) := by decide +kernel
theorem dX10_next0_259 : decode cX10_next0 259 = .ok (.iconst 2, 1) := by decide +kernel
theorem dX10_next0_260 : decode cX10_next0 260 = .ok (.putfield 121, 3) := by decide +kernel
theorem dX10_next0_263 : decode cX10_next0 263 = .ok (.return_, 1) := by decide +kernel
theorem dX10_wrong_0 : decode cX10_wrong 0 = .ok (.aload_n 0, 1) := by decide +kernel
theorem dX10_wrong_1 : decode cX10_wrong 1 = .ok (.iload_n 1, 1) := by decide +kernel
theorem dX10_wrong_2 : decode cX10_wrong 2 = .ok (.putfield 138, 3) := by decide +kernel
theorem dX10_wrong_5 : decode cX10_wrong 5 = .ok (.aload_n 0, 1) := by decide +kernel
theorem dX10_wrong_6 : decode cX10_wrong 6 = .ok (.iload_n 2, 1) := by decide +kernel
theorem dX10_wrong_7 : decode cX10_wrong 7 = .ok (.putfield 141, 3) := by decide +kernel
theorem dX10_wrong_10 : decode cX10_wrong 10 = .ok (.iconst 0, 1) := by decide +kernel
theorem dX10_wrong_11 : decode cX10_wrong 11 = .ok (.ireturn, 1) := by decide +kernel
theorem dX10_cant_0 : decode cX10_cant 0 = .ok (.aload_n 0, 1) := by decide +kernel
theorem dX10_cant_1 : decode cX10_cant 1 = .ok (.aload_n 0, 1) := by decide +kernel
theorem dX10_cant_2 : decode cX10_cant 2 = .ok (.getfield 121, 3) := by decide +kernel
theorem dX10_cant_5 : decode cX10_cant 5 = .ok (.iconst 4, 1) := by decide +kernel
theorem dX10_cant_6 : decode cX10_cant 6 = .ok (.if_icmp .ne 7, 3) := by decide +kernel
theorem dX10_cant_9 : decode cX10_cant 9 = .ok (.iconst 1, 1) := by decide +kernel
theorem dX10_cant_10 : decode cX10_cant 10 = .ok (.goto 4, 3) := by decide +kernel
theorem dX10_cant_13 : decode cX10_cant 13 = .ok (.iconst 2, 1) := by decide +kernel
theorem dX10_cant_14 : decode cX10_cant 14 = .ok (.aload_n 0, 1) := by decide +kernel
theorem dX10_cant_15 : decode cX10_cant 15 = .ok (.getfield 118, 3) := by decide +kernel
theorem dX10_cant_18 : decode cX10_cant 18 = .ok (.invokevirtual 144, 3) := by decide +kernel
theorem dX10_cant_21 : decode cX10_cant 21 = .ok (.ireturn, 1) := by decide +kernel
theorem dX10_isWord_0 : decode cX10_isWord 0 = .ok (.aload_n 0, 1) := by decide +kernel
theorem dX10_isWord_1 : decode cX10_isWord 1 = .ok (.getfield 121, 3) := by decide +kernel
theorem dX10_isWord_4 : decode cX10_isWord 4 = .ok (.iconst 1, 1) := by decide +kernel
theorem dX10_isWord_5 : decode cX10_isWord 5 = .ok (.if_icmp .ne 16, 3) := by decide +kernel
theorem dX10_isWord_8 : decode cX10_isWord 8 = .ok (.aload_n 0, 1) := by decide +kernel
theorem dX10_isWord_9 : decode cX10_isWord 9 = .ok (.getfield 131, 3) := by decide +kernel
theorem dX10_isWord_12 : decode cX10_isWord 12 = .ok (.lload_n 1, 1) := by decide +kernel
theorem dX10_isWord_13 : decode cX10_isWord 13 = .ok (.lcmp, 1) := by decide +kernel
theorem dX10_isWord_14 : decode cX10_isWord 14 = .ok (.ifCond .ne 7, 3) := by decide +kernel
theorem dX10_isWord_17 : decode cX10_isWord 17 = .ok (.iconst 1, 1) := by decide +kernel
theorem dX10_isWord_18 : decode cX10_isWord 18 = .ok (.goto 4, 3) := by decide +kernel
theorem dX10_isWord_21 : decode cX10_isWord 21 = .ok (.iconst 0, 1) := by decide +kernel
theorem dX10_isWord_22 : decode cX10_isWord 22 = .ok (.ireturn, 1) := by decide +kernel
theorem dX10_rules_0 : decode cX10_rules 0 = .ok (.aload_n 0, 1) := by decide +kernel
theorem dX10_rules_1 : decode cX10_rules 1 = .ok (.iconst 0, 1) := by decide +kernel
theorem dX10_rules_2 : decode cX10_rules 2 = .ok (.putfield 97, 3) := by decide +kernel
theorem dX10_rules_5 : decode cX10_rules 5 = .ok (.aload_n 0, 1) := by decide +kernel
theorem dX10_rules_6 : decode cX10_rules 6 = .ok (.invokevirtual 148, 3) := by decide +kernel
theorem dX10_rules_9 : decode cX10_rules 9 = .ok (.aload_n 0, 1) := by decide +kernel
theorem dX10_rules_10 : decode cX10_rules 10 = .ok (.iconst 0, 1) := by decide +kernel
theorem dX10_rules_11 : decode cX10_rules 11 = .ok (.putfield 138, 3) := by decide +kernel
theorem dX10_rules_14 : decode cX10_rules 14 = .ok (.iconst 0, 1) := by decide +kernel
theorem dX10_rules_15 : decode cX10_rules 15 = .ok (.istore_n 1, 1) := by decide +kernel
theorem dX10_rules_16 : decode cX10_rules 16 = .ok (.iload_n 1, 1) := by decide +kernel
theorem dX10_rules_17 : decode cX10_rules 17 = .ok (.bipush 10, 2) := by decide +kernel
theorem dX10_rules_19 : decode cX10_rules 19 = .ok (.if_icmp .ge 38, 3) := by decide +kernel
theorem dX10_rules_22 : decode cX10_rules 22 = .ok (.aload_n 0, 1) := by decide +kernel
theorem dX10_rules_23 : decode cX10_rules 23 = .ok (.getfield 20, 3) := by decide +kernel
theorem dX10_rules_26 : decode cX10_rules 26 = .ok (.iload_n 1, 1) := by decide +kernel
theorem dX10_rules_27 : decode cX10_rules 27 = .ok (.iconst 0, 1) := by decide +kernel
theorem dX10_rules_28 : decode cX10_rules 28 = .ok (.bastore, 1) := by decide +kernel
theorem dX10_rules_29 : decode cX10_rules 29 = .ok (.aload_n 0, 1) := by decide +kernel
theorem dX10_rules_30 : decode cX10_rules 30 = .ok (.getfield 17, 3) := by decide +kernel
theorem dX10_rules_33 : decode cX10_rules 33 = .ok (.iload_n 1, 1) := by decide +kernel
theorem dX10_rules_34 : decode cX10_rules 34 = .ok (.iload_n 1, 1) := by decide +kernel
theorem dX10_rules_35 : decode cX10_rules 35 = .ok (.iconst 4, 1) := by decide +kernel
theorem dX10_rules_36 : decode cX10_rules 36 = .ok (.if_icmp .lt 13, 3) := by decide +kernel
theorem dX10_rules_39 : decode cX10_rules 39 = .ok (.iload_n 1, 1) := by decide +kernel
theorem dX10_rules_40 : decode cX10_rules 40 = .ok (.bipush 8, 2) := by decide +kernel
theorem dX10_rules_42 : decode cX10_rules 42 = .ok (.if_icmp .ge 7, 3) := by decide +kernel
theorem dX10_rules_45 : decode cX10_rules 45 = .ok (.iconst 1, 1) := by decide +kernel
theorem dX10_rules_46 : decode cX10_rules 46 = .ok (.goto 4, 3) := by decide +kernel
theorem dX10_rules_49 : decode cX10_rules 49 = .ok (.iconst 0, 1) := by decide +kernel
theorem dX10_rules_50 : decode cX10_rules 50 = .ok (.iastore, 1) := by decide +kernel
theorem dX10_rules_51 : decode cX10_rules 51 = .ok (.iinc 1 1, 3) := by decide +kernel
theorem dX10_rules_54 : decode cX10_rules 54 = .ok (.goto (-38), 3) := by decide +kernel
theorem dX10_rules_57 : decode cX10_rules 57 = .ok (.iconst 0, 1) := by decide +kernel
theorem dX10_rules_58 : decode cX10_rules 58 = .ok (.istore_n 1, 1) := by decide +kernel
theorem dX10_rules_59 : decode cX10_rules 59 = .ok (.aload_n 0, 1) := by decide +kernel
theorem dX10_rules_60 : decode cX10_rules 60 = .ok (.invokevirtual 151, 3) := by decide +kernel
theorem dX10_rules_63 : decode cX10_rules 63 = .ok (.aload_n 0, 1) := by decide +kernel
theorem dX10_rules_64 : decode cX10_rules 64 = .ok (.getfield 121, 3) := by decide +kernel
theorem dX10_rules_67 : decode cX10_rules 67 = .ok (.ifCond .eq 23, 3) := by decide +kernel
theorem dX10_rules_70 : decode cX10_rules 70 = .ok (.aload_n 0, 1) := by decide +kernel
theorem dX10_rules_71 : decode cX10_rules 71 = .ok (.invokevirtual 154, 3) := by decide +kernel
theorem dX10_rules_74 : decode cX10_rules 74 = .ok (.ifCond .ne 10, 3) := by decide +kernel
theorem dX10_rules_77 : decode cX10_rules 77 = .ok (.iconst (-1), 1) := by decide +kernel
theorem dX10_rules_78 : decode cX10_rules 78 = .ok (.aload_n 0, 1) := by decide +kernel
theorem dX10_rules_79 : decode cX10_rules 79 = .ok (.getfield 141, 3) := by decide +kernel
theorem dX10_rules_82 : decode cX10_rules 82 = .ok (.isub, 1) := by decide +kernel
theorem dX10_rules_83 : decode cX10_rules 83 = .ok (.ireturn, 1) := by decide +kernel
theorem dX10_rules_84 : decode cX10_rules 84 = .ok (.iinc 1 1, 3) := by decide +kernel
theorem dX10_rules_87 : decode cX10_rules 87 = .ok (.goto (-24), 3) := by decide +kernel
theorem dX10_rules_90 : decode cX10_rules 90 = .ok (.iconst 0, 1) := by decide +kernel
theorem dX10_rules_91 : decode cX10_rules 91 = .ok (.istore_n 2, 1) := by decide +kernel
theorem dX10_rules_92 : decode cX10_rules 92 = .ok (.iload_n 2, 1) := by decide +kernel
theorem dX10_rules_93 : decode cX10_rules 93 = .ok (.bipush 10, 2) := by decide +kernel
theorem dX10_rules_95 : decode cX10_rules 95 = .ok (.if_icmp .ge 21, 3) := by decide +kernel
theorem dX10_rules_98 : decode cX10_rules 98 = .ok (.aload_n 0, 1) := by decide +kernel
theorem dX10_rules_99 : decode cX10_rules 99 = .ok (.getfield 13, 3) := by decide +kernel
theorem dX10_rules_102 : decode cX10_rules 102 = .ok (.iload_n 2, 1) := by decide +kernel
theorem dX10_rules_103 : decode cX10_rules 103 = .ok (.aload_n 0, 1) := by decide +kernel
theorem dX10_rules_104 : decode cX10_rules 104 = .ok (.getfield 17, 3) := by decide +kernel
theorem dX10_rules_107 : decode cX10_rules 107 = .ok (.iload_n 2, 1) := by decide +kernel
theorem dX10_rules_108 : decode cX10_rules 108 = .ok (.iaload, 1) := by decide +kernel
theorem dX10_rules_109 : decode cX10_rules 109 = .ok (.iastore, 1) := by decide +kernel
theorem dX10_rules_110 : decode cX10_rules 110 = .ok (.iinc 2 1, 3) := by decide +kernel
theorem dX10_rules_113 : decode cX10_rules 113 = .ok (.goto (-21), 3) := by decide +kernel
theorem dX10_rules_116 : decode cX10_rules 116 = .ok (.aload_n 0, 1) := by decide +kernel
theorem dX10_rules_117 : decode cX10_rules 117 = .ok (.iload_n 1, 1) := by decide +kernel
theorem dX10_rules_118 : decode cX10_rules 118 = .ok (.putfield 158, 3) := by decide +kernel
theorem dX10_rules_121 : decode cX10_rules 121 = .ok (.iload_n 1, 1) := by decide +kernel
theorem dX10_rules_122 : decode cX10_rules 122 = .ok (.ireturn, 1) := by decide +kernel
theorem dX10_rule_0 : decode cX10_rule 0 = .ok (.aload_n 0, 1) := by decide +kernel
theorem dX10_rule_1 : decode cX10_rule 1 = .ok (.ldc2_w 161, 3) := by decide +kernel
theorem dX10_rule_4 : decode cX10_rule 4 = .ok (.invokevirtual 163, 3) := by decide +kernel
theorem dX10_rule_7 : decode cX10_rule 7 = .ok (.ifCond .eq 7, 3) := by decide +kernel
theorem dX10_rule_10 : decode cX10_rule 10 = .ok (.iconst 0, 1) := by decide +kernel
theorem dX10_rule_11 : decode cX10_rule 11 = .ok (.goto 48, 3) := by decide +kernel
theorem dX10_rule_14 : decode cX10_rule 14 = .ok (.aload_n 0, 1) := by decide +kernel
theorem dX10_rule_15 : decode cX10_rule 15 = .ok (.ldc2_w 167, 3) := by decide +kernel
theorem dX10_rule_18 : decode cX10_rule 18 = .ok (.invokevirtual 163, 3) := by decide +kernel
theorem dX10_rule_21 : decode cX10_rule 21 = .ok (.ifCond .eq 7, 3) := by decide +kernel
theorem dX10_rule_24 : decode cX10_rule 24 = .ok (.iconst 4, 1) := by decide +kernel
theorem dX10_rule_25 : decode cX10_rule 25 = .ok (.goto 34, 3) := by decide +kernel
theorem dX10_rule_28 : decode cX10_rule 28 = .ok (.aload_n 0, 1) := by decide +kernel
theorem dX10_rule_29 : decode cX10_rule 29 = .ok (.ldc2_w 169, 3) := by decide +kernel
theorem dX10_rule_32 : decode cX10_rule 32 = .ok (.invokevirtual 163, 3) := by decide +kernel
theorem dX10_rule_35 : decode cX10_rule 35 = .ok (.ifCond .eq 8, 3) := by decide +kernel
theorem dX10_rule_38 : decode cX10_rule 38 = .ok (.bipush 8, 2) := by decide +kernel
theorem dX10_rule_40 : decode cX10_rule 40 = .ok (.goto 19, 3) := by decide +kernel
theorem dX10_rule_43 : decode cX10_rule 43 = .ok (.aload_n 0, 1) := by decide +kernel
theorem dX10_rule_44 : decode cX10_rule 44 = .ok (.ldc2_w 171, 3) := by decide +kernel
theorem dX10_rule_47 : decode cX10_rule 47 = .ok (.invokevirtual 163, 3) := by decide +kernel
theorem dX10_rule_50 : decode cX10_rule 50 = .ok (.ifCond .eq 8, 3) := by decide +kernel
theorem dX10_rule_53 : decode cX10_rule 53 = .ok (.bipush 9, 2) := by decide +kernel
theorem dX10_rule_55 : decode cX10_rule 55 = .ok (.goto 4, 3) := by decide +kernel
theorem dX10_rule_58 : decode cX10_rule 58 = .ok (.iconst (-1), 1) := by decide +kernel
theorem dX10_rule_59 : decode cX10_rule 59 = .ok (.istore_n 1, 1) := by decide +kernel
theorem dX10_rule_60 : decode cX10_rule 60 = .ok (.iload_n 1, 1) := by decide +kernel
theorem dX10_rule_61 : decode cX10_rule 61 = .ok (.ifCond .ge 8, 3) := by decide +kernel
theorem dX10_rule_64 : decode cX10_rule 64 = .ok (.aload_n 0, 1) := by decide +kernel
theorem dX10_rule_65 : decode cX10_rule 65 = .ok (.invokevirtual 173, 3) := by decide +kernel
theorem dX10_rule_68 : decode cX10_rule 68 = .ok (.ireturn, 1) := by decide +kernel
theorem dX10_rule_69 : decode cX10_rule 69 = .ok (.iload_n 1, 1) := by decide +kernel
theorem dX10_rule_70 : decode cX10_rule 70 = .ok (.bipush 8, 2) := by decide +kernel
theorem dX10_rule_72 : decode cX10_rule 72 = .ok (.if_icmp .lt 22, 3) := by decide +kernel
theorem dX10_rule_75 : decode cX10_rule 75 = .ok (.aload_n 0, 1) := by decide +kernel
theorem dX10_rule_76 : decode cX10_rule 76 = .ok (.getfield 20, 3) := by decide +kernel
theorem dX10_rule_79 : decode cX10_rule 79 = .ok (.iload_n 1, 1) := by decide +kernel
theorem dX10_rule_80 : decode cX10_rule 80 = .ok (.baload, 1) := by decide +kernel
theorem dX10_rule_81 : decode cX10_rule 81 = .ok (.ifCond .eq 13, 3) := by decide +kernel
theorem dX10_rule_84 : decode cX10_rule 84 = .ok (.aload_n 0, 1) := by decide +kernel
theorem dX10_rule_85 : decode cX10_rule 85 = .ok (.iconst 4, 1) := by decide +kernel
theorem dX10_rule_86 : decode cX10_rule 86 = .ok (.aload_n 0, 1) := by decide +kernel
theorem dX10_rule_87 : decode cX10_rule 87 = .ok (.getfield 118, 3) := by decide +kernel
theorem dX10_rule_90 : decode cX10_rule 90 = .ok (.invokevirtual 144, 3) := by decide +kernel
theorem dX10_rule_93 : decode cX10_rule 93 = .ok (.ireturn, 1) := by decide +kernel
theorem dX10_rule_94 : decode cX10_rule 94 = .ok (.aload_n 0, 1) := by decide +kernel
theorem dX10_rule_95 : decode cX10_rule 95 = .ok (.invokevirtual 151, 3) := by decide +kernel
theorem dX10_rule_98 : decode cX10_rule 98 = .ok (.iload_n 1, 1) := by decide +kernel
theorem dX10_rule_99 : decode cX10_rule 99 = .ok (.ifCond .ne 9, 3) := by decide +kernel
theorem dX10_rule_102 : decode cX10_rule 102 = .ok (.sipush 9999, 3) := by decide +kernel
theorem dX10_rule_105 : decode cX10_rule 105 = .ok (.goto 15, 3) := by decide +kernel
theorem dX10_rule_108 : decode cX10_rule 108 = .ok (.iload_n 1, 1) := by decide +kernel
theorem dX10_rule_109 : decode cX10_rule 109 = .ok (.iconst 4, 1) := by decide +kernel
theorem dX10_rule_110 : decode cX10_rule 110 = .ok (.if_icmp .ne 8, 3) := by decide +kernel
theorem dX10_rule_113 : decode cX10_rule 113 = .ok (.bipush 100, 2) := by decide +kernel
theorem dX10_rule_115 : decode cX10_rule 115 = .ok (.goto 5, 3) := by decide +kernel
theorem dX10_rule_118 : decode cX10_rule 118 = .ok (.bipush 50, 2) := by decide +kernel
theorem dX10_rule_120 : decode cX10_rule 120 = .ok (.istore_n 2, 1) := by decide +kernel
theorem dX10_rule_121 : decode cX10_rule 121 = .ok (.iload_n 1, 1) := by decide +kernel
theorem dX10_rule_122 : decode cX10_rule 122 = .ok (.bipush 8, 2) := by decide +kernel
theorem dX10_rule_124 : decode cX10_rule 124 = .ok (.if_icmp .ge 64, 3) := by decide +kernel
theorem dX10_rule_127 : decode cX10_rule 127 = .ok (.aload_n 0, 1) := by decide +kernel
theorem dX10_rule_128 : decode cX10_rule 128 = .ok (.getfield 121, 3) := by decide +kernel
theorem dX10_rule_131 : decode cX10_rule 131 = .ok (.iconst 2, 1) := by decide +kernel
theorem dX10_rule_132 : decode cX10_rule 132 = .ok (.if_icmp .eq 8, 3) := by decide +kernel
theorem dX10_rule_135 : decode cX10_rule 135 = .ok (.aload_n 0, 1) := by decide +kernel
theorem dX10_rule_136 : decode cX10_rule 136 = .ok (.invokevirtual 173, 3) := by decide +kernel
theorem dX10_rule_139 : decode cX10_rule 139 = .ok (.ireturn, 1) := by decide +kernel
theorem dX10_rule_140 : decode cX10_rule 140 = .ok (.aload_n 0, 1) := by decide +kernel
theorem dX10_rule_141 : decode cX10_rule 141 = .ok (.getfield 135, 3) := by decide +kernel
theorem dX10_rule_144 : decode cX10_rule 144 = .ok (.iconst 3, 1) := by decide +kernel
theorem dX10_rule_145 : decode cX10_rule 145 = .ok (.if_icmp .le 13, 3) := by decide +kernel
theorem dX10_rule_148 : decode cX10_rule 148 = .ok (.aload_n 0, 1) := by decide +kernel
theorem dX10_rule_149 : decode cX10_rule 149 = .ok (.iconst 3, 1) := by decide +kernel
theorem dX10_rule_150 : decode cX10_rule 150 = .ok (.aload_n 0, 1) := by decide +kernel
theorem dX10_rule_151 : decode cX10_rule 151 = .ok (.getfield 118, 3) := by decide +kernel
theorem dX10_rule_154 : decode cX10_rule 154 = .ok (.invokevirtual 144, 3) := by decide +kernel
theorem dX10_rule_157 : decode cX10_rule 157 = .ok (.ireturn, 1) := by decide +kernel
theorem dX10_rule_158 : decode cX10_rule 158 = .ok (.iload_n 1, 1) := by decide +kernel
theorem dX10_rule_159 : decode cX10_rule 159 = .ok (.aload_n 0, 1) := by decide +kernel
theorem dX10_rule_160 : decode cX10_rule 160 = .ok (.getfield 135, 3) := by decide +kernel
theorem dX10_rule_163 : decode cX10_rule 163 = .ok (.iadd, 1) := by decide +kernel
theorem dX10_rule_164 : decode cX10_rule 164 = .ok (.istore_n 1, 1) := by decide +kernel
theorem dX10_rule_165 : decode cX10_rule 165 = .ok (.aload_n 0, 1) := by decide +kernel
theorem dX10_rule_166 : decode cX10_rule 166 = .ok (.getfield 20, 3) := by decide +kernel
theorem dX10_rule_169 : decode cX10_rule 169 = .ok (.iload_n 1, 1) := by decide +kernel
theorem dX10_rule_170 : decode cX10_rule 170 = .ok (.baload, 1) := by decide +kernel
theorem dX10_rule_171 : decode cX10_rule 171 = .ok (.ifCond .eq 13, 3) := by decide +kernel
theorem dX10_rule_174 : decode cX10_rule 174 = .ok (.aload_n 0, 1) := by decide +kernel
theorem dX10_rule_175 : decode cX10_rule 175 = .ok (.iconst 4, 1) := by decide +kernel
theorem dX10_rule_176 : decode cX10_rule 176 = .ok (.aload_n 0, 1) := by decide +kernel
theorem dX10_rule_177 : decode cX10_rule 177 = .ok (.getfield 118, 3) := by decide +kernel
theorem dX10_rule_180 : decode cX10_rule 180 = .ok (.invokevirtual 144, 3) := by decide +kernel
theorem dX10_rule_183 : decode cX10_rule 183 = .ok (.ireturn, 1) := by decide +kernel
theorem dX10_rule_184 : decode cX10_rule 184 = .ok (.aload_n 0, 1) := by decide +kernel
theorem dX10_rule_185 : decode cX10_rule 185 = .ok (.invokevirtual 151, 3) := by decide +kernel
theorem dX10_rule_188 : decode cX10_rule 188 = .ok (.iload_n 1, 1) := by decide +kernel
theorem dX10_rule_189 : decode cX10_rule 189 = .ok (.bipush 9, 2) := by decide +kernel
theorem dX10_rule_191 : decode cX10_rule 191 = .ok (.if_icmp .ne 48, 3) := by decide +kernel
theorem dX10_rule_194 : decode cX10_rule 194 = .ok (.aload_n 0, 1) := by decide +kernel
theorem dX10_rule_195 : decode cX10_rule 195 = .ok (.ldc2_w 176, 3) := by decide +kernel
theorem dX10_rule_198 : decode cX10_rule 198 = .ok (.invokevirtual 163, 3) := by decide +kernel
theorem dX10_rule_201 : decode cX10_rule 201 = .ok (.istore_n 3, 1) := by decide +kernel
theorem dX10_rule_202 : decode cX10_rule 202 = .ok (.iload_n 3, 1) := by decide +kernel
theorem dX10_rule_203 : decode cX10_rule 203 = .ok (.ifCond .ne 18, 3) := by decide +kernel
theorem dX10_rule_206 : decode cX10_rule 206 = .ok (.aload_n 0, 1) := by decide +kernel
theorem dX10_rule_207 : decode cX10_rule 207 = .ok (.ldc2_w 178, 3) := by decide +kernel
theorem dX10_rule_210 : decode cX10_rule 210 = .ok (.invokevirtual 163, 3) := by decide +kernel
theorem dX10_rule_213 : decode cX10_rule 213 = .ok (.ifCond .ne 8, 3) := by decide +kernel
theorem dX10_rule_216 : decode cX10_rule 216 = .ok (.aload_n 0, 1) := by decide +kernel
theorem dX10_rule_217 : decode cX10_rule 217 = .ok (.invokevirtual 173, 3) := by decide +kernel
theorem dX10_rule_220 : decode cX10_rule 220 = .ok (.ireturn, 1) := by decide +kernel
theorem dX10_rule_221 : decode cX10_rule 221 = .ok (.aload_n 0, 1) := by decide +kernel
theorem dX10_rule_222 : decode cX10_rule 222 = .ok (.getfield 17, 3) := by decide +kernel
theorem dX10_rule_225 : decode cX10_rule 225 = .ok (.iload_n 1, 1) := by decide +kernel
theorem dX10_rule_226 : decode cX10_rule 226 = .ok (.iload_n 3, 1) := by decide +kernel
theorem dX10_rule_227 : decode cX10_rule 227 = .ok (.ifCond .eq 7, 3) := by decide +kernel
theorem dX10_rule_230 : decode cX10_rule 230 = .ok (.iconst 1, 1) := by decide +kernel
theorem dX10_rule_231 : decode cX10_rule 231 = .ok (.goto 4, 3) := by decide +kernel
theorem dX10_rule_234 : decode cX10_rule 234 = .ok (.iconst 0, 1) := by decide +kernel
theorem dX10_rule_235 : decode cX10_rule 235 = .ok (.iastore, 1) := by decide +kernel
theorem dX10_rule_236 : decode cX10_rule 236 = .ok (.goto 44, 3) := by decide +kernel
theorem dX10_rule_239 : decode cX10_rule 239 = .ok (.aload_n 0, 1) := by decide +kernel
theorem dX10_rule_240 : decode cX10_rule 240 = .ok (.getfield 121, 3) := by decide +kernel
theorem dX10_rule_243 : decode cX10_rule 243 = .ok (.iconst 2, 1) := by decide +kernel
theorem dX10_rule_244 : decode cX10_rule 244 = .ok (.if_icmp .eq 8, 3) := by decide +kernel
theorem dX10_rule_247 : decode cX10_rule 247 = .ok (.aload_n 0, 1) := by decide +kernel
theorem dX10_rule_248 : decode cX10_rule 248 = .ok (.invokevirtual 173, 3) := by decide +kernel
theorem dX10_rule_251 : decode cX10_rule 251 = .ok (.ireturn, 1) := by decide +kernel
theorem dX10_rule_252 : decode cX10_rule 252 = .ok (.aload_n 0, 1) := by decide +kernel
theorem dX10_rule_253 : decode cX10_rule 253 = .ok (.getfield 135, 3) := by decide +kernel
theorem dX10_rule_256 : decode cX10_rule 256 = .ok (.iload_n 2, 1) := by decide +kernel
theorem dX10_rule_257 : decode cX10_rule 257 = .ok (.if_icmp .le 13, 3) := by decide +kernel
theorem dX10_rule_260 : decode cX10_rule 260 = .ok (.aload_n 0, 1) := by decide +kernel
theorem dX10_rule_261 : decode cX10_rule 261 = .ok (.iconst 3, 1) := by decide +kernel
theorem dX10_rule_262 : decode cX10_rule 262 = .ok (.aload_n 0, 1) := by decide +kernel
theorem dX10_rule_263 : decode cX10_rule 263 = .ok (.getfield 118, 3) := by decide +kernel
theorem dX10_rule_266 : decode cX10_rule 266 = .ok (.invokevirtual 144, 3) := by decide +kernel
theorem dX10_rule_269 : decode cX10_rule 269 = .ok (.ireturn, 1) := by decide +kernel
theorem dX10_rule_270 : decode cX10_rule 270 = .ok (.aload_n 0, 1) := by decide +kernel
theorem dX10_rule_271 : decode cX10_rule 271 = .ok (.getfield 17, 3) := by decide +kernel
theorem dX10_rule_274 : decode cX10_rule 274 = .ok (.iload_n 1, 1) := by decide +kernel
theorem dX10_rule_275 : decode cX10_rule 275 = .ok (.aload_n 0, 1) := by decide +kernel
theorem dX10_rule_276 : decode cX10_rule 276 = .ok (.getfield 135, 3) := by decide +kernel
theorem dX10_rule_279 : decode cX10_rule 279 = .ok (.iastore, 1) := by decide +kernel
theorem dX10_rule_280 : decode cX10_rule 280 = .ok (.aload_n 0, 1) := by decide +kernel
theorem dX10_rule_281 : decode cX10_rule 281 = .ok (.getfield 20, 3) := by decide +kernel
theorem dX10_rule_284 : decode cX10_rule 284 = .ok (.iload_n 1, 1) := by decide +kernel
theorem dX10_rule_285 : decode cX10_rule 285 = .ok (.iconst 1, 1) := by decide +kernel
theorem dX10_rule_286 : decode cX10_rule 286 = .ok (.bastore, 1) := by decide +kernel
theorem dX10_rule_287 : decode cX10_rule 287 = .ok (.aload_n 0, 1) := by decide +kernel
theorem dX10_rule_288 : decode cX10_rule 288 = .ok (.invokevirtual 151, 3) := by decide +kernel
theorem dX10_rule_291 : decode cX10_rule 291 = .ok (.aload_n 0, 1) := by decide +kernel
theorem dX10_rule_292 : decode cX10_rule 292 = .ok (.getfield 121, 3) := by decide +kernel
theorem dX10_rule_295 : decode cX10_rule 295 = .ok (.iconst 3, 1) := by decide +kernel
theorem dX10_rule_296 : decode cX10_rule 296 = .ok (.if_icmp .eq 8, 3) := by decide +kernel
theorem dX10_rule_299 : decode cX10_rule 299 = .ok (.aload_n 0, 1) := by decide +kernel
theorem dX10_rule_300 : decode cX10_rule 300 = .ok (.invokevirtual 173, 3) := by decide +kernel
theorem dX10_rule_303 : decode cX10_rule 303 = .ok (.ireturn, 1) := by decide +kernel
theorem dX10_rule_304 : decode cX10_rule 304 = .ok (.aload_n 0, 1) := by decide +kernel
theorem dX10_rule_305 : decode cX10_rule 305 = .ok (.invokevirtual 151, 3) := by decide +kernel
theorem dX10_rule_308 : decode cX10_rule 308 = .ok (.iconst 1, 1) := by decide +kernel
theorem dX10_rule_309 : decode cX10_rule 309 = .ok (.ireturn, 1) := by decide +kernel
theorem dX10_fault_0 : decode cX10_fault 0 = .ok (.aload_n 0, 1) := by decide +kernel
theorem dX10_fault_1 : decode cX10_fault 1 = .ok (.iconst 0, 1) := by decide +kernel
theorem dX10_fault_2 : decode cX10_fault 2 = .ok (.putfield 97, 3) := by decide +kernel
theorem dX10_fault_5 : decode cX10_fault 5 = .ok (.aload_n 0, 1) := by decide +kernel
theorem dX10_fault_6 : decode cX10_fault 6 = .ok (.getfield 138, 3) := by decide +kernel
theorem dX10_fault_9 : decode cX10_fault 9 = .ok (.ireturn, 1) := by decide +kernel
theorem dX10_isIn_0 : decode cX10_isIn 0 = .ok (.iload_n 0, 1) := by decide +kernel
theorem dX10_isIn_1 : decode cX10_isIn 1 = .ok (.iload_n 1, 1) := by decide +kernel
theorem dX10_isIn_2 : decode cX10_isIn 2 = .ok (.if_icmp .lt 12, 3) := by decide +kernel
theorem dX10_isIn_5 : decode cX10_isIn 5 = .ok (.iload_n 0, 1) := by decide +kernel
theorem dX10_isIn_6 : decode cX10_isIn 6 = .ok (.iload_n 2, 1) := by decide +kernel
theorem dX10_isIn_7 : decode cX10_isIn 7 = .ok (.if_icmp .gt 7, 3) := by decide +kernel
theorem dX10_isIn_10 : decode cX10_isIn 10 = .ok (.iconst 1, 1) := by decide +kernel
theorem dX10_isIn_11 : decode cX10_isIn 11 = .ok (.goto 4, 3) := by decide +kernel
theorem dX10_isIn_14 : decode cX10_isIn 14 = .ok (.iconst 0, 1) := by decide +kernel
theorem dX10_isIn_15 : decode cX10_isIn 15 = .ok (.ireturn, 1) := by decide +kernel
theorem dX10_lot_0 : decode cX10_lot 0 = .ok (.aload_n 0, 1) := by decide +kernel
theorem dX10_lot_1 : decode cX10_lot 1 = .ok (.iconst 0, 1) := by decide +kernel
theorem dX10_lot_2 : decode cX10_lot 2 = .ok (.putfield 97, 3) := by decide +kernel
theorem dX10_lot_5 : decode cX10_lot 5 = .ok (.aload_n 0, 1) := by decide +kernel
theorem dX10_lot_6 : decode cX10_lot 6 = .ok (.getfield 180, 3) := by decide +kernel
theorem dX10_lot_9 : decode cX10_lot 9 = .ok (.bipush 100, 2) := by decide +kernel
theorem dX10_lot_11 : decode cX10_lot 11 = .ok (.if_icmp .eq 53, 3) := by decide +kernel
theorem dX10_lot_14 : decode cX10_lot 14 = .ok (.iload_n 1, 1) := by decide +kernel
theorem dX10_lot_15 : decode cX10_lot 15 = .ok (.iconst 0, 1) := by decide +kernel
theorem dX10_lot_16 : decode cX10_lot 16 = .ok (.bipush 7, 2) := by decide +kernel
theorem dX10_lot_18 : decode cX10_lot 18 = .ok (.invokestatic 183, 3) := by decide +kernel
theorem dX10_lot_21 : decode cX10_lot 21 = .ok (.ifCond .eq 43, 3) := by decide +kernel
theorem dX10_lot_24 : decode cX10_lot 24 = .ok (.iload_n 2, 1) := by decide +kernel
theorem dX10_lot_25 : decode cX10_lot 25 = .ok (.iconst 0, 1) := by decide +kernel
theorem dX10_lot_26 : decode cX10_lot 26 = .ok (.iconst 5, 1) := by decide +kernel
theorem dX10_lot_27 : decode cX10_lot 27 = .ok (.invokestatic 183, 3) := by decide +kernel
theorem dX10_lot_30 : decode cX10_lot 30 = .ok (.ifCond .eq 34, 3) := by decide +kernel
theorem dX10_lot_33 : decode cX10_lot 33 = .ok (.iload_n 3, 1) := by decide +kernel
theorem dX10_lot_34 : decode cX10_lot 34 = .ok (.iconst 0, 1) := by decide +kernel
theorem dX10_lot_35 : decode cX10_lot 35 = .ok (.iconst 3, 1) := by decide +kernel
theorem dX10_lot_36 : decode cX10_lot 36 = .ok (.invokestatic 183, 3) := by decide +kernel
theorem dX10_lot_39 : decode cX10_lot 39 = .ok (.ifCond .eq 25, 3) := by decide +kernel
theorem dX10_lot_42 : decode cX10_lot 42 = .ok (.iload 4, 2) := by decide +kernel
theorem dX10_lot_44 : decode cX10_lot 44 = .ok (.iconst 1, 1) := by decide +kernel
theorem dX10_lot_45 : decode cX10_lot 45 = .ok (.sipush 500, 3) := by decide +kernel
theorem dX10_lot_48 : decode cX10_lot 48 = .ok (.invokestatic 183, 3) := by decide +kernel
theorem dX10_lot_51 : decode cX10_lot 51 = .ok (.ifCond .eq 13, 3) := by decide +kernel
theorem dX10_lot_54 : decode cX10_lot 54 = .ok (.iload 5, 2) := by decide +kernel
theorem dX10_lot_56 : decode cX10_lot 56 = .ok (.iconst 0, 1) := by decide +kernel
theorem dX10_lot_57 : decode cX10_lot 57 = .ok (.iconst 3, 1) := by decide +kernel
theorem dX10_lot_58 : decode cX10_lot 58 = .ok (.invokestatic 183, 3) := by decide +kernel
theorem dX10_lot_61 : decode cX10_lot 61 = .ok (.ifCond .ne 5, 3) := by decide +kernel
theorem dX10_lot_64 : decode cX10_lot 64 = .ok (.iconst (-1), 1) := by decide +kernel
theorem dX10_lot_65 : decode cX10_lot 65 = .ok (.ireturn, 1) := by decide +kernel
theorem dX10_lot_66 : decode cX10_lot 66 = .ok (.aload_n 0, 1) := by decide +kernel
theorem dX10_lot_67 : decode cX10_lot 67 = .ok (.getfield 24, 3) := by decide +kernel
theorem dX10_lot_70 : decode cX10_lot 70 = .ok (.aload_n 0, 1) := by decide +kernel
theorem dX10_lot_71 : decode cX10_lot 71 = .ok (.getfield 180, 3) := by decide +kernel
theorem dX10_lot_74 : decode cX10_lot 74 = .ok (.iload_n 1, 1) := by decide +kernel
theorem dX10_lot_75 : decode cX10_lot 75 = .ok (.iastore, 1) := by decide +kernel
theorem dX10_lot_76 : decode cX10_lot 76 = .ok (.aload_n 0, 1) := by decide +kernel
theorem dX10_lot_77 : decode cX10_lot 77 = .ok (.getfield 27, 3) := by decide +kernel
theorem dX10_lot_80 : decode cX10_lot 80 = .ok (.aload_n 0, 1) := by decide +kernel
theorem dX10_lot_81 : decode cX10_lot 81 = .ok (.getfield 180, 3) := by decide +kernel
theorem dX10_lot_84 : decode cX10_lot 84 = .ok (.iload_n 2, 1) := by decide +kernel
theorem dX10_lot_85 : decode cX10_lot 85 = .ok (.iastore, 1) := by decide +kernel
theorem dX10_lot_86 : decode cX10_lot 86 = .ok (.aload_n 0, 1) := by decide +kernel
theorem dX10_lot_87 : decode cX10_lot 87 = .ok (.getfield 30, 3) := by decide +kernel
theorem dX10_lot_90 : decode cX10_lot 90 = .ok (.aload_n 0, 1) := by decide +kernel
theorem dX10_lot_91 : decode cX10_lot 91 = .ok (.getfield 180, 3) := by decide +kernel
theorem dX10_lot_94 : decode cX10_lot 94 = .ok (.iload_n 3, 1) := by decide +kernel
theorem dX10_lot_95 : decode cX10_lot 95 = .ok (.iastore, 1) := by decide +kernel
theorem dX10_lot_96 : decode cX10_lot 96 = .ok (.aload_n 0, 1) := by decide +kernel
theorem dX10_lot_97 : decode cX10_lot 97 = .ok (.getfield 33, 3) := by decide +kernel
theorem dX10_lot_100 : decode cX10_lot 100 = .ok (.aload_n 0, 1) := by decide +kernel
theorem dX10_lot_101 : decode cX10_lot 101 = .ok (.getfield 180, 3) := by decide +kernel
theorem dX10_lot_104 : decode cX10_lot 104 = .ok (.iload 4, 2) := by decide +kernel
theorem dX10_lot_106 : decode cX10_lot 106 = .ok (.iastore, 1) := by decide +kernel
theorem dX10_lot_107 : decode cX10_lot 107 = .ok (.aload_n 0, 1) := by decide +kernel
theorem dX10_lot_108 : decode cX10_lot 108 = .ok (.getfield 36, 3) := by decide +kernel
theorem dX10_lot_111 : decode cX10_lot 111 = .ok (.aload_n 0, 1) := by decide +kernel
theorem dX10_lot_112 : decode cX10_lot 112 = .ok (.getfield 180, 3) := by decide +kernel
theorem dX10_lot_115 : decode cX10_lot 115 = .ok (.iload 5, 2) := by decide +kernel
theorem dX10_lot_117 : decode cX10_lot 117 = .ok (.iastore, 1) := by decide +kernel
theorem dX10_lot_118 : decode cX10_lot 118 = .ok (.aload_n 0, 1) := by decide +kernel
theorem dX10_lot_119 : decode cX10_lot 119 = .ok (.getfield 39, 3) := by decide +kernel
theorem dX10_lot_122 : decode cX10_lot 122 = .ok (.aload_n 0, 1) := by decide +kernel
theorem dX10_lot_123 : decode cX10_lot 123 = .ok (.getfield 180, 3) := by decide +kernel
theorem dX10_lot_126 : decode cX10_lot 126 = .ok (.iconst (-1), 1) := by decide +kernel
theorem dX10_lot_127 : decode cX10_lot 127 = .ok (.iastore, 1) := by decide +kernel
theorem dX10_lot_128 : decode cX10_lot 128 = .ok (.aload_n 0, 1) := by decide +kernel
theorem dX10_lot_129 : decode cX10_lot 129 = .ok (.dup, 1) := by decide +kernel
theorem dX10_lot_130 : decode cX10_lot 130 = .ok (.getfield 180, 3) := by decide +kernel
theorem dX10_lot_133 : decode cX10_lot 133 = .ok (.iconst 1, 1) := by decide +kernel
theorem dX10_lot_134 : decode cX10_lot 134 = .ok (.iadd, 1) := by decide +kernel
theorem dX10_lot_135 : decode cX10_lot 135 = .ok (.putfield 180, 3) := by decide +kernel
theorem dX10_lot_138 : decode cX10_lot 138 = .ok (.aload_n 0, 1) := by decide +kernel
theorem dX10_lot_139 : decode cX10_lot 139 = .ok (.getfield 180, 3) := by decide +kernel
theorem dX10_lot_142 : decode cX10_lot 142 = .ok (.iconst 1, 1) := by decide +kernel
theorem dX10_lot_143 : decode cX10_lot 143 = .ok (.isub, 1) := by decide +kernel
theorem dX10_lot_144 : decode cX10_lot 144 = .ok (.ireturn, 1) := by decide +kernel
theorem dX10_money_0 : decode cX10_money 0 = .ok (.aload_n 0, 1) := by decide +kernel
theorem dX10_money_1 : decode cX10_money 1 = .ok (.iconst 0, 1) := by decide +kernel
theorem dX10_money_2 : decode cX10_money 2 = .ok (.putfield 97, 3) := by decide +kernel
theorem dX10_money_5 : decode cX10_money 5 = .ok (.iload_n 1, 1) := by decide +kernel
theorem dX10_money_6 : decode cX10_money 6 = .ok (.iconst 0, 1) := by decide +kernel
theorem dX10_money_7 : decode cX10_money 7 = .ok (.bipush 9, 2) := by decide +kernel
theorem dX10_money_9 : decode cX10_money 9 = .ok (.invokestatic 183, 3) := by decide +kernel
theorem dX10_money_12 : decode cX10_money 12 = .ok (.ifCond .eq 13, 3) := by decide +kernel
theorem dX10_money_15 : decode cX10_money 15 = .ok (.iload_n 2, 1) := by decide +kernel
theorem dX10_money_16 : decode cX10_money 16 = .ok (.iconst 0, 1) := by decide +kernel
theorem dX10_money_17 : decode cX10_money 17 = .ok (.ldc 187, 2) := by decide +kernel
theorem dX10_money_19 : decode cX10_money 19 = .ok (.invokestatic 183, 3) := by decide +kernel
theorem dX10_money_22 : decode cX10_money 22 = .ok (.ifCond .ne 5, 3) := by decide +kernel
theorem dX10_money_25 : decode cX10_money 25 = .ok (.iconst 0, 1) := by decide +kernel
theorem dX10_money_26 : decode cX10_money 26 = .ok (.ireturn, 1) := by decide +kernel
theorem dX10_money_27 : decode cX10_money 27 = .ok (.aload_n 0, 1) := by decide +kernel
theorem dX10_money_28 : decode cX10_money 28 = .ok (.getfield 45, 3) := by decide +kernel
theorem dX10_money_31 : decode cX10_money 31 = .ok (.iload_n 1, 1) := by decide +kernel
theorem dX10_money_32 : decode cX10_money 32 = .ok (.iload_n 2, 1) := by decide +kernel
theorem dX10_money_33 : decode cX10_money 33 = .ok (.iastore, 1) := by decide +kernel
theorem dX10_money_34 : decode cX10_money 34 = .ok (.aload_n 0, 1) := by decide +kernel
theorem dX10_money_35 : decode cX10_money 35 = .ok (.getfield 48, 3) := by decide +kernel
theorem dX10_money_38 : decode cX10_money 38 = .ok (.iload_n 1, 1) := by decide +kernel
theorem dX10_money_39 : decode cX10_money 39 = .ok (.iload_n 2, 1) := by decide +kernel
theorem dX10_money_40 : decode cX10_money 40 = .ok (.iastore, 1) := by decide +kernel
theorem dX10_money_41 : decode cX10_money 41 = .ok (.iconst 1, 1) := by decide +kernel
theorem dX10_money_42 : decode cX10_money 42 = .ok (.ireturn, 1) := by decide +kernel
theorem dX10_place_0 : decode cX10_place 0 = .ok (.bipush 16, 2) := by decide +kernel
theorem dX10_place_2 : decode cX10_place 2 = .ok (.iload_n 0, 1) := by decide +kernel
theorem dX10_place_3 : decode cX10_place 3 = .ok (.imul, 1) := by decide +kernel
theorem dX10_place_4 : decode cX10_place 4 = .ok (.iconst 4, 1) := by decide +kernel
theorem dX10_place_5 : decode cX10_place 5 = .ok (.iload_n 1, 1) := by decide +kernel
theorem dX10_place_6 : decode cX10_place 6 = .ok (.imul, 1) := by decide +kernel
theorem dX10_place_7 : decode cX10_place 7 = .ok (.iadd, 1) := by decide +kernel
theorem dX10_place_8 : decode cX10_place 8 = .ok (.iload_n 2, 1) := by decide +kernel
theorem dX10_place_9 : decode cX10_place 9 = .ok (.iadd, 1) := by decide +kernel
theorem dX10_place_10 : decode cX10_place 10 = .ok (.ireturn, 1) := by decide +kernel
theorem dX10_want_0 : decode cX10_want 0 = .ok (.aload_n 0, 1) := by decide +kernel
theorem dX10_want_1 : decode cX10_want 1 = .ok (.iconst 0, 1) := by decide +kernel
theorem dX10_want_2 : decode cX10_want 2 = .ok (.putfield 97, 3) := by decide +kernel
theorem dX10_want_5 : decode cX10_want 5 = .ok (.iload_n 1, 1) := by decide +kernel
theorem dX10_want_6 : decode cX10_want 6 = .ok (.iconst 0, 1) := by decide +kernel
theorem dX10_want_7 : decode cX10_want 7 = .ok (.bipush 9, 2) := by decide +kernel
theorem dX10_want_9 : decode cX10_want 9 = .ok (.invokestatic 183, 3) := by decide +kernel
theorem dX10_want_12 : decode cX10_want 12 = .ok (.ifCond .eq 45, 3) := by decide +kernel
theorem dX10_want_15 : decode cX10_want 15 = .ok (.iload_n 2, 1) := by decide +kernel
theorem dX10_want_16 : decode cX10_want 16 = .ok (.iconst 0, 1) := by decide +kernel
theorem dX10_want_17 : decode cX10_want 17 = .ok (.iconst 3, 1) := by decide +kernel
theorem dX10_want_18 : decode cX10_want 18 = .ok (.invokestatic 183, 3) := by decide +kernel
theorem dX10_want_21 : decode cX10_want 21 = .ok (.ifCond .eq 36, 3) := by decide +kernel
theorem dX10_want_24 : decode cX10_want 24 = .ok (.iload_n 3, 1) := by decide +kernel
theorem dX10_want_25 : decode cX10_want 25 = .ok (.iconst 0, 1) := by decide +kernel
theorem dX10_want_26 : decode cX10_want 26 = .ok (.iconst 3, 1) := by decide +kernel
theorem dX10_want_27 : decode cX10_want 27 = .ok (.invokestatic 183, 3) := by decide +kernel
theorem dX10_want_30 : decode cX10_want 30 = .ok (.ifCond .eq 27, 3) := by decide +kernel
theorem dX10_want_33 : decode cX10_want 33 = .ok (.iload 4, 2) := by decide +kernel
theorem dX10_want_35 : decode cX10_want 35 = .ok (.iconst 0, 1) := by decide +kernel
theorem dX10_want_36 : decode cX10_want 36 = .ok (.sipush 5000, 3) := by decide +kernel
theorem dX10_want_39 : decode cX10_want 39 = .ok (.invokestatic 183, 3) := by decide +kernel
theorem dX10_want_42 : decode cX10_want 42 = .ok (.ifCond .eq 15, 3) := by decide +kernel
theorem dX10_want_45 : decode cX10_want 45 = .ok (.iload 5, 2) := by decide +kernel
theorem dX10_want_47 : decode cX10_want 47 = .ok (.iconst 0, 1) := by decide +kernel
theorem dX10_want_48 : decode cX10_want 48 = .ok (.sipush 9999, 3) := by decide +kernel
theorem dX10_want_51 : decode cX10_want 51 = .ok (.invokestatic 183, 3) := by decide +kernel
theorem dX10_want_54 : decode cX10_want 54 = .ok (.ifCond .ne 5, 3) := by decide +kernel
theorem dX10_want_57 : decode cX10_want 57 = .ok (.iconst 0, 1) := by decide +kernel
theorem dX10_want_58 : decode cX10_want 58 = .ok (.ireturn, 1) := by decide +kernel
theorem dX10_want_59 : decode cX10_want 59 = .ok (.aload_n 0, 1) := by decide +kernel
theorem dX10_want_60 : decode cX10_want 60 = .ok (.getfield 51, 3) := by decide +kernel
theorem dX10_want_63 : decode cX10_want 63 = .ok (.iload_n 1, 1) := by decide +kernel
theorem dX10_want_64 : decode cX10_want 64 = .ok (.iload_n 2, 1) := by decide +kernel
theorem dX10_want_65 : decode cX10_want 65 = .ok (.iload_n 3, 1) := by decide +kernel
theorem dX10_want_66 : decode cX10_want 66 = .ok (.invokestatic 188, 3) := by decide +kernel
theorem dX10_want_69 : decode cX10_want 69 = .ok (.iload 4, 2) := by decide +kernel
theorem dX10_want_71 : decode cX10_want 71 = .ok (.iastore, 1) := by decide +kernel
theorem dX10_want_72 : decode cX10_want 72 = .ok (.aload_n 0, 1) := by decide +kernel
theorem dX10_want_73 : decode cX10_want 73 = .ok (.getfield 54, 3) := by decide +kernel
theorem dX10_want_76 : decode cX10_want 76 = .ok (.iload_n 1, 1) := by decide +kernel
theorem dX10_want_77 : decode cX10_want 77 = .ok (.iload_n 2, 1) := by decide +kernel
theorem dX10_want_78 : decode cX10_want 78 = .ok (.iload_n 3, 1) := by decide +kernel
theorem dX10_want_79 : decode cX10_want 79 = .ok (.invokestatic 188, 3) := by decide +kernel
theorem dX10_want_82 : decode cX10_want 82 = .ok (.iload 5, 2) := by decide +kernel
theorem dX10_want_84 : decode cX10_want 84 = .ok (.iastore, 1) := by decide +kernel
theorem dX10_want_85 : decode cX10_want 85 = .ok (.iconst 1, 1) := by decide +kernel
theorem dX10_want_86 : decode cX10_want 86 = .ok (.ireturn, 1) := by decide +kernel
theorem dX10_auction_0 : decode cX10_auction 0 = .ok (.aload_n 0, 1) := by decide +kernel
theorem dX10_auction_1 : decode cX10_auction 1 = .ok (.iconst 0, 1) := by decide +kernel
theorem dX10_auction_2 : decode cX10_auction 2 = .ok (.putfield 97, 3) := by decide +kernel
theorem dX10_auction_5 : decode cX10_auction 5 = .ok (.iload_n 1, 1) := by decide +kernel
theorem dX10_auction_6 : decode cX10_auction 6 = .ok (.iconst 0, 1) := by decide +kernel
theorem dX10_auction_7 : decode cX10_auction 7 = .ok (.iconst 3, 1) := by decide +kernel
theorem dX10_auction_8 : decode cX10_auction 8 = .ok (.invokestatic 183, 3) := by decide +kernel
theorem dX10_auction_11 : decode cX10_auction 11 = .ok (.ifCond .ne 5, 3) := by decide +kernel
theorem dX10_auction_14 : decode cX10_auction 14 = .ok (.iconst (-1), 1) := by decide +kernel
theorem dX10_auction_15 : decode cX10_auction 15 = .ok (.ireturn, 1) := by decide +kernel
theorem dX10_auction_16 : decode cX10_auction 16 = .ok (.iconst 0, 1) := by decide +kernel
theorem dX10_auction_17 : decode cX10_auction 17 = .ok (.istore_n 2, 1) := by decide +kernel
theorem dX10_auction_18 : decode cX10_auction 18 = .ok (.iconst 0, 1) := by decide +kernel
theorem dX10_auction_19 : decode cX10_auction 19 = .ok (.istore_n 3, 1) := by decide +kernel
theorem dX10_auction_20 : decode cX10_auction 20 = .ok (.iconst 0, 1) := by decide +kernel
theorem dX10_auction_21 : decode cX10_auction 21 = .ok (.istore 4, 2) := by decide +kernel
theorem dX10_auction_23 : decode cX10_auction 23 = .ok (.iload 4, 2) := by decide +kernel
theorem dX10_auction_25 : decode cX10_auction 25 = .ok (.aload_n 0, 1) := by decide +kernel
theorem dX10_auction_26 : decode cX10_auction 26 = .ok (.getfield 180, 3) := by decide +kernel
theorem dX10_auction_29 : decode cX10_auction 29 = .ok (.if_icmp .ge 141, 3) := by decide +kernel
theorem dX10_auction_32 : decode cX10_auction 32 = .ok (.aload_n 0, 1) := by decide +kernel
theorem dX10_auction_33 : decode cX10_auction 33 = .ok (.getfield 36, 3) := by decide +kernel
theorem dX10_auction_36 : decode cX10_auction 36 = .ok (.iload 4, 2) := by decide +kernel
theorem dX10_auction_38 : decode cX10_auction 38 = .ok (.iaload, 1) := by decide +kernel
theorem dX10_auction_39 : decode cX10_auction 39 = .ok (.iload_n 1, 1) := by decide +kernel
theorem dX10_auction_40 : decode cX10_auction 40 = .ok (.if_icmp .ne 124, 3) := by decide +kernel
theorem dX10_auction_43 : decode cX10_auction 43 = .ok (.aload_n 0, 1) := by decide +kernel
theorem dX10_auction_44 : decode cX10_auction 44 = .ok (.getfield 42, 3) := by decide +kernel
theorem dX10_auction_47 : decode cX10_auction 47 = .ok (.iload 4, 2) := by decide +kernel
theorem dX10_auction_49 : decode cX10_auction 49 = .ok (.baload, 1) := by decide +kernel
theorem dX10_auction_50 : decode cX10_auction 50 = .ok (.ifCond .ne 114, 3) := by decide +kernel
theorem dX10_auction_53 : decode cX10_auction 53 = .ok (.aload_n 0, 1) := by decide +kernel
theorem dX10_auction_54 : decode cX10_auction 54 = .ok (.getfield 33, 3) := by decide +kernel
theorem dX10_auction_57 : decode cX10_auction 57 = .ok (.iload 4, 2) := by decide +kernel
theorem dX10_auction_59 : decode cX10_auction 59 = .ok (.iaload, 1) := by decide +kernel
theorem dX10_auction_60 : decode cX10_auction 60 = .ok (.ifCond .ne 6, 3) := by decide +kernel
theorem dX10_auction_63 : decode cX10_auction 63 = .ok (.goto 101, 3) := by decide +kernel
theorem dX10_auction_66 : decode cX10_auction 66 = .ok (.aload_n 0, 1) := by decide +kernel
theorem dX10_auction_67 : decode cX10_auction 67 = .ok (.getfield 78, 3) := by decide +kernel
theorem dX10_auction_70 : decode cX10_auction 70 = .ok (.iload 4, 2) := by decide +kernel
theorem dX10_auction_72 : decode cX10_auction 72 = .ok (.iconst 0, 1) := by decide +kernel
theorem dX10_auction_73 : decode cX10_auction 73 = .ok (.iastore, 1) := by decide +kernel
theorem dX10_auction_74 : decode cX10_auction 74 = .ok (.iconst 0, 1) := by decide +kernel
theorem dX10_auction_75 : decode cX10_auction 75 = .ok (.istore 5, 2) := by decide +kernel
theorem dX10_auction_77 : decode cX10_auction 77 = .ok (.iload 5, 2) := by decide +kernel
theorem dX10_auction_79 : decode cX10_auction 79 = .ok (.iload_n 2, 1) := by decide +kernel
theorem dX10_auction_80 : decode cX10_auction 80 = .ok (.if_icmp .ge 46, 3) := by decide +kernel
theorem dX10_auction_83 : decode cX10_auction 83 = .ok (.aload_n 0, 1) := by decide +kernel
theorem dX10_auction_84 : decode cX10_auction 84 = .ok (.getfield 78, 3) := by decide +kernel
theorem dX10_auction_87 : decode cX10_auction 87 = .ok (.iload 4, 2) := by decide +kernel
theorem dX10_auction_89 : decode cX10_auction 89 = .ok (.dup2, 1) := by decide +kernel
theorem dX10_auction_90 : decode cX10_auction 90 = .ok (.iaload, 1) := by decide +kernel
theorem dX10_auction_91 : decode cX10_auction 91 = .ok (.aload_n 0, 1) := by decide +kernel
theorem dX10_auction_92 : decode cX10_auction 92 = .ok (.getfield 24, 3) := by decide +kernel
theorem dX10_auction_95 : decode cX10_auction 95 = .ok (.aload_n 0, 1) := by decide +kernel
theorem dX10_auction_96 : decode cX10_auction 96 = .ok (.getfield 75, 3) := by decide +kernel
theorem dX10_auction_99 : decode cX10_auction 99 = .ok (.iload 5, 2) := by decide +kernel
theorem dX10_auction_101 : decode cX10_auction 101 = .ok (.iaload, 1) := by decide +kernel
theorem dX10_auction_102 : decode cX10_auction 102 = .ok (.iaload, 1) := by decide +kernel
theorem dX10_auction_103 : decode cX10_auction 103 = .ok (.aload_n 0, 1) := by decide +kernel
theorem dX10_auction_104 : decode cX10_auction 104 = .ok (.getfield 24, 3) := by decide +kernel
theorem dX10_auction_107 : decode cX10_auction 107 = .ok (.iload 4, 2) := by decide +kernel
theorem dX10_auction_109 : decode cX10_auction 109 = .ok (.iaload, 1) := by decide +kernel
theorem dX10_auction_110 : decode cX10_auction 110 = .ok (.if_icmp .ne 7, 3) := by decide +kernel
theorem dX10_auction_113 : decode cX10_auction 113 = .ok (.iconst 1, 1) := by decide +kernel
theorem dX10_auction_114 : decode cX10_auction 114 = .ok (.goto 4, 3) := by decide +kernel
theorem dX10_auction_117 : decode cX10_auction 117 = .ok (.iconst 0, 1) := by decide +kernel
theorem dX10_auction_118 : decode cX10_auction 118 = .ok (.iadd, 1) := by decide +kernel
theorem dX10_auction_119 : decode cX10_auction 119 = .ok (.iastore, 1) := by decide +kernel
theorem dX10_auction_120 : decode cX10_auction 120 = .ok (.iinc 5 1, 3) := by decide +kernel
theorem dX10_auction_123 : decode cX10_auction 123 = .ok (.goto (-46), 3) := by decide +kernel
theorem dX10_auction_126 : decode cX10_auction 126 = .ok (.aload_n 0, 1) := by decide +kernel
theorem dX10_auction_127 : decode cX10_auction 127 = .ok (.getfield 78, 3) := by decide +kernel
theorem dX10_auction_130 : decode cX10_auction 130 = .ok (.iload 4, 2) := by decide +kernel
theorem dX10_auction_132 : decode cX10_auction 132 = .ok (.iaload, 1) := by decide +kernel
theorem dX10_auction_133 : decode cX10_auction 133 = .ok (.iconst 1, 1) := by decide +kernel
theorem dX10_auction_134 : decode cX10_auction 134 = .ok (.iadd, 1) := by decide +kernel
theorem dX10_auction_135 : decode cX10_auction 135 = .ok (.iload_n 3, 1) := by decide +kernel
theorem dX10_auction_136 : decode cX10_auction 136 = .ok (.if_icmp .le 15, 3) := by decide +kernel
theorem dX10_auction_139 : decode cX10_auction 139 = .ok (.aload_n 0, 1) := by decide +kernel
theorem dX10_auction_140 : decode cX10_auction 140 = .ok (.getfield 78, 3) := by decide +kernel
theorem dX10_auction_143 : decode cX10_auction 143 = .ok (.iload 4, 2) := by decide +kernel
theorem dX10_auction_145 : decode cX10_auction 145 = .ok (.iaload, 1) := by decide +kernel
theorem dX10_auction_146 : decode cX10_auction 146 = .ok (.iconst 1, 1) := by decide +kernel
theorem dX10_auction_147 : decode cX10_auction 147 = .ok (.iadd, 1) := by decide +kernel
theorem dX10_auction_148 : decode cX10_auction 148 = .ok (.goto 4, 3) := by decide +kernel
theorem dX10_auction_151 : decode cX10_auction 151 = .ok (.iload_n 3, 1) := by decide +kernel
theorem dX10_auction_152 : decode cX10_auction 152 = .ok (.istore_n 3, 1) := by decide +kernel
theorem dX10_auction_153 : decode cX10_auction 153 = .ok (.aload_n 0, 1) := by decide +kernel
theorem dX10_auction_154 : decode cX10_auction 154 = .ok (.getfield 75, 3) := by decide +kernel
theorem dX10_auction_157 : decode cX10_auction 157 = .ok (.iload_n 2, 1) := by decide +kernel
theorem dX10_auction_158 : decode cX10_auction 158 = .ok (.iload 4, 2) := by decide +kernel
theorem dX10_auction_160 : decode cX10_auction 160 = .ok (.iastore, 1) := by decide +kernel
theorem dX10_auction_161 : decode cX10_auction 161 = .ok (.iinc 2 1, 3) := by decide +kernel
theorem dX10_auction_164 : decode cX10_auction 164 = .ok (.iinc 4 1, 3) := by decide +kernel
theorem dX10_auction_167 : decode cX10_auction 167 = .ok (.goto (-144), 3) := by decide +kernel
theorem dX10_auction_170 : decode cX10_auction 170 = .ok (.iconst 0, 1) := by decide +kernel
theorem dX10_auction_171 : decode cX10_auction 171 = .ok (.istore 4, 2) := by decide +kernel
theorem dX10_auction_173 : decode cX10_auction 173 = .ok (.iconst 0, 1) := by decide +kernel
theorem dX10_auction_174 : decode cX10_auction 174 = .ok (.istore 5, 2) := by decide +kernel
theorem dX10_auction_176 : decode cX10_auction 176 = .ok (.iload 5, 2) := by decide +kernel
theorem dX10_auction_178 : decode cX10_auction 178 = .ok (.iload_n 3, 1) := by decide +kernel
theorem dX10_auction_179 : decode cX10_auction 179 = .ok (.if_icmp .ge 110, 3) := by decide +kernel
theorem dX10_auction_182 : decode cX10_auction 182 = .ok (.iconst 0, 1) := by decide +kernel
theorem dX10_auction_183 : decode cX10_auction 183 = .ok (.istore 6, 2) := by decide +kernel
theorem dX10_auction_185 : decode cX10_auction 185 = .ok (.iload 6, 2) := by decide +kernel
theorem dX10_auction_187 : decode cX10_auction 187 = .ok (.bipush 8, 2) := by decide +kernel
theorem dX10_auction_189 : decode cX10_auction 189 = .ok (.if_icmp .ge 94, 3) := by decide +kernel
theorem dX10_auction_192 : decode cX10_auction 192 = .ok (.aload_n 0, 1) := by decide +kernel
theorem dX10_auction_193 : decode cX10_auction 193 = .ok (.getfield 192, 3) := by decide +kernel
theorem dX10_auction_196 : decode cX10_auction 196 = .ok (.iload 6, 2) := by decide +kernel
theorem dX10_auction_198 : decode cX10_auction 198 = .ok (.iadd, 1) := by decide +kernel
theorem dX10_auction_199 : decode cX10_auction 199 = .ok (.bipush 8, 2) := by decide +kernel
theorem dX10_auction_201 : decode cX10_auction 201 = .ok (.irem, 1) := by decide +kernel
theorem dX10_auction_202 : decode cX10_auction 202 = .ok (.istore 7, 2) := by decide +kernel
theorem dX10_auction_204 : decode cX10_auction 204 = .ok (.iconst 0, 1) := by decide +kernel
theorem dX10_auction_205 : decode cX10_auction 205 = .ok (.istore 8, 2) := by decide +kernel
theorem dX10_auction_207 : decode cX10_auction 207 = .ok (.iload 8, 2) := by decide +kernel
theorem dX10_auction_209 : decode cX10_auction 209 = .ok (.iload_n 2, 1) := by decide +kernel
theorem dX10_auction_210 : decode cX10_auction 210 = .ok (.if_icmp .ge 67, 3) := by decide +kernel
theorem dX10_auction_213 : decode cX10_auction 213 = .ok (.aload_n 0, 1) := by decide +kernel
theorem dX10_auction_214 : decode cX10_auction 214 = .ok (.getfield 24, 3) := by decide +kernel
theorem dX10_auction_217 : decode cX10_auction 217 = .ok (.aload_n 0, 1) := by decide +kernel
theorem dX10_auction_218 : decode cX10_auction 218 = .ok (.getfield 75, 3) := by decide +kernel
theorem dX10_auction_221 : decode cX10_auction 221 = .ok (.iload 8, 2) := by decide +kernel
theorem dX10_auction_223 : decode cX10_auction 223 = .ok (.iaload, 1) := by decide +kernel
theorem dX10_auction_224 : decode cX10_auction 224 = .ok (.iaload, 1) := by decide +kernel
theorem dX10_auction_225 : decode cX10_auction 225 = .ok (.iload 7, 2) := by decide +kernel
theorem dX10_auction_227 : decode cX10_auction 227 = .ok (.if_icmp .ne 44, 3) := by decide +kernel
theorem dX10_auction_230 : decode cX10_auction 230 = .ok (.aload_n 0, 1) := by decide +kernel
theorem dX10_auction_231 : decode cX10_auction 231 = .ok (.getfield 78, 3) := by decide +kernel
theorem dX10_auction_234 : decode cX10_auction 234 = .ok (.aload_n 0, 1) := by decide +kernel
theorem dX10_auction_235 : decode cX10_auction 235 = .ok (.getfield 75, 3) := by decide +kernel
theorem dX10_auction_238 : decode cX10_auction 238 = .ok (.iload 8, 2) := by decide +kernel
theorem dX10_auction_240 : decode cX10_auction 240 = .ok (.iaload, 1) := by decide +kernel
theorem dX10_auction_241 : decode cX10_auction 241 = .ok (.iaload, 1) := by decide +kernel
theorem dX10_auction_242 : decode cX10_auction 242 = .ok (.iload 5, 2) := by decide +kernel
theorem dX10_auction_244 : decode cX10_auction 244 = .ok (.if_icmp .ne 27, 3) := by decide +kernel
theorem dX10_auction_247 : decode cX10_auction 247 = .ok (.iload 4, 2) := by decide +kernel
theorem dX10_auction_249 : decode cX10_auction 249 = .ok (.aload_n 0, 1) := by decide +kernel
theorem dX10_auction_250 : decode cX10_auction 250 = .ok (.aload_n 0, 1) := by decide +kernel
theorem dX10_auction_251 : decode cX10_auction 251 = .ok (.getfield 75, 3) := by decide +kernel
theorem dX10_auction_254 : decode cX10_auction 254 = .ok (.iload 8, 2) := by decide +kernel
theorem dX10_auction_256 : decode cX10_auction 256 = .ok (.iaload, 1) := by decide +kernel
theorem dX10_auction_257 : decode cX10_auction 257 = .ok (.invokevirtual 195, 3) := by decide +kernel
theorem dX10_auction_260 : decode cX10_auction 260 = .ok (.ifCond .eq 7, 3) := by decide +kernel
theorem dX10_auction_263 : decode cX10_auction 263 = .ok (.iconst 1, 1) := by decide +kernel
theorem dX10_auction_264 : decode cX10_auction 264 = .ok (.goto 4, 3) := by decide +kernel
theorem dX10_auction_267 : decode cX10_auction 267 = .ok (.iconst 0, 1) := by decide +kernel
theorem dX10_auction_268 : decode cX10_auction 268 = .ok (.iadd, 1) := by decide +kernel
theorem dX10_auction_269 : decode cX10_auction 269 = .ok (.istore 4, 2) := by decide +kernel
theorem dX10_auction_271 : decode cX10_auction 271 = .ok (.iinc 8 1, 3) := by decide +kernel
theorem dX10_auction_274 : decode cX10_auction 274 = .ok (.goto (-67), 3) := by decide +kernel
theorem dX10_auction_277 : decode cX10_auction 277 = .ok (.iinc 6 1, 3) := by decide +kernel
theorem dX10_auction_280 : decode cX10_auction 280 = .ok (.goto (-95), 3) := by decide +kernel
theorem dX10_auction_283 : decode cX10_auction 283 = .ok (.iinc 5 1, 3) := by decide +kernel
theorem dX10_auction_286 : decode cX10_auction 286 = .ok (.goto (-110), 3) := by decide +kernel
theorem dX10_auction_289 : decode cX10_auction 289 = .ok (.iload 4, 2) := by decide +kernel
theorem dX10_auction_291 : decode cX10_auction 291 = .ok (.ireturn, 1) := by decide +kernel
theorem dX10_bids_0 : decode cX10_bids 0 = .ok (.iload_n 1, 1) := by decide +kernel
theorem dX10_bids_1 : decode cX10_bids 1 = .ok (.aload_n 0, 1) := by decide +kernel
theorem dX10_bids_2 : decode cX10_bids 2 = .ok (.getfield 36, 3) := by decide +kernel
theorem dX10_bids_5 : decode cX10_bids 5 = .ok (.iload_n 2, 1) := by decide +kernel
theorem dX10_bids_6 : decode cX10_bids 6 = .ok (.iaload, 1) := by decide +kernel
theorem dX10_bids_7 : decode cX10_bids 7 = .ok (.aload_n 0, 1) := by decide +kernel
theorem dX10_bids_8 : decode cX10_bids 8 = .ok (.getfield 30, 3) := by decide +kernel
theorem dX10_bids_11 : decode cX10_bids 11 = .ok (.iload_n 2, 1) := by decide +kernel
theorem dX10_bids_12 : decode cX10_bids 12 = .ok (.iaload, 1) := by decide +kernel
theorem dX10_bids_13 : decode cX10_bids 13 = .ok (.invokestatic 188, 3) := by decide +kernel
theorem dX10_bids_16 : decode cX10_bids 16 = .ok (.istore_n 3, 1) := by decide +kernel
theorem dX10_bids_17 : decode cX10_bids 17 = .ok (.aload_n 0, 1) := by decide +kernel
theorem dX10_bids_18 : decode cX10_bids 18 = .ok (.getfield 51, 3) := by decide +kernel
theorem dX10_bids_21 : decode cX10_bids 21 = .ok (.iload_n 3, 1) := by decide +kernel
theorem dX10_bids_22 : decode cX10_bids 22 = .ok (.iaload, 1) := by decide +kernel
theorem dX10_bids_23 : decode cX10_bids 23 = .ok (.aload_n 0, 1) := by decide +kernel
theorem dX10_bids_24 : decode cX10_bids 24 = .ok (.getfield 33, 3) := by decide +kernel
theorem dX10_bids_27 : decode cX10_bids 27 = .ok (.iload_n 2, 1) := by decide +kernel
theorem dX10_bids_28 : decode cX10_bids 28 = .ok (.iaload, 1) := by decide +kernel
theorem dX10_bids_29 : decode cX10_bids 29 = .ok (.if_icmp .lt 65, 3) := by decide +kernel
theorem dX10_bids_32 : decode cX10_bids 32 = .ok (.aload_n 0, 1) := by decide +kernel
theorem dX10_bids_33 : decode cX10_bids 33 = .ok (.getfield 54, 3) := by decide +kernel
theorem dX10_bids_36 : decode cX10_bids 36 = .ok (.iload_n 3, 1) := by decide +kernel
theorem dX10_bids_37 : decode cX10_bids 37 = .ok (.iaload, 1) := by decide +kernel
theorem dX10_bids_38 : decode cX10_bids 38 = .ok (.iconst 1, 1) := by decide +kernel
theorem dX10_bids_39 : decode cX10_bids 39 = .ok (.if_icmp .lt 55, 3) := by decide +kernel
theorem dX10_bids_42 : decode cX10_bids 42 = .ok (.aload_n 0, 1) := by decide +kernel
theorem dX10_bids_43 : decode cX10_bids 43 = .ok (.getfield 54, 3) := by decide +kernel
theorem dX10_bids_46 : decode cX10_bids 46 = .ok (.iload_n 3, 1) := by decide +kernel
theorem dX10_bids_47 : decode cX10_bids 47 = .ok (.iaload, 1) := by decide +kernel
theorem dX10_bids_48 : decode cX10_bids 48 = .ok (.aload_n 0, 1) := by decide +kernel
theorem dX10_bids_49 : decode cX10_bids 49 = .ok (.getfield 13, 3) := by decide +kernel
theorem dX10_bids_52 : decode cX10_bids 52 = .ok (.iconst 0, 1) := by decide +kernel
theorem dX10_bids_53 : decode cX10_bids 53 = .ok (.aload_n 0, 1) := by decide +kernel
theorem dX10_bids_54 : decode cX10_bids 54 = .ok (.getfield 30, 3) := by decide +kernel
theorem dX10_bids_57 : decode cX10_bids 57 = .ok (.iload_n 2, 1) := by decide +kernel
theorem dX10_bids_58 : decode cX10_bids 58 = .ok (.iaload, 1) := by decide +kernel
theorem dX10_bids_59 : decode cX10_bids 59 = .ok (.iadd, 1) := by decide +kernel
theorem dX10_bids_60 : decode cX10_bids 60 = .ok (.iaload, 1) := by decide +kernel
theorem dX10_bids_61 : decode cX10_bids 61 = .ok (.if_icmp .lt 33, 3) := by decide +kernel
theorem dX10_bids_64 : decode cX10_bids 64 = .ok (.aload_n 0, 1) := by decide +kernel
theorem dX10_bids_65 : decode cX10_bids 65 = .ok (.getfield 54, 3) := by decide +kernel
theorem dX10_bids_68 : decode cX10_bids 68 = .ok (.iload_n 3, 1) := by decide +kernel
theorem dX10_bids_69 : decode cX10_bids 69 = .ok (.iaload, 1) := by decide +kernel
theorem dX10_bids_70 : decode cX10_bids 70 = .ok (.i2l, 1) := by decide +kernel
theorem dX10_bids_71 : decode cX10_bids 71 = .ok (.aload_n 0, 1) := by decide +kernel
theorem dX10_bids_72 : decode cX10_bids 72 = .ok (.getfield 33, 3) := by decide +kernel
theorem dX10_bids_75 : decode cX10_bids 75 = .ok (.iload_n 2, 1) := by decide +kernel
theorem dX10_bids_76 : decode cX10_bids 76 = .ok (.iaload, 1) := by decide +kernel
theorem dX10_bids_77 : decode cX10_bids 77 = .ok (.i2l, 1) := by decide +kernel
theorem dX10_bids_78 : decode cX10_bids 78 = .ok (.lmul, 1) := by decide +kernel
theorem dX10_bids_79 : decode cX10_bids 79 = .ok (.aload_n 0, 1) := by decide +kernel
theorem dX10_bids_80 : decode cX10_bids 80 = .ok (.getfield 48, 3) := by decide +kernel
theorem dX10_bids_83 : decode cX10_bids 83 = .ok (.iload_n 1, 1) := by decide +kernel
theorem dX10_bids_84 : decode cX10_bids 84 = .ok (.iaload, 1) := by decide +kernel
theorem dX10_bids_85 : decode cX10_bids 85 = .ok (.i2l, 1) := by decide +kernel
theorem dX10_bids_86 : decode cX10_bids 86 = .ok (.lcmp, 1) := by decide +kernel
theorem dX10_bids_87 : decode cX10_bids 87 = .ok (.ifCond .gt 7, 3) := by decide +kernel
theorem dX10_bids_90 : decode cX10_bids 90 = .ok (.iconst 1, 1) := by decide +kernel
theorem dX10_bids_91 : decode cX10_bids 91 = .ok (.goto 4, 3) := by decide +kernel
theorem dX10_bids_94 : decode cX10_bids 94 = .ok (.iconst 0, 1) := by decide +kernel
theorem dX10_bids_95 : decode cX10_bids 95 = .ok (.ireturn, 1) := by decide +kernel
theorem dX10_offer_0 : decode cX10_offer 0 = .ok (.aload_n 0, 1) := by decide +kernel
theorem dX10_offer_1 : decode cX10_offer 1 = .ok (.getfield 198, 3) := by decide +kernel
theorem dX10_offer_4 : decode cX10_offer 4 = .ok (.sipush 400, 3) := by decide +kernel
theorem dX10_offer_7 : decode cX10_offer 7 = .ok (.if_icmp .ne 5, 3) := by decide +kernel
theorem dX10_offer_10 : decode cX10_offer 10 = .ok (.iconst 0, 1) := by decide +kernel
theorem dX10_offer_11 : decode cX10_offer 11 = .ok (.ireturn, 1) := by decide +kernel
theorem dX10_offer_12 : decode cX10_offer 12 = .ok (.iconst (-1), 1) := by decide +kernel
theorem dX10_offer_13 : decode cX10_offer 13 = .ok (.istore_n 2, 1) := by decide +kernel
theorem dX10_offer_14 : decode cX10_offer 14 = .ok (.iconst 0, 1) := by decide +kernel
theorem dX10_offer_15 : decode cX10_offer 15 = .ok (.istore_n 3, 1) := by decide +kernel
theorem dX10_offer_16 : decode cX10_offer 16 = .ok (.iconst 0, 1) := by decide +kernel
theorem dX10_offer_17 : decode cX10_offer 17 = .ok (.istore 4, 2) := by decide +kernel
theorem dX10_offer_19 : decode cX10_offer 19 = .ok (.iload 4, 2) := by decide +kernel
theorem dX10_offer_21 : decode cX10_offer 21 = .ok (.bipush 10, 2) := by decide +kernel
theorem dX10_offer_23 : decode cX10_offer 23 = .ok (.if_icmp .ge 123, 3) := by decide +kernel
theorem dX10_offer_26 : decode cX10_offer 26 = .ok (.aload_n 0, 1) := by decide +kernel
theorem dX10_offer_27 : decode cX10_offer 27 = .ok (.iload 4, 2) := by decide +kernel
theorem dX10_offer_29 : decode cX10_offer 29 = .ok (.iload_n 1, 1) := by decide +kernel
theorem dX10_offer_30 : decode cX10_offer 30 = .ok (.invokevirtual 201, 3) := by decide +kernel
theorem dX10_offer_33 : decode cX10_offer 33 = .ok (.ifCond .ne 6, 3) := by decide +kernel
theorem dX10_offer_36 : decode cX10_offer 36 = .ok (.goto 104, 3) := by decide +kernel
theorem dX10_offer_39 : decode cX10_offer 39 = .ok (.aload_n 0, 1) := by decide +kernel
theorem dX10_offer_40 : decode cX10_offer 40 = .ok (.getfield 54, 3) := by decide +kernel
theorem dX10_offer_43 : decode cX10_offer 43 = .ok (.iload 4, 2) := by decide +kernel
theorem dX10_offer_45 : decode cX10_offer 45 = .ok (.aload_n 0, 1) := by decide +kernel
theorem dX10_offer_46 : decode cX10_offer 46 = .ok (.getfield 36, 3) := by decide +kernel
theorem dX10_offer_49 : decode cX10_offer 49 = .ok (.iload_n 1, 1) := by decide +kernel
theorem dX10_offer_50 : decode cX10_offer 50 = .ok (.iaload, 1) := by decide +kernel
theorem dX10_offer_51 : decode cX10_offer 51 = .ok (.aload_n 0, 1) := by decide +kernel
theorem dX10_offer_52 : decode cX10_offer 52 = .ok (.getfield 30, 3) := by decide +kernel
theorem dX10_offer_55 : decode cX10_offer 55 = .ok (.iload_n 1, 1) := by decide +kernel
theorem dX10_offer_56 : decode cX10_offer 56 = .ok (.iaload, 1) := by decide +kernel
theorem dX10_offer_57 : decode cX10_offer 57 = .ok (.invokestatic 188, 3) := by decide +kernel
theorem dX10_offer_60 : decode cX10_offer 60 = .ok (.iaload, 1) := by decide +kernel
theorem dX10_offer_61 : decode cX10_offer 61 = .ok (.istore 5, 2) := by decide +kernel
theorem dX10_offer_63 : decode cX10_offer 63 = .ok (.iload_n 2, 1) := by decide +kernel
theorem dX10_offer_64 : decode cX10_offer 64 = .ok (.ifCond .ge 9, 3) := by decide +kernel
theorem dX10_offer_67 : decode cX10_offer 67 = .ok (.iload 4, 2) := by decide +kernel
theorem dX10_offer_69 : decode cX10_offer 69 = .ok (.istore_n 2, 1) := by decide +kernel
theorem dX10_offer_70 : decode cX10_offer 70 = .ok (.goto 70, 3) := by decide +kernel
theorem dX10_offer_73 : decode cX10_offer 73 = .ok (.iload 5, 2) := by decide +kernel
theorem dX10_offer_75 : decode cX10_offer 75 = .ok (.aload_n 0, 1) := by decide +kernel
theorem dX10_offer_76 : decode cX10_offer 76 = .ok (.getfield 54, 3) := by decide +kernel
theorem dX10_offer_79 : decode cX10_offer 79 = .ok (.iload_n 2, 1) := by decide +kernel
theorem dX10_offer_80 : decode cX10_offer 80 = .ok (.aload_n 0, 1) := by decide +kernel
theorem dX10_offer_81 : decode cX10_offer 81 = .ok (.getfield 36, 3) := by decide +kernel
theorem dX10_offer_84 : decode cX10_offer 84 = .ok (.iload_n 1, 1) := by decide +kernel
theorem dX10_offer_85 : decode cX10_offer 85 = .ok (.iaload, 1) := by decide +kernel
theorem dX10_offer_86 : decode cX10_offer 86 = .ok (.aload_n 0, 1) := by decide +kernel
theorem dX10_offer_87 : decode cX10_offer 87 = .ok (.getfield 30, 3) := by decide +kernel
theorem dX10_offer_90 : decode cX10_offer 90 = .ok (.iload_n 1, 1) := by decide +kernel
theorem dX10_offer_91 : decode cX10_offer 91 = .ok (.iaload, 1) := by decide +kernel
theorem dX10_offer_92 : decode cX10_offer 92 = .ok (.invokestatic 188, 3) := by decide +kernel
theorem dX10_offer_95 : decode cX10_offer 95 = .ok (.iaload, 1) := by decide +kernel
theorem dX10_offer_96 : decode cX10_offer 96 = .ok (.if_icmp .le 31, 3) := by decide +kernel
theorem dX10_offer_99 : decode cX10_offer 99 = .ok (.aload_n 0, 1) := by decide +kernel
theorem dX10_offer_100 : decode cX10_offer 100 = .ok (.getfield 54, 3) := by decide +kernel
theorem dX10_offer_103 : decode cX10_offer 103 = .ok (.iload_n 2, 1) := by decide +kernel
theorem dX10_offer_104 : decode cX10_offer 104 = .ok (.aload_n 0, 1) := by decide +kernel
theorem dX10_offer_105 : decode cX10_offer 105 = .ok (.getfield 36, 3) := by decide +kernel
theorem dX10_offer_108 : decode cX10_offer 108 = .ok (.iload_n 1, 1) := by decide +kernel
theorem dX10_offer_109 : decode cX10_offer 109 = .ok (.iaload, 1) := by decide +kernel
theorem dX10_offer_110 : decode cX10_offer 110 = .ok (.aload_n 0, 1) := by decide +kernel
theorem dX10_offer_111 : decode cX10_offer 111 = .ok (.getfield 30, 3) := by decide +kernel
theorem dX10_offer_114 : decode cX10_offer 114 = .ok (.iload_n 1, 1) := by decide +kernel
theorem dX10_offer_115 : decode cX10_offer 115 = .ok (.iaload, 1) := by decide +kernel
theorem dX10_offer_116 : decode cX10_offer 116 = .ok (.invokestatic 188, 3) := by decide +kernel
theorem dX10_offer_119 : decode cX10_offer 119 = .ok (.iaload, 1) := by decide +kernel
theorem dX10_offer_120 : decode cX10_offer 120 = .ok (.istore_n 3, 1) := by decide +kernel
theorem dX10_offer_121 : decode cX10_offer 121 = .ok (.iload 4, 2) := by decide +kernel
theorem dX10_offer_123 : decode cX10_offer 123 = .ok (.istore_n 2, 1) := by decide +kernel
theorem dX10_offer_124 : decode cX10_offer 124 = .ok (.goto 16, 3) := by decide +kernel
theorem dX10_offer_127 : decode cX10_offer 127 = .ok (.iload 5, 2) := by decide +kernel
theorem dX10_offer_129 : decode cX10_offer 129 = .ok (.iload_n 3, 1) := by decide +kernel
theorem dX10_offer_130 : decode cX10_offer 130 = .ok (.if_icmp .le 8, 3) := by decide +kernel
theorem dX10_offer_133 : decode cX10_offer 133 = .ok (.iload 5, 2) := by decide +kernel
theorem dX10_offer_135 : decode cX10_offer 135 = .ok (.goto 4, 3) := by decide +kernel
theorem dX10_offer_138 : decode cX10_offer 138 = .ok (.iload_n 3, 1) := by decide +kernel
theorem dX10_offer_139 : decode cX10_offer 139 = .ok (.istore_n 3, 1) := by decide +kernel
theorem dX10_offer_140 : decode cX10_offer 140 = .ok (.iinc 4 1, 3) := by decide +kernel
theorem dX10_offer_143 : decode cX10_offer 143 = .ok (.goto (-124), 3) := by decide +kernel
theorem dX10_offer_146 : decode cX10_offer 146 = .ok (.iload_n 2, 1) := by decide +kernel
theorem dX10_offer_147 : decode cX10_offer 147 = .ok (.ifCond .ge 5, 3) := by decide +kernel
theorem dX10_offer_150 : decode cX10_offer 150 = .ok (.iconst 0, 1) := by decide +kernel
theorem dX10_offer_151 : decode cX10_offer 151 = .ok (.ireturn, 1) := by decide +kernel
theorem dX10_offer_152 : decode cX10_offer 152 = .ok (.aload_n 0, 1) := by decide +kernel
theorem dX10_offer_153 : decode cX10_offer 153 = .ok (.getfield 13, 3) := by decide +kernel
theorem dX10_offer_156 : decode cX10_offer 156 = .ok (.iconst 0, 1) := by decide +kernel
theorem dX10_offer_157 : decode cX10_offer 157 = .ok (.aload_n 0, 1) := by decide +kernel
theorem dX10_offer_158 : decode cX10_offer 158 = .ok (.getfield 30, 3) := by decide +kernel
theorem dX10_offer_161 : decode cX10_offer 161 = .ok (.iload_n 1, 1) := by decide +kernel
theorem dX10_offer_162 : decode cX10_offer 162 = .ok (.iaload, 1) := by decide +kernel
theorem dX10_offer_163 : decode cX10_offer 163 = .ok (.iadd, 1) := by decide +kernel
theorem dX10_offer_164 : decode cX10_offer 164 = .ok (.iaload, 1) := by decide +kernel
theorem dX10_offer_165 : decode cX10_offer 165 = .ok (.iload_n 3, 1) := by decide +kernel
theorem dX10_offer_166 : decode cX10_offer 166 = .ok (.if_icmp .le 19, 3) := by decide +kernel
theorem dX10_offer_169 : decode cX10_offer 169 = .ok (.aload_n 0, 1) := by decide +kernel
theorem dX10_offer_170 : decode cX10_offer 170 = .ok (.getfield 13, 3) := by decide +kernel
theorem dX10_offer_173 : decode cX10_offer 173 = .ok (.iconst 0, 1) := by decide +kernel
theorem dX10_offer_174 : decode cX10_offer 174 = .ok (.aload_n 0, 1) := by decide +kernel
theorem dX10_offer_175 : decode cX10_offer 175 = .ok (.getfield 30, 3) := by decide +kernel
theorem dX10_offer_178 : decode cX10_offer 178 = .ok (.iload_n 1, 1) := by decide +kernel
theorem dX10_offer_179 : decode cX10_offer 179 = .ok (.iaload, 1) := by decide +kernel
theorem dX10_offer_180 : decode cX10_offer 180 = .ok (.iadd, 1) := by decide +kernel
theorem dX10_offer_181 : decode cX10_offer 181 = .ok (.iaload, 1) := by decide +kernel
theorem dX10_offer_182 : decode cX10_offer 182 = .ok (.goto 4, 3) := by decide +kernel
theorem dX10_offer_185 : decode cX10_offer 185 = .ok (.iload_n 3, 1) := by decide +kernel
theorem dX10_offer_186 : decode cX10_offer 186 = .ok (.istore 4, 2) := by decide +kernel
theorem dX10_offer_188 : decode cX10_offer 188 = .ok (.iload 4, 2) := by decide +kernel
theorem dX10_offer_190 : decode cX10_offer 190 = .ok (.iconst 1, 1) := by decide +kernel
theorem dX10_offer_191 : decode cX10_offer 191 = .ok (.if_icmp .ge 7, 3) := by decide +kernel
theorem dX10_offer_194 : decode cX10_offer 194 = .ok (.iconst 1, 1) := by decide +kernel
theorem dX10_offer_195 : decode cX10_offer 195 = .ok (.goto 5, 3) := by decide +kernel
theorem dX10_offer_198 : decode cX10_offer 198 = .ok (.iload 4, 2) := by decide +kernel
theorem dX10_offer_200 : decode cX10_offer 200 = .ok (.istore 4, 2) := by decide +kernel
theorem dX10_offer_202 : decode cX10_offer 202 = .ok (.aload_n 0, 1) := by decide +kernel
theorem dX10_offer_203 : decode cX10_offer 203 = .ok (.getfield 57, 3) := by decide +kernel
theorem dX10_offer_206 : decode cX10_offer 206 = .ok (.aload_n 0, 1) := by decide +kernel
theorem dX10_offer_207 : decode cX10_offer 207 = .ok (.getfield 198, 3) := by decide +kernel
theorem dX10_offer_210 : decode cX10_offer 210 = .ok (.iload_n 1, 1) := by decide +kernel
theorem dX10_offer_211 : decode cX10_offer 211 = .ok (.iastore, 1) := by decide +kernel
theorem dX10_offer_212 : decode cX10_offer 212 = .ok (.aload_n 0, 1) := by decide +kernel
theorem dX10_offer_213 : decode cX10_offer 213 = .ok (.getfield 60, 3) := by decide +kernel
theorem dX10_offer_216 : decode cX10_offer 216 = .ok (.aload_n 0, 1) := by decide +kernel
theorem dX10_offer_217 : decode cX10_offer 217 = .ok (.getfield 198, 3) := by decide +kernel
theorem dX10_offer_220 : decode cX10_offer 220 = .ok (.iload_n 2, 1) := by decide +kernel
theorem dX10_offer_221 : decode cX10_offer 221 = .ok (.iastore, 1) := by decide +kernel
theorem dX10_offer_222 : decode cX10_offer 222 = .ok (.aload_n 0, 1) := by decide +kernel
theorem dX10_offer_223 : decode cX10_offer 223 = .ok (.getfield 63, 3) := by decide +kernel
theorem dX10_offer_226 : decode cX10_offer 226 = .ok (.aload_n 0, 1) := by decide +kernel
theorem dX10_offer_227 : decode cX10_offer 227 = .ok (.getfield 198, 3) := by decide +kernel
theorem dX10_offer_230 : decode cX10_offer 230 = .ok (.aload_n 0, 1) := by decide +kernel
theorem dX10_offer_231 : decode cX10_offer 231 = .ok (.getfield 192, 3) := by decide +kernel
theorem dX10_offer_234 : decode cX10_offer 234 = .ok (.iastore, 1) := by decide +kernel
theorem dX10_offer_235 : decode cX10_offer 235 = .ok (.aload_n 0, 1) := by decide +kernel
theorem dX10_offer_236 : decode cX10_offer 236 = .ok (.getfield 66, 3) := by decide +kernel
theorem dX10_offer_239 : decode cX10_offer 239 = .ok (.aload_n 0, 1) := by decide +kernel
theorem dX10_offer_240 : decode cX10_offer 240 = .ok (.getfield 198, 3) := by decide +kernel
theorem dX10_offer_243 : decode cX10_offer 243 = .ok (.aload_n 0, 1) := by decide +kernel
theorem dX10_offer_244 : decode cX10_offer 244 = .ok (.getfield 33, 3) := by decide +kernel
theorem dX10_offer_247 : decode cX10_offer 247 = .ok (.iload_n 1, 1) := by decide +kernel
theorem dX10_offer_248 : decode cX10_offer 248 = .ok (.iaload, 1) := by decide +kernel
theorem dX10_offer_249 : decode cX10_offer 249 = .ok (.iastore, 1) := by decide +kernel
theorem dX10_offer_250 : decode cX10_offer 250 = .ok (.aload_n 0, 1) := by decide +kernel
theorem dX10_offer_251 : decode cX10_offer 251 = .ok (.getfield 69, 3) := by decide +kernel
theorem dX10_offer_254 : decode cX10_offer 254 = .ok (.aload_n 0, 1) := by decide +kernel
theorem dX10_offer_255 : decode cX10_offer 255 = .ok (.getfield 198, 3) := by decide +kernel
theorem dX10_offer_258 : decode cX10_offer 258 = .ok (.iload 4, 2) := by decide +kernel
theorem dX10_offer_260 : decode cX10_offer 260 = .ok (.iastore, 1) := by decide +kernel
theorem dX10_offer_261 : decode cX10_offer 261 = .ok (.aload_n 0, 1) := by decide +kernel
theorem dX10_offer_262 : decode cX10_offer 262 = .ok (.getfield 72, 3) := by decide +kernel
theorem dX10_offer_265 : decode cX10_offer 265 = .ok (.aload_n 0, 1) := by decide +kernel
theorem dX10_offer_266 : decode cX10_offer 266 = .ok (.getfield 198, 3) := by decide +kernel
theorem dX10_offer_269 : decode cX10_offer 269 = .ok (.iconst (-1), 1) := by decide +kernel
theorem dX10_offer_270 : decode cX10_offer 270 = .ok (.iastore, 1) := by decide +kernel
theorem dX10_offer_271 : decode cX10_offer 271 = .ok (.aload_n 0, 1) := by decide +kernel
theorem dX10_offer_272 : decode cX10_offer 272 = .ok (.getfield 51, 3) := by decide +kernel
theorem dX10_offer_275 : decode cX10_offer 275 = .ok (.iload_n 2, 1) := by decide +kernel
theorem dX10_offer_276 : decode cX10_offer 276 = .ok (.aload_n 0, 1) := by decide +kernel
theorem dX10_offer_277 : decode cX10_offer 277 = .ok (.getfield 36, 3) := by decide +kernel
theorem dX10_offer_280 : decode cX10_offer 280 = .ok (.iload_n 1, 1) := by decide +kernel
theorem dX10_offer_281 : decode cX10_offer 281 = .ok (.iaload, 1) := by decide +kernel
theorem dX10_offer_282 : decode cX10_offer 282 = .ok (.aload_n 0, 1) := by decide +kernel
theorem dX10_offer_283 : decode cX10_offer 283 = .ok (.getfield 30, 3) := by decide +kernel
theorem dX10_offer_286 : decode cX10_offer 286 = .ok (.iload_n 1, 1) := by decide +kernel
theorem dX10_offer_287 : decode cX10_offer 287 = .ok (.iaload, 1) := by decide +kernel
theorem dX10_offer_288 : decode cX10_offer 288 = .ok (.invokestatic 188, 3) := by decide +kernel
theorem dX10_offer_291 : decode cX10_offer 291 = .ok (.dup2, 1) := by decide +kernel
theorem dX10_offer_292 : decode cX10_offer 292 = .ok (.iaload, 1) := by decide +kernel
theorem dX10_offer_293 : decode cX10_offer 293 = .ok (.aload_n 0, 1) := by decide +kernel
theorem dX10_offer_294 : decode cX10_offer 294 = .ok (.getfield 33, 3) := by decide +kernel
theorem dX10_offer_297 : decode cX10_offer 297 = .ok (.iload_n 1, 1) := by decide +kernel
theorem dX10_offer_298 : decode cX10_offer 298 = .ok (.iaload, 1) := by decide +kernel
theorem dX10_offer_299 : decode cX10_offer 299 = .ok (.isub, 1) := by decide +kernel
theorem dX10_offer_300 : decode cX10_offer 300 = .ok (.iastore, 1) := by decide +kernel
theorem dX10_offer_301 : decode cX10_offer 301 = .ok (.aload_n 0, 1) := by decide +kernel
theorem dX10_offer_302 : decode cX10_offer 302 = .ok (.getfield 48, 3) := by decide +kernel
theorem dX10_offer_305 : decode cX10_offer 305 = .ok (.iload_n 2, 1) := by decide +kernel
theorem dX10_offer_306 : decode cX10_offer 306 = .ok (.dup2, 1) := by decide +kernel
theorem dX10_offer_307 : decode cX10_offer 307 = .ok (.iaload, 1) := by decide +kernel
theorem dX10_offer_308 : decode cX10_offer 308 = .ok (.iload 4, 2) := by decide +kernel
theorem dX10_offer_310 : decode cX10_offer 310 = .ok (.aload_n 0, 1) := by decide +kernel
theorem dX10_offer_311 : decode cX10_offer 311 = .ok (.getfield 33, 3) := by decide +kernel
theorem dX10_offer_314 : decode cX10_offer 314 = .ok (.iload_n 1, 1) := by decide +kernel
theorem dX10_offer_315 : decode cX10_offer 315 = .ok (.iaload, 1) := by decide +kernel
theorem dX10_offer_316 : decode cX10_offer 316 = .ok (.imul, 1) := by decide +kernel
theorem dX10_offer_317 : decode cX10_offer 317 = .ok (.isub, 1) := by decide +kernel
theorem dX10_offer_318 : decode cX10_offer 318 = .ok (.iastore, 1) := by decide +kernel
theorem dX10_offer_319 : decode cX10_offer 319 = .ok (.aload_n 0, 1) := by decide +kernel
theorem dX10_offer_320 : decode cX10_offer 320 = .ok (.getfield 42, 3) := by decide +kernel
theorem dX10_offer_323 : decode cX10_offer 323 = .ok (.iload_n 1, 1) := by decide +kernel
theorem dX10_offer_324 : decode cX10_offer 324 = .ok (.iconst 1, 1) := by decide +kernel
theorem dX10_offer_325 : decode cX10_offer 325 = .ok (.bastore, 1) := by decide +kernel
theorem dX10_offer_326 : decode cX10_offer 326 = .ok (.aload_n 0, 1) := by decide +kernel
theorem dX10_offer_327 : decode cX10_offer 327 = .ok (.getfield 39, 3) := by decide +kernel
theorem dX10_offer_330 : decode cX10_offer 330 = .ok (.iload_n 1, 1) := by decide +kernel
theorem dX10_offer_331 : decode cX10_offer 331 = .ok (.aload_n 0, 1) := by decide +kernel
theorem dX10_offer_332 : decode cX10_offer 332 = .ok (.getfield 198, 3) := by decide +kernel
theorem dX10_offer_335 : decode cX10_offer 335 = .ok (.iastore, 1) := by decide +kernel
theorem dX10_offer_336 : decode cX10_offer 336 = .ok (.aload_n 0, 1) := by decide +kernel
theorem dX10_offer_337 : decode cX10_offer 337 = .ok (.dup, 1) := by decide +kernel
theorem dX10_offer_338 : decode cX10_offer 338 = .ok (.getfield 198, 3) := by decide +kernel
theorem dX10_offer_341 : decode cX10_offer 341 = .ok (.iconst 1, 1) := by decide +kernel
theorem dX10_offer_342 : decode cX10_offer 342 = .ok (.iadd, 1) := by decide +kernel
theorem dX10_offer_343 : decode cX10_offer 343 = .ok (.putfield 198, 3) := by decide +kernel
theorem dX10_offer_346 : decode cX10_offer 346 = .ok (.iconst 1, 1) := by decide +kernel
theorem dX10_offer_347 : decode cX10_offer 347 = .ok (.ireturn, 1) := by decide +kernel
theorem dX10_isSale_0 : decode cX10_isSale 0 = .ok (.iload_n 1, 1) := by decide +kernel
theorem dX10_isSale_1 : decode cX10_isSale 1 = .ok (.ifCond .lt 15, 3) := by decide +kernel
theorem dX10_isSale_4 : decode cX10_isSale 4 = .ok (.iload_n 1, 1) := by decide +kernel
theorem dX10_isSale_5 : decode cX10_isSale 5 = .ok (.aload_n 0, 1) := by decide +kernel
theorem dX10_isSale_6 : decode cX10_isSale 6 = .ok (.getfield 198, 3) := by decide +kernel
theorem dX10_isSale_9 : decode cX10_isSale 9 = .ok (.if_icmp .ge 7, 3) := by decide +kernel
theorem dX10_isSale_12 : decode cX10_isSale 12 = .ok (.iconst 1, 1) := by decide +kernel
theorem dX10_isSale_13 : decode cX10_isSale 13 = .ok (.goto 4, 3) := by decide +kernel
theorem dX10_isSale_16 : decode cX10_isSale 16 = .ok (.iconst 0, 1) := by decide +kernel
theorem dX10_isSale_17 : decode cX10_isSale 17 = .ok (.ireturn, 1) := by decide +kernel
theorem dX10_reject_0 : decode cX10_reject 0 = .ok (.aload_n 0, 1) := by decide +kernel
theorem dX10_reject_1 : decode cX10_reject 1 = .ok (.iconst 0, 1) := by decide +kernel
theorem dX10_reject_2 : decode cX10_reject 2 = .ok (.putfield 97, 3) := by decide +kernel
theorem dX10_reject_5 : decode cX10_reject 5 = .ok (.aload_n 0, 1) := by decide +kernel
theorem dX10_reject_6 : decode cX10_reject 6 = .ok (.iload_n 1, 1) := by decide +kernel
theorem dX10_reject_7 : decode cX10_reject 7 = .ok (.invokevirtual 204, 3) := by decide +kernel
theorem dX10_reject_10 : decode cX10_reject 10 = .ok (.ifCond .eq 28, 3) := by decide +kernel
theorem dX10_reject_13 : decode cX10_reject 13 = .ok (.aload_n 0, 1) := by decide +kernel
theorem dX10_reject_14 : decode cX10_reject 14 = .ok (.getfield 72, 3) := by decide +kernel
theorem dX10_reject_17 : decode cX10_reject 17 = .ok (.iload_n 1, 1) := by decide +kernel
theorem dX10_reject_18 : decode cX10_reject 18 = .ok (.iaload, 1) := by decide +kernel
theorem dX10_reject_19 : decode cX10_reject 19 = .ok (.iconst (-1), 1) := by decide +kernel
theorem dX10_reject_20 : decode cX10_reject 20 = .ok (.if_icmp .ne 18, 3) := by decide +kernel
theorem dX10_reject_23 : decode cX10_reject 23 = .ok (.aload_n 0, 1) := by decide +kernel
theorem dX10_reject_24 : decode cX10_reject 24 = .ok (.getfield 39, 3) := by decide +kernel
theorem dX10_reject_27 : decode cX10_reject 27 = .ok (.aload_n 0, 1) := by decide +kernel
theorem dX10_reject_28 : decode cX10_reject 28 = .ok (.getfield 57, 3) := by decide +kernel
theorem dX10_reject_31 : decode cX10_reject 31 = .ok (.iload_n 1, 1) := by decide +kernel
theorem dX10_reject_32 : decode cX10_reject 32 = .ok (.iaload, 1) := by decide +kernel
theorem dX10_reject_33 : decode cX10_reject 33 = .ok (.iaload, 1) := by decide +kernel
theorem dX10_reject_34 : decode cX10_reject 34 = .ok (.iload_n 1, 1) := by decide +kernel
theorem dX10_reject_35 : decode cX10_reject 35 = .ok (.if_icmp .eq 5, 3) := by decide +kernel
theorem dX10_reject_38 : decode cX10_reject 38 = .ok (.iconst 0, 1) := by decide +kernel
theorem dX10_reject_39 : decode cX10_reject 39 = .ok (.ireturn, 1) := by decide +kernel
theorem dX10_reject_40 : decode cX10_reject 40 = .ok (.aload_n 0, 1) := by decide +kernel
theorem dX10_reject_41 : decode cX10_reject 41 = .ok (.getfield 72, 3) := by decide +kernel
theorem dX10_reject_44 : decode cX10_reject 44 = .ok (.iload_n 1, 1) := by decide +kernel
theorem dX10_reject_45 : decode cX10_reject 45 = .ok (.aload_n 0, 1) := by decide +kernel
theorem dX10_reject_46 : decode cX10_reject 46 = .ok (.getfield 192, 3) := by decide +kernel
theorem dX10_reject_49 : decode cX10_reject 49 = .ok (.iastore, 1) := by decide +kernel
theorem dX10_reject_50 : decode cX10_reject 50 = .ok (.aload_n 0, 1) := by decide +kernel
theorem dX10_reject_51 : decode cX10_reject 51 = .ok (.getfield 42, 3) := by decide +kernel
theorem dX10_reject_54 : decode cX10_reject 54 = .ok (.aload_n 0, 1) := by decide +kernel
theorem dX10_reject_55 : decode cX10_reject 55 = .ok (.getfield 57, 3) := by decide +kernel
theorem dX10_reject_58 : decode cX10_reject 58 = .ok (.iload_n 1, 1) := by decide +kernel
theorem dX10_reject_59 : decode cX10_reject 59 = .ok (.iaload, 1) := by decide +kernel
theorem dX10_reject_60 : decode cX10_reject 60 = .ok (.iconst 0, 1) := by decide +kernel
theorem dX10_reject_61 : decode cX10_reject 61 = .ok (.bastore, 1) := by decide +kernel
theorem dX10_reject_62 : decode cX10_reject 62 = .ok (.iconst 1, 1) := by decide +kernel
theorem dX10_reject_63 : decode cX10_reject 63 = .ok (.ireturn, 1) := by decide +kernel
theorem dX10_next_0 : decode cX10_next 0 = .ok (.aload_n 0, 1) := by decide +kernel
theorem dX10_next_1 : decode cX10_next 1 = .ok (.iconst 0, 1) := by decide +kernel
theorem dX10_next_2 : decode cX10_next 2 = .ok (.putfield 97, 3) := by decide +kernel
theorem dX10_next_5 : decode cX10_next 5 = .ok (.aload_n 0, 1) := by decide +kernel
theorem dX10_next_6 : decode cX10_next 6 = .ok (.getfield 192, 3) := by decide +kernel
theorem dX10_next_9 : decode cX10_next 9 = .ok (.sipush 999, 3) := by decide +kernel
theorem dX10_next_12 : decode cX10_next 12 = .ok (.if_icmp .ne 5, 3) := by decide +kernel
theorem dX10_next_15 : decode cX10_next 15 = .ok (.iconst (-1), 1) := by decide +kernel
theorem dX10_next_16 : decode cX10_next 16 = .ok (.ireturn, 1) := by decide +kernel
theorem dX10_next_17 : decode cX10_next 17 = .ok (.iconst 0, 1) := by decide +kernel
theorem dX10_next_18 : decode cX10_next 18 = .ok (.istore_n 1, 1) := by decide +kernel
theorem dX10_next_19 : decode cX10_next 19 = .ok (.iload_n 1, 1) := by decide +kernel
theorem dX10_next_20 : decode cX10_next 20 = .ok (.aload_n 0, 1) := by decide +kernel
theorem dX10_next_21 : decode cX10_next 21 = .ok (.getfield 180, 3) := by decide +kernel
theorem dX10_next_24 : decode cX10_next 24 = .ok (.if_icmp .ge 44, 3) := by decide +kernel
theorem dX10_next_27 : decode cX10_next 27 = .ok (.aload_n 0, 1) := by decide +kernel
theorem dX10_next_28 : decode cX10_next 28 = .ok (.getfield 42, 3) := by decide +kernel
theorem dX10_next_31 : decode cX10_next 31 = .ok (.iload_n 1, 1) := by decide +kernel
theorem dX10_next_32 : decode cX10_next 32 = .ok (.baload, 1) := by decide +kernel
theorem dX10_next_33 : decode cX10_next 33 = .ok (.ifCond .ne 29, 3) := by decide +kernel
theorem dX10_next_36 : decode cX10_next 36 = .ok (.aload_n 0, 1) := by decide +kernel
theorem dX10_next_37 : decode cX10_next 37 = .ok (.getfield 33, 3) := by decide +kernel
theorem dX10_next_40 : decode cX10_next 40 = .ok (.iload_n 1, 1) := by decide +kernel
theorem dX10_next_41 : decode cX10_next 41 = .ok (.dup2, 1) := by decide +kernel
theorem dX10_next_42 : decode cX10_next 42 = .ok (.iaload, 1) := by decide +kernel
theorem dX10_next_43 : decode cX10_next 43 = .ok (.aload_n 0, 1) := by decide +kernel
theorem dX10_next_44 : decode cX10_next 44 = .ok (.getfield 33, 3) := by decide +kernel
theorem dX10_next_47 : decode cX10_next 47 = .ok (.iload_n 1, 1) := by decide +kernel
theorem dX10_next_48 : decode cX10_next 48 = .ok (.iaload, 1) := by decide +kernel
theorem dX10_next_49 : decode cX10_next 49 = .ok (.aload_n 0, 1) := by decide +kernel
theorem dX10_next_50 : decode cX10_next 50 = .ok (.getfield 13, 3) := by decide +kernel
theorem dX10_next_53 : decode cX10_next 53 = .ok (.bipush 8, 2) := by decide +kernel
theorem dX10_next_55 : decode cX10_next 55 = .ok (.iaload, 1) := by decide +kernel
theorem dX10_next_56 : decode cX10_next 56 = .ok (.imul, 1) := by decide +kernel
theorem dX10_next_57 : decode cX10_next 57 = .ok (.bipush 100, 2) := by decide +kernel
theorem dX10_next_59 : decode cX10_next 59 = .ok (.idiv, 1) := by decide +kernel
theorem dX10_next_60 : decode cX10_next 60 = .ok (.isub, 1) := by decide +kernel
theorem dX10_next_61 : decode cX10_next 61 = .ok (.iastore, 1) := by decide +kernel
theorem dX10_next_62 : decode cX10_next 62 = .ok (.iinc 1 1, 3) := by decide +kernel
theorem dX10_next_65 : decode cX10_next 65 = .ok (.goto (-46), 3) := by decide +kernel
theorem dX10_next_68 : decode cX10_next 68 = .ok (.iconst 0, 1) := by decide +kernel
theorem dX10_next_69 : decode cX10_next 69 = .ok (.istore_n 1, 1) := by decide +kernel
theorem dX10_next_70 : decode cX10_next 70 = .ok (.iload_n 1, 1) := by decide +kernel
theorem dX10_next_71 : decode cX10_next 71 = .ok (.bipush 10, 2) := by decide +kernel
theorem dX10_next_73 : decode cX10_next 73 = .ok (.if_icmp .ge 21, 3) := by decide +kernel
theorem dX10_next_76 : decode cX10_next 76 = .ok (.aload_n 0, 1) := by decide +kernel
theorem dX10_next_77 : decode cX10_next 77 = .ok (.getfield 48, 3) := by decide +kernel
theorem dX10_next_80 : decode cX10_next 80 = .ok (.iload_n 1, 1) := by decide +kernel
theorem dX10_next_81 : decode cX10_next 81 = .ok (.aload_n 0, 1) := by decide +kernel
theorem dX10_next_82 : decode cX10_next 82 = .ok (.getfield 45, 3) := by decide +kernel
theorem dX10_next_85 : decode cX10_next 85 = .ok (.iload_n 1, 1) := by decide +kernel
theorem dX10_next_86 : decode cX10_next 86 = .ok (.iaload, 1) := by decide +kernel
theorem dX10_next_87 : decode cX10_next 87 = .ok (.iastore, 1) := by decide +kernel
theorem dX10_next_88 : decode cX10_next 88 = .ok (.iinc 1 1, 3) := by decide +kernel
theorem dX10_next_91 : decode cX10_next 91 = .ok (.goto (-21), 3) := by decide +kernel
theorem dX10_next_94 : decode cX10_next 94 = .ok (.aload_n 0, 1) := by decide +kernel
theorem dX10_next_95 : decode cX10_next 95 = .ok (.dup, 1) := by decide +kernel
theorem dX10_next_96 : decode cX10_next 96 = .ok (.getfield 192, 3) := by decide +kernel
theorem dX10_next_99 : decode cX10_next 99 = .ok (.iconst 1, 1) := by decide +kernel
theorem dX10_next_100 : decode cX10_next 100 = .ok (.iadd, 1) := by decide +kernel
theorem dX10_next_101 : decode cX10_next 101 = .ok (.putfield 192, 3) := by decide +kernel
theorem dX10_next_104 : decode cX10_next 104 = .ok (.aload_n 0, 1) := by decide +kernel
theorem dX10_next_105 : decode cX10_next 105 = .ok (.getfield 192, 3) := by decide +kernel
theorem dX10_next_108 : decode cX10_next 108 = .ok (.ireturn, 1) := by decide +kernel
theorem dX10_about_0 : decode cX10_about 0 = .ok (.aload_n 0, 1) := by decide +kernel
theorem dX10_about_1 : decode cX10_about 1 = .ok (.iload_n 1, 1) := by decide +kernel
theorem dX10_about_2 : decode cX10_about 2 = .ok (.ifCond .lt 21, 3) := by decide +kernel
theorem dX10_about_5 : decode cX10_about 5 = .ok (.iload_n 1, 1) := by decide +kernel
theorem dX10_about_6 : decode cX10_about 6 = .ok (.aload_n 0, 1) := by decide +kernel
theorem dX10_about_7 : decode cX10_about 7 = .ok (.getfield 180, 3) := by decide +kernel
theorem dX10_about_10 : decode cX10_about 10 = .ok (.if_icmp .ge 13, 3) := by decide +kernel
theorem dX10_about_13 : decode cX10_about 13 = .ok (.iload_n 2, 1) := by decide +kernel
theorem dX10_about_14 : decode cX10_about 14 = .ok (.ifCond .lt 9, 3) := by decide +kernel
theorem dX10_about_17 : decode cX10_about 17 = .ok (.iload_n 2, 1) := by decide +kernel
theorem dX10_about_18 : decode cX10_about 18 = .ok (.bipush 6, 2) := by decide +kernel
theorem dX10_about_20 : decode cX10_about 20 = .ok (.if_icmp .le 7, 3) := by decide +kernel
theorem dX10_about_23 : decode cX10_about 23 = .ok (.iconst 1, 1) := by decide +kernel
theorem dX10_about_24 : decode cX10_about 24 = .ok (.goto 4, 3) := by decide +kernel
theorem dX10_about_27 : decode cX10_about 27 = .ok (.iconst 0, 1) := by decide +kernel
theorem dX10_about_28 : decode cX10_about 28 = .ok (.invokevirtual 207, 3) := by decide +kernel
theorem dX10_about_31 : decode cX10_about 31 = .ok (.ifCond .eq 5, 3) := by decide +kernel
theorem dX10_about_34 : decode cX10_about 34 = .ok (.iconst 0, 1) := by decide +kernel
theorem dX10_about_35 : decode cX10_about 35 = .ok (.ireturn, 1) := by decide +kernel
theorem dX10_about_36 : decode cX10_about 36 = .ok (.iload_n 2, 1) := by decide +kernel
theorem dX10_about_37 : decode cX10_about 37 = .ok (.tableswitch 89 0 5 #[39, 46, 53, 60, 67, 74], 39) := by decide +kernel
theorem dX10_about_76 : decode cX10_about 76 = .ok (.aload_n 0, 1) := by decide +kernel
theorem dX10_about_77 : decode cX10_about 77 = .ok (.getfield 24, 3) := by decide +kernel
theorem dX10_about_80 : decode cX10_about 80 = .ok (.iload_n 1, 1) := by decide +kernel
theorem dX10_about_81 : decode cX10_about 81 = .ok (.iaload, 1) := by decide +kernel
theorem dX10_about_82 : decode cX10_about 82 = .ok (.ireturn, 1) := by decide +kernel
theorem dX10_about_83 : decode cX10_about 83 = .ok (.aload_n 0, 1) := by decide +kernel
theorem dX10_about_84 : decode cX10_about 84 = .ok (.getfield 27, 3) := by decide +kernel
theorem dX10_about_87 : decode cX10_about 87 = .ok (.iload_n 1, 1) := by decide +kernel
theorem dX10_about_88 : decode cX10_about 88 = .ok (.iaload, 1) := by decide +kernel
theorem dX10_about_89 : decode cX10_about 89 = .ok (.ireturn, 1) := by decide +kernel
theorem dX10_about_90 : decode cX10_about 90 = .ok (.aload_n 0, 1) := by decide +kernel
theorem dX10_about_91 : decode cX10_about 91 = .ok (.getfield 30, 3) := by decide +kernel
theorem dX10_about_94 : decode cX10_about 94 = .ok (.iload_n 1, 1) := by decide +kernel
theorem dX10_about_95 : decode cX10_about 95 = .ok (.iaload, 1) := by decide +kernel
theorem dX10_about_96 : decode cX10_about 96 = .ok (.ireturn, 1) := by decide +kernel
theorem dX10_about_97 : decode cX10_about 97 = .ok (.aload_n 0, 1) := by decide +kernel
theorem dX10_about_98 : decode cX10_about 98 = .ok (.getfield 33, 3) := by decide +kernel
theorem dX10_about_101 : decode cX10_about 101 = .ok (.iload_n 1, 1) := by decide +kernel
theorem dX10_about_102 : decode cX10_about 102 = .ok (.iaload, 1) := by decide +kernel
theorem dX10_about_103 : decode cX10_about 103 = .ok (.ireturn, 1) := by decide +kernel
theorem dX10_about_104 : decode cX10_about 104 = .ok (.aload_n 0, 1) := by decide +kernel
theorem dX10_about_105 : decode cX10_about 105 = .ok (.getfield 36, 3) := by decide +kernel
theorem dX10_about_108 : decode cX10_about 108 = .ok (.iload_n 1, 1) := by decide +kernel
theorem dX10_about_109 : decode cX10_about 109 = .ok (.iaload, 1) := by decide +kernel
theorem dX10_about_110 : decode cX10_about 110 = .ok (.ireturn, 1) := by decide +kernel
theorem dX10_about_111 : decode cX10_about 111 = .ok (.aload_n 0, 1) := by decide +kernel
theorem dX10_about_112 : decode cX10_about 112 = .ok (.getfield 42, 3) := by decide +kernel
theorem dX10_about_115 : decode cX10_about 115 = .ok (.iload_n 1, 1) := by decide +kernel
theorem dX10_about_116 : decode cX10_about 116 = .ok (.baload, 1) := by decide +kernel
theorem dX10_about_117 : decode cX10_about 117 = .ok (.ifCond .eq 7, 3) := by decide +kernel
theorem dX10_about_120 : decode cX10_about 120 = .ok (.iconst 1, 1) := by decide +kernel
theorem dX10_about_121 : decode cX10_about 121 = .ok (.goto 4, 3) := by decide +kernel
theorem dX10_about_124 : decode cX10_about 124 = .ok (.iconst 0, 1) := by decide +kernel
theorem dX10_about_125 : decode cX10_about 125 = .ok (.ireturn, 1) := by decide +kernel
theorem dX10_about_126 : decode cX10_about 126 = .ok (.aload_n 0, 1) := by decide +kernel
theorem dX10_about_127 : decode cX10_about 127 = .ok (.getfield 39, 3) := by decide +kernel
theorem dX10_about_130 : decode cX10_about 130 = .ok (.iload_n 1, 1) := by decide +kernel
theorem dX10_about_131 : decode cX10_about 131 = .ok (.iaload, 1) := by decide +kernel
theorem dX10_about_132 : decode cX10_about 132 = .ok (.ireturn, 1) := by decide +kernel
theorem dX10_nextOf_0 : decode cX10_nextOf 0 = .ok (.iload_n 1, 1) := by decide +kernel
theorem dX10_nextOf_1 : decode cX10_nextOf 1 = .ok (.iconst 1, 1) := by decide +kernel
theorem dX10_nextOf_2 : decode cX10_nextOf 2 = .ok (.iadd, 1) := by decide +kernel
theorem dX10_nextOf_3 : decode cX10_nextOf 3 = .ok (.istore_n 2, 1) := by decide +kernel
theorem dX10_nextOf_4 : decode cX10_nextOf 4 = .ok (.iload_n 2, 1) := by decide +kernel
theorem dX10_nextOf_5 : decode cX10_nextOf 5 = .ok (.aload_n 0, 1) := by decide +kernel
theorem dX10_nextOf_6 : decode cX10_nextOf 6 = .ok (.getfield 198, 3) := by decide +kernel
theorem dX10_nextOf_9 : decode cX10_nextOf 9 = .ok (.if_icmp .ge 26, 3) := by decide +kernel
theorem dX10_nextOf_12 : decode cX10_nextOf 12 = .ok (.aload_n 0, 1) := by decide +kernel
theorem dX10_nextOf_13 : decode cX10_nextOf 13 = .ok (.getfield 57, 3) := by decide +kernel
theorem dX10_nextOf_16 : decode cX10_nextOf 16 = .ok (.iload_n 2, 1) := by decide +kernel
theorem dX10_nextOf_17 : decode cX10_nextOf 17 = .ok (.iaload, 1) := by decide +kernel
theorem dX10_nextOf_18 : decode cX10_nextOf 18 = .ok (.aload_n 0, 1) := by decide +kernel
theorem dX10_nextOf_19 : decode cX10_nextOf 19 = .ok (.getfield 57, 3) := by decide +kernel
theorem dX10_nextOf_22 : decode cX10_nextOf 22 = .ok (.iload_n 1, 1) := by decide +kernel
theorem dX10_nextOf_23 : decode cX10_nextOf 23 = .ok (.iaload, 1) := by decide +kernel
theorem dX10_nextOf_24 : decode cX10_nextOf 24 = .ok (.if_icmp .ne 5, 3) := by decide +kernel
theorem dX10_nextOf_27 : decode cX10_nextOf 27 = .ok (.iload_n 2, 1) := by decide +kernel
theorem dX10_nextOf_28 : decode cX10_nextOf 28 = .ok (.ireturn, 1) := by decide +kernel
theorem dX10_nextOf_29 : decode cX10_nextOf 29 = .ok (.iinc 2 1, 3) := by decide +kernel
theorem dX10_nextOf_32 : decode cX10_nextOf 32 = .ok (.goto (-28), 3) := by decide +kernel
theorem dX10_nextOf_35 : decode cX10_nextOf 35 = .ok (.iconst (-1), 1) := by decide +kernel
theorem dX10_nextOf_36 : decode cX10_nextOf 36 = .ok (.ireturn, 1) := by decide +kernel
theorem dX10_claimOf_0 : decode cX10_claimOf 0 = .ok (.aload_n 0, 1) := by decide +kernel
theorem dX10_claimOf_1 : decode cX10_claimOf 1 = .ok (.getfield 72, 3) := by decide +kernel
theorem dX10_claimOf_4 : decode cX10_claimOf 4 = .ok (.iload_n 1, 1) := by decide +kernel
theorem dX10_claimOf_5 : decode cX10_claimOf 5 = .ok (.iaload, 1) := by decide +kernel
theorem dX10_claimOf_6 : decode cX10_claimOf 6 = .ok (.iconst (-1), 1) := by decide +kernel
theorem dX10_claimOf_7 : decode cX10_claimOf 7 = .ok (.if_icmp .ne 7, 3) := by decide +kernel
theorem dX10_claimOf_10 : decode cX10_claimOf 10 = .ok (.iconst (-1), 1) := by decide +kernel
theorem dX10_claimOf_11 : decode cX10_claimOf 11 = .ok (.goto 8, 3) := by decide +kernel
theorem dX10_claimOf_14 : decode cX10_claimOf 14 = .ok (.aload_n 0, 1) := by decide +kernel
theorem dX10_claimOf_15 : decode cX10_claimOf 15 = .ok (.iload_n 1, 1) := by decide +kernel
theorem dX10_claimOf_16 : decode cX10_claimOf 16 = .ok (.invokevirtual 211, 3) := by decide +kernel
theorem dX10_claimOf_19 : decode cX10_claimOf 19 = .ok (.istore_n 2, 1) := by decide +kernel
theorem dX10_claimOf_20 : decode cX10_claimOf 20 = .ok (.iload_n 2, 1) := by decide +kernel
theorem dX10_claimOf_21 : decode cX10_claimOf 21 = .ok (.ifCond .lt 28, 3) := by decide +kernel
theorem dX10_claimOf_24 : decode cX10_claimOf 24 = .ok (.aload_n 0, 1) := by decide +kernel
theorem dX10_claimOf_25 : decode cX10_claimOf 25 = .ok (.getfield 13, 3) := by decide +kernel
theorem dX10_claimOf_28 : decode cX10_claimOf 28 = .ok (.bipush 9, 2) := by decide +kernel
theorem dX10_claimOf_30 : decode cX10_claimOf 30 = .ok (.iaload, 1) := by decide +kernel
theorem dX10_claimOf_31 : decode cX10_claimOf 31 = .ok (.ifCond .eq 18, 3) := by decide +kernel
theorem dX10_claimOf_34 : decode cX10_claimOf 34 = .ok (.aload_n 0, 1) := by decide +kernel
theorem dX10_claimOf_35 : decode cX10_claimOf 35 = .ok (.getfield 69, 3) := by decide +kernel
theorem dX10_claimOf_38 : decode cX10_claimOf 38 = .ok (.iload_n 2, 1) := by decide +kernel
theorem dX10_claimOf_39 : decode cX10_claimOf 39 = .ok (.iaload, 1) := by decide +kernel
theorem dX10_claimOf_40 : decode cX10_claimOf 40 = .ok (.aload_n 0, 1) := by decide +kernel
theorem dX10_claimOf_41 : decode cX10_claimOf 41 = .ok (.getfield 69, 3) := by decide +kernel
theorem dX10_claimOf_44 : decode cX10_claimOf 44 = .ok (.iload_n 1, 1) := by decide +kernel
theorem dX10_claimOf_45 : decode cX10_claimOf 45 = .ok (.iaload, 1) := by decide +kernel
theorem dX10_claimOf_46 : decode cX10_claimOf 46 = .ok (.if_icmp .lt 7, 3) := by decide +kernel
theorem dX10_claimOf_49 : decode cX10_claimOf 49 = .ok (.iconst 0, 1) := by decide +kernel
theorem dX10_claimOf_50 : decode cX10_claimOf 50 = .ok (.goto 23, 3) := by decide +kernel
theorem dX10_claimOf_53 : decode cX10_claimOf 53 = .ok (.aload_n 0, 1) := by decide +kernel
theorem dX10_claimOf_54 : decode cX10_claimOf 54 = .ok (.getfield 69, 3) := by decide +kernel
theorem dX10_claimOf_57 : decode cX10_claimOf 57 = .ok (.iload_n 1, 1) := by decide +kernel
theorem dX10_claimOf_58 : decode cX10_claimOf 58 = .ok (.iaload, 1) := by decide +kernel
theorem dX10_claimOf_59 : decode cX10_claimOf 59 = .ok (.aload_n 0, 1) := by decide +kernel
theorem dX10_claimOf_60 : decode cX10_claimOf 60 = .ok (.getfield 69, 3) := by decide +kernel
theorem dX10_claimOf_63 : decode cX10_claimOf 63 = .ok (.iload_n 2, 1) := by decide +kernel
theorem dX10_claimOf_64 : decode cX10_claimOf 64 = .ok (.iaload, 1) := by decide +kernel
theorem dX10_claimOf_65 : decode cX10_claimOf 65 = .ok (.isub, 1) := by decide +kernel
theorem dX10_claimOf_66 : decode cX10_claimOf 66 = .ok (.aload_n 0, 1) := by decide +kernel
theorem dX10_claimOf_67 : decode cX10_claimOf 67 = .ok (.getfield 66, 3) := by decide +kernel
theorem dX10_claimOf_70 : decode cX10_claimOf 70 = .ok (.iload_n 2, 1) := by decide +kernel
theorem dX10_claimOf_71 : decode cX10_claimOf 71 = .ok (.iaload, 1) := by decide +kernel
theorem dX10_claimOf_72 : decode cX10_claimOf 72 = .ok (.imul, 1) := by decide +kernel
theorem dX10_claimOf_73 : decode cX10_claimOf 73 = .ok (.ireturn, 1) := by decide +kernel
theorem dX10_sale_0 : decode cX10_sale 0 = .ok (.aload_n 0, 1) := by decide +kernel
theorem dX10_sale_1 : decode cX10_sale 1 = .ok (.aload_n 0, 1) := by decide +kernel
theorem dX10_sale_2 : decode cX10_sale 2 = .ok (.iload_n 1, 1) := by decide +kernel
theorem dX10_sale_3 : decode cX10_sale 3 = .ok (.invokevirtual 204, 3) := by decide +kernel
theorem dX10_sale_6 : decode cX10_sale 6 = .ok (.ifCond .eq 13, 3) := by decide +kernel
theorem dX10_sale_9 : decode cX10_sale 9 = .ok (.iload_n 2, 1) := by decide +kernel
theorem dX10_sale_10 : decode cX10_sale 10 = .ok (.ifCond .lt 9, 3) := by decide +kernel
theorem dX10_sale_13 : decode cX10_sale 13 = .ok (.iload_n 2, 1) := by decide +kernel
theorem dX10_sale_14 : decode cX10_sale 14 = .ok (.bipush 6, 2) := by decide +kernel
theorem dX10_sale_16 : decode cX10_sale 16 = .ok (.if_icmp .le 7, 3) := by decide +kernel
theorem dX10_sale_19 : decode cX10_sale 19 = .ok (.iconst 1, 1) := by decide +kernel
theorem dX10_sale_20 : decode cX10_sale 20 = .ok (.goto 4, 3) := by decide +kernel
theorem dX10_sale_23 : decode cX10_sale 23 = .ok (.iconst 0, 1) := by decide +kernel
theorem dX10_sale_24 : decode cX10_sale 24 = .ok (.invokevirtual 207, 3) := by decide +kernel
theorem dX10_sale_27 : decode cX10_sale 27 = .ok (.ifCond .eq 5, 3) := by decide +kernel
theorem dX10_sale_30 : decode cX10_sale 30 = .ok (.iconst 0, 1) := by decide +kernel
theorem dX10_sale_31 : decode cX10_sale 31 = .ok (.ireturn, 1) := by decide +kernel
theorem dX10_sale_32 : decode cX10_sale 32 = .ok (.iload_n 2, 1) := by decide +kernel
theorem dX10_sale_33 : decode cX10_sale 33 = .ok (.tableswitch 81 0 5 #[39, 46, 53, 60, 67, 74], 39) := by decide +kernel
theorem dX10_sale_72 : decode cX10_sale 72 = .ok (.aload_n 0, 1) := by decide +kernel
theorem dX10_sale_73 : decode cX10_sale 73 = .ok (.getfield 57, 3) := by decide +kernel
theorem dX10_sale_76 : decode cX10_sale 76 = .ok (.iload_n 1, 1) := by decide +kernel
theorem dX10_sale_77 : decode cX10_sale 77 = .ok (.iaload, 1) := by decide +kernel
theorem dX10_sale_78 : decode cX10_sale 78 = .ok (.ireturn, 1) := by decide +kernel
theorem dX10_sale_79 : decode cX10_sale 79 = .ok (.aload_n 0, 1) := by decide +kernel
theorem dX10_sale_80 : decode cX10_sale 80 = .ok (.getfield 60, 3) := by decide +kernel
theorem dX10_sale_83 : decode cX10_sale 83 = .ok (.iload_n 1, 1) := by decide +kernel
theorem dX10_sale_84 : decode cX10_sale 84 = .ok (.iaload, 1) := by decide +kernel
theorem dX10_sale_85 : decode cX10_sale 85 = .ok (.ireturn, 1) := by decide +kernel
theorem dX10_sale_86 : decode cX10_sale 86 = .ok (.aload_n 0, 1) := by decide +kernel
theorem dX10_sale_87 : decode cX10_sale 87 = .ok (.getfield 63, 3) := by decide +kernel
theorem dX10_sale_90 : decode cX10_sale 90 = .ok (.iload_n 1, 1) := by decide +kernel
theorem dX10_sale_91 : decode cX10_sale 91 = .ok (.iaload, 1) := by decide +kernel
theorem dX10_sale_92 : decode cX10_sale 92 = .ok (.ireturn, 1) := by decide +kernel
theorem dX10_sale_93 : decode cX10_sale 93 = .ok (.aload_n 0, 1) := by decide +kernel
theorem dX10_sale_94 : decode cX10_sale 94 = .ok (.getfield 66, 3) := by decide +kernel
theorem dX10_sale_97 : decode cX10_sale 97 = .ok (.iload_n 1, 1) := by decide +kernel
theorem dX10_sale_98 : decode cX10_sale 98 = .ok (.iaload, 1) := by decide +kernel
theorem dX10_sale_99 : decode cX10_sale 99 = .ok (.ireturn, 1) := by decide +kernel
theorem dX10_sale_100 : decode cX10_sale 100 = .ok (.aload_n 0, 1) := by decide +kernel
theorem dX10_sale_101 : decode cX10_sale 101 = .ok (.getfield 69, 3) := by decide +kernel
theorem dX10_sale_104 : decode cX10_sale 104 = .ok (.iload_n 1, 1) := by decide +kernel
theorem dX10_sale_105 : decode cX10_sale 105 = .ok (.iaload, 1) := by decide +kernel
theorem dX10_sale_106 : decode cX10_sale 106 = .ok (.ireturn, 1) := by decide +kernel
theorem dX10_sale_107 : decode cX10_sale 107 = .ok (.aload_n 0, 1) := by decide +kernel
theorem dX10_sale_108 : decode cX10_sale 108 = .ok (.getfield 72, 3) := by decide +kernel
theorem dX10_sale_111 : decode cX10_sale 111 = .ok (.iload_n 1, 1) := by decide +kernel
theorem dX10_sale_112 : decode cX10_sale 112 = .ok (.iaload, 1) := by decide +kernel
theorem dX10_sale_113 : decode cX10_sale 113 = .ok (.ireturn, 1) := by decide +kernel
theorem dX10_sale_114 : decode cX10_sale 114 = .ok (.aload_n 0, 1) := by decide +kernel
theorem dX10_sale_115 : decode cX10_sale 115 = .ok (.iload_n 1, 1) := by decide +kernel
theorem dX10_sale_116 : decode cX10_sale 116 = .ok (.invokevirtual 215, 3) := by decide +kernel
theorem dX10_sale_119 : decode cX10_sale 119 = .ok (.ireturn, 1) := by decide +kernel
theorem dX10_left_0 : decode cX10_left 0 = .ok (.aload_n 0, 1) := by decide +kernel
theorem dX10_left_1 : decode cX10_left 1 = .ok (.iconst 0, 1) := by decide +kernel
theorem dX10_left_2 : decode cX10_left 2 = .ok (.putfield 97, 3) := by decide +kernel
theorem dX10_left_5 : decode cX10_left 5 = .ok (.iload_n 1, 1) := by decide +kernel
theorem dX10_left_6 : decode cX10_left 6 = .ok (.iconst 0, 1) := by decide +kernel
theorem dX10_left_7 : decode cX10_left 7 = .ok (.bipush 9, 2) := by decide +kernel
theorem dX10_left_9 : decode cX10_left 9 = .ok (.invokestatic 183, 3) := by decide +kernel
theorem dX10_left_12 : decode cX10_left 12 = .ok (.ifCond .eq 12, 3) := by decide +kernel
theorem dX10_left_15 : decode cX10_left 15 = .ok (.aload_n 0, 1) := by decide +kernel
theorem dX10_left_16 : decode cX10_left 16 = .ok (.getfield 48, 3) := by decide +kernel
theorem dX10_left_19 : decode cX10_left 19 = .ok (.iload_n 1, 1) := by decide +kernel
theorem dX10_left_20 : decode cX10_left 20 = .ok (.iaload, 1) := by decide +kernel
theorem dX10_left_21 : decode cX10_left 21 = .ok (.goto 4, 3) := by decide +kernel
theorem dX10_left_24 : decode cX10_left 24 = .ok (.iconst (-1), 1) := by decide +kernel
theorem dX10_left_25 : decode cX10_left 25 = .ok (.ireturn, 1) := by decide +kernel
theorem dX10_wanted_0 : decode cX10_wanted 0 = .ok (.aload_n 0, 1) := by decide +kernel
theorem dX10_wanted_1 : decode cX10_wanted 1 = .ok (.iconst 0, 1) := by decide +kernel
theorem dX10_wanted_2 : decode cX10_wanted 2 = .ok (.putfield 97, 3) := by decide +kernel
theorem dX10_wanted_5 : decode cX10_wanted 5 = .ok (.iload_n 1, 1) := by decide +kernel
theorem dX10_wanted_6 : decode cX10_wanted 6 = .ok (.iconst 0, 1) := by decide +kernel
theorem dX10_wanted_7 : decode cX10_wanted 7 = .ok (.bipush 9, 2) := by decide +kernel
theorem dX10_wanted_9 : decode cX10_wanted 9 = .ok (.invokestatic 183, 3) := by decide +kernel
theorem dX10_wanted_12 : decode cX10_wanted 12 = .ok (.ifCond .eq 35, 3) := by decide +kernel
theorem dX10_wanted_15 : decode cX10_wanted 15 = .ok (.iload_n 2, 1) := by decide +kernel
theorem dX10_wanted_16 : decode cX10_wanted 16 = .ok (.iconst 0, 1) := by decide +kernel
theorem dX10_wanted_17 : decode cX10_wanted 17 = .ok (.iconst 3, 1) := by decide +kernel
theorem dX10_wanted_18 : decode cX10_wanted 18 = .ok (.invokestatic 183, 3) := by decide +kernel
theorem dX10_wanted_21 : decode cX10_wanted 21 = .ok (.ifCond .eq 26, 3) := by decide +kernel
theorem dX10_wanted_24 : decode cX10_wanted 24 = .ok (.iload_n 3, 1) := by decide +kernel
theorem dX10_wanted_25 : decode cX10_wanted 25 = .ok (.iconst 0, 1) := by decide +kernel
theorem dX10_wanted_26 : decode cX10_wanted 26 = .ok (.iconst 3, 1) := by decide +kernel
theorem dX10_wanted_27 : decode cX10_wanted 27 = .ok (.invokestatic 183, 3) := by decide +kernel
theorem dX10_wanted_30 : decode cX10_wanted 30 = .ok (.ifCond .eq 17, 3) := by decide +kernel
theorem dX10_wanted_33 : decode cX10_wanted 33 = .ok (.aload_n 0, 1) := by decide +kernel
theorem dX10_wanted_34 : decode cX10_wanted 34 = .ok (.getfield 51, 3) := by decide +kernel
theorem dX10_wanted_37 : decode cX10_wanted 37 = .ok (.iload_n 1, 1) := by decide +kernel
theorem dX10_wanted_38 : decode cX10_wanted 38 = .ok (.iload_n 2, 1) := by decide +kernel
theorem dX10_wanted_39 : decode cX10_wanted 39 = .ok (.iload_n 3, 1) := by decide +kernel
theorem dX10_wanted_40 : decode cX10_wanted 40 = .ok (.invokestatic 188, 3) := by decide +kernel
theorem dX10_wanted_43 : decode cX10_wanted 43 = .ok (.iaload, 1) := by decide +kernel
theorem dX10_wanted_44 : decode cX10_wanted 44 = .ok (.goto 4, 3) := by decide +kernel
theorem dX10_wanted_47 : decode cX10_wanted 47 = .ok (.iconst (-1), 1) := by decide +kernel
theorem dX10_wanted_48 : decode cX10_wanted 48 = .ok (.ireturn, 1) := by decide +kernel
theorem dX10_counts_0 : decode cX10_counts 0 = .ok (.aload_n 0, 1) := by decide +kernel
theorem dX10_counts_1 : decode cX10_counts 1 = .ok (.getfield 63, 3) := by decide +kernel
theorem dX10_counts_4 : decode cX10_counts 4 = .ok (.iload_n 1, 1) := by decide +kernel
theorem dX10_counts_5 : decode cX10_counts 5 = .ok (.iaload, 1) := by decide +kernel
theorem dX10_counts_6 : decode cX10_counts 6 = .ok (.iload_n 2, 1) := by decide +kernel
theorem dX10_counts_7 : decode cX10_counts 7 = .ok (.if_icmp .gt 27, 3) := by decide +kernel
theorem dX10_counts_10 : decode cX10_counts 10 = .ok (.aload_n 0, 1) := by decide +kernel
theorem dX10_counts_11 : decode cX10_counts 11 = .ok (.getfield 72, 3) := by decide +kernel
theorem dX10_counts_14 : decode cX10_counts 14 = .ok (.iload_n 1, 1) := by decide +kernel
theorem dX10_counts_15 : decode cX10_counts 15 = .ok (.iaload, 1) := by decide +kernel
theorem dX10_counts_16 : decode cX10_counts 16 = .ok (.iconst (-1), 1) := by decide +kernel
theorem dX10_counts_17 : decode cX10_counts 17 = .ok (.if_icmp .eq 13, 3) := by decide +kernel
theorem dX10_counts_20 : decode cX10_counts 20 = .ok (.aload_n 0, 1) := by decide +kernel
theorem dX10_counts_21 : decode cX10_counts 21 = .ok (.getfield 72, 3) := by decide +kernel
theorem dX10_counts_24 : decode cX10_counts 24 = .ok (.iload_n 1, 1) := by decide +kernel
theorem dX10_counts_25 : decode cX10_counts 25 = .ok (.iaload, 1) := by decide +kernel
theorem dX10_counts_26 : decode cX10_counts 26 = .ok (.iload_n 2, 1) := by decide +kernel
theorem dX10_counts_27 : decode cX10_counts 27 = .ok (.if_icmp .le 7, 3) := by decide +kernel
theorem dX10_counts_30 : decode cX10_counts 30 = .ok (.iconst 1, 1) := by decide +kernel
theorem dX10_counts_31 : decode cX10_counts 31 = .ok (.goto 4, 3) := by decide +kernel
theorem dX10_counts_34 : decode cX10_counts 34 = .ok (.iconst 0, 1) := by decide +kernel
theorem dX10_counts_35 : decode cX10_counts 35 = .ok (.ireturn, 1) := by decide +kernel
theorem dX10_poolOf_0 : decode cX10_poolOf 0 = .ok (.lconst 0, 1) := by decide +kernel
theorem dX10_poolOf_1 : decode cX10_poolOf 1 = .ok (.lstore_n 2, 1) := by decide +kernel
theorem dX10_poolOf_2 : decode cX10_poolOf 2 = .ok (.iconst 0, 1) := by decide +kernel
theorem dX10_poolOf_3 : decode cX10_poolOf 3 = .ok (.istore 4, 2) := by decide +kernel
theorem dX10_poolOf_5 : decode cX10_poolOf 5 = .ok (.iload 4, 2) := by decide +kernel
theorem dX10_poolOf_7 : decode cX10_poolOf 7 = .ok (.aload_n 0, 1) := by decide +kernel
theorem dX10_poolOf_8 : decode cX10_poolOf 8 = .ok (.getfield 198, 3) := by decide +kernel
theorem dX10_poolOf_11 : decode cX10_poolOf 11 = .ok (.if_icmp .ge 111, 3) := by decide +kernel
theorem dX10_poolOf_14 : decode cX10_poolOf 14 = .ok (.aload_n 0, 1) := by decide +kernel
theorem dX10_poolOf_15 : decode cX10_poolOf 15 = .ok (.iload 4, 2) := by decide +kernel
theorem dX10_poolOf_17 : decode cX10_poolOf 17 = .ok (.iload_n 1, 1) := by decide +kernel
theorem dX10_poolOf_18 : decode cX10_poolOf 18 = .ok (.invokevirtual 218, 3) := by decide +kernel
theorem dX10_poolOf_21 : decode cX10_poolOf 21 = .ok (.ifCond .eq 23, 3) := by decide +kernel
theorem dX10_poolOf_24 : decode cX10_poolOf 24 = .ok (.lload_n 2, 1) := by decide +kernel
theorem dX10_poolOf_25 : decode cX10_poolOf 25 = .ok (.aload_n 0, 1) := by decide +kernel
theorem dX10_poolOf_26 : decode cX10_poolOf 26 = .ok (.getfield 66, 3) := by decide +kernel
theorem dX10_poolOf_29 : decode cX10_poolOf 29 = .ok (.iload 4, 2) := by decide +kernel
theorem dX10_poolOf_31 : decode cX10_poolOf 31 = .ok (.iaload, 1) := by decide +kernel
theorem dX10_poolOf_32 : decode cX10_poolOf 32 = .ok (.i2l, 1) := by decide +kernel
theorem dX10_poolOf_33 : decode cX10_poolOf 33 = .ok (.aload_n 0, 1) := by decide +kernel
theorem dX10_poolOf_34 : decode cX10_poolOf 34 = .ok (.getfield 69, 3) := by decide +kernel
theorem dX10_poolOf_37 : decode cX10_poolOf 37 = .ok (.iload 4, 2) := by decide +kernel
theorem dX10_poolOf_39 : decode cX10_poolOf 39 = .ok (.iaload, 1) := by decide +kernel
theorem dX10_poolOf_40 : decode cX10_poolOf 40 = .ok (.i2l, 1) := by decide +kernel
theorem dX10_poolOf_41 : decode cX10_poolOf 41 = .ok (.lmul, 1) := by decide +kernel
theorem dX10_poolOf_42 : decode cX10_poolOf 42 = .ok (.ladd, 1) := by decide +kernel
theorem dX10_poolOf_43 : decode cX10_poolOf 43 = .ok (.lstore_n 2, 1) := by decide +kernel
theorem dX10_poolOf_44 : decode cX10_poolOf 44 = .ok (.aload_n 0, 1) := by decide +kernel
theorem dX10_poolOf_45 : decode cX10_poolOf 45 = .ok (.getfield 72, 3) := by decide +kernel
theorem dX10_poolOf_48 : decode cX10_poolOf 48 = .ok (.iload 4, 2) := by decide +kernel
theorem dX10_poolOf_50 : decode cX10_poolOf 50 = .ok (.iaload, 1) := by decide +kernel
theorem dX10_poolOf_51 : decode cX10_poolOf 51 = .ok (.iconst (-1), 1) := by decide +kernel
theorem dX10_poolOf_52 : decode cX10_poolOf 52 = .ok (.if_icmp .eq 42, 3) := by decide +kernel
theorem dX10_poolOf_55 : decode cX10_poolOf 55 = .ok (.aload_n 0, 1) := by decide +kernel
theorem dX10_poolOf_56 : decode cX10_poolOf 56 = .ok (.getfield 72, 3) := by decide +kernel
theorem dX10_poolOf_59 : decode cX10_poolOf 59 = .ok (.iload 4, 2) := by decide +kernel
theorem dX10_poolOf_61 : decode cX10_poolOf 61 = .ok (.iaload, 1) := by decide +kernel
theorem dX10_poolOf_62 : decode cX10_poolOf 62 = .ok (.iload_n 1, 1) := by decide +kernel
theorem dX10_poolOf_63 : decode cX10_poolOf 63 = .ok (.if_icmp .gt 31, 3) := by decide +kernel
theorem dX10_poolOf_66 : decode cX10_poolOf 66 = .ok (.aload_n 0, 1) := by decide +kernel
theorem dX10_poolOf_67 : decode cX10_poolOf 67 = .ok (.iload 4, 2) := by decide +kernel
theorem dX10_poolOf_69 : decode cX10_poolOf 69 = .ok (.invokevirtual 211, 3) := by decide +kernel
theorem dX10_poolOf_72 : decode cX10_poolOf 72 = .ok (.ifCond .lt 22, 3) := by decide +kernel
theorem dX10_poolOf_75 : decode cX10_poolOf 75 = .ok (.aload_n 0, 1) := by decide +kernel
theorem dX10_poolOf_76 : decode cX10_poolOf 76 = .ok (.getfield 63, 3) := by decide +kernel
theorem dX10_poolOf_79 : decode cX10_poolOf 79 = .ok (.aload_n 0, 1) := by decide +kernel
theorem dX10_poolOf_80 : decode cX10_poolOf 80 = .ok (.iload 4, 2) := by decide +kernel
theorem dX10_poolOf_82 : decode cX10_poolOf 82 = .ok (.invokevirtual 211, 3) := by decide +kernel
theorem dX10_poolOf_85 : decode cX10_poolOf 85 = .ok (.iaload, 1) := by decide +kernel
theorem dX10_poolOf_86 : decode cX10_poolOf 86 = .ok (.iload_n 1, 1) := by decide +kernel
theorem dX10_poolOf_87 : decode cX10_poolOf 87 = .ok (.if_icmp .gt 7, 3) := by decide +kernel
theorem dX10_poolOf_90 : decode cX10_poolOf 90 = .ok (.iconst 1, 1) := by decide +kernel
theorem dX10_poolOf_91 : decode cX10_poolOf 91 = .ok (.goto 4, 3) := by decide +kernel
theorem dX10_poolOf_94 : decode cX10_poolOf 94 = .ok (.iconst 0, 1) := by decide +kernel
theorem dX10_poolOf_95 : decode cX10_poolOf 95 = .ok (.istore 5, 2) := by decide +kernel
theorem dX10_poolOf_97 : decode cX10_poolOf 97 = .ok (.lload_n 2, 1) := by decide +kernel
theorem dX10_poolOf_98 : decode cX10_poolOf 98 = .ok (.iload 5, 2) := by decide +kernel
theorem dX10_poolOf_100 : decode cX10_poolOf 100 = .ok (.ifCond .eq 13, 3) := by decide +kernel
theorem dX10_poolOf_103 : decode cX10_poolOf 103 = .ok (.aload_n 0, 1) := by decide +kernel
theorem dX10_poolOf_104 : decode cX10_poolOf 104 = .ok (.iload 4, 2) := by decide +kernel
theorem dX10_poolOf_106 : decode cX10_poolOf 106 = .ok (.invokevirtual 215, 3) := by decide +kernel
theorem dX10_poolOf_109 : decode cX10_poolOf 109 = .ok (.i2l, 1) := by decide +kernel
theorem dX10_poolOf_110 : decode cX10_poolOf 110 = .ok (.goto 4, 3) := by decide +kernel
theorem dX10_poolOf_113 : decode cX10_poolOf 113 = .ok (.lconst 0, 1) := by decide +kernel
theorem dX10_poolOf_114 : decode cX10_poolOf 114 = .ok (.ladd, 1) := by decide +kernel
theorem dX10_poolOf_115 : decode cX10_poolOf 115 = .ok (.lstore_n 2, 1) := by decide +kernel
theorem dX10_poolOf_116 : decode cX10_poolOf 116 = .ok (.iinc 4 1, 3) := by decide +kernel
theorem dX10_poolOf_119 : decode cX10_poolOf 119 = .ok (.goto (-114), 3) := by decide +kernel
theorem dX10_poolOf_122 : decode cX10_poolOf 122 = .ok (.lload_n 2, 1) := by decide +kernel
theorem dX10_poolOf_123 : decode cX10_poolOf 123 = .ok (.lreturn, 1) := by decide +kernel
theorem dX10_pool_0 : decode cX10_pool 0 = .ok (.aload_n 0, 1) := by decide +kernel
theorem dX10_pool_1 : decode cX10_pool 1 = .ok (.iconst 0, 1) := by decide +kernel
theorem dX10_pool_2 : decode cX10_pool 2 = .ok (.putfield 97, 3) := by decide +kernel
theorem dX10_pool_5 : decode cX10_pool 5 = .ok (.aload_n 0, 1) := by decide +kernel
theorem dX10_pool_6 : decode cX10_pool 6 = .ok (.iload_n 1, 1) := by decide +kernel
theorem dX10_pool_7 : decode cX10_pool 7 = .ok (.invokevirtual 221, 3) := by decide +kernel
theorem dX10_pool_10 : decode cX10_pool 10 = .ok (.l2i, 1) := by decide +kernel
theorem dX10_pool_11 : decode cX10_pool 11 = .ok (.ireturn, 1) := by decide +kernel
theorem dX10_pay_0 : decode cX10_pay 0 = .ok (.aload_n 0, 1) := by decide +kernel
theorem dX10_pay_1 : decode cX10_pay 1 = .ok (.iconst 0, 1) := by decide +kernel
theorem dX10_pay_2 : decode cX10_pay 2 = .ok (.putfield 97, 3) := by decide +kernel
theorem dX10_pay_5 : decode cX10_pay 5 = .ok (.iload_n 1, 1) := by decide +kernel
theorem dX10_pay_6 : decode cX10_pay 6 = .ok (.iconst 0, 1) := by decide +kernel
theorem dX10_pay_7 : decode cX10_pay 7 = .ok (.bipush 7, 2) := by decide +kernel
theorem dX10_pay_9 : decode cX10_pay 9 = .ok (.invokestatic 183, 3) := by decide +kernel
theorem dX10_pay_12 : decode cX10_pay 12 = .ok (.ifCond .ne 5, 3) := by decide +kernel
theorem dX10_pay_15 : decode cX10_pay 15 = .ok (.iconst (-1), 1) := by decide +kernel
theorem dX10_pay_16 : decode cX10_pay 16 = .ok (.ireturn, 1) := by decide +kernel
theorem dX10_pay_17 : decode cX10_pay 17 = .ok (.lconst 0, 1) := by decide +kernel
theorem dX10_pay_18 : decode cX10_pay 18 = .ok (.lstore_n 3, 1) := by decide +kernel
theorem dX10_pay_19 : decode cX10_pay 19 = .ok (.iconst 0, 1) := by decide +kernel
theorem dX10_pay_20 : decode cX10_pay 20 = .ok (.istore 5, 2) := by decide +kernel
theorem dX10_pay_22 : decode cX10_pay 22 = .ok (.iload 5, 2) := by decide +kernel
theorem dX10_pay_24 : decode cX10_pay 24 = .ok (.bipush 8, 2) := by decide +kernel
theorem dX10_pay_26 : decode cX10_pay 26 = .ok (.if_icmp .ge 17, 3) := by decide +kernel
theorem dX10_pay_29 : decode cX10_pay 29 = .ok (.aload_n 0, 1) := by decide +kernel
theorem dX10_pay_30 : decode cX10_pay 30 = .ok (.getfield 81, 3) := by decide +kernel
theorem dX10_pay_33 : decode cX10_pay 33 = .ok (.iload 5, 2) := by decide +kernel
theorem dX10_pay_35 : decode cX10_pay 35 = .ok (.lconst 0, 1) := by decide +kernel
theorem dX10_pay_36 : decode cX10_pay 36 = .ok (.lastore, 1) := by decide +kernel
theorem dX10_pay_37 : decode cX10_pay 37 = .ok (.iinc 5 1, 3) := by decide +kernel
theorem dX10_pay_40 : decode cX10_pay 40 = .ok (.goto (-18), 3) := by decide +kernel
theorem dX10_pay_43 : decode cX10_pay 43 = .ok (.iconst 0, 1) := by decide +kernel
theorem dX10_pay_44 : decode cX10_pay 44 = .ok (.istore 5, 2) := by decide +kernel
theorem dX10_pay_46 : decode cX10_pay 46 = .ok (.iload 5, 2) := by decide +kernel
theorem dX10_pay_48 : decode cX10_pay 48 = .ok (.aload_n 0, 1) := by decide +kernel
theorem dX10_pay_49 : decode cX10_pay 49 = .ok (.getfield 198, 3) := by decide +kernel
theorem dX10_pay_52 : decode cX10_pay 52 = .ok (.if_icmp .ge 80, 3) := by decide +kernel
theorem dX10_pay_55 : decode cX10_pay 55 = .ok (.aload_n 0, 1) := by decide +kernel
theorem dX10_pay_56 : decode cX10_pay 56 = .ok (.iload 5, 2) := by decide +kernel
theorem dX10_pay_58 : decode cX10_pay 58 = .ok (.iload_n 2, 1) := by decide +kernel
theorem dX10_pay_59 : decode cX10_pay 59 = .ok (.invokevirtual 218, 3) := by decide +kernel
theorem dX10_pay_62 : decode cX10_pay 62 = .ok (.ifCond .ne 6, 3) := by decide +kernel
theorem dX10_pay_65 : decode cX10_pay 65 = .ok (.goto 61, 3) := by decide +kernel
theorem dX10_pay_68 : decode cX10_pay 68 = .ok (.aload_n 0, 1) := by decide +kernel
theorem dX10_pay_69 : decode cX10_pay 69 = .ok (.getfield 66, 3) := by decide +kernel
theorem dX10_pay_72 : decode cX10_pay 72 = .ok (.iload 5, 2) := by decide +kernel
theorem dX10_pay_74 : decode cX10_pay 74 = .ok (.iaload, 1) := by decide +kernel
theorem dX10_pay_75 : decode cX10_pay 75 = .ok (.i2l, 1) := by decide +kernel
theorem dX10_pay_76 : decode cX10_pay 76 = .ok (.aload_n 0, 1) := by decide +kernel
theorem dX10_pay_77 : decode cX10_pay 77 = .ok (.getfield 13, 3) := by decide +kernel
theorem dX10_pay_80 : decode cX10_pay 80 = .ok (.iconst 4, 1) := by decide +kernel
theorem dX10_pay_81 : decode cX10_pay 81 = .ok (.aload_n 0, 1) := by decide +kernel
theorem dX10_pay_82 : decode cX10_pay 82 = .ok (.getfield 30, 3) := by decide +kernel
theorem dX10_pay_85 : decode cX10_pay 85 = .ok (.aload_n 0, 1) := by decide +kernel
theorem dX10_pay_86 : decode cX10_pay 86 = .ok (.getfield 57, 3) := by decide +kernel
theorem dX10_pay_89 : decode cX10_pay 89 = .ok (.iload 5, 2) := by decide +kernel
theorem dX10_pay_91 : decode cX10_pay 91 = .ok (.iaload, 1) := by decide +kernel
theorem dX10_pay_92 : decode cX10_pay 92 = .ok (.iaload, 1) := by decide +kernel
theorem dX10_pay_93 : decode cX10_pay 93 = .ok (.iadd, 1) := by decide +kernel
theorem dX10_pay_94 : decode cX10_pay 94 = .ok (.iaload, 1) := by decide +kernel
theorem dX10_pay_95 : decode cX10_pay 95 = .ok (.i2l, 1) := by decide +kernel
theorem dX10_pay_96 : decode cX10_pay 96 = .ok (.lmul, 1) := by decide +kernel
theorem dX10_pay_97 : decode cX10_pay 97 = .ok (.lstore 6, 2) := by decide +kernel
theorem dX10_pay_99 : decode cX10_pay 99 = .ok (.aload_n 0, 1) := by decide +kernel
theorem dX10_pay_100 : decode cX10_pay 100 = .ok (.getfield 81, 3) := by decide +kernel
theorem dX10_pay_103 : decode cX10_pay 103 = .ok (.aload_n 0, 1) := by decide +kernel
theorem dX10_pay_104 : decode cX10_pay 104 = .ok (.getfield 24, 3) := by decide +kernel
theorem dX10_pay_107 : decode cX10_pay 107 = .ok (.aload_n 0, 1) := by decide +kernel
theorem dX10_pay_108 : decode cX10_pay 108 = .ok (.getfield 57, 3) := by decide +kernel
theorem dX10_pay_111 : decode cX10_pay 111 = .ok (.iload 5, 2) := by decide +kernel
theorem dX10_pay_113 : decode cX10_pay 113 = .ok (.iaload, 1) := by decide +kernel
theorem dX10_pay_114 : decode cX10_pay 114 = .ok (.iaload, 1) := by decide +kernel
theorem dX10_pay_115 : decode cX10_pay 115 = .ok (.dup2, 1) := by decide +kernel
theorem dX10_pay_116 : decode cX10_pay 116 = .ok (.laload, 1) := by decide +kernel
theorem dX10_pay_117 : decode cX10_pay 117 = .ok (.lload 6, 2) := by decide +kernel
theorem dX10_pay_119 : decode cX10_pay 119 = .ok (.ladd, 1) := by decide +kernel
theorem dX10_pay_120 : decode cX10_pay 120 = .ok (.lastore, 1) := by decide +kernel
theorem dX10_pay_121 : decode cX10_pay 121 = .ok (.lload_n 3, 1) := by decide +kernel
theorem dX10_pay_122 : decode cX10_pay 122 = .ok (.lload 6, 2) := by decide +kernel
theorem dX10_pay_124 : decode cX10_pay 124 = .ok (.ladd, 1) := by decide +kernel
theorem dX10_pay_125 : decode cX10_pay 125 = .ok (.lstore_n 3, 1) := by decide +kernel
theorem dX10_pay_126 : decode cX10_pay 126 = .ok (.iinc 5 1, 3) := by decide +kernel
theorem dX10_pay_129 : decode cX10_pay 129 = .ok (.goto (-83), 3) := by decide +kernel
theorem dX10_pay_132 : decode cX10_pay 132 = .ok (.lload_n 3, 1) := by decide +kernel
theorem dX10_pay_133 : decode cX10_pay 133 = .ok (.lconst 0, 1) := by decide +kernel
theorem dX10_pay_134 : decode cX10_pay 134 = .ok (.lcmp, 1) := by decide +kernel
theorem dX10_pay_135 : decode cX10_pay 135 = .ok (.ifCond .ne 5, 3) := by decide +kernel
theorem dX10_pay_138 : decode cX10_pay 138 = .ok (.iconst 0, 1) := by decide +kernel
theorem dX10_pay_139 : decode cX10_pay 139 = .ok (.ireturn, 1) := by decide +kernel
theorem dX10_pay_140 : decode cX10_pay 140 = .ok (.aload_n 0, 1) := by decide +kernel
theorem dX10_pay_141 : decode cX10_pay 141 = .ok (.iload_n 2, 1) := by decide +kernel
theorem dX10_pay_142 : decode cX10_pay 142 = .ok (.invokevirtual 221, 3) := by decide +kernel
theorem dX10_pay_145 : decode cX10_pay 145 = .ok (.lstore 5, 2) := by decide +kernel
theorem dX10_pay_147 : decode cX10_pay 147 = .ok (.lload 5, 2) := by decide +kernel
theorem dX10_pay_149 : decode cX10_pay 149 = .ok (.lstore 7, 2) := by decide +kernel
theorem dX10_pay_151 : decode cX10_pay 151 = .ok (.iconst 0, 1) := by decide +kernel
theorem dX10_pay_152 : decode cX10_pay 152 = .ok (.istore 9, 2) := by decide +kernel
theorem dX10_pay_154 : decode cX10_pay 154 = .ok (.iload 9, 2) := by decide +kernel
theorem dX10_pay_156 : decode cX10_pay 156 = .ok (.bipush 8, 2) := by decide +kernel
theorem dX10_pay_158 : decode cX10_pay 158 = .ok (.if_icmp .ge 59, 3) := by decide +kernel
theorem dX10_pay_161 : decode cX10_pay 161 = .ok (.aload_n 0, 1) := by decide +kernel
theorem dX10_pay_162 : decode cX10_pay 162 = .ok (.getfield 88, 3) := by decide +kernel
theorem dX10_pay_165 : decode cX10_pay 165 = .ok (.iload 9, 2) := by decide +kernel
theorem dX10_pay_167 : decode cX10_pay 167 = .ok (.lload 5, 2) := by decide +kernel
theorem dX10_pay_169 : decode cX10_pay 169 = .ok (.aload_n 0, 1) := by decide +kernel
theorem dX10_pay_170 : decode cX10_pay 170 = .ok (.getfield 81, 3) := by decide +kernel
theorem dX10_pay_173 : decode cX10_pay 173 = .ok (.iload 9, 2) := by decide +kernel
theorem dX10_pay_175 : decode cX10_pay 175 = .ok (.laload, 1) := by decide +kernel
theorem dX10_pay_176 : decode cX10_pay 176 = .ok (.lmul, 1) := by decide +kernel
theorem dX10_pay_177 : decode cX10_pay 177 = .ok (.lload_n 3, 1) := by decide +kernel
theorem dX10_pay_178 : decode cX10_pay 178 = .ok (.ldiv, 1) := by decide +kernel
theorem dX10_pay_179 : decode cX10_pay 179 = .ok (.lastore, 1) := by decide +kernel
theorem dX10_pay_180 : decode cX10_pay 180 = .ok (.aload_n 0, 1) := by decide +kernel
theorem dX10_pay_181 : decode cX10_pay 181 = .ok (.getfield 85, 3) := by decide +kernel
theorem dX10_pay_184 : decode cX10_pay 184 = .ok (.iload 9, 2) := by decide +kernel
theorem dX10_pay_186 : decode cX10_pay 186 = .ok (.lload 5, 2) := by decide +kernel
theorem dX10_pay_188 : decode cX10_pay 188 = .ok (.aload_n 0, 1) := by decide +kernel
theorem dX10_pay_189 : decode cX10_pay 189 = .ok (.getfield 81, 3) := by decide +kernel
theorem dX10_pay_192 : decode cX10_pay 192 = .ok (.iload 9, 2) := by decide +kernel
theorem dX10_pay_194 : decode cX10_pay 194 = .ok (.laload, 1) := by decide +kernel
theorem dX10_pay_195 : decode cX10_pay 195 = .ok (.lmul, 1) := by decide +kernel
theorem dX10_pay_196 : decode cX10_pay 196 = .ok (.lload_n 3, 1) := by decide +kernel
theorem dX10_pay_197 : decode cX10_pay 197 = .ok (.lrem, 1) := by decide +kernel
theorem dX10_pay_198 : decode cX10_pay 198 = .ok (.lastore, 1) := by decide +kernel
theorem dX10_pay_199 : decode cX10_pay 199 = .ok (.lload 7, 2) := by decide +kernel
theorem dX10_pay_201 : decode cX10_pay 201 = .ok (.aload_n 0, 1) := by decide +kernel
theorem dX10_pay_202 : decode cX10_pay 202 = .ok (.getfield 88, 3) := by decide +kernel
theorem dX10_pay_205 : decode cX10_pay 205 = .ok (.iload 9, 2) := by decide +kernel
theorem dX10_pay_207 : decode cX10_pay 207 = .ok (.laload, 1) := by decide +kernel
theorem dX10_pay_208 : decode cX10_pay 208 = .ok (.lsub, 1) := by decide +kernel
theorem dX10_pay_209 : decode cX10_pay 209 = .ok (.lstore 7, 2) := by decide +kernel
theorem dX10_pay_211 : decode cX10_pay 211 = .ok (.iinc 9 1, 3) := by decide +kernel
theorem dX10_pay_214 : decode cX10_pay 214 = .ok (.goto (-60), 3) := by decide +kernel
theorem dX10_pay_217 : decode cX10_pay 217 = .ok (.lload 7, 2) := by decide +kernel
theorem dX10_pay_219 : decode cX10_pay 219 = .ok (.lconst 0, 1) := by decide +kernel
theorem dX10_pay_220 : decode cX10_pay 220 = .ok (.lcmp, 1) := by decide +kernel
theorem dX10_pay_221 : decode cX10_pay 221 = .ok (.ifCond .le 74, 3) := by decide +kernel
theorem dX10_pay_224 : decode cX10_pay 224 = .ok (.iconst 0, 1) := by decide +kernel
theorem dX10_pay_225 : decode cX10_pay 225 = .ok (.istore 9, 2) := by decide +kernel
theorem dX10_pay_227 : decode cX10_pay 227 = .ok (.iconst 1, 1) := by decide +kernel
theorem dX10_pay_228 : decode cX10_pay 228 = .ok (.istore 10, 2) := by decide +kernel
theorem dX10_pay_230 : decode cX10_pay 230 = .ok (.iload 10, 2) := by decide +kernel
theorem dX10_pay_232 : decode cX10_pay 232 = .ok (.bipush 8, 2) := by decide +kernel
theorem dX10_pay_234 : decode cX10_pay 234 = .ok (.if_icmp .ge 31, 3) := by decide +kernel
theorem dX10_pay_237 : decode cX10_pay 237 = .ok (.aload_n 0, 1) := by decide +kernel
theorem dX10_pay_238 : decode cX10_pay 238 = .ok (.getfield 85, 3) := by decide +kernel
theorem dX10_pay_241 : decode cX10_pay 241 = .ok (.iload 10, 2) := by decide +kernel
theorem dX10_pay_243 : decode cX10_pay 243 = .ok (.laload, 1) := by decide +kernel
theorem dX10_pay_244 : decode cX10_pay 244 = .ok (.aload_n 0, 1) := by decide +kernel
theorem dX10_pay_245 : decode cX10_pay 245 = .ok (.getfield 85, 3) := by decide +kernel
theorem dX10_pay_248 : decode cX10_pay 248 = .ok (.iload 9, 2) := by decide +kernel
theorem dX10_pay_250 : decode cX10_pay 250 = .ok (.laload, 1) := by decide +kernel
theorem dX10_pay_251 : decode cX10_pay 251 = .ok (.lcmp, 1) := by decide +kernel
theorem dX10_pay_252 : decode cX10_pay 252 = .ok (.ifCond .le 7, 3) := by decide +kernel
theorem dX10_pay_255 : decode cX10_pay 255 = .ok (.iload 10, 2) := by decide +kernel
theorem dX10_pay_257 : decode cX10_pay 257 = .ok (.istore 9, 2) := by decide +kernel
theorem dX10_pay_259 : decode cX10_pay 259 = .ok (.iinc 10 1, 3) := by decide +kernel
theorem dX10_pay_262 : decode cX10_pay 262 = .ok (.goto (-32), 3) := by decide +kernel
theorem dX10_pay_265 : decode cX10_pay 265 = .ok (.aload_n 0, 1) := by decide +kernel
theorem dX10_pay_266 : decode cX10_pay 266 = .ok (.getfield 88, 3) := by decide +kernel
theorem dX10_pay_269 : decode cX10_pay 269 = .ok (.iload 9, 2) := by decide +kernel
theorem dX10_pay_271 : decode cX10_pay 271 = .ok (.dup2, 1) := by decide +kernel
theorem dX10_pay_272 : decode cX10_pay 272 = .ok (.laload, 1) := by decide +kernel
theorem dX10_pay_273 : decode cX10_pay 273 = .ok (.lconst 1, 1) := by decide +kernel
theorem dX10_pay_274 : decode cX10_pay 274 = .ok (.ladd, 1) := by decide +kernel
theorem dX10_pay_275 : decode cX10_pay 275 = .ok (.lastore, 1) := by decide +kernel
theorem dX10_pay_276 : decode cX10_pay 276 = .ok (.aload_n 0, 1) := by decide +kernel
theorem dX10_pay_277 : decode cX10_pay 277 = .ok (.getfield 85, 3) := by decide +kernel
theorem dX10_pay_280 : decode cX10_pay 280 = .ok (.iload 9, 2) := by decide +kernel
theorem dX10_pay_282 : decode cX10_pay 282 = .ok (.ldc2_w 225, 3) := by decide +kernel
theorem dX10_pay_285 : decode cX10_pay 285 = .ok (.lastore, 1) := by decide +kernel
theorem dX10_pay_286 : decode cX10_pay 286 = .ok (.lload 7, 2) := by decide +kernel
theorem dX10_pay_288 : decode cX10_pay 288 = .ok (.lconst 1, 1) := by decide +kernel
theorem dX10_pay_289 : decode cX10_pay 289 = .ok (.lsub, 1) := by decide +kernel
theorem dX10_pay_290 : decode cX10_pay 290 = .ok (.lstore 7, 2) := by decide +kernel
theorem dX10_pay_292 : decode cX10_pay 292 = .ok (.goto (-75), 3) := by decide +kernel
theorem dX10_pay_295 : decode cX10_pay 295 = .ok (.aload_n 0, 1) := by decide +kernel
theorem dX10_pay_296 : decode cX10_pay 296 = .ok (.getfield 88, 3) := by decide +kernel
theorem dX10_pay_299 : decode cX10_pay 299 = .ok (.iload_n 1, 1) := by decide +kernel
theorem dX10_pay_300 : decode cX10_pay 300 = .ok (.laload, 1) := by decide +kernel
theorem dX10_pay_301 : decode cX10_pay 301 = .ok (.l2i, 1) := by decide +kernel
theorem dX10_pay_302 : decode cX10_pay 302 = .ok (.ireturn, 1) := by decide +kernel
theorem dX10_common_0 : decode cX10_common 0 = .ok (.lload_n 0, 1) := by decide +kernel
theorem dX10_common_1 : decode cX10_common 1 = .ok (.lconst 0, 1) := by decide +kernel
theorem dX10_common_2 : decode cX10_common 2 = .ok (.lcmp, 1) := by decide +kernel
theorem dX10_common_3 : decode cX10_common 3 = .ok (.ifCond .ge 8, 3) := by decide +kernel
theorem dX10_common_6 : decode cX10_common 6 = .ok (.lload_n 0, 1) := by decide +kernel
theorem dX10_common_7 : decode cX10_common 7 = .ok (.lneg, 1) := by decide +kernel
theorem dX10_common_8 : decode cX10_common 8 = .ok (.goto 4, 3) := by decide +kernel
theorem dX10_common_11 : decode cX10_common 11 = .ok (.lload_n 0, 1) := by decide +kernel
theorem dX10_common_12 : decode cX10_common 12 = .ok (.lstore 4, 2) := by decide +kernel
theorem dX10_common_14 : decode cX10_common 14 = .ok (.lload_n 2, 1) := by decide +kernel
theorem dX10_common_15 : decode cX10_common 15 = .ok (.lstore 6, 2) := by decide +kernel
theorem dX10_common_17 : decode cX10_common 17 = .ok (.lload 6, 2) := by decide +kernel
theorem dX10_common_19 : decode cX10_common 19 = .ok (.lconst 0, 1) := by decide +kernel
theorem dX10_common_20 : decode cX10_common 20 = .ok (.lcmp, 1) := by decide +kernel
theorem dX10_common_21 : decode cX10_common 21 = .ok (.ifCond .eq 21, 3) := by decide +kernel
theorem dX10_common_24 : decode cX10_common 24 = .ok (.lload 4, 2) := by decide +kernel
theorem dX10_common_26 : decode cX10_common 26 = .ok (.lload 6, 2) := by decide +kernel
theorem dX10_common_28 : decode cX10_common 28 = .ok (.lrem, 1) := by decide +kernel
theorem dX10_common_29 : decode cX10_common 29 = .ok (.lstore 8, 2) := by decide +kernel
theorem dX10_common_31 : decode cX10_common 31 = .ok (.lload 6, 2) := by decide +kernel
theorem dX10_common_33 : decode cX10_common 33 = .ok (.lstore 4, 2) := by decide +kernel
theorem dX10_common_35 : decode cX10_common 35 = .ok (.lload 8, 2) := by decide +kernel
theorem dX10_common_37 : decode cX10_common 37 = .ok (.lstore 6, 2) := by decide +kernel
theorem dX10_common_39 : decode cX10_common 39 = .ok (.goto (-22), 3) := by decide +kernel
theorem dX10_common_42 : decode cX10_common 42 = .ok (.lload 4, 2) := by decide +kernel
theorem dX10_common_44 : decode cX10_common 44 = .ok (.lreturn, 1) := by decide +kernel
theorem dX10_worth_0 : decode cX10_worth 0 = .ok (.lconst 0, 1) := by decide +kernel
theorem dX10_worth_1 : decode cX10_worth 1 = .ok (.lstore 4, 2) := by decide +kernel
theorem dX10_worth_3 : decode cX10_worth 3 = .ok (.lconst 1, 1) := by decide +kernel
theorem dX10_worth_4 : decode cX10_worth 4 = .ok (.lstore 6, 2) := by decide +kernel
theorem dX10_worth_6 : decode cX10_worth 6 = .ok (.lconst 0, 1) := by decide +kernel
theorem dX10_worth_7 : decode cX10_worth 7 = .ok (.lstore 8, 2) := by decide +kernel
theorem dX10_worth_9 : decode cX10_worth 9 = .ok (.iload_n 1, 1) := by decide +kernel
theorem dX10_worth_10 : decode cX10_worth 10 = .ok (.iconst 0, 1) := by decide +kernel
theorem dX10_worth_11 : decode cX10_worth 11 = .ok (.iconst 5, 1) := by decide +kernel
theorem dX10_worth_12 : decode cX10_worth 12 = .ok (.invokestatic 183, 3) := by decide +kernel
theorem dX10_worth_15 : decode cX10_worth 15 = .ok (.ifCond .eq 16, 3) := by decide +kernel
theorem dX10_worth_18 : decode cX10_worth 18 = .ok (.iload_n 3, 1) := by decide +kernel
theorem dX10_worth_19 : decode cX10_worth 19 = .ok (.iconst 0, 1) := by decide +kernel
theorem dX10_worth_20 : decode cX10_worth 20 = .ok (.iconst 1, 1) := by decide +kernel
theorem dX10_worth_21 : decode cX10_worth 21 = .ok (.invokestatic 183, 3) := by decide +kernel
theorem dX10_worth_24 : decode cX10_worth 24 = .ok (.ifCond .eq 7, 3) := by decide +kernel
theorem dX10_worth_27 : decode cX10_worth 27 = .ok (.iconst 1, 1) := by decide +kernel
theorem dX10_worth_28 : decode cX10_worth 28 = .ok (.goto 4, 3) := by decide +kernel
theorem dX10_worth_31 : decode cX10_worth 31 = .ok (.iconst 0, 1) := by decide +kernel
theorem dX10_worth_32 : decode cX10_worth 32 = .ok (.istore 10, 2) := by decide +kernel
theorem dX10_worth_34 : decode cX10_worth 34 = .ok (.iconst 0, 1) := by decide +kernel
theorem dX10_worth_35 : decode cX10_worth 35 = .ok (.istore 11, 2) := by decide +kernel
theorem dX10_worth_37 : decode cX10_worth 37 = .ok (.iload 11, 2) := by decide +kernel
theorem dX10_worth_39 : decode cX10_worth 39 = .ok (.iconst 4, 1) := by decide +kernel
theorem dX10_worth_40 : decode cX10_worth 40 = .ok (.if_icmp .ge 222, 3) := by decide +kernel
theorem dX10_worth_43 : decode cX10_worth 43 = .ok (.iload 10, 2) := by decide +kernel
theorem dX10_worth_45 : decode cX10_worth 45 = .ok (.ifCond .eq 217, 3) := by decide +kernel
theorem dX10_worth_48 : decode cX10_worth 48 = .ok (.lconst 0, 1) := by decide +kernel
theorem dX10_worth_49 : decode cX10_worth 49 = .ok (.lstore 12, 2) := by decide +kernel
theorem dX10_worth_51 : decode cX10_worth 51 = .ok (.lconst 0, 1) := by decide +kernel
theorem dX10_worth_52 : decode cX10_worth 52 = .ok (.lstore 14, 2) := by decide +kernel
theorem dX10_worth_54 : decode cX10_worth 54 = .ok (.lconst 0, 1) := by decide +kernel
theorem dX10_worth_55 : decode cX10_worth 55 = .ok (.lstore 16, 2) := by decide +kernel
theorem dX10_worth_57 : decode cX10_worth 57 = .ok (.lconst 0, 1) := by decide +kernel
theorem dX10_worth_58 : decode cX10_worth 58 = .ok (.lstore 18, 2) := by decide +kernel
theorem dX10_worth_60 : decode cX10_worth 60 = .ok (.iconst 0, 1) := by decide +kernel
theorem dX10_worth_61 : decode cX10_worth 61 = .ok (.istore 20, 2) := by decide +kernel
theorem dX10_worth_63 : decode cX10_worth 63 = .ok (.iload 20, 2) := by decide +kernel
theorem dX10_worth_65 : decode cX10_worth 65 = .ok (.aload_n 0, 1) := by decide +kernel
theorem dX10_worth_66 : decode cX10_worth 66 = .ok (.getfield 198, 3) := by decide +kernel
theorem dX10_worth_69 : decode cX10_worth 69 = .ok (.if_icmp .ge 118, 3) := by decide +kernel
theorem dX10_worth_72 : decode cX10_worth 72 = .ok (.aload_n 0, 1) := by decide +kernel
theorem dX10_worth_73 : decode cX10_worth 73 = .ok (.iload 20, 2) := by decide +kernel
theorem dX10_worth_75 : decode cX10_worth 75 = .ok (.iload_n 2, 1) := by decide +kernel
theorem dX10_worth_76 : decode cX10_worth 76 = .ok (.invokevirtual 218, 3) := by decide +kernel
theorem dX10_worth_79 : decode cX10_worth 79 = .ok (.ifCond .eq 102, 3) := by decide +kernel
theorem dX10_worth_82 : decode cX10_worth 82 = .ok (.aload_n 0, 1) := by decide +kernel
theorem dX10_worth_83 : decode cX10_worth 83 = .ok (.getfield 30, 3) := by decide +kernel
theorem dX10_worth_86 : decode cX10_worth 86 = .ok (.aload_n 0, 1) := by decide +kernel
theorem dX10_worth_87 : decode cX10_worth 87 = .ok (.getfield 57, 3) := by decide +kernel
theorem dX10_worth_90 : decode cX10_worth 90 = .ok (.iload 20, 2) := by decide +kernel
theorem dX10_worth_92 : decode cX10_worth 92 = .ok (.iaload, 1) := by decide +kernel
theorem dX10_worth_93 : decode cX10_worth 93 = .ok (.iaload, 1) := by decide +kernel
theorem dX10_worth_94 : decode cX10_worth 94 = .ok (.iload 11, 2) := by decide +kernel
theorem dX10_worth_96 : decode cX10_worth 96 = .ok (.if_icmp .eq 6, 3) := by decide +kernel
theorem dX10_worth_99 : decode cX10_worth 99 = .ok (.goto 82, 3) := by decide +kernel
theorem dX10_worth_102 : decode cX10_worth 102 = .ok (.aload_n 0, 1) := by decide +kernel
theorem dX10_worth_103 : decode cX10_worth 103 = .ok (.getfield 27, 3) := by decide +kernel
theorem dX10_worth_106 : decode cX10_worth 106 = .ok (.aload_n 0, 1) := by decide +kernel
theorem dX10_worth_107 : decode cX10_worth 107 = .ok (.getfield 57, 3) := by decide +kernel
theorem dX10_worth_110 : decode cX10_worth 110 = .ok (.iload 20, 2) := by decide +kernel
theorem dX10_worth_112 : decode cX10_worth 112 = .ok (.iaload, 1) := by decide +kernel
theorem dX10_worth_113 : decode cX10_worth 113 = .ok (.iaload, 1) := by decide +kernel
theorem dX10_worth_114 : decode cX10_worth 114 = .ok (.iload_n 1, 1) := by decide +kernel
theorem dX10_worth_115 : decode cX10_worth 115 = .ok (.if_icmp .ne 7, 3) := by decide +kernel
theorem dX10_worth_118 : decode cX10_worth 118 = .ok (.iconst 1, 1) := by decide +kernel
theorem dX10_worth_119 : decode cX10_worth 119 = .ok (.goto 4, 3) := by decide +kernel
theorem dX10_worth_122 : decode cX10_worth 122 = .ok (.iconst 0, 1) := by decide +kernel
theorem dX10_worth_123 : decode cX10_worth 123 = .ok (.istore 21, 2) := by decide +kernel
theorem dX10_worth_125 : decode cX10_worth 125 = .ok (.lload 12, 2) := by decide +kernel
theorem dX10_worth_127 : decode cX10_worth 127 = .ok (.lconst 1, 1) := by decide +kernel
theorem dX10_worth_128 : decode cX10_worth 128 = .ok (.ladd, 1) := by decide +kernel
theorem dX10_worth_129 : decode cX10_worth 129 = .ok (.lstore 12, 2) := by decide +kernel
theorem dX10_worth_131 : decode cX10_worth 131 = .ok (.lload 14, 2) := by decide +kernel
theorem dX10_worth_133 : decode cX10_worth 133 = .ok (.aload_n 0, 1) := by decide +kernel
theorem dX10_worth_134 : decode cX10_worth 134 = .ok (.getfield 69, 3) := by decide +kernel
theorem dX10_worth_137 : decode cX10_worth 137 = .ok (.iload 20, 2) := by decide +kernel
theorem dX10_worth_139 : decode cX10_worth 139 = .ok (.iaload, 1) := by decide +kernel
theorem dX10_worth_140 : decode cX10_worth 140 = .ok (.i2l, 1) := by decide +kernel
theorem dX10_worth_141 : decode cX10_worth 141 = .ok (.ladd, 1) := by decide +kernel
theorem dX10_worth_142 : decode cX10_worth 142 = .ok (.lstore 14, 2) := by decide +kernel
theorem dX10_worth_144 : decode cX10_worth 144 = .ok (.lload 16, 2) := by decide +kernel
theorem dX10_worth_146 : decode cX10_worth 146 = .ok (.iload 21, 2) := by decide +kernel
theorem dX10_worth_148 : decode cX10_worth 148 = .ok (.ifCond .eq 7, 3) := by decide +kernel
theorem dX10_worth_151 : decode cX10_worth 151 = .ok (.lconst 1, 1) := by decide +kernel
theorem dX10_worth_152 : decode cX10_worth 152 = .ok (.goto 4, 3) := by decide +kernel
theorem dX10_worth_155 : decode cX10_worth 155 = .ok (.lconst 0, 1) := by decide +kernel
theorem dX10_worth_156 : decode cX10_worth 156 = .ok (.ladd, 1) := by decide +kernel
theorem dX10_worth_157 : decode cX10_worth 157 = .ok (.lstore 16, 2) := by decide +kernel
theorem dX10_worth_159 : decode cX10_worth 159 = .ok (.lload 18, 2) := by decide +kernel
theorem dX10_worth_161 : decode cX10_worth 161 = .ok (.iload 21, 2) := by decide +kernel
theorem dX10_worth_163 : decode cX10_worth 163 = .ok (.ifCond .eq 14, 3) := by decide +kernel
theorem dX10_worth_166 : decode cX10_worth 166 = .ok (.aload_n 0, 1) := by decide +kernel
theorem dX10_worth_167 : decode cX10_worth 167 = .ok (.getfield 69, 3) := by decide +kernel
theorem dX10_worth_170 : decode cX10_worth 170 = .ok (.iload 20, 2) := by decide +kernel
theorem dX10_worth_172 : decode cX10_worth 172 = .ok (.iaload, 1) := by decide +kernel
theorem dX10_worth_173 : decode cX10_worth 173 = .ok (.i2l, 1) := by decide +kernel
theorem dX10_worth_174 : decode cX10_worth 174 = .ok (.goto 4, 3) := by decide +kernel
theorem dX10_worth_177 : decode cX10_worth 177 = .ok (.lconst 0, 1) := by decide +kernel
theorem dX10_worth_178 : decode cX10_worth 178 = .ok (.ladd, 1) := by decide +kernel
theorem dX10_worth_179 : decode cX10_worth 179 = .ok (.lstore 18, 2) := by decide +kernel
theorem dX10_worth_181 : decode cX10_worth 181 = .ok (.iinc 20 1, 3) := by decide +kernel
theorem dX10_worth_184 : decode cX10_worth 184 = .ok (.goto (-121), 3) := by decide +kernel
theorem dX10_worth_187 : decode cX10_worth 187 = .ok (.lload 16, 2) := by decide +kernel
theorem dX10_worth_189 : decode cX10_worth 189 = .ok (.lconst 0, 1) := by decide +kernel
theorem dX10_worth_190 : decode cX10_worth 190 = .ok (.lcmp, 1) := by decide +kernel
theorem dX10_worth_191 : decode cX10_worth 191 = .ok (.ifCond .ne 6, 3) := by decide +kernel
theorem dX10_worth_194 : decode cX10_worth 194 = .ok (.goto 62, 3) := by decide +kernel
theorem dX10_worth_197 : decode cX10_worth 197 = .ok (.lload 8, 2) := by decide +kernel
theorem dX10_worth_199 : decode cX10_worth 199 = .ok (.lload 16, 2) := by decide +kernel
theorem dX10_worth_201 : decode cX10_worth 201 = .ok (.ladd, 1) := by decide +kernel
theorem dX10_worth_202 : decode cX10_worth 202 = .ok (.lstore 8, 2) := by decide +kernel
theorem dX10_worth_204 : decode cX10_worth 204 = .ok (.lload 4, 2) := by decide +kernel
theorem dX10_worth_206 : decode cX10_worth 206 = .ok (.lload 12, 2) := by decide +kernel
theorem dX10_worth_208 : decode cX10_worth 208 = .ok (.lmul, 1) := by decide +kernel
theorem dX10_worth_209 : decode cX10_worth 209 = .ok (.lload 18, 2) := by decide +kernel
theorem dX10_worth_211 : decode cX10_worth 211 = .ok (.lload 12, 2) := by decide +kernel
theorem dX10_worth_213 : decode cX10_worth 213 = .ok (.lmul, 1) := by decide +kernel
theorem dX10_worth_214 : decode cX10_worth 214 = .ok (.lload 16, 2) := by decide +kernel
theorem dX10_worth_216 : decode cX10_worth 216 = .ok (.lload 14, 2) := by decide +kernel
theorem dX10_worth_218 : decode cX10_worth 218 = .ok (.lmul, 1) := by decide +kernel
theorem dX10_worth_219 : decode cX10_worth 219 = .ok (.lsub, 1) := by decide +kernel
theorem dX10_worth_220 : decode cX10_worth 220 = .ok (.lload 6, 2) := by decide +kernel
theorem dX10_worth_222 : decode cX10_worth 222 = .ok (.lmul, 1) := by decide +kernel
theorem dX10_worth_223 : decode cX10_worth 223 = .ok (.ladd, 1) := by decide +kernel
theorem dX10_worth_224 : decode cX10_worth 224 = .ok (.lstore 4, 2) := by decide +kernel
theorem dX10_worth_226 : decode cX10_worth 226 = .ok (.lload 6, 2) := by decide +kernel
theorem dX10_worth_228 : decode cX10_worth 228 = .ok (.lload 12, 2) := by decide +kernel
theorem dX10_worth_230 : decode cX10_worth 230 = .ok (.lmul, 1) := by decide +kernel
theorem dX10_worth_231 : decode cX10_worth 231 = .ok (.lstore 6, 2) := by decide +kernel
theorem dX10_worth_233 : decode cX10_worth 233 = .ok (.lload 4, 2) := by decide +kernel
theorem dX10_worth_235 : decode cX10_worth 235 = .ok (.lload 6, 2) := by decide +kernel
theorem dX10_worth_237 : decode cX10_worth 237 = .ok (.invokestatic 227, 3) := by decide +kernel
theorem dX10_worth_240 : decode cX10_worth 240 = .ok (.lstore 20, 2) := by decide +kernel
theorem dX10_worth_242 : decode cX10_worth 242 = .ok (.lload 4, 2) := by decide +kernel
theorem dX10_worth_244 : decode cX10_worth 244 = .ok (.lload 20, 2) := by decide +kernel
theorem dX10_worth_246 : decode cX10_worth 246 = .ok (.ldiv, 1) := by decide +kernel
theorem dX10_worth_247 : decode cX10_worth 247 = .ok (.lstore 4, 2) := by decide +kernel
theorem dX10_worth_249 : decode cX10_worth 249 = .ok (.lload 6, 2) := by decide +kernel
theorem dX10_worth_251 : decode cX10_worth 251 = .ok (.lload 20, 2) := by decide +kernel
theorem dX10_worth_253 : decode cX10_worth 253 = .ok (.ldiv, 1) := by decide +kernel
theorem dX10_worth_254 : decode cX10_worth 254 = .ok (.lstore 6, 2) := by decide +kernel
theorem dX10_worth_256 : decode cX10_worth 256 = .ok (.iinc 11 1, 3) := by decide +kernel
theorem dX10_worth_259 : decode cX10_worth 259 = .ok (.goto (-222), 3) := by decide +kernel
theorem dX10_worth_262 : decode cX10_worth 262 = .ok (.aload_n 0, 1) := by decide +kernel
theorem dX10_worth_263 : decode cX10_worth 263 = .ok (.iload 10, 2) := by decide +kernel
theorem dX10_worth_265 : decode cX10_worth 265 = .ok (.ifCond .eq 10, 3) := by decide +kernel
theorem dX10_worth_268 : decode cX10_worth 268 = .ok (.lload 8, 2) := by decide +kernel
theorem dX10_worth_270 : decode cX10_worth 270 = .ok (.lconst 0, 1) := by decide +kernel
theorem dX10_worth_271 : decode cX10_worth 271 = .ok (.lcmp, 1) := by decide +kernel
theorem dX10_worth_272 : decode cX10_worth 272 = .ok (.ifCond .ne 7, 3) := by decide +kernel
theorem dX10_worth_275 : decode cX10_worth 275 = .ok (.iconst 1, 1) := by decide +kernel
theorem dX10_worth_276 : decode cX10_worth 276 = .ok (.goto 4, 3) := by decide +kernel
theorem dX10_worth_279 : decode cX10_worth 279 = .ok (.iconst 0, 1) := by decide +kernel
theorem dX10_worth_280 : decode cX10_worth 280 = .ok (.invokevirtual 207, 3) := by decide +kernel
theorem dX10_worth_283 : decode cX10_worth 283 = .ok (.ifCond .eq 5, 3) := by decide +kernel
theorem dX10_worth_286 : decode cX10_worth 286 = .ok (.lconst 0, 1) := by decide +kernel
theorem dX10_worth_287 : decode cX10_worth 287 = .ok (.lreturn, 1) := by decide +kernel
theorem dX10_worth_288 : decode cX10_worth 288 = .ok (.lload 6, 2) := by decide +kernel
theorem dX10_worth_290 : decode cX10_worth 290 = .ok (.lload 8, 2) := by decide +kernel
theorem dX10_worth_292 : decode cX10_worth 292 = .ok (.lmul, 1) := by decide +kernel
theorem dX10_worth_293 : decode cX10_worth 293 = .ok (.lstore 6, 2) := by decide +kernel
theorem dX10_worth_295 : decode cX10_worth 295 = .ok (.lload 4, 2) := by decide +kernel
theorem dX10_worth_297 : decode cX10_worth 297 = .ok (.lload 6, 2) := by decide +kernel
theorem dX10_worth_299 : decode cX10_worth 299 = .ok (.invokestatic 227, 3) := by decide +kernel
theorem dX10_worth_302 : decode cX10_worth 302 = .ok (.lstore 11, 2) := by decide +kernel
theorem dX10_worth_304 : decode cX10_worth 304 = .ok (.iload_n 3, 1) := by decide +kernel
theorem dX10_worth_305 : decode cX10_worth 305 = .ok (.ifCond .ne 11, 3) := by decide +kernel
theorem dX10_worth_308 : decode cX10_worth 308 = .ok (.lload 4, 2) := by decide +kernel
theorem dX10_worth_310 : decode cX10_worth 310 = .ok (.lload 11, 2) := by decide +kernel
theorem dX10_worth_312 : decode cX10_worth 312 = .ok (.ldiv, 1) := by decide +kernel
theorem dX10_worth_313 : decode cX10_worth 313 = .ok (.goto 8, 3) := by decide +kernel
theorem dX10_worth_316 : decode cX10_worth 316 = .ok (.lload 6, 2) := by decide +kernel
theorem dX10_worth_318 : decode cX10_worth 318 = .ok (.lload 11, 2) := by decide +kernel
theorem dX10_worth_320 : decode cX10_worth 320 = .ok (.ldiv, 1) := by decide +kernel
theorem dX10_worth_321 : decode cX10_worth 321 = .ok (.lreturn, 1) := by decide +kernel
theorem dX10_wire_0 : decode cX10_wire 0 = .ok (.aload_n 0, 1) := by decide +kernel
theorem dX10_wire_1 : decode cX10_wire 1 = .ok (.iconst 0, 1) := by decide +kernel
theorem dX10_wire_2 : decode cX10_wire 2 = .ok (.putfield 97, 3) := by decide +kernel
theorem dX10_wire_5 : decode cX10_wire 5 = .ok (.iload_n 1, 1) := by decide +kernel
theorem dX10_wire_6 : decode cX10_wire 6 = .ok (.iconst 0, 1) := by decide +kernel
theorem dX10_wire_7 : decode cX10_wire 7 = .ok (.iconst 3, 1) := by decide +kernel
theorem dX10_wire_8 : decode cX10_wire 8 = .ok (.invokestatic 183, 3) := by decide +kernel
theorem dX10_wire_11 : decode cX10_wire 11 = .ok (.ifCond .eq 33, 3) := by decide +kernel
theorem dX10_wire_14 : decode cX10_wire 14 = .ok (.iload_n 2, 1) := by decide +kernel
theorem dX10_wire_15 : decode cX10_wire 15 = .ok (.iconst 0, 1) := by decide +kernel
theorem dX10_wire_16 : decode cX10_wire 16 = .ok (.iconst 3, 1) := by decide +kernel
theorem dX10_wire_17 : decode cX10_wire 17 = .ok (.invokestatic 183, 3) := by decide +kernel
theorem dX10_wire_20 : decode cX10_wire 20 = .ok (.ifCond .eq 24, 3) := by decide +kernel
theorem dX10_wire_23 : decode cX10_wire 23 = .ok (.iload_n 3, 1) := by decide +kernel
theorem dX10_wire_24 : decode cX10_wire 24 = .ok (.iconst 0, 1) := by decide +kernel
theorem dX10_wire_25 : decode cX10_wire 25 = .ok (.sipush 999, 3) := by decide +kernel
theorem dX10_wire_28 : decode cX10_wire 28 = .ok (.invokestatic 183, 3) := by decide +kernel
theorem dX10_wire_31 : decode cX10_wire 31 = .ok (.ifCond .eq 13, 3) := by decide +kernel
theorem dX10_wire_34 : decode cX10_wire 34 = .ok (.iload 4, 2) := by decide +kernel
theorem dX10_wire_36 : decode cX10_wire 36 = .ok (.iconst 0, 1) := by decide +kernel
theorem dX10_wire_37 : decode cX10_wire 37 = .ok (.iconst 3, 1) := by decide +kernel
theorem dX10_wire_38 : decode cX10_wire 38 = .ok (.invokestatic 183, 3) := by decide +kernel
theorem dX10_wire_41 : decode cX10_wire 41 = .ok (.ifCond .ne 5, 3) := by decide +kernel
theorem dX10_wire_44 : decode cX10_wire 44 = .ok (.iconst (-1), 1) := by decide +kernel
theorem dX10_wire_45 : decode cX10_wire 45 = .ok (.ireturn, 1) := by decide +kernel
theorem dX10_wire_46 : decode cX10_wire 46 = .ok (.iconst 0, 1) := by decide +kernel
theorem dX10_wire_47 : decode cX10_wire 47 = .ok (.istore 5, 2) := by decide +kernel
theorem dX10_wire_49 : decode cX10_wire 49 = .ok (.iconst 0, 1) := by decide +kernel
theorem dX10_wire_50 : decode cX10_wire 50 = .ok (.istore 6, 2) := by decide +kernel
theorem dX10_wire_52 : decode cX10_wire 52 = .ok (.iconst 0, 1) := by decide +kernel
theorem dX10_wire_53 : decode cX10_wire 53 = .ok (.istore 7, 2) := by decide +kernel
theorem dX10_wire_55 : decode cX10_wire 55 = .ok (.iconst 0, 1) := by decide +kernel
theorem dX10_wire_56 : decode cX10_wire 56 = .ok (.istore 8, 2) := by decide +kernel
theorem dX10_wire_58 : decode cX10_wire 58 = .ok (.iconst 0, 1) := by decide +kernel
theorem dX10_wire_59 : decode cX10_wire 59 = .ok (.istore 9, 2) := by decide +kernel
theorem dX10_wire_61 : decode cX10_wire 61 = .ok (.iload 9, 2) := by decide +kernel
theorem dX10_wire_63 : decode cX10_wire 63 = .ok (.aload_n 0, 1) := by decide +kernel
theorem dX10_wire_64 : decode cX10_wire 64 = .ok (.getfield 198, 3) := by decide +kernel
theorem dX10_wire_67 : decode cX10_wire 67 = .ok (.if_icmp .ge 137, 3) := by decide +kernel
theorem dX10_wire_70 : decode cX10_wire 70 = .ok (.aload_n 0, 1) := by decide +kernel
theorem dX10_wire_71 : decode cX10_wire 71 = .ok (.iload 9, 2) := by decide +kernel
theorem dX10_wire_73 : decode cX10_wire 73 = .ok (.iload_n 3, 1) := by decide +kernel
theorem dX10_wire_74 : decode cX10_wire 74 = .ok (.invokevirtual 218, 3) := by decide +kernel
theorem dX10_wire_77 : decode cX10_wire 77 = .ok (.ifCond .eq 121, 3) := by decide +kernel
theorem dX10_wire_80 : decode cX10_wire 80 = .ok (.aload_n 0, 1) := by decide +kernel
theorem dX10_wire_81 : decode cX10_wire 81 = .ok (.getfield 63, 3) := by decide +kernel
theorem dX10_wire_84 : decode cX10_wire 84 = .ok (.iload 9, 2) := by decide +kernel
theorem dX10_wire_86 : decode cX10_wire 86 = .ok (.iaload, 1) := by decide +kernel
theorem dX10_wire_87 : decode cX10_wire 87 = .ok (.iload_n 3, 1) := by decide +kernel
theorem dX10_wire_88 : decode cX10_wire 88 = .ok (.if_icmp .ne 110, 3) := by decide +kernel
theorem dX10_wire_91 : decode cX10_wire 91 = .ok (.aload_n 0, 1) := by decide +kernel
theorem dX10_wire_92 : decode cX10_wire 92 = .ok (.getfield 36, 3) := by decide +kernel
theorem dX10_wire_95 : decode cX10_wire 95 = .ok (.aload_n 0, 1) := by decide +kernel
theorem dX10_wire_96 : decode cX10_wire 96 = .ok (.getfield 57, 3) := by decide +kernel
theorem dX10_wire_99 : decode cX10_wire 99 = .ok (.iload 9, 2) := by decide +kernel
theorem dX10_wire_101 : decode cX10_wire 101 = .ok (.iaload, 1) := by decide +kernel
theorem dX10_wire_102 : decode cX10_wire 102 = .ok (.iaload, 1) := by decide +kernel
theorem dX10_wire_103 : decode cX10_wire 103 = .ok (.iload_n 1, 1) := by decide +kernel
theorem dX10_wire_104 : decode cX10_wire 104 = .ok (.if_icmp .ne 94, 3) := by decide +kernel
theorem dX10_wire_107 : decode cX10_wire 107 = .ok (.aload_n 0, 1) := by decide +kernel
theorem dX10_wire_108 : decode cX10_wire 108 = .ok (.getfield 30, 3) := by decide +kernel
theorem dX10_wire_111 : decode cX10_wire 111 = .ok (.aload_n 0, 1) := by decide +kernel
theorem dX10_wire_112 : decode cX10_wire 112 = .ok (.getfield 57, 3) := by decide +kernel
theorem dX10_wire_115 : decode cX10_wire 115 = .ok (.iload 9, 2) := by decide +kernel
theorem dX10_wire_117 : decode cX10_wire 117 = .ok (.iaload, 1) := by decide +kernel
theorem dX10_wire_118 : decode cX10_wire 118 = .ok (.iaload, 1) := by decide +kernel
theorem dX10_wire_119 : decode cX10_wire 119 = .ok (.iload_n 2, 1) := by decide +kernel
theorem dX10_wire_120 : decode cX10_wire 120 = .ok (.if_icmp .eq 6, 3) := by decide +kernel
theorem dX10_wire_123 : decode cX10_wire 123 = .ok (.goto 75, 3) := by decide +kernel
theorem dX10_wire_126 : decode cX10_wire 126 = .ok (.iload 5, 2) := by decide +kernel
theorem dX10_wire_128 : decode cX10_wire 128 = .ok (.ifCond .eq 15, 3) := by decide +kernel
theorem dX10_wire_131 : decode cX10_wire 131 = .ok (.aload_n 0, 1) := by decide +kernel
theorem dX10_wire_132 : decode cX10_wire 132 = .ok (.getfield 69, 3) := by decide +kernel
theorem dX10_wire_135 : decode cX10_wire 135 = .ok (.iload 9, 2) := by decide +kernel
theorem dX10_wire_137 : decode cX10_wire 137 = .ok (.iaload, 1) := by decide +kernel
theorem dX10_wire_138 : decode cX10_wire 138 = .ok (.iload 7, 2) := by decide +kernel
theorem dX10_wire_140 : decode cX10_wire 140 = .ok (.if_icmp .ge 13, 3) := by decide +kernel
theorem dX10_wire_143 : decode cX10_wire 143 = .ok (.aload_n 0, 1) := by decide +kernel
theorem dX10_wire_144 : decode cX10_wire 144 = .ok (.getfield 69, 3) := by decide +kernel
theorem dX10_wire_147 : decode cX10_wire 147 = .ok (.iload 9, 2) := by decide +kernel
theorem dX10_wire_149 : decode cX10_wire 149 = .ok (.iaload, 1) := by decide +kernel
theorem dX10_wire_150 : decode cX10_wire 150 = .ok (.goto 5, 3) := by decide +kernel
theorem dX10_wire_153 : decode cX10_wire 153 = .ok (.iload 7, 2) := by decide +kernel
theorem dX10_wire_155 : decode cX10_wire 155 = .ok (.istore 7, 2) := by decide +kernel
theorem dX10_wire_157 : decode cX10_wire 157 = .ok (.aload_n 0, 1) := by decide +kernel
theorem dX10_wire_158 : decode cX10_wire 158 = .ok (.getfield 69, 3) := by decide +kernel
theorem dX10_wire_161 : decode cX10_wire 161 = .ok (.iload 9, 2) := by decide +kernel
theorem dX10_wire_163 : decode cX10_wire 163 = .ok (.iaload, 1) := by decide +kernel
theorem dX10_wire_164 : decode cX10_wire 164 = .ok (.iload 8, 2) := by decide +kernel
theorem dX10_wire_166 : decode cX10_wire 166 = .ok (.if_icmp .le 13, 3) := by decide +kernel
theorem dX10_wire_169 : decode cX10_wire 169 = .ok (.aload_n 0, 1) := by decide +kernel
theorem dX10_wire_170 : decode cX10_wire 170 = .ok (.getfield 69, 3) := by decide +kernel
theorem dX10_wire_173 : decode cX10_wire 173 = .ok (.iload 9, 2) := by decide +kernel
theorem dX10_wire_175 : decode cX10_wire 175 = .ok (.iaload, 1) := by decide +kernel
theorem dX10_wire_176 : decode cX10_wire 176 = .ok (.goto 5, 3) := by decide +kernel
theorem dX10_wire_179 : decode cX10_wire 179 = .ok (.iload 8, 2) := by decide +kernel
theorem dX10_wire_181 : decode cX10_wire 181 = .ok (.istore 8, 2) := by decide +kernel
theorem dX10_wire_183 : decode cX10_wire 183 = .ok (.iinc 5 1, 3) := by decide +kernel
theorem dX10_wire_186 : decode cX10_wire 186 = .ok (.iload 6, 2) := by decide +kernel
theorem dX10_wire_188 : decode cX10_wire 188 = .ok (.aload_n 0, 1) := by decide +kernel
theorem dX10_wire_189 : decode cX10_wire 189 = .ok (.getfield 66, 3) := by decide +kernel
theorem dX10_wire_192 : decode cX10_wire 192 = .ok (.iload 9, 2) := by decide +kernel
theorem dX10_wire_194 : decode cX10_wire 194 = .ok (.iaload, 1) := by decide +kernel
theorem dX10_wire_195 : decode cX10_wire 195 = .ok (.iadd, 1) := by decide +kernel
theorem dX10_wire_196 : decode cX10_wire 196 = .ok (.istore 6, 2) := by decide +kernel
theorem dX10_wire_198 : decode cX10_wire 198 = .ok (.iinc 9 1, 3) := by decide +kernel
theorem dX10_wire_201 : decode cX10_wire 201 = .ok (.goto (-140), 3) := by decide +kernel
theorem dX10_wire_204 : decode cX10_wire 204 = .ok (.iload 4, 2) := by decide +kernel
theorem dX10_wire_206 : decode cX10_wire 206 = .ok (.ifCond .ne 8, 3) := by decide +kernel
theorem dX10_wire_209 : decode cX10_wire 209 = .ok (.iload 5, 2) := by decide +kernel
theorem dX10_wire_211 : decode cX10_wire 211 = .ok (.goto 27, 3) := by decide +kernel
theorem dX10_wire_214 : decode cX10_wire 214 = .ok (.iload 4, 2) := by decide +kernel
theorem dX10_wire_216 : decode cX10_wire 216 = .ok (.iconst 1, 1) := by decide +kernel
theorem dX10_wire_217 : decode cX10_wire 217 = .ok (.if_icmp .ne 8, 3) := by decide +kernel
theorem dX10_wire_220 : decode cX10_wire 220 = .ok (.iload 6, 2) := by decide +kernel
theorem dX10_wire_222 : decode cX10_wire 222 = .ok (.goto 16, 3) := by decide +kernel
theorem dX10_wire_225 : decode cX10_wire 225 = .ok (.iload 4, 2) := by decide +kernel
theorem dX10_wire_227 : decode cX10_wire 227 = .ok (.iconst 2, 1) := by decide +kernel
theorem dX10_wire_228 : decode cX10_wire 228 = .ok (.if_icmp .ne 8, 3) := by decide +kernel
theorem dX10_wire_231 : decode cX10_wire 231 = .ok (.iload 7, 2) := by decide +kernel
theorem dX10_wire_233 : decode cX10_wire 233 = .ok (.goto 5, 3) := by decide +kernel
theorem dX10_wire_236 : decode cX10_wire 236 = .ok (.iload 8, 2) := by decide +kernel
theorem dX10_wire_238 : decode cX10_wire 238 = .ok (.ireturn, 1) := by decide +kernel
theorem dX10_cars_0 : decode cX10_cars 0 = .ok (.aload_n 0, 1) := by decide +kernel
theorem dX10_cars_1 : decode cX10_cars 1 = .ok (.iconst 0, 1) := by decide +kernel
theorem dX10_cars_2 : decode cX10_cars 2 = .ok (.putfield 97, 3) := by decide +kernel
theorem dX10_cars_5 : decode cX10_cars 5 = .ok (.aload_n 0, 1) := by decide +kernel
theorem dX10_cars_6 : decode cX10_cars 6 = .ok (.invokevirtual 148, 3) := by decide +kernel
theorem dX10_cars_9 : decode cX10_cars 9 = .ok (.aload_n 0, 1) := by decide +kernel
theorem dX10_cars_10 : decode cX10_cars 10 = .ok (.getfield 108, 3) := by decide +kernel
theorem dX10_cars_13 : decode cX10_cars 13 = .ok (.bipush 16, 2) := by decide +kernel
theorem dX10_cars_15 : decode cX10_cars 15 = .ok (.if_icmp .ne 14, 3) := by decide +kernel
theorem dX10_cars_18 : decode cX10_cars 18 = .ok (.iload_n 1, 1) := by decide +kernel
theorem dX10_cars_19 : decode cX10_cars 19 = .ok (.iconst 1, 1) := by decide +kernel
theorem dX10_cars_20 : decode cX10_cars 20 = .ok (.if_icmp .lt 9, 3) := by decide +kernel
theorem dX10_cars_23 : decode cX10_cars 23 = .ok (.iload_n 1, 1) := by decide +kernel
theorem dX10_cars_24 : decode cX10_cars 24 = .ok (.bipush 40, 2) := by decide +kernel
theorem dX10_cars_26 : decode cX10_cars 26 = .ok (.if_icmp .le 5, 3) := by decide +kernel
theorem dX10_cars_29 : decode cX10_cars 29 = .ok (.iconst (-1), 1) := by decide +kernel
theorem dX10_cars_30 : decode cX10_cars 30 = .ok (.ireturn, 1) := by decide +kernel
theorem dX10_cars_31 : decode cX10_cars 31 = .ok (.iconst 0, 1) := by decide +kernel
theorem dX10_cars_32 : decode cX10_cars 32 = .ok (.istore_n 2, 1) := by decide +kernel
theorem dX10_cars_33 : decode cX10_cars 33 = .ok (.iload_n 2, 1) := by decide +kernel
theorem dX10_cars_34 : decode cX10_cars 34 = .ok (.iconst 4, 1) := by decide +kernel
theorem dX10_cars_35 : decode cX10_cars 35 = .ok (.if_icmp .ge 146, 3) := by decide +kernel
theorem dX10_cars_38 : decode cX10_cars 38 = .ok (.aload_n 0, 1) := by decide +kernel
theorem dX10_cars_39 : decode cX10_cars 39 = .ok (.getfield 7, 3) := by decide +kernel
theorem dX10_cars_42 : decode cX10_cars 42 = .ok (.iconst 4, 1) := by decide +kernel
theorem dX10_cars_43 : decode cX10_cars 43 = .ok (.iload_n 2, 1) := by decide +kernel
theorem dX10_cars_44 : decode cX10_cars 44 = .ok (.imul, 1) := by decide +kernel
theorem dX10_cars_45 : decode cX10_cars 45 = .ok (.baload, 1) := by decide +kernel
theorem dX10_cars_46 : decode cX10_cars 46 = .ok (.sipush 255, 3) := by decide +kernel
theorem dX10_cars_49 : decode cX10_cars 49 = .ok (.iand, 1) := by decide +kernel
theorem dX10_cars_50 : decode cX10_cars 50 = .ok (.bipush 8, 2) := by decide +kernel
theorem dX10_cars_52 : decode cX10_cars 52 = .ok (.ishl, 1) := by decide +kernel
theorem dX10_cars_53 : decode cX10_cars 53 = .ok (.aload_n 0, 1) := by decide +kernel
theorem dX10_cars_54 : decode cX10_cars 54 = .ok (.getfield 7, 3) := by decide +kernel
theorem dX10_cars_57 : decode cX10_cars 57 = .ok (.iconst 4, 1) := by decide +kernel
theorem dX10_cars_58 : decode cX10_cars 58 = .ok (.iload_n 2, 1) := by decide +kernel
theorem dX10_cars_59 : decode cX10_cars 59 = .ok (.imul, 1) := by decide +kernel
theorem dX10_cars_60 : decode cX10_cars 60 = .ok (.iconst 1, 1) := by decide +kernel
theorem dX10_cars_61 : decode cX10_cars 61 = .ok (.iadd, 1) := by decide +kernel
theorem dX10_cars_62 : decode cX10_cars 62 = .ok (.baload, 1) := by decide +kernel
theorem dX10_cars_63 : decode cX10_cars 63 = .ok (.sipush 255, 3) := by decide +kernel
theorem dX10_cars_66 : decode cX10_cars 66 = .ok (.iand, 1) := by decide +kernel
theorem dX10_cars_67 : decode cX10_cars 67 = .ok (.ior, 1) := by decide +kernel
theorem dX10_cars_68 : decode cX10_cars 68 = .ok (.istore_n 3, 1) := by decide +kernel
theorem dX10_cars_69 : decode cX10_cars 69 = .ok (.aload_n 0, 1) := by decide +kernel
theorem dX10_cars_70 : decode cX10_cars 70 = .ok (.getfield 7, 3) := by decide +kernel
theorem dX10_cars_73 : decode cX10_cars 73 = .ok (.iconst 4, 1) := by decide +kernel
theorem dX10_cars_74 : decode cX10_cars 74 = .ok (.iload_n 2, 1) := by decide +kernel
theorem dX10_cars_75 : decode cX10_cars 75 = .ok (.imul, 1) := by decide +kernel
theorem dX10_cars_76 : decode cX10_cars 76 = .ok (.iconst 2, 1) := by decide +kernel
theorem dX10_cars_77 : decode cX10_cars 77 = .ok (.iadd, 1) := by decide +kernel
theorem dX10_cars_78 : decode cX10_cars 78 = .ok (.baload, 1) := by decide +kernel
theorem dX10_cars_79 : decode cX10_cars 79 = .ok (.sipush 255, 3) := by decide +kernel
theorem dX10_cars_82 : decode cX10_cars 82 = .ok (.iand, 1) := by decide +kernel
theorem dX10_cars_83 : decode cX10_cars 83 = .ok (.bipush 8, 2) := by decide +kernel
theorem dX10_cars_85 : decode cX10_cars 85 = .ok (.ishl, 1) := by decide +kernel
theorem dX10_cars_86 : decode cX10_cars 86 = .ok (.aload_n 0, 1) := by decide +kernel
theorem dX10_cars_87 : decode cX10_cars 87 = .ok (.getfield 7, 3) := by decide +kernel
theorem dX10_cars_90 : decode cX10_cars 90 = .ok (.iconst 4, 1) := by decide +kernel
theorem dX10_cars_91 : decode cX10_cars 91 = .ok (.iload_n 2, 1) := by decide +kernel
theorem dX10_cars_92 : decode cX10_cars 92 = .ok (.imul, 1) := by decide +kernel
theorem dX10_cars_93 : decode cX10_cars 93 = .ok (.iconst 3, 1) := by decide +kernel
theorem dX10_cars_94 : decode cX10_cars 94 = .ok (.iadd, 1) := by decide +kernel
theorem dX10_cars_95 : decode cX10_cars 95 = .ok (.baload, 1) := by decide +kernel
theorem dX10_cars_96 : decode cX10_cars 96 = .ok (.sipush 255, 3) := by decide +kernel
theorem dX10_cars_99 : decode cX10_cars 99 = .ok (.iand, 1) := by decide +kernel
theorem dX10_cars_100 : decode cX10_cars 100 = .ok (.ior, 1) := by decide +kernel
theorem dX10_cars_101 : decode cX10_cars 101 = .ok (.istore 4, 2) := by decide +kernel
theorem dX10_cars_103 : decode cX10_cars 103 = .ok (.aload_n 0, 1) := by decide +kernel
theorem dX10_cars_104 : decode cX10_cars 104 = .ok (.getfield 91, 3) := by decide +kernel
theorem dX10_cars_107 : decode cX10_cars 107 = .ok (.bipush 41, 2) := by decide +kernel
theorem dX10_cars_109 : decode cX10_cars 109 = .ok (.iload_n 2, 1) := by decide +kernel
theorem dX10_cars_110 : decode cX10_cars 110 = .ok (.imul, 1) := by decide +kernel
theorem dX10_cars_111 : decode cX10_cars 111 = .ok (.iconst 0, 1) := by decide +kernel
theorem dX10_cars_112 : decode cX10_cars 112 = .ok (.iastore, 1) := by decide +kernel
theorem dX10_cars_113 : decode cX10_cars 113 = .ok (.iconst 0, 1) := by decide +kernel
theorem dX10_cars_114 : decode cX10_cars 114 = .ok (.istore 5, 2) := by decide +kernel
theorem dX10_cars_116 : decode cX10_cars 116 = .ok (.iload 5, 2) := by decide +kernel
theorem dX10_cars_118 : decode cX10_cars 118 = .ok (.iload_n 1, 1) := by decide +kernel
theorem dX10_cars_119 : decode cX10_cars 119 = .ok (.if_icmp .ge 56, 3) := by decide +kernel
theorem dX10_cars_122 : decode cX10_cars 122 = .ok (.aload_n 0, 1) := by decide +kernel
theorem dX10_cars_123 : decode cX10_cars 123 = .ok (.getfield 91, 3) := by decide +kernel
theorem dX10_cars_126 : decode cX10_cars 126 = .ok (.bipush 41, 2) := by decide +kernel
theorem dX10_cars_128 : decode cX10_cars 128 = .ok (.iload_n 2, 1) := by decide +kernel
theorem dX10_cars_129 : decode cX10_cars 129 = .ok (.imul, 1) := by decide +kernel
theorem dX10_cars_130 : decode cX10_cars 130 = .ok (.iload 5, 2) := by decide +kernel
theorem dX10_cars_132 : decode cX10_cars 132 = .ok (.iadd, 1) := by decide +kernel
theorem dX10_cars_133 : decode cX10_cars 133 = .ok (.iconst 1, 1) := by decide +kernel
theorem dX10_cars_134 : decode cX10_cars 134 = .ok (.iadd, 1) := by decide +kernel
theorem dX10_cars_135 : decode cX10_cars 135 = .ok (.aload_n 0, 1) := by decide +kernel
theorem dX10_cars_136 : decode cX10_cars 136 = .ok (.getfield 91, 3) := by decide +kernel
theorem dX10_cars_139 : decode cX10_cars 139 = .ok (.bipush 41, 2) := by decide +kernel
theorem dX10_cars_141 : decode cX10_cars 141 = .ok (.iload_n 2, 1) := by decide +kernel
theorem dX10_cars_142 : decode cX10_cars 142 = .ok (.imul, 1) := by decide +kernel
theorem dX10_cars_143 : decode cX10_cars 143 = .ok (.iload 5, 2) := by decide +kernel
theorem dX10_cars_145 : decode cX10_cars 145 = .ok (.iadd, 1) := by decide +kernel
theorem dX10_cars_146 : decode cX10_cars 146 = .ok (.iaload, 1) := by decide +kernel
theorem dX10_cars_147 : decode cX10_cars 147 = .ok (.iload_n 3, 1) := by decide +kernel
theorem dX10_cars_148 : decode cX10_cars 148 = .ok (.iload 5, 2) := by decide +kernel
theorem dX10_cars_150 : decode cX10_cars 150 = .ok (.iload 4, 2) := by decide +kernel
theorem dX10_cars_152 : decode cX10_cars 152 = .ok (.imul, 1) := by decide +kernel
theorem dX10_cars_153 : decode cX10_cars 153 = .ok (.if_icmp .le 13, 3) := by decide +kernel
theorem dX10_cars_156 : decode cX10_cars 156 = .ok (.iload_n 3, 1) := by decide +kernel
theorem dX10_cars_157 : decode cX10_cars 157 = .ok (.iload 5, 2) := by decide +kernel
theorem dX10_cars_159 : decode cX10_cars 159 = .ok (.iload 4, 2) := by decide +kernel
theorem dX10_cars_161 : decode cX10_cars 161 = .ok (.imul, 1) := by decide +kernel
theorem dX10_cars_162 : decode cX10_cars 162 = .ok (.isub, 1) := by decide +kernel
theorem dX10_cars_163 : decode cX10_cars 163 = .ok (.goto 4, 3) := by decide +kernel
theorem dX10_cars_166 : decode cX10_cars 166 = .ok (.iconst 0, 1) := by decide +kernel
theorem dX10_cars_167 : decode cX10_cars 167 = .ok (.iadd, 1) := by decide +kernel
theorem dX10_cars_168 : decode cX10_cars 168 = .ok (.iastore, 1) := by decide +kernel
theorem dX10_cars_169 : decode cX10_cars 169 = .ok (.iinc 5 1, 3) := by decide +kernel
theorem dX10_cars_172 : decode cX10_cars 172 = .ok (.goto (-56), 3) := by decide +kernel
theorem dX10_cars_175 : decode cX10_cars 175 = .ok (.iinc 2 1, 3) := by decide +kernel
theorem dX10_cars_178 : decode cX10_cars 178 = .ok (.goto (-145), 3) := by decide +kernel
theorem dX10_cars_181 : decode cX10_cars 181 = .ok (.iconst (-1), 1) := by decide +kernel
theorem dX10_cars_182 : decode cX10_cars 182 = .ok (.istore_n 2, 1) := by decide +kernel
theorem dX10_cars_183 : decode cX10_cars 183 = .ok (.iload_n 1, 1) := by decide +kernel
theorem dX10_cars_184 : decode cX10_cars 184 = .ok (.istore_n 3, 1) := by decide +kernel
theorem dX10_cars_185 : decode cX10_cars 185 = .ok (.iload_n 3, 1) := by decide +kernel
theorem dX10_cars_186 : decode cX10_cars 186 = .ok (.ifCond .lt 142, 3) := by decide +kernel
theorem dX10_cars_189 : decode cX10_cars 189 = .ok (.iload_n 1, 1) := by decide +kernel
theorem dX10_cars_190 : decode cX10_cars 190 = .ok (.iload_n 3, 1) := by decide +kernel
theorem dX10_cars_191 : decode cX10_cars 191 = .ok (.isub, 1) := by decide +kernel
theorem dX10_cars_192 : decode cX10_cars 192 = .ok (.istore 4, 2) := by decide +kernel
theorem dX10_cars_194 : decode cX10_cars 194 = .ok (.iload 4, 2) := by decide +kernel
theorem dX10_cars_196 : decode cX10_cars 196 = .ok (.ifCond .lt 126, 3) := by decide +kernel
theorem dX10_cars_199 : decode cX10_cars 199 = .ok (.iload_n 1, 1) := by decide +kernel
theorem dX10_cars_200 : decode cX10_cars 200 = .ok (.iload_n 3, 1) := by decide +kernel
theorem dX10_cars_201 : decode cX10_cars 201 = .ok (.isub, 1) := by decide +kernel
theorem dX10_cars_202 : decode cX10_cars 202 = .ok (.iload 4, 2) := by decide +kernel
theorem dX10_cars_204 : decode cX10_cars 204 = .ok (.isub, 1) := by decide +kernel
theorem dX10_cars_205 : decode cX10_cars 205 = .ok (.istore 5, 2) := by decide +kernel
theorem dX10_cars_207 : decode cX10_cars 207 = .ok (.iload 5, 2) := by decide +kernel
theorem dX10_cars_209 : decode cX10_cars 209 = .ok (.ifCond .lt 107, 3) := by decide +kernel
theorem dX10_cars_212 : decode cX10_cars 212 = .ok (.aload_n 0, 1) := by decide +kernel
theorem dX10_cars_213 : decode cX10_cars 213 = .ok (.getfield 91, 3) := by decide +kernel
theorem dX10_cars_216 : decode cX10_cars 216 = .ok (.iload_n 3, 1) := by decide +kernel
theorem dX10_cars_217 : decode cX10_cars 217 = .ok (.iaload, 1) := by decide +kernel
theorem dX10_cars_218 : decode cX10_cars 218 = .ok (.aload_n 0, 1) := by decide +kernel
theorem dX10_cars_219 : decode cX10_cars 219 = .ok (.getfield 91, 3) := by decide +kernel
theorem dX10_cars_222 : decode cX10_cars 222 = .ok (.bipush 41, 2) := by decide +kernel
theorem dX10_cars_224 : decode cX10_cars 224 = .ok (.iload 4, 2) := by decide +kernel
theorem dX10_cars_226 : decode cX10_cars 226 = .ok (.iadd, 1) := by decide +kernel
theorem dX10_cars_227 : decode cX10_cars 227 = .ok (.iaload, 1) := by decide +kernel
theorem dX10_cars_228 : decode cX10_cars 228 = .ok (.iadd, 1) := by decide +kernel
theorem dX10_cars_229 : decode cX10_cars 229 = .ok (.aload_n 0, 1) := by decide +kernel
theorem dX10_cars_230 : decode cX10_cars 230 = .ok (.getfield 91, 3) := by decide +kernel
theorem dX10_cars_233 : decode cX10_cars 233 = .ok (.bipush 82, 2) := by decide +kernel
theorem dX10_cars_235 : decode cX10_cars 235 = .ok (.iload 5, 2) := by decide +kernel
theorem dX10_cars_237 : decode cX10_cars 237 = .ok (.iadd, 1) := by decide +kernel
theorem dX10_cars_238 : decode cX10_cars 238 = .ok (.iaload, 1) := by decide +kernel
theorem dX10_cars_239 : decode cX10_cars 239 = .ok (.iadd, 1) := by decide +kernel
theorem dX10_cars_240 : decode cX10_cars 240 = .ok (.aload_n 0, 1) := by decide +kernel
theorem dX10_cars_241 : decode cX10_cars 241 = .ok (.getfield 91, 3) := by decide +kernel
theorem dX10_cars_244 : decode cX10_cars 244 = .ok (.bipush 123, 2) := by decide +kernel
theorem dX10_cars_246 : decode cX10_cars 246 = .ok (.iload_n 1, 1) := by decide +kernel
theorem dX10_cars_247 : decode cX10_cars 247 = .ok (.iadd, 1) := by decide +kernel
theorem dX10_cars_248 : decode cX10_cars 248 = .ok (.iload_n 3, 1) := by decide +kernel
theorem dX10_cars_249 : decode cX10_cars 249 = .ok (.isub, 1) := by decide +kernel
theorem dX10_cars_250 : decode cX10_cars 250 = .ok (.iload 4, 2) := by decide +kernel
theorem dX10_cars_252 : decode cX10_cars 252 = .ok (.isub, 1) := by decide +kernel
theorem dX10_cars_253 : decode cX10_cars 253 = .ok (.iload 5, 2) := by decide +kernel
theorem dX10_cars_255 : decode cX10_cars 255 = .ok (.isub, 1) := by decide +kernel
theorem dX10_cars_256 : decode cX10_cars 256 = .ok (.iaload, 1) := by decide +kernel
theorem dX10_cars_257 : decode cX10_cars 257 = .ok (.iadd, 1) := by decide +kernel
theorem dX10_cars_258 : decode cX10_cars 258 = .ok (.istore 6, 2) := by decide +kernel
theorem dX10_cars_260 : decode cX10_cars 260 = .ok (.iload 6, 2) := by decide +kernel
theorem dX10_cars_262 : decode cX10_cars 262 = .ok (.iload_n 2, 1) := by decide +kernel
theorem dX10_cars_263 : decode cX10_cars 263 = .ok (.if_icmp .gt 6, 3) := by decide +kernel
theorem dX10_cars_266 : decode cX10_cars 266 = .ok (.goto 44, 3) := by decide +kernel
theorem dX10_cars_269 : decode cX10_cars 269 = .ok (.iload 6, 2) := by decide +kernel
theorem dX10_cars_271 : decode cX10_cars 271 = .ok (.istore_n 2, 1) := by decide +kernel
theorem dX10_cars_272 : decode cX10_cars 272 = .ok (.aload_n 0, 1) := by decide +kernel
theorem dX10_cars_273 : decode cX10_cars 273 = .ok (.getfield 94, 3) := by decide +kernel
theorem dX10_cars_276 : decode cX10_cars 276 = .ok (.iconst 0, 1) := by decide +kernel
theorem dX10_cars_277 : decode cX10_cars 277 = .ok (.iload_n 3, 1) := by decide +kernel
theorem dX10_cars_278 : decode cX10_cars 278 = .ok (.iastore, 1) := by decide +kernel
theorem dX10_cars_279 : decode cX10_cars 279 = .ok (.aload_n 0, 1) := by decide +kernel
theorem dX10_cars_280 : decode cX10_cars 280 = .ok (.getfield 94, 3) := by decide +kernel
theorem dX10_cars_283 : decode cX10_cars 283 = .ok (.iconst 1, 1) := by decide +kernel
theorem dX10_cars_284 : decode cX10_cars 284 = .ok (.iload 4, 2) := by decide +kernel
theorem dX10_cars_286 : decode cX10_cars 286 = .ok (.iastore, 1) := by decide +kernel
theorem dX10_cars_287 : decode cX10_cars 287 = .ok (.aload_n 0, 1) := by decide +kernel
theorem dX10_cars_288 : decode cX10_cars 288 = .ok (.getfield 94, 3) := by decide +kernel
theorem dX10_cars_291 : decode cX10_cars 291 = .ok (.iconst 2, 1) := by decide +kernel
theorem dX10_cars_292 : decode cX10_cars 292 = .ok (.iload 5, 2) := by decide +kernel
theorem dX10_cars_294 : decode cX10_cars 294 = .ok (.iastore, 1) := by decide +kernel
theorem dX10_cars_295 : decode cX10_cars 295 = .ok (.aload_n 0, 1) := by decide +kernel
theorem dX10_cars_296 : decode cX10_cars 296 = .ok (.getfield 94, 3) := by decide +kernel
theorem dX10_cars_299 : decode cX10_cars 299 = .ok (.iconst 3, 1) := by decide +kernel
theorem dX10_cars_300 : decode cX10_cars 300 = .ok (.iload_n 1, 1) := by decide +kernel
theorem dX10_cars_301 : decode cX10_cars 301 = .ok (.iload_n 3, 1) := by decide +kernel
theorem dX10_cars_302 : decode cX10_cars 302 = .ok (.isub, 1) := by decide +kernel
theorem dX10_cars_303 : decode cX10_cars 303 = .ok (.iload 4, 2) := by decide +kernel
theorem dX10_cars_305 : decode cX10_cars 305 = .ok (.isub, 1) := by decide +kernel
theorem dX10_cars_306 : decode cX10_cars 306 = .ok (.iload 5, 2) := by decide +kernel
theorem dX10_cars_308 : decode cX10_cars 308 = .ok (.isub, 1) := by decide +kernel
theorem dX10_cars_309 : decode cX10_cars 309 = .ok (.iastore, 1) := by decide +kernel
theorem dX10_cars_310 : decode cX10_cars 310 = .ok (.iinc 5 (-1), 3) := by decide +kernel
theorem dX10_cars_313 : decode cX10_cars 313 = .ok (.goto (-106), 3) := by decide +kernel
theorem dX10_cars_316 : decode cX10_cars 316 = .ok (.iinc 4 (-1), 3) := by decide +kernel
theorem dX10_cars_319 : decode cX10_cars 319 = .ok (.goto (-125), 3) := by decide +kernel
theorem dX10_cars_322 : decode cX10_cars 322 = .ok (.iinc 3 (-1), 3) := by decide +kernel
theorem dX10_cars_325 : decode cX10_cars 325 = .ok (.goto (-140), 3) := by decide +kernel
theorem dX10_cars_328 : decode cX10_cars 328 = .ok (.aload_n 0, 1) := by decide +kernel
theorem dX10_cars_329 : decode cX10_cars 329 = .ok (.iconst 1, 1) := by decide +kernel
theorem dX10_cars_330 : decode cX10_cars 330 = .ok (.putfield 231, 3) := by decide +kernel
theorem dX10_cars_333 : decode cX10_cars 333 = .ok (.iload_n 2, 1) := by decide +kernel
theorem dX10_cars_334 : decode cX10_cars 334 = .ok (.ireturn, 1) := by decide +kernel
theorem dX10_sent_0 : decode cX10_sent 0 = .ok (.aload_n 0, 1) := by decide +kernel
theorem dX10_sent_1 : decode cX10_sent 1 = .ok (.iconst 0, 1) := by decide +kernel
theorem dX10_sent_2 : decode cX10_sent 2 = .ok (.putfield 97, 3) := by decide +kernel
theorem dX10_sent_5 : decode cX10_sent 5 = .ok (.aload_n 0, 1) := by decide +kernel
theorem dX10_sent_6 : decode cX10_sent 6 = .ok (.getfield 231, 3) := by decide +kernel
theorem dX10_sent_9 : decode cX10_sent 9 = .ok (.ifCond .eq 21, 3) := by decide +kernel
theorem dX10_sent_12 : decode cX10_sent 12 = .ok (.iload_n 1, 1) := by decide +kernel
theorem dX10_sent_13 : decode cX10_sent 13 = .ok (.iconst 0, 1) := by decide +kernel
theorem dX10_sent_14 : decode cX10_sent 14 = .ok (.iconst 3, 1) := by decide +kernel
theorem dX10_sent_15 : decode cX10_sent 15 = .ok (.invokestatic 183, 3) := by decide +kernel
theorem dX10_sent_18 : decode cX10_sent 18 = .ok (.ifCond .eq 12, 3) := by decide +kernel
theorem dX10_sent_21 : decode cX10_sent 21 = .ok (.aload_n 0, 1) := by decide +kernel
theorem dX10_sent_22 : decode cX10_sent 22 = .ok (.getfield 94, 3) := by decide +kernel
theorem dX10_sent_25 : decode cX10_sent 25 = .ok (.iload_n 1, 1) := by decide +kernel
theorem dX10_sent_26 : decode cX10_sent 26 = .ok (.iaload, 1) := by decide +kernel
theorem dX10_sent_27 : decode cX10_sent 27 = .ok (.goto 4, 3) := by decide +kernel
theorem dX10_sent_30 : decode cX10_sent 30 = .ok (.iconst (-1), 1) := by decide +kernel
theorem dX10_sent_31 : decode cX10_sent 31 = .ok (.ireturn, 1) := by decide +kernel
theorem dX10_count_0 : decode cX10_count 0 = .ok (.aload_n 0, 1) := by decide +kernel
theorem dX10_count_1 : decode cX10_count 1 = .ok (.iconst 0, 1) := by decide +kernel
theorem dX10_count_2 : decode cX10_count 2 = .ok (.putfield 97, 3) := by decide +kernel
theorem dX10_count_5 : decode cX10_count 5 = .ok (.iload_n 1, 1) := by decide +kernel
theorem dX10_count_6 : decode cX10_count 6 = .ok (.tableswitch 59 0 4 #[34, 39, 44, 49, 54], 34) := by decide +kernel
theorem dX10_count_40 : decode cX10_count 40 = .ok (.aload_n 0, 1) := by decide +kernel
theorem dX10_count_41 : decode cX10_count 41 = .ok (.getfield 192, 3) := by decide +kernel
theorem dX10_count_44 : decode cX10_count 44 = .ok (.ireturn, 1) := by decide +kernel
theorem dX10_count_45 : decode cX10_count 45 = .ok (.aload_n 0, 1) := by decide +kernel
theorem dX10_count_46 : decode cX10_count 46 = .ok (.getfield 180, 3) := by decide +kernel
theorem dX10_count_49 : decode cX10_count 49 = .ok (.ireturn, 1) := by decide +kernel
theorem dX10_count_50 : decode cX10_count 50 = .ok (.aload_n 0, 1) := by decide +kernel
theorem dX10_count_51 : decode cX10_count 51 = .ok (.getfield 198, 3) := by decide +kernel
theorem dX10_count_54 : decode cX10_count 54 = .ok (.ireturn, 1) := by decide +kernel
theorem dX10_count_55 : decode cX10_count 55 = .ok (.aload_n 0, 1) := by decide +kernel
theorem dX10_count_56 : decode cX10_count 56 = .ok (.getfield 158, 3) := by decide +kernel
theorem dX10_count_59 : decode cX10_count 59 = .ok (.ireturn, 1) := by decide +kernel
theorem dX10_count_60 : decode cX10_count 60 = .ok (.aload_n 0, 1) := by decide +kernel
theorem dX10_count_61 : decode cX10_count 61 = .ok (.getfield 101, 3) := by decide +kernel
theorem dX10_count_64 : decode cX10_count 64 = .ok (.ireturn, 1) := by decide +kernel
theorem dX10_count_65 : decode cX10_count 65 = .ok (.iconst (-1), 1) := by decide +kernel
theorem dX10_count_66 : decode cX10_count 66 = .ok (.ireturn, 1) := by decide +kernel
end
section
theorem dL_about_0 : decode cL_about 0 = .ok (.aload_n 3, 1) := by decide +kernel
theorem dL_about_1 : decode cL_about 1 = .ok (.iconst 0, 1) := by decide +kernel
theorem dL_about_2 : decode cL_about 2 = .ok (.aload_n 0, 1) := by decide +kernel
theorem dL_about_3 : decode cL_about 3 = .ok (.iload_n 1, 1) := by decide +kernel
theorem dL_about_4 : decode cL_about 4 = .ok (.iload_n 2, 1) := by decide +kernel
theorem dL_about_5 : decode cL_about 5 = .ok (.invokevirtual 7, 3) := by decide +kernel
theorem dL_about_8 : decode cL_about 8 = .ok (.i2l, 1) := by decide +kernel
theorem dL_about_9 : decode cL_about 9 = .ok (.lastore, 1) := by decide +kernel
theorem dL_about_10 : decode cL_about 10 = .ok (.goto 7, 3) := by decide +kernel
theorem dL_about_13 : decode cL_about 13 = .ok (.astore 4, 2) := by decide +kernel
theorem dL_about_15 : decode cL_about 15 = .ok (.iconst 1, 1) := by decide +kernel
theorem dL_about_16 : decode cL_about 16 = .ok (.ireturn, 1) := by decide +kernel
theorem dL_about_17 : decode cL_about 17 = .ok (.iconst 0, 1) := by decide +kernel
theorem dL_about_18 : decode cL_about 18 = .ok (.ireturn, 1) := by decide +kernel
theorem dL_sale_0 : decode cL_sale 0 = .ok (.aload_n 3, 1) := by decide +kernel
theorem dL_sale_1 : decode cL_sale 1 = .ok (.iconst 0, 1) := by decide +kernel
theorem dL_sale_2 : decode cL_sale 2 = .ok (.aload_n 0, 1) := by decide +kernel
theorem dL_sale_3 : decode cL_sale 3 = .ok (.iload_n 1, 1) := by decide +kernel
theorem dL_sale_4 : decode cL_sale 4 = .ok (.iload_n 2, 1) := by decide +kernel
theorem dL_sale_5 : decode cL_sale 5 = .ok (.invokevirtual 15, 3) := by decide +kernel
theorem dL_sale_8 : decode cL_sale 8 = .ok (.i2l, 1) := by decide +kernel
theorem dL_sale_9 : decode cL_sale 9 = .ok (.lastore, 1) := by decide +kernel
theorem dL_sale_10 : decode cL_sale 10 = .ok (.goto 7, 3) := by decide +kernel
theorem dL_sale_13 : decode cL_sale 13 = .ok (.astore 4, 2) := by decide +kernel
theorem dL_sale_15 : decode cL_sale 15 = .ok (.iconst 1, 1) := by decide +kernel
theorem dL_sale_16 : decode cL_sale 16 = .ok (.ireturn, 1) := by decide +kernel
theorem dL_sale_17 : decode cL_sale 17 = .ok (.iconst 0, 1) := by decide +kernel
theorem dL_sale_18 : decode cL_sale 18 = .ok (.ireturn, 1) := by decide +kernel
theorem dL_worth_0 : decode cL_worth 0 = .ok (.aload 4, 2) := by decide +kernel
theorem dL_worth_2 : decode cL_worth 2 = .ok (.iconst 0, 1) := by decide +kernel
theorem dL_worth_3 : decode cL_worth 3 = .ok (.aload_n 0, 1) := by decide +kernel
theorem dL_worth_4 : decode cL_worth 4 = .ok (.iload_n 1, 1) := by decide +kernel
theorem dL_worth_5 : decode cL_worth 5 = .ok (.iload_n 2, 1) := by decide +kernel
theorem dL_worth_6 : decode cL_worth 6 = .ok (.iload_n 3, 1) := by decide +kernel
theorem dL_worth_7 : decode cL_worth 7 = .ok (.invokevirtual 18, 3) := by decide +kernel
theorem dL_worth_10 : decode cL_worth 10 = .ok (.lastore, 1) := by decide +kernel
theorem dL_worth_11 : decode cL_worth 11 = .ok (.goto 7, 3) := by decide +kernel
theorem dL_worth_14 : decode cL_worth 14 = .ok (.astore 5, 2) := by decide +kernel
theorem dL_worth_16 : decode cL_worth 16 = .ok (.iconst 1, 1) := by decide +kernel
theorem dL_worth_17 : decode cL_worth 17 = .ok (.ireturn, 1) := by decide +kernel
theorem dL_worth_18 : decode cL_worth 18 = .ok (.iconst 0, 1) := by decide +kernel
theorem dL_worth_19 : decode cL_worth 19 = .ok (.ireturn, 1) := by decide +kernel
theorem dL_law_0 : decode cL_law 0 = .ok (.new 8, 3) := by decide +kernel
theorem dL_law_3 : decode cL_law 3 = .ok (.dup, 1) := by decide +kernel
theorem dL_law_4 : decode cL_law 4 = .ok (.invokespecial 22, 3) := by decide +kernel
theorem dL_law_7 : decode cL_law 7 = .ok (.astore_n 1, 1) := by decide +kernel
theorem dL_law_8 : decode cL_law 8 = .ok (.new 23, 3) := by decide +kernel
theorem dL_law_11 : decode cL_law 11 = .ok (.dup, 1) := by decide +kernel
theorem dL_law_12 : decode cL_law 12 = .ok (.invokespecial 25, 3) := by decide +kernel
theorem dL_law_15 : decode cL_law 15 = .ok (.astore_n 2, 1) := by decide +kernel
theorem dL_law_16 : decode cL_law 16 = .ok (.iconst 1, 1) := by decide +kernel
theorem dL_law_17 : decode cL_law 17 = .ok (.newarray .long, 2) := by decide +kernel
theorem dL_law_19 : decode cL_law 19 = .ok (.astore_n 3, 1) := by decide +kernel
theorem dL_law_20 : decode cL_law 20 = .ok (.iconst 0, 1) := by decide +kernel
theorem dL_law_21 : decode cL_law 21 = .ok (.istore 4, 2) := by decide +kernel
theorem dL_law_23 : decode cL_law 23 = .ok (.iload 4, 2) := by decide +kernel
theorem dL_law_25 : decode cL_law 25 = .ok (.aload_n 0, 1) := by decide +kernel
theorem dL_law_26 : decode cL_law 26 = .ok (.arraylength, 1) := by decide +kernel
theorem dL_law_27 : decode cL_law 27 = .ok (.bipush 6, 2) := by decide +kernel
theorem dL_law_29 : decode cL_law 29 = .ok (.isub, 1) := by decide +kernel
theorem dL_law_30 : decode cL_law 30 = .ok (.if_icmp .gt 973, 3) := by decide +kernel
theorem dL_law_33 : decode cL_law 33 = .ok (.aload_n 0, 1) := by decide +kernel
theorem dL_law_34 : decode cL_law 34 = .ok (.iload 4, 2) := by decide +kernel
theorem dL_law_36 : decode cL_law 36 = .ok (.iaload, 1) := by decide +kernel
theorem dL_law_37 : decode cL_law 37 = .ok (.bipush 31, 2) := by decide +kernel
theorem dL_law_39 : decode cL_law 39 = .ok (.iand, 1) := by decide +kernel
theorem dL_law_40 : decode cL_law 40 = .ok (.tableswitch 957 0 20 #[100, 173, 198, 211, 224, 297, 334, 407, 432, 457, 470, 538, 606, 631, 680, 705, 742, 821, 882, 907, 932], 100) := by decide +kernel
theorem dL_law_140 : decode cL_law 140 = .ok (.aload_n 1, 1) := by decide +kernel
theorem dL_law_141 : decode cL_law 141 = .ok (.aload_n 0, 1) := by decide +kernel
theorem dL_law_142 : decode cL_law 142 = .ok (.iload 4, 2) := by decide +kernel
theorem dL_law_144 : decode cL_law 144 = .ok (.iconst 1, 1) := by decide +kernel
theorem dL_law_145 : decode cL_law 145 = .ok (.iadd, 1) := by decide +kernel
theorem dL_law_146 : decode cL_law 146 = .ok (.iaload, 1) := by decide +kernel
theorem dL_law_147 : decode cL_law 147 = .ok (.aload_n 0, 1) := by decide +kernel
theorem dL_law_148 : decode cL_law 148 = .ok (.iload 4, 2) := by decide +kernel
theorem dL_law_150 : decode cL_law 150 = .ok (.iconst 2, 1) := by decide +kernel
theorem dL_law_151 : decode cL_law 151 = .ok (.iadd, 1) := by decide +kernel
theorem dL_law_152 : decode cL_law 152 = .ok (.iaload, 1) := by decide +kernel
theorem dL_law_153 : decode cL_law 153 = .ok (.aload_n 0, 1) := by decide +kernel
theorem dL_law_154 : decode cL_law 154 = .ok (.iload 4, 2) := by decide +kernel
theorem dL_law_156 : decode cL_law 156 = .ok (.iconst 3, 1) := by decide +kernel
theorem dL_law_157 : decode cL_law 157 = .ok (.iadd, 1) := by decide +kernel
theorem dL_law_158 : decode cL_law 158 = .ok (.iaload, 1) := by decide +kernel
theorem dL_law_159 : decode cL_law 159 = .ok (.aload_n 0, 1) := by decide +kernel
theorem dL_law_160 : decode cL_law 160 = .ok (.iload 4, 2) := by decide +kernel
theorem dL_law_162 : decode cL_law 162 = .ok (.iconst 4, 1) := by decide +kernel
theorem dL_law_163 : decode cL_law 163 = .ok (.iadd, 1) := by decide +kernel
theorem dL_law_164 : decode cL_law 164 = .ok (.iaload, 1) := by decide +kernel
theorem dL_law_165 : decode cL_law 165 = .ok (.aload_n 0, 1) := by decide +kernel
theorem dL_law_166 : decode cL_law 166 = .ok (.iload 4, 2) := by decide +kernel
theorem dL_law_168 : decode cL_law 168 = .ok (.iconst 5, 1) := by decide +kernel
theorem dL_law_169 : decode cL_law 169 = .ok (.iadd, 1) := by decide +kernel
theorem dL_law_170 : decode cL_law 170 = .ok (.iaload, 1) := by decide +kernel
theorem dL_law_171 : decode cL_law 171 = .ok (.invokevirtual 26, 3) := by decide +kernel
theorem dL_law_174 : decode cL_law 174 = .ok (.aload_n 2, 1) := by decide +kernel
theorem dL_law_175 : decode cL_law 175 = .ok (.aload_n 0, 1) := by decide +kernel
theorem dL_law_176 : decode cL_law 176 = .ok (.iload 4, 2) := by decide +kernel
theorem dL_law_178 : decode cL_law 178 = .ok (.iconst 1, 1) := by decide +kernel
theorem dL_law_179 : decode cL_law 179 = .ok (.iadd, 1) := by decide +kernel
theorem dL_law_180 : decode cL_law 180 = .ok (.iaload, 1) := by decide +kernel
theorem dL_law_181 : decode cL_law 181 = .ok (.aload_n 0, 1) := by decide +kernel
theorem dL_law_182 : decode cL_law 182 = .ok (.iload 4, 2) := by decide +kernel
theorem dL_law_184 : decode cL_law 184 = .ok (.iconst 2, 1) := by decide +kernel
theorem dL_law_185 : decode cL_law 185 = .ok (.iadd, 1) := by decide +kernel
theorem dL_law_186 : decode cL_law 186 = .ok (.iaload, 1) := by decide +kernel
theorem dL_law_187 : decode cL_law 187 = .ok (.aload_n 0, 1) := by decide +kernel
theorem dL_law_188 : decode cL_law 188 = .ok (.iload 4, 2) := by decide +kernel
theorem dL_law_190 : decode cL_law 190 = .ok (.iconst 3, 1) := by decide +kernel
theorem dL_law_191 : decode cL_law 191 = .ok (.iadd, 1) := by decide +kernel
theorem dL_law_192 : decode cL_law 192 = .ok (.iaload, 1) := by decide +kernel
theorem dL_law_193 : decode cL_law 193 = .ok (.aload_n 0, 1) := by decide +kernel
theorem dL_law_194 : decode cL_law 194 = .ok (.iload 4, 2) := by decide +kernel
theorem dL_law_196 : decode cL_law 196 = .ok (.iconst 4, 1) := by decide +kernel
theorem dL_law_197 : decode cL_law 197 = .ok (.iadd, 1) := by decide +kernel
theorem dL_law_198 : decode cL_law 198 = .ok (.iaload, 1) := by decide +kernel
theorem dL_law_199 : decode cL_law 199 = .ok (.aload_n 0, 1) := by decide +kernel
theorem dL_law_200 : decode cL_law 200 = .ok (.iload 4, 2) := by decide +kernel
theorem dL_law_202 : decode cL_law 202 = .ok (.iconst 5, 1) := by decide +kernel
theorem dL_law_203 : decode cL_law 203 = .ok (.iadd, 1) := by decide +kernel
theorem dL_law_204 : decode cL_law 204 = .ok (.iaload, 1) := by decide +kernel
theorem dL_law_205 : decode cL_law 205 = .ok (.invokevirtual 30, 3) := by decide +kernel
theorem dL_law_208 : decode cL_law 208 = .ok (.if_icmp .eq 789, 3) := by decide +kernel
theorem dL_law_211 : decode cL_law 211 = .ok (.iconst 0, 1) := by decide +kernel
theorem dL_law_212 : decode cL_law 212 = .ok (.ireturn, 1) := by decide +kernel
theorem dL_law_213 : decode cL_law 213 = .ok (.aload_n 1, 1) := by decide +kernel
theorem dL_law_214 : decode cL_law 214 = .ok (.aload_n 0, 1) := by decide +kernel
theorem dL_law_215 : decode cL_law 215 = .ok (.iload 4, 2) := by decide +kernel
theorem dL_law_217 : decode cL_law 217 = .ok (.iconst 1, 1) := by decide +kernel
theorem dL_law_218 : decode cL_law 218 = .ok (.iadd, 1) := by decide +kernel
theorem dL_law_219 : decode cL_law 219 = .ok (.iaload, 1) := by decide +kernel
theorem dL_law_220 : decode cL_law 220 = .ok (.invokevirtual 31, 3) := by decide +kernel
theorem dL_law_223 : decode cL_law 223 = .ok (.aload_n 2, 1) := by decide +kernel
theorem dL_law_224 : decode cL_law 224 = .ok (.aload_n 0, 1) := by decide +kernel
theorem dL_law_225 : decode cL_law 225 = .ok (.iload 4, 2) := by decide +kernel
theorem dL_law_227 : decode cL_law 227 = .ok (.iconst 1, 1) := by decide +kernel
theorem dL_law_228 : decode cL_law 228 = .ok (.iadd, 1) := by decide +kernel
theorem dL_law_229 : decode cL_law 229 = .ok (.iaload, 1) := by decide +kernel
theorem dL_law_230 : decode cL_law 230 = .ok (.invokevirtual 35, 3) := by decide +kernel
theorem dL_law_233 : decode cL_law 233 = .ok (.if_icmp .eq 764, 3) := by decide +kernel
theorem dL_law_236 : decode cL_law 236 = .ok (.iconst 0, 1) := by decide +kernel
theorem dL_law_237 : decode cL_law 237 = .ok (.ireturn, 1) := by decide +kernel
theorem dL_law_238 : decode cL_law 238 = .ok (.aload_n 1, 1) := by decide +kernel
theorem dL_law_239 : decode cL_law 239 = .ok (.invokevirtual 36, 3) := by decide +kernel
theorem dL_law_242 : decode cL_law 242 = .ok (.aload_n 2, 1) := by decide +kernel
theorem dL_law_243 : decode cL_law 243 = .ok (.invokevirtual 40, 3) := by decide +kernel
theorem dL_law_246 : decode cL_law 246 = .ok (.if_icmp .eq 751, 3) := by decide +kernel
theorem dL_law_249 : decode cL_law 249 = .ok (.iconst 0, 1) := by decide +kernel
theorem dL_law_250 : decode cL_law 250 = .ok (.ireturn, 1) := by decide +kernel
theorem dL_law_251 : decode cL_law 251 = .ok (.aload_n 1, 1) := by decide +kernel
theorem dL_law_252 : decode cL_law 252 = .ok (.invokevirtual 41, 3) := by decide +kernel
theorem dL_law_255 : decode cL_law 255 = .ok (.aload_n 2, 1) := by decide +kernel
theorem dL_law_256 : decode cL_law 256 = .ok (.invokevirtual 44, 3) := by decide +kernel
theorem dL_law_259 : decode cL_law 259 = .ok (.if_icmp .eq 738, 3) := by decide +kernel
theorem dL_law_262 : decode cL_law 262 = .ok (.iconst 0, 1) := by decide +kernel
theorem dL_law_263 : decode cL_law 263 = .ok (.ireturn, 1) := by decide +kernel
theorem dL_law_264 : decode cL_law 264 = .ok (.aload_n 1, 1) := by decide +kernel
theorem dL_law_265 : decode cL_law 265 = .ok (.aload_n 0, 1) := by decide +kernel
theorem dL_law_266 : decode cL_law 266 = .ok (.iload 4, 2) := by decide +kernel
theorem dL_law_268 : decode cL_law 268 = .ok (.iconst 1, 1) := by decide +kernel
theorem dL_law_269 : decode cL_law 269 = .ok (.iadd, 1) := by decide +kernel
theorem dL_law_270 : decode cL_law 270 = .ok (.iaload, 1) := by decide +kernel
theorem dL_law_271 : decode cL_law 271 = .ok (.aload_n 0, 1) := by decide +kernel
theorem dL_law_272 : decode cL_law 272 = .ok (.iload 4, 2) := by decide +kernel
theorem dL_law_274 : decode cL_law 274 = .ok (.iconst 2, 1) := by decide +kernel
theorem dL_law_275 : decode cL_law 275 = .ok (.iadd, 1) := by decide +kernel
theorem dL_law_276 : decode cL_law 276 = .ok (.iaload, 1) := by decide +kernel
theorem dL_law_277 : decode cL_law 277 = .ok (.aload_n 0, 1) := by decide +kernel
theorem dL_law_278 : decode cL_law 278 = .ok (.iload 4, 2) := by decide +kernel
theorem dL_law_280 : decode cL_law 280 = .ok (.iconst 3, 1) := by decide +kernel
theorem dL_law_281 : decode cL_law 281 = .ok (.iadd, 1) := by decide +kernel
theorem dL_law_282 : decode cL_law 282 = .ok (.iaload, 1) := by decide +kernel
theorem dL_law_283 : decode cL_law 283 = .ok (.aload_n 0, 1) := by decide +kernel
theorem dL_law_284 : decode cL_law 284 = .ok (.iload 4, 2) := by decide +kernel
theorem dL_law_286 : decode cL_law 286 = .ok (.iconst 4, 1) := by decide +kernel
theorem dL_law_287 : decode cL_law 287 = .ok (.iadd, 1) := by decide +kernel
theorem dL_law_288 : decode cL_law 288 = .ok (.iaload, 1) := by decide +kernel
theorem dL_law_289 : decode cL_law 289 = .ok (.aload_n 0, 1) := by decide +kernel
theorem dL_law_290 : decode cL_law 290 = .ok (.iload 4, 2) := by decide +kernel
theorem dL_law_292 : decode cL_law 292 = .ok (.iconst 5, 1) := by decide +kernel
theorem dL_law_293 : decode cL_law 293 = .ok (.iadd, 1) := by decide +kernel
theorem dL_law_294 : decode cL_law 294 = .ok (.iaload, 1) := by decide +kernel
theorem dL_law_295 : decode cL_law 295 = .ok (.invokevirtual 45, 3) := by decide +kernel
theorem dL_law_298 : decode cL_law 298 = .ok (.aload_n 2, 1) := by decide +kernel
theorem dL_law_299 : decode cL_law 299 = .ok (.aload_n 0, 1) := by decide +kernel
theorem dL_law_300 : decode cL_law 300 = .ok (.iload 4, 2) := by decide +kernel
theorem dL_law_302 : decode cL_law 302 = .ok (.iconst 1, 1) := by decide +kernel
theorem dL_law_303 : decode cL_law 303 = .ok (.iadd, 1) := by decide +kernel
theorem dL_law_304 : decode cL_law 304 = .ok (.iaload, 1) := by decide +kernel
theorem dL_law_305 : decode cL_law 305 = .ok (.aload_n 0, 1) := by decide +kernel
theorem dL_law_306 : decode cL_law 306 = .ok (.iload 4, 2) := by decide +kernel
theorem dL_law_308 : decode cL_law 308 = .ok (.iconst 2, 1) := by decide +kernel
theorem dL_law_309 : decode cL_law 309 = .ok (.iadd, 1) := by decide +kernel
theorem dL_law_310 : decode cL_law 310 = .ok (.iaload, 1) := by decide +kernel
theorem dL_law_311 : decode cL_law 311 = .ok (.aload_n 0, 1) := by decide +kernel
theorem dL_law_312 : decode cL_law 312 = .ok (.iload 4, 2) := by decide +kernel
theorem dL_law_314 : decode cL_law 314 = .ok (.iconst 3, 1) := by decide +kernel
theorem dL_law_315 : decode cL_law 315 = .ok (.iadd, 1) := by decide +kernel
theorem dL_law_316 : decode cL_law 316 = .ok (.iaload, 1) := by decide +kernel
theorem dL_law_317 : decode cL_law 317 = .ok (.aload_n 0, 1) := by decide +kernel
theorem dL_law_318 : decode cL_law 318 = .ok (.iload 4, 2) := by decide +kernel
theorem dL_law_320 : decode cL_law 320 = .ok (.iconst 4, 1) := by decide +kernel
theorem dL_law_321 : decode cL_law 321 = .ok (.iadd, 1) := by decide +kernel
theorem dL_law_322 : decode cL_law 322 = .ok (.iaload, 1) := by decide +kernel
theorem dL_law_323 : decode cL_law 323 = .ok (.aload_n 0, 1) := by decide +kernel
theorem dL_law_324 : decode cL_law 324 = .ok (.iload 4, 2) := by decide +kernel
theorem dL_law_326 : decode cL_law 326 = .ok (.iconst 5, 1) := by decide +kernel
theorem dL_law_327 : decode cL_law 327 = .ok (.iadd, 1) := by decide +kernel
theorem dL_law_328 : decode cL_law 328 = .ok (.iaload, 1) := by decide +kernel
theorem dL_law_329 : decode cL_law 329 = .ok (.invokevirtual 48, 3) := by decide +kernel
theorem dL_law_332 : decode cL_law 332 = .ok (.if_icmp .eq 665, 3) := by decide +kernel
theorem dL_law_335 : decode cL_law 335 = .ok (.iconst 0, 1) := by decide +kernel
theorem dL_law_336 : decode cL_law 336 = .ok (.ireturn, 1) := by decide +kernel
theorem dL_law_337 : decode cL_law 337 = .ok (.aload_n 1, 1) := by decide +kernel
theorem dL_law_338 : decode cL_law 338 = .ok (.aload_n 0, 1) := by decide +kernel
theorem dL_law_339 : decode cL_law 339 = .ok (.iload 4, 2) := by decide +kernel
theorem dL_law_341 : decode cL_law 341 = .ok (.iconst 1, 1) := by decide +kernel
theorem dL_law_342 : decode cL_law 342 = .ok (.iadd, 1) := by decide +kernel
theorem dL_law_343 : decode cL_law 343 = .ok (.iaload, 1) := by decide +kernel
theorem dL_law_344 : decode cL_law 344 = .ok (.aload_n 0, 1) := by decide +kernel
theorem dL_law_345 : decode cL_law 345 = .ok (.iload 4, 2) := by decide +kernel
theorem dL_law_347 : decode cL_law 347 = .ok (.iconst 2, 1) := by decide +kernel
theorem dL_law_348 : decode cL_law 348 = .ok (.iadd, 1) := by decide +kernel
theorem dL_law_349 : decode cL_law 349 = .ok (.iaload, 1) := by decide +kernel
theorem dL_law_350 : decode cL_law 350 = .ok (.invokevirtual 49, 3) := by decide +kernel
theorem dL_law_353 : decode cL_law 353 = .ok (.aload_n 2, 1) := by decide +kernel
theorem dL_law_354 : decode cL_law 354 = .ok (.aload_n 0, 1) := by decide +kernel
theorem dL_law_355 : decode cL_law 355 = .ok (.iload 4, 2) := by decide +kernel
theorem dL_law_357 : decode cL_law 357 = .ok (.iconst 1, 1) := by decide +kernel
theorem dL_law_358 : decode cL_law 358 = .ok (.iadd, 1) := by decide +kernel
theorem dL_law_359 : decode cL_law 359 = .ok (.iaload, 1) := by decide +kernel
theorem dL_law_360 : decode cL_law 360 = .ok (.aload_n 0, 1) := by decide +kernel
theorem dL_law_361 : decode cL_law 361 = .ok (.iload 4, 2) := by decide +kernel
theorem dL_law_363 : decode cL_law 363 = .ok (.iconst 2, 1) := by decide +kernel
theorem dL_law_364 : decode cL_law 364 = .ok (.iadd, 1) := by decide +kernel
theorem dL_law_365 : decode cL_law 365 = .ok (.iaload, 1) := by decide +kernel
theorem dL_law_366 : decode cL_law 366 = .ok (.invokevirtual 53, 3) := by decide +kernel
theorem dL_law_369 : decode cL_law 369 = .ok (.if_icmp .eq 628, 3) := by decide +kernel
theorem dL_law_372 : decode cL_law 372 = .ok (.iconst 0, 1) := by decide +kernel
theorem dL_law_373 : decode cL_law 373 = .ok (.ireturn, 1) := by decide +kernel
theorem dL_law_374 : decode cL_law 374 = .ok (.aload_n 1, 1) := by decide +kernel
theorem dL_law_375 : decode cL_law 375 = .ok (.aload_n 0, 1) := by decide +kernel
theorem dL_law_376 : decode cL_law 376 = .ok (.iload 4, 2) := by decide +kernel
theorem dL_law_378 : decode cL_law 378 = .ok (.iconst 1, 1) := by decide +kernel
theorem dL_law_379 : decode cL_law 379 = .ok (.iadd, 1) := by decide +kernel
theorem dL_law_380 : decode cL_law 380 = .ok (.iaload, 1) := by decide +kernel
theorem dL_law_381 : decode cL_law 381 = .ok (.aload_n 0, 1) := by decide +kernel
theorem dL_law_382 : decode cL_law 382 = .ok (.iload 4, 2) := by decide +kernel
theorem dL_law_384 : decode cL_law 384 = .ok (.iconst 2, 1) := by decide +kernel
theorem dL_law_385 : decode cL_law 385 = .ok (.iadd, 1) := by decide +kernel
theorem dL_law_386 : decode cL_law 386 = .ok (.iaload, 1) := by decide +kernel
theorem dL_law_387 : decode cL_law 387 = .ok (.aload_n 0, 1) := by decide +kernel
theorem dL_law_388 : decode cL_law 388 = .ok (.iload 4, 2) := by decide +kernel
theorem dL_law_390 : decode cL_law 390 = .ok (.iconst 3, 1) := by decide +kernel
theorem dL_law_391 : decode cL_law 391 = .ok (.iadd, 1) := by decide +kernel
theorem dL_law_392 : decode cL_law 392 = .ok (.iaload, 1) := by decide +kernel
theorem dL_law_393 : decode cL_law 393 = .ok (.aload_n 0, 1) := by decide +kernel
theorem dL_law_394 : decode cL_law 394 = .ok (.iload 4, 2) := by decide +kernel
theorem dL_law_396 : decode cL_law 396 = .ok (.iconst 4, 1) := by decide +kernel
theorem dL_law_397 : decode cL_law 397 = .ok (.iadd, 1) := by decide +kernel
theorem dL_law_398 : decode cL_law 398 = .ok (.iaload, 1) := by decide +kernel
theorem dL_law_399 : decode cL_law 399 = .ok (.aload_n 0, 1) := by decide +kernel
theorem dL_law_400 : decode cL_law 400 = .ok (.iload 4, 2) := by decide +kernel
theorem dL_law_402 : decode cL_law 402 = .ok (.iconst 5, 1) := by decide +kernel
theorem dL_law_403 : decode cL_law 403 = .ok (.iadd, 1) := by decide +kernel
theorem dL_law_404 : decode cL_law 404 = .ok (.iaload, 1) := by decide +kernel
theorem dL_law_405 : decode cL_law 405 = .ok (.invokevirtual 54, 3) := by decide +kernel
theorem dL_law_408 : decode cL_law 408 = .ok (.aload_n 2, 1) := by decide +kernel
theorem dL_law_409 : decode cL_law 409 = .ok (.aload_n 0, 1) := by decide +kernel
theorem dL_law_410 : decode cL_law 410 = .ok (.iload 4, 2) := by decide +kernel
theorem dL_law_412 : decode cL_law 412 = .ok (.iconst 1, 1) := by decide +kernel
theorem dL_law_413 : decode cL_law 413 = .ok (.iadd, 1) := by decide +kernel
theorem dL_law_414 : decode cL_law 414 = .ok (.iaload, 1) := by decide +kernel
theorem dL_law_415 : decode cL_law 415 = .ok (.aload_n 0, 1) := by decide +kernel
theorem dL_law_416 : decode cL_law 416 = .ok (.iload 4, 2) := by decide +kernel
theorem dL_law_418 : decode cL_law 418 = .ok (.iconst 2, 1) := by decide +kernel
theorem dL_law_419 : decode cL_law 419 = .ok (.iadd, 1) := by decide +kernel
theorem dL_law_420 : decode cL_law 420 = .ok (.iaload, 1) := by decide +kernel
theorem dL_law_421 : decode cL_law 421 = .ok (.aload_n 0, 1) := by decide +kernel
theorem dL_law_422 : decode cL_law 422 = .ok (.iload 4, 2) := by decide +kernel
theorem dL_law_424 : decode cL_law 424 = .ok (.iconst 3, 1) := by decide +kernel
theorem dL_law_425 : decode cL_law 425 = .ok (.iadd, 1) := by decide +kernel
theorem dL_law_426 : decode cL_law 426 = .ok (.iaload, 1) := by decide +kernel
theorem dL_law_427 : decode cL_law 427 = .ok (.aload_n 0, 1) := by decide +kernel
theorem dL_law_428 : decode cL_law 428 = .ok (.iload 4, 2) := by decide +kernel
theorem dL_law_430 : decode cL_law 430 = .ok (.iconst 4, 1) := by decide +kernel
theorem dL_law_431 : decode cL_law 431 = .ok (.iadd, 1) := by decide +kernel
theorem dL_law_432 : decode cL_law 432 = .ok (.iaload, 1) := by decide +kernel
theorem dL_law_433 : decode cL_law 433 = .ok (.aload_n 0, 1) := by decide +kernel
theorem dL_law_434 : decode cL_law 434 = .ok (.iload 4, 2) := by decide +kernel
theorem dL_law_436 : decode cL_law 436 = .ok (.iconst 5, 1) := by decide +kernel
theorem dL_law_437 : decode cL_law 437 = .ok (.iadd, 1) := by decide +kernel
theorem dL_law_438 : decode cL_law 438 = .ok (.iaload, 1) := by decide +kernel
theorem dL_law_439 : decode cL_law 439 = .ok (.invokevirtual 58, 3) := by decide +kernel
theorem dL_law_442 : decode cL_law 442 = .ok (.if_icmp .eq 555, 3) := by decide +kernel
theorem dL_law_445 : decode cL_law 445 = .ok (.iconst 0, 1) := by decide +kernel
theorem dL_law_446 : decode cL_law 446 = .ok (.ireturn, 1) := by decide +kernel
theorem dL_law_447 : decode cL_law 447 = .ok (.aload_n 1, 1) := by decide +kernel
theorem dL_law_448 : decode cL_law 448 = .ok (.aload_n 0, 1) := by decide +kernel
theorem dL_law_449 : decode cL_law 449 = .ok (.iload 4, 2) := by decide +kernel
theorem dL_law_451 : decode cL_law 451 = .ok (.iconst 1, 1) := by decide +kernel
theorem dL_law_452 : decode cL_law 452 = .ok (.iadd, 1) := by decide +kernel
theorem dL_law_453 : decode cL_law 453 = .ok (.iaload, 1) := by decide +kernel
theorem dL_law_454 : decode cL_law 454 = .ok (.invokevirtual 59, 3) := by decide +kernel
theorem dL_law_457 : decode cL_law 457 = .ok (.aload_n 2, 1) := by decide +kernel
theorem dL_law_458 : decode cL_law 458 = .ok (.aload_n 0, 1) := by decide +kernel
theorem dL_law_459 : decode cL_law 459 = .ok (.iload 4, 2) := by decide +kernel
theorem dL_law_461 : decode cL_law 461 = .ok (.iconst 1, 1) := by decide +kernel
theorem dL_law_462 : decode cL_law 462 = .ok (.iadd, 1) := by decide +kernel
theorem dL_law_463 : decode cL_law 463 = .ok (.iaload, 1) := by decide +kernel
theorem dL_law_464 : decode cL_law 464 = .ok (.invokevirtual 63, 3) := by decide +kernel
theorem dL_law_467 : decode cL_law 467 = .ok (.if_icmp .eq 530, 3) := by decide +kernel
theorem dL_law_470 : decode cL_law 470 = .ok (.iconst 0, 1) := by decide +kernel
theorem dL_law_471 : decode cL_law 471 = .ok (.ireturn, 1) := by decide +kernel
theorem dL_law_472 : decode cL_law 472 = .ok (.aload_n 1, 1) := by decide +kernel
theorem dL_law_473 : decode cL_law 473 = .ok (.aload_n 0, 1) := by decide +kernel
theorem dL_law_474 : decode cL_law 474 = .ok (.iload 4, 2) := by decide +kernel
theorem dL_law_476 : decode cL_law 476 = .ok (.iconst 1, 1) := by decide +kernel
theorem dL_law_477 : decode cL_law 477 = .ok (.iadd, 1) := by decide +kernel
theorem dL_law_478 : decode cL_law 478 = .ok (.iaload, 1) := by decide +kernel
theorem dL_law_479 : decode cL_law 479 = .ok (.invokevirtual 64, 3) := by decide +kernel
theorem dL_law_482 : decode cL_law 482 = .ok (.aload_n 2, 1) := by decide +kernel
theorem dL_law_483 : decode cL_law 483 = .ok (.aload_n 0, 1) := by decide +kernel
theorem dL_law_484 : decode cL_law 484 = .ok (.iload 4, 2) := by decide +kernel
theorem dL_law_486 : decode cL_law 486 = .ok (.iconst 1, 1) := by decide +kernel
theorem dL_law_487 : decode cL_law 487 = .ok (.iadd, 1) := by decide +kernel
theorem dL_law_488 : decode cL_law 488 = .ok (.iaload, 1) := by decide +kernel
theorem dL_law_489 : decode cL_law 489 = .ok (.invokevirtual 67, 3) := by decide +kernel
theorem dL_law_492 : decode cL_law 492 = .ok (.if_icmp .eq 505, 3) := by decide +kernel
theorem dL_law_495 : decode cL_law 495 = .ok (.iconst 0, 1) := by decide +kernel
theorem dL_law_496 : decode cL_law 496 = .ok (.ireturn, 1) := by decide +kernel
theorem dL_law_497 : decode cL_law 497 = .ok (.aload_n 1, 1) := by decide +kernel
theorem dL_law_498 : decode cL_law 498 = .ok (.invokevirtual 68, 3) := by decide +kernel
theorem dL_law_501 : decode cL_law 501 = .ok (.aload_n 2, 1) := by decide +kernel
theorem dL_law_502 : decode cL_law 502 = .ok (.invokevirtual 71, 3) := by decide +kernel
theorem dL_law_505 : decode cL_law 505 = .ok (.if_icmp .eq 492, 3) := by decide +kernel
theorem dL_law_508 : decode cL_law 508 = .ok (.iconst 0, 1) := by decide +kernel
theorem dL_law_509 : decode cL_law 509 = .ok (.ireturn, 1) := by decide +kernel
theorem dL_law_510 : decode cL_law 510 = .ok (.aload_n 1, 1) := by decide +kernel
theorem dL_law_511 : decode cL_law 511 = .ok (.aload_n 0, 1) := by decide +kernel
theorem dL_law_512 : decode cL_law 512 = .ok (.iload 4, 2) := by decide +kernel
theorem dL_law_514 : decode cL_law 514 = .ok (.iconst 1, 1) := by decide +kernel
theorem dL_law_515 : decode cL_law 515 = .ok (.iadd, 1) := by decide +kernel
theorem dL_law_516 : decode cL_law 516 = .ok (.iaload, 1) := by decide +kernel
theorem dL_law_517 : decode cL_law 517 = .ok (.aload_n 0, 1) := by decide +kernel
theorem dL_law_518 : decode cL_law 518 = .ok (.iload 4, 2) := by decide +kernel
theorem dL_law_520 : decode cL_law 520 = .ok (.iconst 2, 1) := by decide +kernel
theorem dL_law_521 : decode cL_law 521 = .ok (.iadd, 1) := by decide +kernel
theorem dL_law_522 : decode cL_law 522 = .ok (.iaload, 1) := by decide +kernel
theorem dL_law_523 : decode cL_law 523 = .ok (.aload_n 3, 1) := by decide +kernel
theorem dL_law_524 : decode cL_law 524 = .ok (.invokestatic 72, 3) := by decide +kernel
theorem dL_law_527 : decode cL_law 527 = .ok (.istore 5, 2) := by decide +kernel
theorem dL_law_529 : decode cL_law 529 = .ok (.aload_n 2, 1) := by decide +kernel
theorem dL_law_530 : decode cL_law 530 = .ok (.aload_n 0, 1) := by decide +kernel
theorem dL_law_531 : decode cL_law 531 = .ok (.iload 4, 2) := by decide +kernel
theorem dL_law_533 : decode cL_law 533 = .ok (.iconst 1, 1) := by decide +kernel
theorem dL_law_534 : decode cL_law 534 = .ok (.iadd, 1) := by decide +kernel
theorem dL_law_535 : decode cL_law 535 = .ok (.iaload, 1) := by decide +kernel
theorem dL_law_536 : decode cL_law 536 = .ok (.aload_n 0, 1) := by decide +kernel
theorem dL_law_537 : decode cL_law 537 = .ok (.iload 4, 2) := by decide +kernel
theorem dL_law_539 : decode cL_law 539 = .ok (.iconst 2, 1) := by decide +kernel
theorem dL_law_540 : decode cL_law 540 = .ok (.iadd, 1) := by decide +kernel
theorem dL_law_541 : decode cL_law 541 = .ok (.iaload, 1) := by decide +kernel
theorem dL_law_542 : decode cL_law 542 = .ok (.invokevirtual 77, 3) := by decide +kernel
theorem dL_law_545 : decode cL_law 545 = .ok (.istore 6, 2) := by decide +kernel
theorem dL_law_547 : decode cL_law 547 = .ok (.aload_n 2, 1) := by decide +kernel
theorem dL_law_548 : decode cL_law 548 = .ok (.invokevirtual 78, 3) := by decide +kernel
theorem dL_law_551 : decode cL_law 551 = .ok (.iload 5, 2) := by decide +kernel
theorem dL_law_553 : decode cL_law 553 = .ok (.if_icmp .eq 5, 3) := by decide +kernel
theorem dL_law_556 : decode cL_law 556 = .ok (.iconst 0, 1) := by decide +kernel
theorem dL_law_557 : decode cL_law 557 = .ok (.ireturn, 1) := by decide +kernel
theorem dL_law_558 : decode cL_law 558 = .ok (.iload 5, 2) := by decide +kernel
theorem dL_law_560 : decode cL_law 560 = .ok (.ifCond .ne 15, 3) := by decide +kernel
theorem dL_law_563 : decode cL_law 563 = .ok (.aload_n 3, 1) := by decide +kernel
theorem dL_law_564 : decode cL_law 564 = .ok (.iconst 0, 1) := by decide +kernel
theorem dL_law_565 : decode cL_law 565 = .ok (.laload, 1) := by decide +kernel
theorem dL_law_566 : decode cL_law 566 = .ok (.iload 6, 2) := by decide +kernel
theorem dL_law_568 : decode cL_law 568 = .ok (.i2l, 1) := by decide +kernel
theorem dL_law_569 : decode cL_law 569 = .ok (.lcmp, 1) := by decide +kernel
theorem dL_law_570 : decode cL_law 570 = .ok (.ifCond .eq 5, 3) := by decide +kernel
theorem dL_law_573 : decode cL_law 573 = .ok (.iconst 0, 1) := by decide +kernel
theorem dL_law_574 : decode cL_law 574 = .ok (.ireturn, 1) := by decide +kernel
theorem dL_law_575 : decode cL_law 575 = .ok (.goto 422, 3) := by decide +kernel
theorem dL_law_578 : decode cL_law 578 = .ok (.aload_n 1, 1) := by decide +kernel
theorem dL_law_579 : decode cL_law 579 = .ok (.aload_n 0, 1) := by decide +kernel
theorem dL_law_580 : decode cL_law 580 = .ok (.iload 4, 2) := by decide +kernel
theorem dL_law_582 : decode cL_law 582 = .ok (.iconst 1, 1) := by decide +kernel
theorem dL_law_583 : decode cL_law 583 = .ok (.iadd, 1) := by decide +kernel
theorem dL_law_584 : decode cL_law 584 = .ok (.iaload, 1) := by decide +kernel
theorem dL_law_585 : decode cL_law 585 = .ok (.aload_n 0, 1) := by decide +kernel
theorem dL_law_586 : decode cL_law 586 = .ok (.iload 4, 2) := by decide +kernel
theorem dL_law_588 : decode cL_law 588 = .ok (.iconst 2, 1) := by decide +kernel
theorem dL_law_589 : decode cL_law 589 = .ok (.iadd, 1) := by decide +kernel
theorem dL_law_590 : decode cL_law 590 = .ok (.iaload, 1) := by decide +kernel
theorem dL_law_591 : decode cL_law 591 = .ok (.aload_n 3, 1) := by decide +kernel
theorem dL_law_592 : decode cL_law 592 = .ok (.invokestatic 81, 3) := by decide +kernel
theorem dL_law_595 : decode cL_law 595 = .ok (.istore 5, 2) := by decide +kernel
theorem dL_law_597 : decode cL_law 597 = .ok (.aload_n 2, 1) := by decide +kernel
theorem dL_law_598 : decode cL_law 598 = .ok (.aload_n 0, 1) := by decide +kernel
theorem dL_law_599 : decode cL_law 599 = .ok (.iload 4, 2) := by decide +kernel
theorem dL_law_601 : decode cL_law 601 = .ok (.iconst 1, 1) := by decide +kernel
theorem dL_law_602 : decode cL_law 602 = .ok (.iadd, 1) := by decide +kernel
theorem dL_law_603 : decode cL_law 603 = .ok (.iaload, 1) := by decide +kernel
theorem dL_law_604 : decode cL_law 604 = .ok (.aload_n 0, 1) := by decide +kernel
theorem dL_law_605 : decode cL_law 605 = .ok (.iload 4, 2) := by decide +kernel
theorem dL_law_607 : decode cL_law 607 = .ok (.iconst 2, 1) := by decide +kernel
theorem dL_law_608 : decode cL_law 608 = .ok (.iadd, 1) := by decide +kernel
theorem dL_law_609 : decode cL_law 609 = .ok (.iaload, 1) := by decide +kernel
theorem dL_law_610 : decode cL_law 610 = .ok (.invokevirtual 83, 3) := by decide +kernel
theorem dL_law_613 : decode cL_law 613 = .ok (.istore 6, 2) := by decide +kernel
theorem dL_law_615 : decode cL_law 615 = .ok (.aload_n 2, 1) := by decide +kernel
theorem dL_law_616 : decode cL_law 616 = .ok (.invokevirtual 78, 3) := by decide +kernel
theorem dL_law_619 : decode cL_law 619 = .ok (.iload 5, 2) := by decide +kernel
theorem dL_law_621 : decode cL_law 621 = .ok (.if_icmp .eq 5, 3) := by decide +kernel
theorem dL_law_624 : decode cL_law 624 = .ok (.iconst 0, 1) := by decide +kernel
theorem dL_law_625 : decode cL_law 625 = .ok (.ireturn, 1) := by decide +kernel
theorem dL_law_626 : decode cL_law 626 = .ok (.iload 5, 2) := by decide +kernel
theorem dL_law_628 : decode cL_law 628 = .ok (.ifCond .ne 15, 3) := by decide +kernel
theorem dL_law_631 : decode cL_law 631 = .ok (.aload_n 3, 1) := by decide +kernel
theorem dL_law_632 : decode cL_law 632 = .ok (.iconst 0, 1) := by decide +kernel
theorem dL_law_633 : decode cL_law 633 = .ok (.laload, 1) := by decide +kernel
theorem dL_law_634 : decode cL_law 634 = .ok (.iload 6, 2) := by decide +kernel
theorem dL_law_636 : decode cL_law 636 = .ok (.i2l, 1) := by decide +kernel
theorem dL_law_637 : decode cL_law 637 = .ok (.lcmp, 1) := by decide +kernel
theorem dL_law_638 : decode cL_law 638 = .ok (.ifCond .eq 5, 3) := by decide +kernel
theorem dL_law_641 : decode cL_law 641 = .ok (.iconst 0, 1) := by decide +kernel
theorem dL_law_642 : decode cL_law 642 = .ok (.ireturn, 1) := by decide +kernel
theorem dL_law_643 : decode cL_law 643 = .ok (.goto 354, 3) := by decide +kernel
theorem dL_law_646 : decode cL_law 646 = .ok (.aload_n 1, 1) := by decide +kernel
theorem dL_law_647 : decode cL_law 647 = .ok (.aload_n 0, 1) := by decide +kernel
theorem dL_law_648 : decode cL_law 648 = .ok (.iload 4, 2) := by decide +kernel
theorem dL_law_650 : decode cL_law 650 = .ok (.iconst 1, 1) := by decide +kernel
theorem dL_law_651 : decode cL_law 651 = .ok (.iadd, 1) := by decide +kernel
theorem dL_law_652 : decode cL_law 652 = .ok (.iaload, 1) := by decide +kernel
theorem dL_law_653 : decode cL_law 653 = .ok (.invokevirtual 84, 3) := by decide +kernel
theorem dL_law_656 : decode cL_law 656 = .ok (.aload_n 2, 1) := by decide +kernel
theorem dL_law_657 : decode cL_law 657 = .ok (.aload_n 0, 1) := by decide +kernel
theorem dL_law_658 : decode cL_law 658 = .ok (.iload 4, 2) := by decide +kernel
theorem dL_law_660 : decode cL_law 660 = .ok (.iconst 1, 1) := by decide +kernel
theorem dL_law_661 : decode cL_law 661 = .ok (.iadd, 1) := by decide +kernel
theorem dL_law_662 : decode cL_law 662 = .ok (.iaload, 1) := by decide +kernel
theorem dL_law_663 : decode cL_law 663 = .ok (.invokevirtual 87, 3) := by decide +kernel
theorem dL_law_666 : decode cL_law 666 = .ok (.if_icmp .eq 331, 3) := by decide +kernel
theorem dL_law_669 : decode cL_law 669 = .ok (.iconst 0, 1) := by decide +kernel
theorem dL_law_670 : decode cL_law 670 = .ok (.ireturn, 1) := by decide +kernel
theorem dL_law_671 : decode cL_law 671 = .ok (.aload_n 1, 1) := by decide +kernel
theorem dL_law_672 : decode cL_law 672 = .ok (.aload_n 0, 1) := by decide +kernel
theorem dL_law_673 : decode cL_law 673 = .ok (.iload 4, 2) := by decide +kernel
theorem dL_law_675 : decode cL_law 675 = .ok (.iconst 1, 1) := by decide +kernel
theorem dL_law_676 : decode cL_law 676 = .ok (.iadd, 1) := by decide +kernel
theorem dL_law_677 : decode cL_law 677 = .ok (.iaload, 1) := by decide +kernel
theorem dL_law_678 : decode cL_law 678 = .ok (.aload_n 0, 1) := by decide +kernel
theorem dL_law_679 : decode cL_law 679 = .ok (.iload 4, 2) := by decide +kernel
theorem dL_law_681 : decode cL_law 681 = .ok (.iconst 2, 1) := by decide +kernel
theorem dL_law_682 : decode cL_law 682 = .ok (.iadd, 1) := by decide +kernel
theorem dL_law_683 : decode cL_law 683 = .ok (.iaload, 1) := by decide +kernel
theorem dL_law_684 : decode cL_law 684 = .ok (.aload_n 0, 1) := by decide +kernel
theorem dL_law_685 : decode cL_law 685 = .ok (.iload 4, 2) := by decide +kernel
theorem dL_law_687 : decode cL_law 687 = .ok (.iconst 3, 1) := by decide +kernel
theorem dL_law_688 : decode cL_law 688 = .ok (.iadd, 1) := by decide +kernel
theorem dL_law_689 : decode cL_law 689 = .ok (.iaload, 1) := by decide +kernel
theorem dL_law_690 : decode cL_law 690 = .ok (.invokevirtual 88, 3) := by decide +kernel
theorem dL_law_693 : decode cL_law 693 = .ok (.aload_n 2, 1) := by decide +kernel
theorem dL_law_694 : decode cL_law 694 = .ok (.aload_n 0, 1) := by decide +kernel
theorem dL_law_695 : decode cL_law 695 = .ok (.iload 4, 2) := by decide +kernel
theorem dL_law_697 : decode cL_law 697 = .ok (.iconst 1, 1) := by decide +kernel
theorem dL_law_698 : decode cL_law 698 = .ok (.iadd, 1) := by decide +kernel
theorem dL_law_699 : decode cL_law 699 = .ok (.iaload, 1) := by decide +kernel
theorem dL_law_700 : decode cL_law 700 = .ok (.aload_n 0, 1) := by decide +kernel
theorem dL_law_701 : decode cL_law 701 = .ok (.iload 4, 2) := by decide +kernel
theorem dL_law_703 : decode cL_law 703 = .ok (.iconst 2, 1) := by decide +kernel
theorem dL_law_704 : decode cL_law 704 = .ok (.iadd, 1) := by decide +kernel
theorem dL_law_705 : decode cL_law 705 = .ok (.iaload, 1) := by decide +kernel
theorem dL_law_706 : decode cL_law 706 = .ok (.aload_n 0, 1) := by decide +kernel
theorem dL_law_707 : decode cL_law 707 = .ok (.iload 4, 2) := by decide +kernel
theorem dL_law_709 : decode cL_law 709 = .ok (.iconst 3, 1) := by decide +kernel
theorem dL_law_710 : decode cL_law 710 = .ok (.iadd, 1) := by decide +kernel
theorem dL_law_711 : decode cL_law 711 = .ok (.iaload, 1) := by decide +kernel
theorem dL_law_712 : decode cL_law 712 = .ok (.invokevirtual 92, 3) := by decide +kernel
theorem dL_law_715 : decode cL_law 715 = .ok (.if_icmp .eq 282, 3) := by decide +kernel
theorem dL_law_718 : decode cL_law 718 = .ok (.iconst 0, 1) := by decide +kernel
theorem dL_law_719 : decode cL_law 719 = .ok (.ireturn, 1) := by decide +kernel
theorem dL_law_720 : decode cL_law 720 = .ok (.aload_n 1, 1) := by decide +kernel
theorem dL_law_721 : decode cL_law 721 = .ok (.aload_n 0, 1) := by decide +kernel
theorem dL_law_722 : decode cL_law 722 = .ok (.iload 4, 2) := by decide +kernel
theorem dL_law_724 : decode cL_law 724 = .ok (.iconst 1, 1) := by decide +kernel
theorem dL_law_725 : decode cL_law 725 = .ok (.iadd, 1) := by decide +kernel
theorem dL_law_726 : decode cL_law 726 = .ok (.iaload, 1) := by decide +kernel
theorem dL_law_727 : decode cL_law 727 = .ok (.invokevirtual 93, 3) := by decide +kernel
theorem dL_law_730 : decode cL_law 730 = .ok (.aload_n 2, 1) := by decide +kernel
theorem dL_law_731 : decode cL_law 731 = .ok (.aload_n 0, 1) := by decide +kernel
theorem dL_law_732 : decode cL_law 732 = .ok (.iload 4, 2) := by decide +kernel
theorem dL_law_734 : decode cL_law 734 = .ok (.iconst 1, 1) := by decide +kernel
theorem dL_law_735 : decode cL_law 735 = .ok (.iadd, 1) := by decide +kernel
theorem dL_law_736 : decode cL_law 736 = .ok (.iaload, 1) := by decide +kernel
theorem dL_law_737 : decode cL_law 737 = .ok (.invokevirtual 96, 3) := by decide +kernel
theorem dL_law_740 : decode cL_law 740 = .ok (.if_icmp .eq 257, 3) := by decide +kernel
theorem dL_law_743 : decode cL_law 743 = .ok (.iconst 0, 1) := by decide +kernel
theorem dL_law_744 : decode cL_law 744 = .ok (.ireturn, 1) := by decide +kernel
theorem dL_law_745 : decode cL_law 745 = .ok (.aload_n 1, 1) := by decide +kernel
theorem dL_law_746 : decode cL_law 746 = .ok (.aload_n 0, 1) := by decide +kernel
theorem dL_law_747 : decode cL_law 747 = .ok (.iload 4, 2) := by decide +kernel
theorem dL_law_749 : decode cL_law 749 = .ok (.iconst 1, 1) := by decide +kernel
theorem dL_law_750 : decode cL_law 750 = .ok (.iadd, 1) := by decide +kernel
theorem dL_law_751 : decode cL_law 751 = .ok (.iaload, 1) := by decide +kernel
theorem dL_law_752 : decode cL_law 752 = .ok (.aload_n 0, 1) := by decide +kernel
theorem dL_law_753 : decode cL_law 753 = .ok (.iload 4, 2) := by decide +kernel
theorem dL_law_755 : decode cL_law 755 = .ok (.iconst 2, 1) := by decide +kernel
theorem dL_law_756 : decode cL_law 756 = .ok (.iadd, 1) := by decide +kernel
theorem dL_law_757 : decode cL_law 757 = .ok (.iaload, 1) := by decide +kernel
theorem dL_law_758 : decode cL_law 758 = .ok (.invokevirtual 97, 3) := by decide +kernel
theorem dL_law_761 : decode cL_law 761 = .ok (.aload_n 2, 1) := by decide +kernel
theorem dL_law_762 : decode cL_law 762 = .ok (.aload_n 0, 1) := by decide +kernel
theorem dL_law_763 : decode cL_law 763 = .ok (.iload 4, 2) := by decide +kernel
theorem dL_law_765 : decode cL_law 765 = .ok (.iconst 1, 1) := by decide +kernel
theorem dL_law_766 : decode cL_law 766 = .ok (.iadd, 1) := by decide +kernel
theorem dL_law_767 : decode cL_law 767 = .ok (.iaload, 1) := by decide +kernel
theorem dL_law_768 : decode cL_law 768 = .ok (.aload_n 0, 1) := by decide +kernel
theorem dL_law_769 : decode cL_law 769 = .ok (.iload 4, 2) := by decide +kernel
theorem dL_law_771 : decode cL_law 771 = .ok (.iconst 2, 1) := by decide +kernel
theorem dL_law_772 : decode cL_law 772 = .ok (.iadd, 1) := by decide +kernel
theorem dL_law_773 : decode cL_law 773 = .ok (.iaload, 1) := by decide +kernel
theorem dL_law_774 : decode cL_law 774 = .ok (.invokevirtual 100, 3) := by decide +kernel
theorem dL_law_777 : decode cL_law 777 = .ok (.if_icmp .eq 220, 3) := by decide +kernel
theorem dL_law_780 : decode cL_law 780 = .ok (.iconst 0, 1) := by decide +kernel
theorem dL_law_781 : decode cL_law 781 = .ok (.ireturn, 1) := by decide +kernel
theorem dL_law_782 : decode cL_law 782 = .ok (.aload_n 1, 1) := by decide +kernel
theorem dL_law_783 : decode cL_law 783 = .ok (.aload_n 0, 1) := by decide +kernel
theorem dL_law_784 : decode cL_law 784 = .ok (.iload 4, 2) := by decide +kernel
theorem dL_law_786 : decode cL_law 786 = .ok (.iconst 1, 1) := by decide +kernel
theorem dL_law_787 : decode cL_law 787 = .ok (.iadd, 1) := by decide +kernel
theorem dL_law_788 : decode cL_law 788 = .ok (.iaload, 1) := by decide +kernel
theorem dL_law_789 : decode cL_law 789 = .ok (.aload_n 0, 1) := by decide +kernel
theorem dL_law_790 : decode cL_law 790 = .ok (.iload 4, 2) := by decide +kernel
theorem dL_law_792 : decode cL_law 792 = .ok (.iconst 2, 1) := by decide +kernel
theorem dL_law_793 : decode cL_law 793 = .ok (.iadd, 1) := by decide +kernel
theorem dL_law_794 : decode cL_law 794 = .ok (.iaload, 1) := by decide +kernel
theorem dL_law_795 : decode cL_law 795 = .ok (.aload_n 0, 1) := by decide +kernel
theorem dL_law_796 : decode cL_law 796 = .ok (.iload 4, 2) := by decide +kernel
theorem dL_law_798 : decode cL_law 798 = .ok (.iconst 3, 1) := by decide +kernel
theorem dL_law_799 : decode cL_law 799 = .ok (.iadd, 1) := by decide +kernel
theorem dL_law_800 : decode cL_law 800 = .ok (.iaload, 1) := by decide +kernel
theorem dL_law_801 : decode cL_law 801 = .ok (.aload_n 3, 1) := by decide +kernel
theorem dL_law_802 : decode cL_law 802 = .ok (.invokestatic 101, 3) := by decide +kernel
theorem dL_law_805 : decode cL_law 805 = .ok (.istore 5, 2) := by decide +kernel
theorem dL_law_807 : decode cL_law 807 = .ok (.aload_n 2, 1) := by decide +kernel
theorem dL_law_808 : decode cL_law 808 = .ok (.aload_n 0, 1) := by decide +kernel
theorem dL_law_809 : decode cL_law 809 = .ok (.iload 4, 2) := by decide +kernel
theorem dL_law_811 : decode cL_law 811 = .ok (.iconst 1, 1) := by decide +kernel
theorem dL_law_812 : decode cL_law 812 = .ok (.iadd, 1) := by decide +kernel
theorem dL_law_813 : decode cL_law 813 = .ok (.iaload, 1) := by decide +kernel
theorem dL_law_814 : decode cL_law 814 = .ok (.aload_n 0, 1) := by decide +kernel
theorem dL_law_815 : decode cL_law 815 = .ok (.iload 4, 2) := by decide +kernel
theorem dL_law_817 : decode cL_law 817 = .ok (.iconst 2, 1) := by decide +kernel
theorem dL_law_818 : decode cL_law 818 = .ok (.iadd, 1) := by decide +kernel
theorem dL_law_819 : decode cL_law 819 = .ok (.iaload, 1) := by decide +kernel
theorem dL_law_820 : decode cL_law 820 = .ok (.aload_n 0, 1) := by decide +kernel
theorem dL_law_821 : decode cL_law 821 = .ok (.iload 4, 2) := by decide +kernel
theorem dL_law_823 : decode cL_law 823 = .ok (.iconst 3, 1) := by decide +kernel
theorem dL_law_824 : decode cL_law 824 = .ok (.iadd, 1) := by decide +kernel
theorem dL_law_825 : decode cL_law 825 = .ok (.iaload, 1) := by decide +kernel
theorem dL_law_826 : decode cL_law 826 = .ok (.invokevirtual 104, 3) := by decide +kernel
theorem dL_law_829 : decode cL_law 829 = .ok (.lstore 6, 2) := by decide +kernel
theorem dL_law_831 : decode cL_law 831 = .ok (.aload_n 2, 1) := by decide +kernel
theorem dL_law_832 : decode cL_law 832 = .ok (.invokevirtual 78, 3) := by decide +kernel
theorem dL_law_835 : decode cL_law 835 = .ok (.iload 5, 2) := by decide +kernel
theorem dL_law_837 : decode cL_law 837 = .ok (.if_icmp .eq 5, 3) := by decide +kernel
theorem dL_law_840 : decode cL_law 840 = .ok (.iconst 0, 1) := by decide +kernel
theorem dL_law_841 : decode cL_law 841 = .ok (.ireturn, 1) := by decide +kernel
theorem dL_law_842 : decode cL_law 842 = .ok (.iload 5, 2) := by decide +kernel
theorem dL_law_844 : decode cL_law 844 = .ok (.ifCond .ne 14, 3) := by decide +kernel
theorem dL_law_847 : decode cL_law 847 = .ok (.aload_n 3, 1) := by decide +kernel
theorem dL_law_848 : decode cL_law 848 = .ok (.iconst 0, 1) := by decide +kernel
theorem dL_law_849 : decode cL_law 849 = .ok (.laload, 1) := by decide +kernel
theorem dL_law_850 : decode cL_law 850 = .ok (.lload 6, 2) := by decide +kernel
theorem dL_law_852 : decode cL_law 852 = .ok (.lcmp, 1) := by decide +kernel
theorem dL_law_853 : decode cL_law 853 = .ok (.ifCond .eq 5, 3) := by decide +kernel
theorem dL_law_856 : decode cL_law 856 = .ok (.iconst 0, 1) := by decide +kernel
theorem dL_law_857 : decode cL_law 857 = .ok (.ireturn, 1) := by decide +kernel
theorem dL_law_858 : decode cL_law 858 = .ok (.goto 139, 3) := by decide +kernel
theorem dL_law_861 : decode cL_law 861 = .ok (.aload_n 1, 1) := by decide +kernel
theorem dL_law_862 : decode cL_law 862 = .ok (.aload_n 0, 1) := by decide +kernel
theorem dL_law_863 : decode cL_law 863 = .ok (.iload 4, 2) := by decide +kernel
theorem dL_law_865 : decode cL_law 865 = .ok (.iconst 1, 1) := by decide +kernel
theorem dL_law_866 : decode cL_law 866 = .ok (.iadd, 1) := by decide +kernel
theorem dL_law_867 : decode cL_law 867 = .ok (.iaload, 1) := by decide +kernel
theorem dL_law_868 : decode cL_law 868 = .ok (.aload_n 0, 1) := by decide +kernel
theorem dL_law_869 : decode cL_law 869 = .ok (.iload 4, 2) := by decide +kernel
theorem dL_law_871 : decode cL_law 871 = .ok (.iconst 2, 1) := by decide +kernel
theorem dL_law_872 : decode cL_law 872 = .ok (.iadd, 1) := by decide +kernel
theorem dL_law_873 : decode cL_law 873 = .ok (.iaload, 1) := by decide +kernel
theorem dL_law_874 : decode cL_law 874 = .ok (.aload_n 0, 1) := by decide +kernel
theorem dL_law_875 : decode cL_law 875 = .ok (.iload 4, 2) := by decide +kernel
theorem dL_law_877 : decode cL_law 877 = .ok (.iconst 3, 1) := by decide +kernel
theorem dL_law_878 : decode cL_law 878 = .ok (.iadd, 1) := by decide +kernel
theorem dL_law_879 : decode cL_law 879 = .ok (.iaload, 1) := by decide +kernel
theorem dL_law_880 : decode cL_law 880 = .ok (.aload_n 0, 1) := by decide +kernel
theorem dL_law_881 : decode cL_law 881 = .ok (.iload 4, 2) := by decide +kernel
theorem dL_law_883 : decode cL_law 883 = .ok (.iconst 4, 1) := by decide +kernel
theorem dL_law_884 : decode cL_law 884 = .ok (.iadd, 1) := by decide +kernel
theorem dL_law_885 : decode cL_law 885 = .ok (.iaload, 1) := by decide +kernel
theorem dL_law_886 : decode cL_law 886 = .ok (.invokevirtual 105, 3) := by decide +kernel
theorem dL_law_889 : decode cL_law 889 = .ok (.aload_n 2, 1) := by decide +kernel
theorem dL_law_890 : decode cL_law 890 = .ok (.aload_n 0, 1) := by decide +kernel
theorem dL_law_891 : decode cL_law 891 = .ok (.iload 4, 2) := by decide +kernel
theorem dL_law_893 : decode cL_law 893 = .ok (.iconst 1, 1) := by decide +kernel
theorem dL_law_894 : decode cL_law 894 = .ok (.iadd, 1) := by decide +kernel
theorem dL_law_895 : decode cL_law 895 = .ok (.iaload, 1) := by decide +kernel
theorem dL_law_896 : decode cL_law 896 = .ok (.aload_n 0, 1) := by decide +kernel
theorem dL_law_897 : decode cL_law 897 = .ok (.iload 4, 2) := by decide +kernel
theorem dL_law_899 : decode cL_law 899 = .ok (.iconst 2, 1) := by decide +kernel
theorem dL_law_900 : decode cL_law 900 = .ok (.iadd, 1) := by decide +kernel
theorem dL_law_901 : decode cL_law 901 = .ok (.iaload, 1) := by decide +kernel
theorem dL_law_902 : decode cL_law 902 = .ok (.aload_n 0, 1) := by decide +kernel
theorem dL_law_903 : decode cL_law 903 = .ok (.iload 4, 2) := by decide +kernel
theorem dL_law_905 : decode cL_law 905 = .ok (.iconst 3, 1) := by decide +kernel
theorem dL_law_906 : decode cL_law 906 = .ok (.iadd, 1) := by decide +kernel
theorem dL_law_907 : decode cL_law 907 = .ok (.iaload, 1) := by decide +kernel
theorem dL_law_908 : decode cL_law 908 = .ok (.aload_n 0, 1) := by decide +kernel
theorem dL_law_909 : decode cL_law 909 = .ok (.iload 4, 2) := by decide +kernel
theorem dL_law_911 : decode cL_law 911 = .ok (.iconst 4, 1) := by decide +kernel
theorem dL_law_912 : decode cL_law 912 = .ok (.iadd, 1) := by decide +kernel
theorem dL_law_913 : decode cL_law 913 = .ok (.iaload, 1) := by decide +kernel
theorem dL_law_914 : decode cL_law 914 = .ok (.invokevirtual 109, 3) := by decide +kernel
theorem dL_law_917 : decode cL_law 917 = .ok (.if_icmp .eq 80, 3) := by decide +kernel
theorem dL_law_920 : decode cL_law 920 = .ok (.iconst 0, 1) := by decide +kernel
theorem dL_law_921 : decode cL_law 921 = .ok (.ireturn, 1) := by decide +kernel
theorem dL_law_922 : decode cL_law 922 = .ok (.aload_n 1, 1) := by decide +kernel
theorem dL_law_923 : decode cL_law 923 = .ok (.aload_n 0, 1) := by decide +kernel
theorem dL_law_924 : decode cL_law 924 = .ok (.iload 4, 2) := by decide +kernel
theorem dL_law_926 : decode cL_law 926 = .ok (.iconst 1, 1) := by decide +kernel
theorem dL_law_927 : decode cL_law 927 = .ok (.iadd, 1) := by decide +kernel
theorem dL_law_928 : decode cL_law 928 = .ok (.iaload, 1) := by decide +kernel
theorem dL_law_929 : decode cL_law 929 = .ok (.invokevirtual 110, 3) := by decide +kernel
theorem dL_law_932 : decode cL_law 932 = .ok (.aload_n 2, 1) := by decide +kernel
theorem dL_law_933 : decode cL_law 933 = .ok (.aload_n 0, 1) := by decide +kernel
theorem dL_law_934 : decode cL_law 934 = .ok (.iload 4, 2) := by decide +kernel
theorem dL_law_936 : decode cL_law 936 = .ok (.iconst 1, 1) := by decide +kernel
theorem dL_law_937 : decode cL_law 937 = .ok (.iadd, 1) := by decide +kernel
theorem dL_law_938 : decode cL_law 938 = .ok (.iaload, 1) := by decide +kernel
theorem dL_law_939 : decode cL_law 939 = .ok (.invokevirtual 113, 3) := by decide +kernel
theorem dL_law_942 : decode cL_law 942 = .ok (.if_icmp .eq 55, 3) := by decide +kernel
theorem dL_law_945 : decode cL_law 945 = .ok (.iconst 0, 1) := by decide +kernel
theorem dL_law_946 : decode cL_law 946 = .ok (.ireturn, 1) := by decide +kernel
theorem dL_law_947 : decode cL_law 947 = .ok (.aload_n 1, 1) := by decide +kernel
theorem dL_law_948 : decode cL_law 948 = .ok (.aload_n 0, 1) := by decide +kernel
theorem dL_law_949 : decode cL_law 949 = .ok (.iload 4, 2) := by decide +kernel
theorem dL_law_951 : decode cL_law 951 = .ok (.iconst 1, 1) := by decide +kernel
theorem dL_law_952 : decode cL_law 952 = .ok (.iadd, 1) := by decide +kernel
theorem dL_law_953 : decode cL_law 953 = .ok (.iaload, 1) := by decide +kernel
theorem dL_law_954 : decode cL_law 954 = .ok (.invokevirtual 114, 3) := by decide +kernel
theorem dL_law_957 : decode cL_law 957 = .ok (.aload_n 2, 1) := by decide +kernel
theorem dL_law_958 : decode cL_law 958 = .ok (.aload_n 0, 1) := by decide +kernel
theorem dL_law_959 : decode cL_law 959 = .ok (.iload 4, 2) := by decide +kernel
theorem dL_law_961 : decode cL_law 961 = .ok (.iconst 1, 1) := by decide +kernel
theorem dL_law_962 : decode cL_law 962 = .ok (.iadd, 1) := by decide +kernel
theorem dL_law_963 : decode cL_law 963 = .ok (.iaload, 1) := by decide +kernel
theorem dL_law_964 : decode cL_law 964 = .ok (.invokevirtual 117, 3) := by decide +kernel
theorem dL_law_967 : decode cL_law 967 = .ok (.if_icmp .eq 30, 3) := by decide +kernel
theorem dL_law_970 : decode cL_law 970 = .ok (.iconst 0, 1) := by decide +kernel
theorem dL_law_971 : decode cL_law 971 = .ok (.ireturn, 1) := by decide +kernel
theorem dL_law_972 : decode cL_law 972 = .ok (.aload_n 1, 1) := by decide +kernel
theorem dL_law_973 : decode cL_law 973 = .ok (.aload_n 0, 1) := by decide +kernel
theorem dL_law_974 : decode cL_law 974 = .ok (.iload 4, 2) := by decide +kernel
theorem dL_law_976 : decode cL_law 976 = .ok (.iconst 1, 1) := by decide +kernel
theorem dL_law_977 : decode cL_law 977 = .ok (.iadd, 1) := by decide +kernel
theorem dL_law_978 : decode cL_law 978 = .ok (.iaload, 1) := by decide +kernel
theorem dL_law_979 : decode cL_law 979 = .ok (.invokevirtual 118, 3) := by decide +kernel
theorem dL_law_982 : decode cL_law 982 = .ok (.aload_n 2, 1) := by decide +kernel
theorem dL_law_983 : decode cL_law 983 = .ok (.aload_n 0, 1) := by decide +kernel
theorem dL_law_984 : decode cL_law 984 = .ok (.iload 4, 2) := by decide +kernel
theorem dL_law_986 : decode cL_law 986 = .ok (.iconst 1, 1) := by decide +kernel
theorem dL_law_987 : decode cL_law 987 = .ok (.iadd, 1) := by decide +kernel
theorem dL_law_988 : decode cL_law 988 = .ok (.iaload, 1) := by decide +kernel
theorem dL_law_989 : decode cL_law 989 = .ok (.invokevirtual 121, 3) := by decide +kernel
theorem dL_law_992 : decode cL_law 992 = .ok (.if_icmp .eq 5, 3) := by decide +kernel
theorem dL_law_995 : decode cL_law 995 = .ok (.iconst 0, 1) := by decide +kernel
theorem dL_law_996 : decode cL_law 996 = .ok (.ireturn, 1) := by decide +kernel
theorem dL_law_997 : decode cL_law 997 = .ok (.iinc 4 6, 3) := by decide +kernel
theorem dL_law_1000 : decode cL_law 1000 = .ok (.goto (-977), 3) := by decide +kernel
theorem dL_law_1003 : decode cL_law 1003 = .ok (.iconst 1, 1) := by decide +kernel
theorem dL_law_1004 : decode cL_law 1004 = .ok (.ireturn, 1) := by decide +kernel
end
section
/-! numbers of the machine as integers: iI, lI; rows of the world as functions of integers: aI, aL -/
def iI (z : Int) : Int32 := Int32.ofInt z
def lI (z : Int) : Int64 := Int64.ofInt z
abbrev iR (z : Int) : Prop := -2147483648 ≤ z ∧ z ≤ 2147483647
abbrev lR (z : Int) : Prop := -9223372036854775808 ≤ z ∧ z ≤ 9223372036854775807
abbrev vI (z : Int) : Value := .int (iI z)
abbrev vL (z : Int) : Value := .long (lI z)
def aI (f : Int → Int) : Nat → Int32 := fun j => iI (f (j : Int))
def aL (f : Int → Int) : Nat → Int64 := fun j => lI (f (j : Int))
def uI (f : Int → Int) (k v : Int) : Int → Int := fun j => if j = k then v else f j
def uZ {α : Type} (f : Nat → α) (k : Nat) (v : α) : Nat → α := fun j => bif Nat.beq j k then v else f j
theorem uI_s (f : Int → Int) (k v : Int) : uI f k v k = v := if_pos rfl
theorem uI_n (f : Int → Int) {k j : Int} (v : Int) (h : j ≠ k) : uI f k v j = f j := if_neg h
theorem iI_toInt {z : Int} (h : iR z) : (iI z).toInt = z := Int32.toInt_ofInt_of_le h.1 (by have := h.2; omega)
theorem lI_toInt {z : Int} (h : lR z) : (lI z).toInt = z := Int64.toInt_ofInt_of_le h.1 (by have := h.2; omega)
theorem iI_of (x : Int32) : iI x.toInt = x := Int32.ofInt_toInt x
theorem lI_of (x : Int64) : lI x.toInt = x := Int64.ofInt_toInt x
theorem iI_rng (x : Int32) : iR x.toInt := by
  have h1 := Int32.le_toInt x
  have h2 := Int32.toInt_lt x
  exact ⟨h1, by omega⟩
theorem lI_rng (x : Int64) : lR x.toInt := by
  have h1 := Int64.le_toInt x
  have h2 := Int64.toInt_lt x
  exact ⟨h1, by omega⟩
theorem iI_lt {a b : Int} (ha : iR a) (hb : iR b) : iI a < iI b ↔ a < b := by rw [Int32.lt_iff_toInt_lt, iI_toInt ha, iI_toInt hb]
theorem iI_le {a b : Int} (ha : iR a) (hb : iR b) : iI a ≤ iI b ↔ a ≤ b := by rw [Int32.le_iff_toInt_le, iI_toInt ha, iI_toInt hb]
theorem iI_eq {a b : Int} (ha : iR a) (hb : iR b) : iI a = iI b ↔ a = b := by rw [← Int32.toInt_inj, iI_toInt ha, iI_toInt hb]
theorem lI_lt {a b : Int} (ha : lR a) (hb : lR b) : lI a < lI b ↔ a < b := by rw [Int64.lt_iff_toInt_lt, lI_toInt ha, lI_toInt hb]
theorem lI_le {a b : Int} (ha : lR a) (hb : lR b) : lI a ≤ lI b ↔ a ≤ b := by rw [Int64.le_iff_toInt_le, lI_toInt ha, lI_toInt hb]
theorem lI_eq {a b : Int} (ha : lR a) (hb : lR b) : lI a = lI b ↔ a = b := by rw [← Int64.toInt_inj, lI_toInt ha, lI_toInt hb]
theorem iI_add (a b : Int) : iI a + iI b = iI (a + b) := (Int32.ofInt_add a b).symm
theorem iI_sub (a b : Int) : iI a - iI b = iI (a - b) := (Int32.ofInt_sub a b).symm
theorem iI_mul (a b : Int) : iI a * iI b = iI (a * b) := (Int32.ofInt_mul a b).symm
theorem iI_neg (a : Int) : -iI a = iI (-a) := (Int32.ofInt_neg a).symm
theorem lI_add (a b : Int) : lI a + lI b = lI (a + b) := (Int64.ofInt_add a b).symm
theorem lI_sub (a b : Int) : lI a - lI b = lI (a - b) := (Int64.ofInt_sub a b).symm
theorem lI_mul (a b : Int) : lI a * lI b = lI (a * b) := (Int64.ofInt_mul a b).symm
theorem lI_neg (a : Int) : -lI a = lI (-a) := (Int64.ofInt_neg a).symm
theorem iI_div {a b : Int} (ha : iR a) (hb : iR b) : iI a / iI b = iI (a.tdiv b) := (Int32.ofInt_tdiv ha.1 ha.2 hb.1 hb.2).symm
theorem lI_div {a b : Int} (ha : lR a) (hb : lR b) : lI a / lI b = lI (a.tdiv b) := (Int64.ofInt_tdiv ha.1 ha.2 hb.1 hb.2).symm
theorem iI_rem {a b : Int} (ha : iR a) (hb : iR b) : iI a - iI a / iI b * iI b = iI (a.tmod b) := by
  rw [iI_div ha hb, iI_mul, iI_sub, Int.tmod_def, Int.mul_comm]
theorem lI_rem {a b : Int} (ha : lR a) (hb : lR b) : lI a - lI a / lI b * lI b = lI (a.tmod b) := by
  rw [lI_div ha hb, lI_mul, lI_sub, Int.tmod_def, Int.mul_comm]
theorem iI_ne0 {b : Int} (hb : iR b) (h : b ≠ 0) : ¬ iI b = 0 := fun q => h ((iI_eq hb ⟨by decide, by decide⟩).mp q)
theorem lI_ne0 {b : Int} (hb : lR b) (h : b ≠ 0) : ¬ lI b = 0 := fun q => h ((lI_eq hb ⟨by decide, by decide⟩).mp q)
theorem iI_wide {a : Int} (ha : iR a) : (iI a).toInt64 = lI a := Int32.toInt64_ofInt ha.1 ha.2
theorem lI_cut (a : Int) : (lI a).toInt32 = iI a := Int64.toInt32_ofInt
theorem iI_clamp {z : Int} (h0 : 0 ≤ z) (h1 : z ≤ 2147483647) : (iI z).toNatClampNeg = z.toNat := Int32.toNatClampNeg_ofInt_of_le (by omega) (by omega)
theorem iI_in {z : Int} {n : Nat} (h0 : 0 ≤ z) (h1 : z < n) (hn : n ≤ 2147483647) : vp_in (iI z) n := by
  rw [vp_in_iff, iI_toInt ⟨by omega, by omega⟩]
  exact ⟨h0, h1⟩
theorem aI_at (f : Int → Int) {z : Int} {n : Nat} (h0 : 0 ≤ z) (h1 : z < n) (hn : n ≤ 2147483647) : aI f (iI z).toNatClampNeg = iI (f z) := by
  rw [iI_clamp h0 (by omega)]
  show iI (f _) = _
  rw [Int.toNat_of_nonneg h0]
theorem aL_at (f : Int → Int) {z : Int} {n : Nat} (h0 : 0 ≤ z) (h1 : z < n) (hn : n ≤ 2147483647) : aL f (iI z).toNatClampNeg = lI (f z) := by
  rw [iI_clamp h0 (by omega)]
  show lI (f _) = _
  rw [Int.toNat_of_nonneg h0]
theorem aI_up (f : Int → Int) {z v : Int} {n : Nat} (h0 : 0 ≤ z) (h1 : z < n) (hn : n ≤ 2147483647) : upd (aI f) (iI z).toNatClampNeg (iI v) = aI (uI f z v) := by
  rw [iI_clamp h0 (by omega)]
  funext j
  show (if j = z.toNat then iI v else iI (f j)) = iI (if (j : Int) = z then v else f j)
  by_cases h : j = z.toNat
  · rw [if_pos h, if_pos (by omega)]
  · rw [if_neg h, if_neg (by omega)]
theorem aL_up (f : Int → Int) {z v : Int} {n : Nat} (h0 : 0 ≤ z) (h1 : z < n) (hn : n ≤ 2147483647) : vp_updL (aL f) (iI z).toNatClampNeg (lI v) = aL (uI f z v) := by
  rw [iI_clamp h0 (by omega)]
  funext j
  show (if j = z.toNat then lI v else lI (f j)) = lI (if (j : Int) = z then v else f j)
  by_cases h : j = z.toNat
  · rw [if_pos h, if_pos (by omega)]
  · rw [if_neg h, if_neg (by omega)]
def cI3 (a b : Int) : Int := if a < b then -1 else if a = b then 0 else 1
theorem lg_cI3 {a b : Int} (ha : lR a) (hb : lR b) : lg_cmp (lI a) (lI b) = iI (cI3 a b) := by
  show (if lI b < lI a then (1 : Int32) else if lI a = lI b then 0 else -1) = iI (if a < b then -1 else if a = b then 0 else 1)
  rcases Int.lt_trichotomy a b with h | h | h
  · rw [if_neg (fun q => by have := (lI_lt hb ha).mp q; omega), if_neg (fun q => by have := (lI_eq ha hb).mp q; omega), if_pos h]
    rfl
  · rw [if_neg (fun q => by have := (lI_lt hb ha).mp q; omega), if_pos ((lI_eq ha hb).mpr h), if_neg (by omega), if_pos h]
    rfl
  · rw [if_pos ((lI_lt hb ha).mpr h), if_neg (by omega), if_neg (by omega)]
    rfl
theorem cI3_lt (a b : Int) : cI3 a b < 0 ↔ a < b := by unfold cI3; split <;> (try split) <;> omega
theorem cI3_le (a b : Int) : cI3 a b ≤ 0 ↔ a ≤ b := by unfold cI3; split <;> (try split) <;> omega
theorem cI3_eq (a b : Int) : cI3 a b = 0 ↔ a = b := by unfold cI3; split <;> (try split) <;> omega
theorem cI3_ge (a b : Int) : 0 ≤ cI3 a b ↔ b ≤ a := by unfold cI3; split <;> (try split) <;> omega
theorem cI3_gt (a b : Int) : 0 < cI3 a b ↔ b < a := by unfold cI3; split <;> (try split) <;> omega
theorem cI3_R (a b : Int) : iR (cI3 a b) := by unfold cI3 iR; split <;> (try split) <;> omega
end
section
section RI
variable {p : Program} {l : Launch} {e : Env} {R : Room} {s : State} {m : MethodId} {args : Array Value} {below : List Frame} {meth : Method} {c : Code} {H : Heap} {locs : List Loc} {cells slots : Nat} {Q : State → Prop}
variable {cc : ByteArray} {pc : Nat} {ls : Array Slot} {rest : List Value}

theorem r_as {a v : Int} (h : a = v) (k : W p l e R s m args below meth c H locs cells slots Q (F0 m pc ls (vI v :: rest))) : W p l e R s m args below meth c H locs cells slots Q (F0 m pc ls (vI a :: rest)) := by subst h; exact k
theorem r_asL {a v : Int} (h : a = v) (k : W p l e R s m args below meth c H locs cells slots Q (F0 m pc ls (vL v :: rest))) : W p l e R s m args below meth c H locs cells slots Q (F0 m pc ls (vL a :: rest)) := by subst h; exact k
theorem r_nm {a : Int} (k : ∀ v : Int, v = a → W p l e R s m args below meth c H locs cells slots Q (F0 m pc ls (vI v :: rest))) : W p l e R s m args below meth c H locs cells slots Q (F0 m pc ls (vI a :: rest)) := k a rfl
theorem r_nmL {a : Int} (k : ∀ v : Int, v = a → W p l e R s m args below meth c H locs cells slots Q (F0 m pc ls (vL v :: rest))) : W p l e R s m args below meth c H locs cells slots Q (F0 m pc ls (vL a :: rest)) := k a rfl
theorem r_iconst (hx : p.tables.exec = Jvm.exec) (hb : c.code = cc) {n : Int} (hdg : decode cc pc = .ok (.iconst n, 1)) (k : W p l e R s m args below meth c H locs cells slots Q (F0 m (pc + 1) ls (vI n :: rest))) : W p l e R s m args below meth c H locs cells slots Q (F0 m pc ls rest) := lv_iconst hx hb hdg rfl k
theorem r_bipush (hx : p.tables.exec = Jvm.exec) (hb : c.code = cc) {n : Int} (hdg : decode cc pc = .ok (.bipush n, 2)) (hn : (Int8.ofInt n).toInt32 = Int32.ofInt n) (k : W p l e R s m args below meth c H locs cells slots Q (F0 m (pc + 2) ls (vI n :: rest))) : W p l e R s m args below meth c H locs cells slots Q (F0 m pc ls rest) := lv_bipush hx hb hdg hn k
theorem r_sipush (hx : p.tables.exec = Jvm.exec) (hb : c.code = cc) {n : Int} (hdg : decode cc pc = .ok (.sipush n, 3)) (hn : (Int16.ofInt n).toInt32 = Int32.ofInt n) (k : W p l e R s m args below meth c H locs cells slots Q (F0 m (pc + 3) ls (vI n :: rest))) : W p l e R s m args below meth c H locs cells slots Q (F0 m pc ls rest) := lv_sipush hx hb hdg hn k
theorem r_lconst (hx : p.tables.exec = Jvm.exec) (hb : c.code = cc) {n : Fin 2} {z : Int} (hdg : decode cc pc = .ok (.lconst n, 1)) (hz : Int64.ofNat (n : Nat) = lI z) (k : W p l e R s m args below meth c H locs cells slots Q (F0 m (pc + 1) ls (vL z :: rest))) : W p l e R s m args below meth c H locs cells slots Q (F0 m pc ls rest) := lv_lconst hx hb hdg hz k
theorem r_iinc (hx : p.tables.exec = Jvm.exec) (hb : c.code = cc) {i nL k : Nat} {n : Int} {a : Int} {lv lv' : List (Nat × Value)} (hdg : decode cc pc = .ok (.iinc i n, 3)) (h : lv_has ls nL lv) (hk : lv[k]? = some (i, vI a)) (hn : i < nL) (hl : (i, vI (a + n)) :: lv.filter (fun q => !(q.1 == i) && !(q.1 + 1 == i && q.2.category == 2)) = lv')
    (kk : ∀ ls' : Array Slot, lv_has ls' nL lv' → W p l e R s m args below meth c H locs cells slots Q (F0 m (pc + 3) ls' rest)) : W p l e R s m args below meth c H locs cells slots Q (F0 m pc ls rest) := lv_iinc hx hb hdg h hk (iI_add a n) hn hl kk
theorem r_iadd (hx : p.tables.exec = Jvm.exec) (hb : c.code = cc) {a b : Int} (hdg : decode cc pc = .ok (.iadd, 1)) (k : W p l e R s m args below meth c H locs cells slots Q (F0 m (pc + 1) ls (vI (a + b) :: rest))) : W p l e R s m args below meth c H locs cells slots Q (F0 m pc ls (vI b :: vI a :: rest)) := lv_iadd hx hb hdg (by rw [iI_add]; exact k)
theorem r_ladd (hx : p.tables.exec = Jvm.exec) (hb : c.code = cc) {a b : Int} (hdg : decode cc pc = .ok (.ladd, 1)) (k : W p l e R s m args below meth c H locs cells slots Q (F0 m (pc + 1) ls (vL (a + b) :: rest))) : W p l e R s m args below meth c H locs cells slots Q (F0 m pc ls (vL b :: vL a :: rest)) := lv_ladd hx hb hdg (by rw [lI_add]; exact k)
theorem r_isub (hx : p.tables.exec = Jvm.exec) (hb : c.code = cc) {a b : Int} (hdg : decode cc pc = .ok (.isub, 1)) (k : W p l e R s m args below meth c H locs cells slots Q (F0 m (pc + 1) ls (vI (a - b) :: rest))) : W p l e R s m args below meth c H locs cells slots Q (F0 m pc ls (vI b :: vI a :: rest)) := lv_isub hx hb hdg (by rw [iI_sub]; exact k)
theorem r_lsub (hx : p.tables.exec = Jvm.exec) (hb : c.code = cc) {a b : Int} (hdg : decode cc pc = .ok (.lsub, 1)) (k : W p l e R s m args below meth c H locs cells slots Q (F0 m (pc + 1) ls (vL (a - b) :: rest))) : W p l e R s m args below meth c H locs cells slots Q (F0 m pc ls (vL b :: vL a :: rest)) := lv_lsub hx hb hdg (by rw [lI_sub]; exact k)
theorem r_imul (hx : p.tables.exec = Jvm.exec) (hb : c.code = cc) {a b : Int} (hdg : decode cc pc = .ok (.imul, 1)) (k : W p l e R s m args below meth c H locs cells slots Q (F0 m (pc + 1) ls (vI (a * b) :: rest))) : W p l e R s m args below meth c H locs cells slots Q (F0 m pc ls (vI b :: vI a :: rest)) := lv_imul hx hb hdg (by rw [iI_mul]; exact k)
theorem r_lmul (hx : p.tables.exec = Jvm.exec) (hb : c.code = cc) {a b : Int} (hdg : decode cc pc = .ok (.lmul, 1)) (k : W p l e R s m args below meth c H locs cells slots Q (F0 m (pc + 1) ls (vL (a * b) :: rest))) : W p l e R s m args below meth c H locs cells slots Q (F0 m pc ls (vL b :: vL a :: rest)) := lv_lmul hx hb hdg (by rw [lI_mul]; exact k)
theorem r_ineg (hx : p.tables.exec = Jvm.exec) (hb : c.code = cc) {a : Int} (hdg : decode cc pc = .ok (.ineg, 1)) (k : W p l e R s m args below meth c H locs cells slots Q (F0 m (pc + 1) ls (vI (-a) :: rest))) : W p l e R s m args below meth c H locs cells slots Q (F0 m pc ls (vI a :: rest)) := lv_ineg hx hb hdg (by rw [iI_neg]; exact k)
theorem r_lneg (hx : p.tables.exec = Jvm.exec) (hb : c.code = cc) {a : Int} (hdg : decode cc pc = .ok (.lneg, 1)) (k : W p l e R s m args below meth c H locs cells slots Q (F0 m (pc + 1) ls (vL (-a) :: rest))) : W p l e R s m args below meth c H locs cells slots Q (F0 m pc ls (vL a :: rest)) := lv_lneg hx hb hdg (by rw [lI_neg]; exact k)
theorem r_idiv (hx : p.tables.exec = Jvm.exec) (hb : c.code = cc) {a b : Int} (hdg : decode cc pc = .ok (.idiv, 1)) (ha : 0 ≤ a ∧ a ≤ 2147483647) (hb0 : 0 < b ∧ b ≤ 2147483647) (k : W p l e R s m args below meth c H locs cells slots Q (F0 m (pc + 1) ls (vI (a / b) :: rest))) : W p l e R s m args below meth c H locs cells slots Q (F0 m pc ls (vI b :: vI a :: rest)) := lv_idiv hx hb hdg (iI_ne0 ⟨by omega, by omega⟩ (by omega)) (by rw [iI_div ⟨by omega, by omega⟩ ⟨by omega, by omega⟩, Int.tdiv_eq_ediv_of_nonneg ha.1]; exact k)
theorem r_irem (hx : p.tables.exec = Jvm.exec) (hb : c.code = cc) {a b : Int} (hdg : decode cc pc = .ok (.irem, 1)) (ha : 0 ≤ a ∧ a ≤ 2147483647) (hb0 : 0 < b ∧ b ≤ 2147483647) (k : W p l e R s m args below meth c H locs cells slots Q (F0 m (pc + 1) ls (vI (a % b) :: rest))) : W p l e R s m args below meth c H locs cells slots Q (F0 m pc ls (vI b :: vI a :: rest)) := lv_irem hx hb hdg (iI_ne0 ⟨by omega, by omega⟩ (by omega)) (by rw [iI_rem ⟨by omega, by omega⟩ ⟨by omega, by omega⟩, Int.tmod_eq_emod_of_nonneg ha.1]; exact k)
theorem r_ldiv (hx : p.tables.exec = Jvm.exec) (hb : c.code = cc) {a b : Int} (hdg : decode cc pc = .ok (.ldiv, 1)) (ha : lR a) (hb0 : lR b) (h0 : b ≠ 0) (k : W p l e R s m args below meth c H locs cells slots Q (F0 m (pc + 1) ls (vL (a.tdiv b) :: rest))) : W p l e R s m args below meth c H locs cells slots Q (F0 m pc ls (vL b :: vL a :: rest)) := lv_ldiv hx hb hdg (lI_ne0 hb0 h0) (by rw [lI_div ha hb0]; exact k)
theorem r_lrem (hx : p.tables.exec = Jvm.exec) (hb : c.code = cc) {a b : Int} (hdg : decode cc pc = .ok (.lrem, 1)) (ha : lR a) (hb0 : lR b) (h0 : b ≠ 0) (k : W p l e R s m args below meth c H locs cells slots Q (F0 m (pc + 1) ls (vL (a.tmod b) :: rest))) : W p l e R s m args below meth c H locs cells slots Q (F0 m pc ls (vL b :: vL a :: rest)) := lv_lrem hx hb hdg (lI_ne0 hb0 h0) (by rw [lI_rem ha hb0]; exact k)
theorem r_i2l (hx : p.tables.exec = Jvm.exec) (hb : c.code = cc) {a : Int} (hdg : decode cc pc = .ok (.i2l, 1)) (ha : iR a) (k : W p l e R s m args below meth c H locs cells slots Q (F0 m (pc + 1) ls (vL a :: rest))) : W p l e R s m args below meth c H locs cells slots Q (F0 m pc ls (vI a :: rest)) := lv_i2l hx hb hdg (iI_wide ha) k
theorem r_l2i (hx : p.tables.exec = Jvm.exec) (hb : c.code = cc) {a : Int} (hdg : decode cc pc = .ok (.l2i, 1)) (k : W p l e R s m args below meth c H locs cells slots Q (F0 m (pc + 1) ls (vI a :: rest))) : W p l e R s m args below meth c H locs cells slots Q (F0 m pc ls (vL a :: rest)) := lv_l2i hx hb hdg (lI_cut a) k
theorem r_icmp_lt (hx : p.tables.exec = Jvm.exec) (hb : c.code = cc) {a b off : Int} {tgt : Nat} (hdg : decode cc pc = .ok (.if_icmp .lt off, 3)) (ht : (pc : Int) + off = (tgt : Int)) (ha : iR a) (hb2 : iR b) (kt : a < b → W p l e R s m args below meth c H locs cells slots Q (F0 m tgt ls rest)) (kf : b ≤ a → W p l e R s m args below meth c H locs cells slots Q (F0 m (pc + 3) ls rest)) : W p l e R s m args below meth c H locs cells slots Q (F0 m pc ls (vI b :: vI a :: rest)) := lv_icmp_lt hx hb hdg ht (fun q => kt ((iI_lt ha hb2).mp q)) (fun q => kf (by have : ¬ (a < b) := fun z => q ((iI_lt ha hb2).mpr z); omega))
theorem iR0 : iR 0 := ⟨by decide, by decide⟩
theorem r_if_lt (hx : p.tables.exec = Jvm.exec) (hb : c.code = cc) {a off : Int} {tgt : Nat} (hdg : decode cc pc = .ok (.ifCond .lt off, 3)) (ht : (pc : Int) + off = (tgt : Int)) (ha : iR a) (kt : a < 0 → W p l e R s m args below meth c H locs cells slots Q (F0 m tgt ls rest)) (kf : 0 ≤ a → W p l e R s m args below meth c H locs cells slots Q (F0 m (pc + 3) ls rest)) : W p l e R s m args below meth c H locs cells slots Q (F0 m pc ls (vI a :: rest)) := lv_if_lt hx hb hdg ht (fun q => kt ((iI_lt ha iR0).mp q)) (fun q => kf (by have : ¬ (a < 0) := fun z => q ((iI_lt ha iR0).mpr z); omega))
theorem r_lcif_lt (hx : p.tables.exec = Jvm.exec) (hb : c.code = cc) {a b off : Int} {tgt : Nat} (hd1 : decode cc pc = .ok (.lcmp, 1)) (hdg : decode cc (pc + 1) = .ok (.ifCond .lt off, 3)) (ht : ((pc + 1 : Nat) : Int) + off = (tgt : Int)) (ha : lR a) (hb2 : lR b) (kt : a < b → W p l e R s m args below meth c H locs cells slots Q (F0 m tgt ls rest)) (kf : b ≤ a → W p l e R s m args below meth c H locs cells slots Q (F0 m (pc + 1 + 3) ls rest)) : W p l e R s m args below meth c H locs cells slots Q (F0 m pc ls (vL b :: vL a :: rest)) := W.lcmp hx hb hd1 (by rw [lg_cI3 ha hb2]; exact r_if_lt hx hb hdg ht (cI3_R a b) (fun q => kt ((cI3_lt a b).mp q)) (fun q => kf (by have h9 : ¬ (a < b) := (fun z => by have h8 := (cI3_lt a b).mpr z; omega); omega)))
theorem r_icmp_le (hx : p.tables.exec = Jvm.exec) (hb : c.code = cc) {a b off : Int} {tgt : Nat} (hdg : decode cc pc = .ok (.if_icmp .le off, 3)) (ht : (pc : Int) + off = (tgt : Int)) (ha : iR a) (hb2 : iR b) (kt : a ≤ b → W p l e R s m args below meth c H locs cells slots Q (F0 m tgt ls rest)) (kf : b < a → W p l e R s m args below meth c H locs cells slots Q (F0 m (pc + 3) ls rest)) : W p l e R s m args below meth c H locs cells slots Q (F0 m pc ls (vI b :: vI a :: rest)) := lv_icmp_le hx hb hdg ht (fun q => kt ((iI_le ha hb2).mp q)) (fun q => kf (by have : ¬ (a ≤ b) := fun z => q ((iI_le ha hb2).mpr z); omega))
theorem r_if_le (hx : p.tables.exec = Jvm.exec) (hb : c.code = cc) {a off : Int} {tgt : Nat} (hdg : decode cc pc = .ok (.ifCond .le off, 3)) (ht : (pc : Int) + off = (tgt : Int)) (ha : iR a) (kt : a ≤ 0 → W p l e R s m args below meth c H locs cells slots Q (F0 m tgt ls rest)) (kf : 0 < a → W p l e R s m args below meth c H locs cells slots Q (F0 m (pc + 3) ls rest)) : W p l e R s m args below meth c H locs cells slots Q (F0 m pc ls (vI a :: rest)) := lv_if_le hx hb hdg ht (fun q => kt ((iI_le ha iR0).mp q)) (fun q => kf (by have : ¬ (a ≤ 0) := fun z => q ((iI_le ha iR0).mpr z); omega))
theorem r_lcif_le (hx : p.tables.exec = Jvm.exec) (hb : c.code = cc) {a b off : Int} {tgt : Nat} (hd1 : decode cc pc = .ok (.lcmp, 1)) (hdg : decode cc (pc + 1) = .ok (.ifCond .le off, 3)) (ht : ((pc + 1 : Nat) : Int) + off = (tgt : Int)) (ha : lR a) (hb2 : lR b) (kt : a ≤ b → W p l e R s m args below meth c H locs cells slots Q (F0 m tgt ls rest)) (kf : b < a → W p l e R s m args below meth c H locs cells slots Q (F0 m (pc + 1 + 3) ls rest)) : W p l e R s m args below meth c H locs cells slots Q (F0 m pc ls (vL b :: vL a :: rest)) := W.lcmp hx hb hd1 (by rw [lg_cI3 ha hb2]; exact r_if_le hx hb hdg ht (cI3_R a b) (fun q => kt ((cI3_le a b).mp q)) (fun q => kf (by have h9 : ¬ (a ≤ b) := (fun z => by have h8 := (cI3_le a b).mpr z; omega); omega)))
theorem r_icmp_gt (hx : p.tables.exec = Jvm.exec) (hb : c.code = cc) {a b off : Int} {tgt : Nat} (hdg : decode cc pc = .ok (.if_icmp .gt off, 3)) (ht : (pc : Int) + off = (tgt : Int)) (ha : iR a) (hb2 : iR b) (kt : b < a → W p l e R s m args below meth c H locs cells slots Q (F0 m tgt ls rest)) (kf : a ≤ b → W p l e R s m args below meth c H locs cells slots Q (F0 m (pc + 3) ls rest)) : W p l e R s m args below meth c H locs cells slots Q (F0 m pc ls (vI b :: vI a :: rest)) := lv_icmp_gt hx hb hdg ht (fun q => kt ((iI_lt hb2 ha).mp q)) (fun q => kf (by have : ¬ (b < a) := fun z => q ((iI_lt hb2 ha).mpr z); omega))
theorem r_if_gt (hx : p.tables.exec = Jvm.exec) (hb : c.code = cc) {a off : Int} {tgt : Nat} (hdg : decode cc pc = .ok (.ifCond .gt off, 3)) (ht : (pc : Int) + off = (tgt : Int)) (ha : iR a) (kt : 0 < a → W p l e R s m args below meth c H locs cells slots Q (F0 m tgt ls rest)) (kf : a ≤ 0 → W p l e R s m args below meth c H locs cells slots Q (F0 m (pc + 3) ls rest)) : W p l e R s m args below meth c H locs cells slots Q (F0 m pc ls (vI a :: rest)) := lv_if_gt hx hb hdg ht (fun q => kt ((iI_lt iR0 ha).mp q)) (fun q => kf (by have : ¬ (0 < a) := fun z => q ((iI_lt iR0 ha).mpr z); omega))
theorem r_lcif_gt (hx : p.tables.exec = Jvm.exec) (hb : c.code = cc) {a b off : Int} {tgt : Nat} (hd1 : decode cc pc = .ok (.lcmp, 1)) (hdg : decode cc (pc + 1) = .ok (.ifCond .gt off, 3)) (ht : ((pc + 1 : Nat) : Int) + off = (tgt : Int)) (ha : lR a) (hb2 : lR b) (kt : b < a → W p l e R s m args below meth c H locs cells slots Q (F0 m tgt ls rest)) (kf : a ≤ b → W p l e R s m args below meth c H locs cells slots Q (F0 m (pc + 1 + 3) ls rest)) : W p l e R s m args below meth c H locs cells slots Q (F0 m pc ls (vL b :: vL a :: rest)) := W.lcmp hx hb hd1 (by rw [lg_cI3 ha hb2]; exact r_if_gt hx hb hdg ht (cI3_R a b) (fun q => kt ((cI3_gt a b).mp q)) (fun q => kf (by have h9 : ¬ (b < a) := (fun z => by have h8 := (cI3_gt a b).mpr z; omega); omega)))
theorem r_icmp_ge (hx : p.tables.exec = Jvm.exec) (hb : c.code = cc) {a b off : Int} {tgt : Nat} (hdg : decode cc pc = .ok (.if_icmp .ge off, 3)) (ht : (pc : Int) + off = (tgt : Int)) (ha : iR a) (hb2 : iR b) (kt : b ≤ a → W p l e R s m args below meth c H locs cells slots Q (F0 m tgt ls rest)) (kf : a < b → W p l e R s m args below meth c H locs cells slots Q (F0 m (pc + 3) ls rest)) : W p l e R s m args below meth c H locs cells slots Q (F0 m pc ls (vI b :: vI a :: rest)) := lv_icmp_ge hx hb hdg ht (fun q => kt ((iI_le hb2 ha).mp q)) (fun q => kf (by have : ¬ (b ≤ a) := fun z => q ((iI_le hb2 ha).mpr z); omega))
theorem r_if_ge (hx : p.tables.exec = Jvm.exec) (hb : c.code = cc) {a off : Int} {tgt : Nat} (hdg : decode cc pc = .ok (.ifCond .ge off, 3)) (ht : (pc : Int) + off = (tgt : Int)) (ha : iR a) (kt : 0 ≤ a → W p l e R s m args below meth c H locs cells slots Q (F0 m tgt ls rest)) (kf : a < 0 → W p l e R s m args below meth c H locs cells slots Q (F0 m (pc + 3) ls rest)) : W p l e R s m args below meth c H locs cells slots Q (F0 m pc ls (vI a :: rest)) := lv_if_ge hx hb hdg ht (fun q => kt ((iI_le iR0 ha).mp q)) (fun q => kf (by have : ¬ (0 ≤ a) := fun z => q ((iI_le iR0 ha).mpr z); omega))
theorem r_lcif_ge (hx : p.tables.exec = Jvm.exec) (hb : c.code = cc) {a b off : Int} {tgt : Nat} (hd1 : decode cc pc = .ok (.lcmp, 1)) (hdg : decode cc (pc + 1) = .ok (.ifCond .ge off, 3)) (ht : ((pc + 1 : Nat) : Int) + off = (tgt : Int)) (ha : lR a) (hb2 : lR b) (kt : b ≤ a → W p l e R s m args below meth c H locs cells slots Q (F0 m tgt ls rest)) (kf : a < b → W p l e R s m args below meth c H locs cells slots Q (F0 m (pc + 1 + 3) ls rest)) : W p l e R s m args below meth c H locs cells slots Q (F0 m pc ls (vL b :: vL a :: rest)) := W.lcmp hx hb hd1 (by rw [lg_cI3 ha hb2]; exact r_if_ge hx hb hdg ht (cI3_R a b) (fun q => kt ((cI3_ge a b).mp q)) (fun q => kf (by have h9 : ¬ (b ≤ a) := (fun z => by have h8 := (cI3_ge a b).mpr z; omega); omega)))
theorem r_icmp_eq (hx : p.tables.exec = Jvm.exec) (hb : c.code = cc) {a b off : Int} {tgt : Nat} (hdg : decode cc pc = .ok (.if_icmp .eq off, 3)) (ht : (pc : Int) + off = (tgt : Int)) (ha : iR a) (hb2 : iR b) (kt : a = b → W p l e R s m args below meth c H locs cells slots Q (F0 m tgt ls rest)) (kf : a ≠ b → W p l e R s m args below meth c H locs cells slots Q (F0 m (pc + 3) ls rest)) : W p l e R s m args below meth c H locs cells slots Q (F0 m pc ls (vI b :: vI a :: rest)) := lv_icmp_eq hx hb hdg ht (fun q => kt ((iI_eq ha hb2).mp q)) (fun q => kf (by have : ¬ (a = b) := fun z => q ((iI_eq ha hb2).mpr z); omega))
theorem r_if_eq (hx : p.tables.exec = Jvm.exec) (hb : c.code = cc) {a off : Int} {tgt : Nat} (hdg : decode cc pc = .ok (.ifCond .eq off, 3)) (ht : (pc : Int) + off = (tgt : Int)) (ha : iR a) (kt : a = 0 → W p l e R s m args below meth c H locs cells slots Q (F0 m tgt ls rest)) (kf : a ≠ 0 → W p l e R s m args below meth c H locs cells slots Q (F0 m (pc + 3) ls rest)) : W p l e R s m args below meth c H locs cells slots Q (F0 m pc ls (vI a :: rest)) := lv_if_eq hx hb hdg ht (fun q => kt ((iI_eq ha iR0).mp q)) (fun q => kf (by have : ¬ (a = 0) := fun z => q ((iI_eq ha iR0).mpr z); omega))
theorem r_lcif_eq (hx : p.tables.exec = Jvm.exec) (hb : c.code = cc) {a b off : Int} {tgt : Nat} (hd1 : decode cc pc = .ok (.lcmp, 1)) (hdg : decode cc (pc + 1) = .ok (.ifCond .eq off, 3)) (ht : ((pc + 1 : Nat) : Int) + off = (tgt : Int)) (ha : lR a) (hb2 : lR b) (kt : a = b → W p l e R s m args below meth c H locs cells slots Q (F0 m tgt ls rest)) (kf : a ≠ b → W p l e R s m args below meth c H locs cells slots Q (F0 m (pc + 1 + 3) ls rest)) : W p l e R s m args below meth c H locs cells slots Q (F0 m pc ls (vL b :: vL a :: rest)) := W.lcmp hx hb hd1 (by rw [lg_cI3 ha hb2]; exact r_if_eq hx hb hdg ht (cI3_R a b) (fun q => kt ((cI3_eq a b).mp q)) (fun q => kf (fun z => q ((cI3_eq a b).mpr z))))
theorem r_icmp_ne (hx : p.tables.exec = Jvm.exec) (hb : c.code = cc) {a b off : Int} {tgt : Nat} (hdg : decode cc pc = .ok (.if_icmp .ne off, 3)) (ht : (pc : Int) + off = (tgt : Int)) (ha : iR a) (hb2 : iR b) (kt : a ≠ b → W p l e R s m args below meth c H locs cells slots Q (F0 m tgt ls rest)) (kf : a = b → W p l e R s m args below meth c H locs cells slots Q (F0 m (pc + 3) ls rest)) : W p l e R s m args below meth c H locs cells slots Q (F0 m pc ls (vI b :: vI a :: rest)) := lv_icmp_ne hx hb hdg ht (fun q => kt (fun z => q ((iI_eq ha hb2).mpr z))) (fun q => kf ((iI_eq ha hb2).mp q))
theorem r_if_ne (hx : p.tables.exec = Jvm.exec) (hb : c.code = cc) {a off : Int} {tgt : Nat} (hdg : decode cc pc = .ok (.ifCond .ne off, 3)) (ht : (pc : Int) + off = (tgt : Int)) (ha : iR a) (kt : a ≠ 0 → W p l e R s m args below meth c H locs cells slots Q (F0 m tgt ls rest)) (kf : a = 0 → W p l e R s m args below meth c H locs cells slots Q (F0 m (pc + 3) ls rest)) : W p l e R s m args below meth c H locs cells slots Q (F0 m pc ls (vI a :: rest)) := lv_if_ne hx hb hdg ht (fun q => kt (fun z => q ((iI_eq ha iR0).mpr z))) (fun q => kf ((iI_eq ha iR0).mp q))
theorem r_lcif_ne (hx : p.tables.exec = Jvm.exec) (hb : c.code = cc) {a b off : Int} {tgt : Nat} (hd1 : decode cc pc = .ok (.lcmp, 1)) (hdg : decode cc (pc + 1) = .ok (.ifCond .ne off, 3)) (ht : ((pc + 1 : Nat) : Int) + off = (tgt : Int)) (ha : lR a) (hb2 : lR b) (kt : a ≠ b → W p l e R s m args below meth c H locs cells slots Q (F0 m tgt ls rest)) (kf : a = b → W p l e R s m args below meth c H locs cells slots Q (F0 m (pc + 1 + 3) ls rest)) : W p l e R s m args below meth c H locs cells slots Q (F0 m pc ls (vL b :: vL a :: rest)) := W.lcmp hx hb hd1 (by rw [lg_cI3 ha hb2]; exact r_if_ne hx hb hdg ht (cI3_R a b) (fun q => kt (fun z => q ((cI3_eq a b).mpr z))) (fun q => kf ((cI3_eq a b).mp q)))
end RI
end
section
/-! one list of table words for all methods; what the nest words say; contracts of one form; calls -/
def wAll : List Cond := lw_tbl.filter goodWord
theorem wAll_t {w : Cond} {i : Nat} (h : tables_1[i]? = some w) (hg : goodWord w = true) : w ∈ wAll := List.mem_filter.mpr ⟨List.mem_append_right _ (List.mem_of_getElem? h), hg⟩
theorem wAll_s {w : Cond} {i : Nat} (h : (k2_sels lw_privs)[i]? = some w) (hg : goodWord w = true) : w ∈ wAll := List.mem_filter.mpr ⟨List.mem_append_left _ (List.mem_of_getElem? h), hg⟩
theorem wAll_good {x y : Cond} (hy : y ∈ wAll) : GoodIn (x :: wAll) (y :: wAll) := by
  intro w hw
  have h : w ∈ wAll := (List.mem_cons.mp hw).elim (fun q => q ▸ hy) id
  exact ⟨List.mem_cons_of_mem _ h, good_of_word (List.mem_filter.mp h).2⟩
def isNest : Cond → Bool
  | .fieldLinkNest _ _ _ _ _ _ => true
  | .methodLinkNest _ _ _ _ => true
  | _ => false
def xN (U : State) : Prop := ∀ w ∈ tables_1, isNest w = true → va_Nw w U
theorem xN_t {U : State} (h : xN U) {w : Cond} {i : Nat} (hi : tables_1[i]? = some w) (hn : isNest w = true) : va_Nw w U := h w (List.mem_of_getElem? hi) hn
theorem isNest_on {w : Cond} (h : isNest w = true) : w.onTables = true := by
  cases w <;> first | rfl | (exact absurd h (by simp [isNest]))
theorem xN_warm {s U : State} (hW : s.WarmedH U.vm) (h : xN s) : xN U := by
  intro w hw hn
  have h1 := h w hw hn
  cases w <;> first | exact va_Nw.warmF hW h1 | exact va_Nw.warmM hW h1 | (exact absurd hn (by simp [isNest]))
theorem xN_same {u U : State} (hv : u.vm = U.vm) (h : xN u) : xN U := fun w hw hn => va_Nw.same (isNest_on hn) hv (h w hw hn)
abbrev tyw (cy : Nat → ClassId) : List (ClassId × FieldType) := [(cy 0, .int), (cy 1, .long), (cy 2, .boolean), (cy 3, .byte)]
abbrev kx (D : va_G) (cy : Nat → ClassId) (s : State) : Prop := va_K D vwCl (tyw cy) s
def wd (D : va_G) (A : Nat → Prop) (H0 : Heap) (ws : va_W) (H : Heap) (locs : List Loc) : Prop := va_P D vwCl ws H ∧ va_D A ws ∧ va_S A H0 H locs
def gPc (D : va_G) (cy : Nat → ClassId) (w0 : va_W) (sz : Nat) (av : List Value) : Array Value → State → Prop :=
  va_Pc av (fun U => U.heap.size = sz ∧ va_P D vwCl w0 U.heap ∧ kx D cy U ∧ va_D (fun _ => True) w0 ∧ xN U)
def gB {S : Type} (D : va_G) (cy : Nat → ClassId) (w0 : va_W) (sz : Nat) (w1 : S → va_W) : S → State → Prop := fun u t => va_P D vwCl (w1 u) t.heap ∧ kx D cy t ∧ va_D (va_A w0 sz) (w1 u)
def MI (l : Launch) (y : MethodName) (cc : ByteArray) (n : Nat) (ret : FieldType) (rm : Room) (D : va_G) (cy : Nat → ClassId) (w0 : va_W) (av : List Value) {S : Type} (post : Int → S → Prop) (w1 : S → va_W) (mc ms : Nat) : Prop :=
  ∀ sz : Nat, Met l y (.code y cc n (some ret) :: wAll) rm (gPc D cy w0 sz av) (va_Qi (fun r u => ∃ v : Int, r = iI v ∧ post v u) (gB D cy w0 sz w1) (va_A w0 sz)) mc ms (va_A w0 sz)
def ML (l : Launch) (y : MethodName) (cc : ByteArray) (n : Nat) (rm : Room) (D : va_G) (cy : Nat → ClassId) (w0 : va_W) (av : List Value) {S : Type} (post : Int → S → Prop) (w1 : S → va_W) (mc ms : Nat) : Prop :=
  ∀ sz : Nat, Met l y (.code y cc n (some .long) :: wAll) rm (gPc D cy w0 sz av) (va_Ql (fun r u => ∃ v : Int, r = lI v ∧ post v u) (gB D cy w0 sz w1) (va_A w0 sz)) mc ms (va_A w0 sz)
def MV (l : Launch) (y : MethodName) (cc : ByteArray) (n : Nat) (rm : Room) (D : va_G) (cy : Nat → ClassId) (w0 : va_W) (av : List Value) {S : Type} (post : S → Prop) (w1 : S → va_W) (mc ms : Nat) : Prop :=
  ∀ sz : Nat, Met l y (.code y cc n none :: wAll) rm (gPc D cy w0 sz av) (va_Qv post (gB D cy w0 sz w1) (va_A w0 sz)) mc ms (va_A w0 sz)
/-- what a walk knows of its method -/
def cx (p : Program) (s : State) (m : MethodId) (args : Array Value) (meth : Method) (c : Code) (cc : ByteArray) (nL : Nat) (own : String) (D : va_G) (cy : Nat → ClassId) : Prop :=
  p.tables.exec = Jvm.exec ∧ c.code = cc ∧ c.maxLocals = nL ∧ s.vm.findClass own = some m.cls ∧ (∀ w ∈ wAll, w.before args s = true) ∧ kx D cy s ∧ xN s
section GO
variable {l : Launch} {y : MethodName} {cc : ByteArray} {n : Nat} {ret : FieldType} {rm : Room} {D : va_G} {cy : Nat → ClassId} {w0 : va_W} {av : List Value} {S : Type} {w1 : S → va_W} {mc ms : Nat}
theorem go_i {post : Int → S → Prop} (hy : plainName y.cls = true) (hn : (lg_sl av).length ≤ n) (hret : ret = .int ∨ ∀ v u, post v u → narrow ret (vI v) = vI v)
    (body : ∀ (p : Program) (e : Env) (s : State) (m : MethodId) (args : Array Value) (below : List Frame) (meth : Method) (c : Code) (Q : State → Prop) (A : Nat → Prop) (ls : Array Slot),
      cx p s m args meth c cc n y.cls D cy → meth.name = y.name → (∀ q, s.heap.size ≤ q → A q) → wd D A s.heap w0 s.heap [] → lv_has ls n (lv_args 0 av) →
      (∀ (v : Int) (u : S) (H : Heap) (locs : List Loc) (pc : Nat) (ls : Array Slot), decode cc pc = .ok (.ireturn, 1) → wd D A s.heap (w1 u) H locs → post v u → W p l e rm s m args below meth c H locs mc ms Q (F0 m pc ls [vI v])) →
      W p l e rm s m args below meth c s.heap [] 0 0 Q (F0 m 0 ls [])) : MI l y cc n ret rm D cy w0 av post w1 mc ms := by
  intro sz
  refine Met.ofW (cc := cc) (maxL := n) (ret := some ret) hy rfl ?_
  intro p e s m args below meth c s₁ B hml hv
  obtain ⟨rfl, hsz, hP, hK, hD0, hN⟩ := hv
  subst hsz
  have hts := atoms_spec (ws := .code y cc n (some ret) :: wAll) B.pre
  rw [lg_entry_eq]
  refine body p e s m av.toArray below meth c _ (va_A w0 s.heap.size) _ ⟨B.exec, B.bytes, hml, findClass_of_methodNamed B.named, fun w h => hts w (List.mem_cons_of_mem _ h), hK, hN⟩ (name_of_methodNamed B.named B.method).1 (fun q h => Or.inr h) ⟨hP, hD0.self, va_S.rf⟩ (lv_entry av hn) ?_
  intro v u H locs pc ls hd hw hp
  have hq : ∀ t : State, t.heap = H → s.WarmedH t.vm → va_Qi (fun r u => ∃ v : Int, r = iI v ∧ post v u) (gB D cy w0 s.heap.size w1) (va_A w0 s.heap.size) av.toArray s (.returned (some (vI v))) t := fun t ht hW => ⟨⟨iI v, u, rfl, ⟨v, rfl, hp⟩, by rw [ht]; exact hw.1, va_K.moved hW.alike hK, hw.2.1⟩, hw.2.2.F ht⟩
  rcases hret with hr | hr
  · subst hr
    exact W.iret B.exec B.bytes B.returns hq hw.2.2.2.2 hd B.notSynchronized
  · exact W.zret B.exec B.bytes B.returns (hr v u hp) hq hw.2.2.2.2 hd B.notSynchronized
theorem go_l {post : Int → S → Prop} (hy : plainName y.cls = true) (hn : (lg_sl av).length ≤ n)
    (body : ∀ (p : Program) (e : Env) (s : State) (m : MethodId) (args : Array Value) (below : List Frame) (meth : Method) (c : Code) (Q : State → Prop) (A : Nat → Prop) (ls : Array Slot),
      cx p s m args meth c cc n y.cls D cy → meth.name = y.name → (∀ q, s.heap.size ≤ q → A q) → wd D A s.heap w0 s.heap [] → lv_has ls n (lv_args 0 av) →
      (∀ (v : Int) (u : S) (H : Heap) (locs : List Loc) (pc : Nat) (ls : Array Slot), decode cc pc = .ok (.lreturn, 1) → wd D A s.heap (w1 u) H locs → post v u → W p l e rm s m args below meth c H locs mc ms Q (F0 m pc ls [vL v])) →
      W p l e rm s m args below meth c s.heap [] 0 0 Q (F0 m 0 ls [])) : ML l y cc n rm D cy w0 av post w1 mc ms := by
  intro sz
  refine Met.ofW (cc := cc) (maxL := n) (ret := some .long) hy rfl ?_
  intro p e s m args below meth c s₁ B hml hv
  obtain ⟨rfl, hsz, hP, hK, hD0, hN⟩ := hv
  subst hsz
  have hts := atoms_spec (ws := .code y cc n (some .long) :: wAll) B.pre
  rw [lg_entry_eq]
  refine body p e s m av.toArray below meth c _ (va_A w0 s.heap.size) _ ⟨B.exec, B.bytes, hml, findClass_of_methodNamed B.named, fun w h => hts w (List.mem_cons_of_mem _ h), hK, hN⟩ (name_of_methodNamed B.named B.method).1 (fun q h => Or.inr h) ⟨hP, hD0.self, va_S.rf⟩ (lv_entry av hn) ?_
  intro v u H locs pc ls hd hw hp
  exact W.lret B.exec B.bytes B.returns (fun t ht hW => ⟨⟨lI v, u, rfl, ⟨v, rfl, hp⟩, by rw [ht]; exact hw.1, va_K.moved hW.alike hK, hw.2.1⟩, hw.2.2.F ht⟩) hw.2.2.2.2 hd B.notSynchronized
theorem go_v {post : S → Prop} (hy : plainName y.cls = true) (hn : (lg_sl av).length ≤ n)
    (body : ∀ (p : Program) (e : Env) (s : State) (m : MethodId) (args : Array Value) (below : List Frame) (meth : Method) (c : Code) (Q : State → Prop) (A : Nat → Prop) (ls : Array Slot),
      cx p s m args meth c cc n y.cls D cy → meth.name = y.name → (∀ q, s.heap.size ≤ q → A q) → wd D A s.heap w0 s.heap [] → lv_has ls n (lv_args 0 av) →
      (∀ (u : S) (H : Heap) (locs : List Loc) (pc : Nat) (ls : Array Slot), decode cc pc = .ok (.return_, 1) → wd D A s.heap (w1 u) H locs → post u → W p l e rm s m args below meth c H locs mc ms Q (F0 m pc ls [])) →
      W p l e rm s m args below meth c s.heap [] 0 0 Q (F0 m 0 ls [])) : MV l y cc n rm D cy w0 av post w1 mc ms := by
  intro sz
  refine Met.ofW (cc := cc) (maxL := n) (ret := none) hy rfl ?_
  intro p e s m args below meth c s₁ B hml hv
  obtain ⟨rfl, hsz, hP, hK, hD0, hN⟩ := hv
  subst hsz
  have hts := atoms_spec (ws := .code y cc n none :: wAll) B.pre
  rw [lg_entry_eq]
  refine body p e s m av.toArray below meth c _ (va_A w0 s.heap.size) _ ⟨B.exec, B.bytes, hml, findClass_of_methodNamed B.named, fun w h => hts w (List.mem_cons_of_mem _ h), hK, hN⟩ (name_of_methodNamed B.named B.method).1 (fun q h => Or.inr h) ⟨hP, hD0.self, va_S.rf⟩ (lv_entry av hn) ?_
  intro u H locs pc ls hd hw hp
  exact W.vret B.exec B.bytes B.returns (fun t ht hW => ⟨⟨u, rfl, hp, by rw [ht]; exact hw.1, va_K.moved hW.alike hK, hw.2.1⟩, hw.2.2.F ht⟩) hw.2.2.2.2 hd B.notSynchronized
end GO
end
section
theorem good_in {L : List Cond} (h : ∀ w ∈ L, w ∈ wAll) : GoodIn wAll L := fun w hw => ⟨h w hw, good_of_word (List.mem_filter.mp (h w hw)).2⟩
theorem gPc_blind {D : va_G} {cy : Nat → ClassId} {w0 : va_W} {sz : Nat} {av : List Value} : FrameBlind (gPc D cy w0 sz av) := by
  intro a U g mk q
  obtain ⟨q0, q1, qP, qK, qD, qN⟩ := q
  exact ⟨q0, q1, qP, va_K.moved (u := U) (U := U.calling g mk a) (Vm.Alike.refl U.vm) qK, qD, xN_same (u := U) (U := U.calling g mk a) rfl qN⟩
/-- what the tables say of a method that is called: by its receiver's class, or static -/
def okC (y : MethodName) (cc : ByteArray) (n : Nat) (ret : Option FieldType) (k : Nat) : Prop := .initialized y.cls ∈ wAll ∧ .code y cc n ret ∈ wAll ∧ y.cls ≠ "java/lang/invoke/MethodHandle" ∧ y.cls ≠ "java/lang/invoke/VarHandle" ∧ (parseMethodDescriptor y.desc).map (fun d => d.parameters.length) = some k
def okV (y : MethodName) (cc : ByteArray) (n : Nat) (ret : Option FieldType) (k : Nat) : Prop := okC y cc n ret k ∧ .instanceMethod y ∈ wAll ∧ .selects y.cls y y ∈ wAll
def okS (y : MethodName) (cc : ByteArray) (n : Nat) (ret : Option FieldType) (k : Nat) : Prop := okC y cc n ret k ∧ .static y ∈ wAll
def okI (y : MethodName) (cc : ByteArray) (n : Nat) (k : Nat) : Prop := okC y cc n none k ∧ .instanceMethod y ∈ wAll ∧ y.name = "<init>"

section RC
variable {p : Program} {l : Launch} {e : Env} {R : Room} {s : State} {m : MethodId} {args : Array Value} {below : List Frame} {meth : Method} {c : Code} {H : Heap} {locs : List Loc} {cells slots : Nat} {Q : State → Prop}
variable {cc : ByteArray} {pc nL : Nat} {ls : Array Slot} {rest : List Value} {D : va_G} {cy : Nat → ClassId} {own : String} {A : Nat → Prop} {a : Nat} {ws : va_W} {H0 : Heap}

theorem r_get (C : cx p s m args meth c cc nL own D cy) (w : wd D A H0 ws H locs) (q0 : Nat) {Cn : String} {T : u_T} {N ci idx : Nat} {fs : List Value} (he : ws[q0]? = some (a, .inr (ci, fs))) (hc : vwCl[ci]? = some (Cn, T, N)) (k : Nat) (hk : k < N) (hin : ∀ w ∈ u_ws Cn T N, w ∈ wAll) (hlk : .fieldLink own idx (T k).1 (T k).2.1 (T k).2.2.1 ∈ wAll) {v : Value} (hv : fs[k]? = some v) (hdg : decode cc pc = .ok (.getfield idx, 3))
    (kk : W p l e R s m args below meth c H locs cells slots Q (F0 m (pc + 3) ls (v :: rest))) : W p l e R s m args below meth c H locs cells slots Q (F0 m pc ls (.ref a :: rest)) := va_get C.1 C.2.1 C.2.2.2.2.1 hin C.2.2.2.1 C.2.2.2.2.2.1 w.1 q0 he hc k hk (C.2.2.2.2.1 _ hlk) (fun _ h => h) hv hdg kk
theorem r_getN (C : cx p s m args meth c cc nL own D cy) (w : wd D A H0 ws H locs) (q0 : Nat) {Cn host : String} {T : u_T} {N ci idx : Nat} {fs : List Value} (he : ws[q0]? = some (a, .inr (ci, fs))) (hc : vwCl[ci]? = some (Cn, T, N)) (k : Nat) (hk : k < N) (hin : ∀ w ∈ u_ws Cn T N, w ∈ wAll) {wi : Nat} (hlk : tables_1[wi]? = some (.fieldLinkNest own idx (T k).1 (T k).2.1 (T k).2.2.1 host)) {v : Value} (hv : fs[k]? = some v) (hdg : decode cc pc = .ok (.getfield idx, 3))
    (kk : W p l e R s m args below meth c H locs cells slots Q (F0 m (pc + 3) ls (v :: rest))) : W p l e R s m args below meth c H locs cells slots Q (F0 m pc ls (.ref a :: rest)) := va_getN C.1 C.2.1 C.2.2.2.2.1 hin C.2.2.2.1 C.2.2.2.2.2.1 w.1 q0 he hc k hk (va_Nw.use rfl (xN_t C.2.2.2.2.2.2 hlk rfl)) (fun _ h => h) hv hdg kk
theorem r_put (C : cx p s m args meth c cc nL own D cy) (w : wd D A H0 ws H locs) (q0 : Nat) {Cn : String} {T : u_T} {N ci idx : Nat} {fs : List Value} (ty0 : Nat → FieldType) (hty : ∀ k, k < N → parseFieldDescriptor (T k).2.2.1 = some (ty0 k)) (hnm : ∀ a, a < N → ∀ b, b < N → a ≠ b → (T a).2.1 ≠ (T b).2.1) (he : ws[q0]? = some (a, .inr (ci, fs))) (hc : vwCl[ci]? = some (Cn, T, N)) (k : Nat) (hk : k < N) (hin : ∀ w ∈ u_ws Cn T N, w ∈ wAll) (hlk : .fieldLink own idx (T k).1 (T k).2.1 (T k).2.2.1 ∈ wAll) (hfin : (T k).2.2.2 = false) {v : Value} (hn : narrow (ty0 k) v = v) (hfit : fits (ty0 k) v = true) (hl : k < fs.length) {ws' : va_W} (hset : ws.set q0 (a, .inr (ci, fs.set k v)) = ws') (hdg : decode cc pc = .ok (.putfield idx, 3))
    (kk : ∀ (H1 : Heap) (locs1 : List Loc), wd D A H0 ws' H1 locs1 → W p l e R s m args below meth c H1 locs1 cells slots Q (F0 m (pc + 3) ls rest)) : W p l e R s m args below meth c H locs cells slots Q (F0 m pc ls (v :: .ref a :: rest)) := va_put C.1 C.2.1 C.2.2.2.2.1 hin ty0 hty hnm C.2.2.2.1 C.2.2.2.2.2.1 w.1 w.2.1 w.2.2 q0 he hc k hk (C.2.2.2.2.1 _ hlk) (fun _ h => h) hfin (hty k hk) hn hfit hl hdg (fun H1 locs1 h1 h2 h3 => kk H1 locs1 ⟨hset ▸ h1, hset ▸ h2, h3⟩)
theorem r_putN (C : cx p s m args meth c cc nL own D cy) (w : wd D A H0 ws H locs) (q0 : Nat) {Cn host : String} {T : u_T} {N ci idx : Nat} {fs : List Value} (ty0 : Nat → FieldType) (hty : ∀ k, k < N → parseFieldDescriptor (T k).2.2.1 = some (ty0 k)) (hnm : ∀ a, a < N → ∀ b, b < N → a ≠ b → (T a).2.1 ≠ (T b).2.1) (he : ws[q0]? = some (a, .inr (ci, fs))) (hc : vwCl[ci]? = some (Cn, T, N)) (k : Nat) (hk : k < N) (hin : ∀ w ∈ u_ws Cn T N, w ∈ wAll) {wi : Nat} (hlk : tables_1[wi]? = some (.fieldLinkNest own idx (T k).1 (T k).2.1 (T k).2.2.1 host)) (hfin : (T k).2.2.2 = false) {v : Value} (hn : narrow (ty0 k) v = v) (hfit : fits (ty0 k) v = true) (hl : k < fs.length) {ws' : va_W} (hset : ws.set q0 (a, .inr (ci, fs.set k v)) = ws') (hdg : decode cc pc = .ok (.putfield idx, 3))
    (kk : ∀ (H1 : Heap) (locs1 : List Loc), wd D A H0 ws' H1 locs1 → W p l e R s m args below meth c H1 locs1 cells slots Q (F0 m (pc + 3) ls rest)) : W p l e R s m args below meth c H locs cells slots Q (F0 m pc ls (v :: .ref a :: rest)) := va_putN C.1 C.2.1 C.2.2.2.2.1 hin ty0 hty hnm C.2.2.2.1 C.2.2.2.2.2.1 w.1 w.2.1 w.2.2 q0 he hc k hk (va_Nw.use rfl (xN_t C.2.2.2.2.2.2 hlk rfl)) (fun _ h => h) hfin (hty k hk) hn hfit hl hdg (fun H1 locs1 h1 h2 h3 => kk H1 locs1 ⟨hset ▸ h1, hset ▸ h2, h3⟩)
theorem r_putF (C : cx p s m args meth c cc nL own D cy) (hin2 : meth.name = "<init>") (w : wd D A H0 ws H locs) (q0 : Nat) {Cn : String} {T : u_T} {N ci idx : Nat} {fs : List Value} (ty0 : Nat → FieldType) (hty : ∀ k, k < N → parseFieldDescriptor (T k).2.2.1 = some (ty0 k)) (hnm : ∀ a, a < N → ∀ b, b < N → a ≠ b → (T a).2.1 ≠ (T b).2.1) (he : ws[q0]? = some (a, .inr (ci, fs))) (hc : vwCl[ci]? = some (Cn, T, N)) (k : Nat) (hk : k < N) (hin : ∀ w ∈ u_ws Cn T N, w ∈ wAll) (hlk : .fieldLink own idx (T k).1 (T k).2.1 (T k).2.2.1 ∈ wAll) (hfin : (T k).2.2.2 = true) (hdecl : (T k).1 = own) {v : Value} (hn : narrow (ty0 k) v = v) (hfit : fits (ty0 k) v = true) (hl : k < fs.length) {ws' : va_W} (hset : ws.set q0 (a, .inr (ci, fs.set k v)) = ws') (hdg : decode cc pc = .ok (.putfield idx, 3))
    (kk : ∀ (H1 : Heap) (locs1 : List Loc), wd D A H0 ws' H1 locs1 → W p l e R s m args below meth c H1 locs1 cells slots Q (F0 m (pc + 3) ls rest)) : W p l e R s m args below meth c H locs cells slots Q (F0 m pc ls (v :: .ref a :: rest)) := va_putF C.1 C.2.1 C.2.2.2.2.1 hin ty0 hty hnm C.2.2.2.1 C.2.2.2.2.2.1 w.1 w.2.1 w.2.2 q0 he hc k hk (C.2.2.2.2.1 _ hlk) (fun _ h => h) hfin hin2 hdecl (hty k hk) hn hfit hl hdg (fun H1 locs1 h1 h2 h3 => kk H1 locs1 ⟨hset ▸ h1, hset ▸ h2, h3⟩)
theorem r_iald (C : cx p s m args meth c cc nL own D cy) (w : wd D A H0 ws H locs) (q0 : Nat) {n : Nat} {f : Int → Int} (ha : ws[q0]? = some (a, .inl (cy 0, n, .inl (aI f)))) {i : Int} (h0 : 0 ≤ i) (h1 : i < n) (hn : n ≤ 2147483647) (hdg : decode cc pc = .ok (.iaload, 1)) (kk : W p l e R s m args below meth c H locs cells slots Q (F0 m (pc + 1) ls (vI (f i) :: rest))) : W p l e R s m args below meth c H locs cells slots Q (F0 m pc ls (vI i :: .ref a :: rest)) := va_iald C.1 C.2.1 C.2.2.2.2.2.1 w.1 q0 0 ha rfl (iI_in h0 h1 hn) hdg (by rw [aI_at f h0 h1 hn]; exact kk)
theorem r_iast (C : cx p s m args meth c cc nL own D cy) (w : wd D A H0 ws H locs) (q0 : Nat) {n : Nat} {f : Int → Int} (ha : ws[q0]? = some (a, .inl (cy 0, n, .inl (aI f)))) {i x : Int} (h0 : 0 ≤ i) (h1 : i < n) (hn : n ≤ 2147483647) {ws' : va_W} (hset : ws.set q0 (a, .inl (cy 0, n, .inl (aI (uI f i x)))) = ws') (hdg : decode cc pc = .ok (.iastore, 1))
    (kk : ∀ (H1 : Heap) (locs1 : List Loc), wd D A H0 ws' H1 locs1 → W p l e R s m args below meth c H1 locs1 cells slots Q (F0 m (pc + 1) ls rest)) : W p l e R s m args below meth c H locs cells slots Q (F0 m pc ls (vI x :: vI i :: .ref a :: rest)) := va_iast C.1 C.2.1 C.2.2.2.2.2.1 w.1 w.2.1 w.2.2 q0 0 ha rfl (iI_in h0 h1 hn) hdg (fun H1 locs1 h1' h2' h3' => kk H1 locs1 ⟨by rw [aI_up f h0 h1 hn, hset] at h1'; exact h1', by rw [aI_up f h0 h1 hn, hset] at h2'; exact h2', h3'⟩)
theorem r_zald (C : cx p s m args meth c cc nL own D cy) (w : wd D A H0 ws H locs) (q0 : Nat) {n : Nat} {f : Int → Int} (ha : ws[q0]? = some (a, .inl (cy 2, n, .inl (aI f)))) {i : Int} (h0 : 0 ≤ i) (h1 : i < n) (hn : n ≤ 2147483647) (hdg : decode cc pc = .ok (.baload, 1)) (kk : W p l e R s m args below meth c H locs cells slots Q (F0 m (pc + 1) ls (vI (f i) :: rest))) : W p l e R s m args below meth c H locs cells slots Q (F0 m pc ls (vI i :: .ref a :: rest)) := va_zald C.1 C.2.1 C.2.2.2.2.2.1 w.1 q0 2 ha rfl (iI_in h0 h1 hn) hdg (by rw [aI_at f h0 h1 hn]; exact kk)
theorem r_zast (C : cx p s m args meth c cc nL own D cy) (w : wd D A H0 ws H locs) (q0 : Nat) {n : Nat} {f : Int → Int} (ha : ws[q0]? = some (a, .inl (cy 2, n, .inl (aI f)))) {i x : Int} (h0 : 0 ≤ i) (h1 : i < n) (hn : n ≤ 2147483647) (hx1 : vp_nar .boolean (iI x) = iI x) {ws' : va_W} (hset : ws.set q0 (a, .inl (cy 2, n, .inl (aI (uI f i x)))) = ws') (hdg : decode cc pc = .ok (.bastore, 1))
    (kk : ∀ (H1 : Heap) (locs1 : List Loc), wd D A H0 ws' H1 locs1 → W p l e R s m args below meth c H1 locs1 cells slots Q (F0 m (pc + 1) ls rest)) : W p l e R s m args below meth c H locs cells slots Q (F0 m pc ls (vI x :: vI i :: .ref a :: rest)) := va_zast C.1 C.2.1 C.2.2.2.2.2.1 w.1 w.2.1 w.2.2 q0 2 ha rfl (iI_in h0 h1 hn) hdg (fun H1 locs1 h1' h2' h3' => kk H1 locs1 ⟨by rw [hx1, aI_up f h0 h1 hn, hset] at h1'; exact h1', by rw [hx1, aI_up f h0 h1 hn, hset] at h2'; exact h2', h3'⟩)
theorem r_bald (C : cx p s m args meth c cc nL own D cy) (w : wd D A H0 ws H locs) (q0 : Nat) {n : Nat} {f : Int → Int} (ha : ws[q0]? = some (a, .inl (cy 3, n, .inl (aI f)))) {i : Int} (h0 : 0 ≤ i) (h1 : i < n) (hn : n ≤ 2147483647) (hdg : decode cc pc = .ok (.baload, 1)) (kk : W p l e R s m args below meth c H locs cells slots Q (F0 m (pc + 1) ls (vI (f i) :: rest))) : W p l e R s m args below meth c H locs cells slots Q (F0 m pc ls (vI i :: .ref a :: rest)) := va_bald C.1 C.2.1 C.2.2.2.2.2.1 w.1 q0 3 ha rfl (iI_in h0 h1 hn) hdg (by rw [aI_at f h0 h1 hn]; exact kk)
theorem r_bast (C : cx p s m args meth c cc nL own D cy) (w : wd D A H0 ws H locs) (q0 : Nat) {n : Nat} {f : Int → Int} (ha : ws[q0]? = some (a, .inl (cy 3, n, .inl (aI f)))) {i x : Int} (h0 : 0 ≤ i) (h1 : i < n) (hn : n ≤ 2147483647) (hx1 : vp_nar .byte (iI x) = iI x) {ws' : va_W} (hset : ws.set q0 (a, .inl (cy 3, n, .inl (aI (uI f i x)))) = ws') (hdg : decode cc pc = .ok (.bastore, 1))
    (kk : ∀ (H1 : Heap) (locs1 : List Loc), wd D A H0 ws' H1 locs1 → W p l e R s m args below meth c H1 locs1 cells slots Q (F0 m (pc + 1) ls rest)) : W p l e R s m args below meth c H locs cells slots Q (F0 m pc ls (vI x :: vI i :: .ref a :: rest)) := va_bast C.1 C.2.1 C.2.2.2.2.2.1 w.1 w.2.1 w.2.2 q0 3 ha rfl (iI_in h0 h1 hn) hdg (fun H1 locs1 h1' h2' h3' => kk H1 locs1 ⟨by rw [hx1, aI_up f h0 h1 hn, hset] at h1'; exact h1', by rw [hx1, aI_up f h0 h1 hn, hset] at h2'; exact h2', h3'⟩)
theorem r_lald (C : cx p s m args meth c cc nL own D cy) (w : wd D A H0 ws H locs) (q0 : Nat) {n : Nat} {f : Int → Int} (ha : ws[q0]? = some (a, .inl (cy 1, n, .inr (.inl (aL f))))) {i : Int} (h0 : 0 ≤ i) (h1 : i < n) (hn : n ≤ 2147483647) (hdg : decode cc pc = .ok (.laload, 1)) (kk : W p l e R s m args below meth c H locs cells slots Q (F0 m (pc + 1) ls (vL (f i) :: rest))) : W p l e R s m args below meth c H locs cells slots Q (F0 m pc ls (vI i :: .ref a :: rest)) := va_lald C.1 C.2.1 C.2.2.2.2.2.1 w.1 q0 1 ha rfl (iI_in h0 h1 hn) hdg (by rw [aL_at f h0 h1 hn]; exact kk)
theorem r_last (C : cx p s m args meth c cc nL own D cy) (w : wd D A H0 ws H locs) (q0 : Nat) {n : Nat} {f : Int → Int} (ha : ws[q0]? = some (a, .inl (cy 1, n, .inr (.inl (aL f))))) {i x : Int} (h0 : 0 ≤ i) (h1 : i < n) (hn : n ≤ 2147483647) {ws' : va_W} (hset : ws.set q0 (a, .inl (cy 1, n, .inr (.inl (aL (uI f i x))))) = ws') (hdg : decode cc pc = .ok (.lastore, 1))
    (kk : ∀ (H1 : Heap) (locs1 : List Loc), wd D A H0 ws' H1 locs1 → W p l e R s m args below meth c H1 locs1 cells slots Q (F0 m (pc + 1) ls rest)) : W p l e R s m args below meth c H locs cells slots Q (F0 m pc ls (vL x :: vI i :: .ref a :: rest)) := va_last C.1 C.2.1 C.2.2.2.2.2.1 w.1 w.2.1 w.2.2 q0 1 ha rfl (iI_in h0 h1 hn) hdg (fun H1 locs1 h1' h2' h3' => kk H1 locs1 ⟨by rw [aL_up f h0 h1 hn, hset] at h1'; exact h1', by rw [aL_up f h0 h1 hn, hset] at h2'; exact h2', h3'⟩)
variable {y : MethodName} {cc' : ByteArray} {n' k' idx mc' ms' : Nat} {ret : FieldType} {rm' : Room} {b : Nat} {As st : List Value} {S : Type} {w1 : S → va_W}
theorem wd_free (w : wd D A H0 ws H locs) (hA : ∀ q, H0.size ≤ q → A q) : ∀ q, va_A ws H.size q → A q := by
  intro q h
  rcases h with ⟨k, e, h⟩ | h
  · exact w.2.1.2 k _ h
  · exact hA q (Nat.le_trans w.2.2.1 h)
theorem okC_B {C : cx p s m args meth c cc nL own D cy} {r : Option FieldType} (o : okC y cc' n' r k') (hlk : .methodLink own idx y ∈ wAll) (hrc : rm'.cells = mc' ∧ rm'.slots = ms') (hR : rm'.frames + 1 ≤ R.frames ∧ 8 + (n' + 11) + rm'.locals ≤ R.locals) : CallB R s args own idx y cc' n' r (.code y cc' n' r :: wAll) rm' mc' ms' k' :=
  callB_of k' C.2.2.2.2.1 (good_in (fun w hw => (List.mem_cons.mp hw).elim (fun q => q ▸ o.2.1) id)) rfl hrc.1 hrc.2 (C.2.2.2.2.1 _ o.1) (C.2.2.2.2.1 _ hlk) ⟨o.2.2.1, o.2.2.2.1, o.2.2.2.2⟩ hR
theorem okC_N {C : cx p s m args meth c cc nL own D cy} {r : Option FieldType} {host : String} {wi : Nat} (o : okC y cc' n' r k') (hlk : tables_1[wi]? = some (.methodLinkNest own idx y host)) (hrc : rm'.cells = mc' ∧ rm'.slots = ms') (hR : rm'.frames + 1 ≤ R.frames ∧ 8 + (n' + 11) + rm'.locals ≤ R.locals) : va_CN R s args own idx y host cc' n' r (.code y cc' n' r :: wAll) rm' mc' ms' k' :=
  va_cnB k' C.2.2.2.2.1 (good_in (fun w hw => (List.mem_cons.mp hw).elim (fun q => q ▸ o.2.1) id)) rfl hrc.1 hrc.2 (xN_t C.2.2.2.2.2.2 hlk rfl) (C.2.2.2.2.1 _ o.1) ⟨o.2.2.1, o.2.2.2.1, o.2.2.2.2⟩ hR
theorem cVI {post : Int → S → Prop} (C : cx p s m args meth c cc nL own D cy) (w : wd D A H0 ws H locs) (hA : ∀ q, H0.size ≤ q → A q) (hM : MI l y cc' n' ret rm' D cy ws (.ref b :: As) post w1 mc' ms') (o : okV y cc' n' (some ret) k') (hlk : .methodLink own idx y ∈ wAll) (hrc : rm'.cells = mc' ∧ rm'.slots = ms') (hR : rm'.frames + 1 ≤ R.frames ∧ 8 + (n' + 11) + rm'.locals ≤ R.locals) (hf : cells + mc' ≤ R.cells ∧ slots + ms' ≤ R.slots) (hn : As.length = k') (q0 : Nat) {ci N : Nat} {fs : List Value} {T : u_T} (he : ws[q0]? = some (b, .inr (ci, fs))) (hc : vwCl[ci]? = some (y.cls, T, N)) (hl : ls.size = nL) (hst : st = As.reverse ++ .ref b :: rest) (hW : (rest.map fun v => v.category).sum ≤ 8) (hdg : decode cc pc = .ok (.invokevirtual idx, 3))
    (kk : ∀ (v : Int) (u : S) (H1 : Heap) (locs1 : List Loc), wd D A H0 (w1 u) H1 locs1 → post v u → W p l e R s m args below meth c H1 locs1 (cells + mc') (slots + ms') Q (F0 m (pc + 3) ls (vI v :: rest))) : W p l e R s m args below meth c H locs cells slots Q (F0 m pc ls st) := by
  subst hst
  have hFc := wd_free w hA
  exact va_calli (va_runV (As := As) (rest := rest) ⟨C.1, C.2.1, C.2.2.1, C.2.2.2.1, C.2.2.2.2.1⟩ (hM H.size) ⟨okC_B (C := C) o.1 hlk hrc hR, C.2.2.2.2.1 _ o.2.1, C.2.2.2.2.1 _ o.2.2⟩ ⟨gPc_blind, va_recv C.2.2.2.2.2.1 w.1 (ci := ci) (q0 := q0) hc he, fun U hU hW => ⟨rfl, by rw [hU], by rw [hU]; exact w.1, va_K.moved hW.alike C.2.2.2.2.2.1, w.2.1.weaken (fun _ _ _ _ => trivial), xN_warm hW C.2.2.2.2.2.2⟩⟩ rfl hn hl rfl (lv_room hW) hdg hf) w.2.2 (fun q _ h => hFc q h) hFc (fun r u t H1 locs1 ht hvm hw hB hz1 hk1 hS1 => by
    obtain ⟨v, rfl, hp⟩ := hw
    exact kk v u H1 locs1 ⟨by rw [← ht]; exact hB.1, hB.2.2.weaken (fun _ q _ h => hFc q.1 h), hS1⟩ hp)
theorem cSI {post : Int → S → Prop} (C : cx p s m args meth c cc nL own D cy) (w : wd D A H0 ws H locs) (hA : ∀ q, H0.size ≤ q → A q) (hM : MI l y cc' n' ret rm' D cy ws (As) post w1 mc' ms') (o : okS y cc' n' (some ret) k') (hlk : .methodLink own idx y ∈ wAll) (hrc : rm'.cells = mc' ∧ rm'.slots = ms') (hR : rm'.frames + 1 ≤ R.frames ∧ 8 + (n' + 11) + rm'.locals ≤ R.locals) (hf : cells + mc' ≤ R.cells ∧ slots + ms' ≤ R.slots) (hn : As.length = k') (hl : ls.size = nL) (hst : st = As.reverse ++ rest) (hW : (rest.map fun v => v.category).sum ≤ 8) (hdg : decode cc pc = .ok (.invokestatic idx, 3))
    (kk : ∀ (v : Int) (u : S) (H1 : Heap) (locs1 : List Loc), wd D A H0 (w1 u) H1 locs1 → post v u → W p l e R s m args below meth c H1 locs1 (cells + mc') (slots + ms') Q (F0 m (pc + 3) ls (vI v :: rest))) : W p l e R s m args below meth c H locs cells slots Q (F0 m pc ls st) := by
  subst hst
  have hFc := wd_free w hA
  exact va_calli (va_runS (As := As) (rest := rest) ⟨C.1, C.2.1, C.2.2.1, C.2.2.2.1, C.2.2.2.2.1⟩ (hM H.size) ⟨okC_B (C := C) o.1 hlk hrc hR, C.2.2.2.2.1 _ o.2⟩ ⟨gPc_blind, fun U hU hW => ⟨rfl, by rw [hU], by rw [hU]; exact w.1, va_K.moved hW.alike C.2.2.2.2.2.1, w.2.1.weaken (fun _ _ _ _ => trivial), xN_warm hW C.2.2.2.2.2.2⟩⟩ rfl hn hl rfl (lv_room hW) hdg hf) w.2.2 (fun q _ h => hFc q h) hFc (fun r u t H1 locs1 ht hvm hw hB hz1 hk1 hS1 => by
    obtain ⟨v, rfl, hp⟩ := hw
    exact kk v u H1 locs1 ⟨by rw [← ht]; exact hB.1, hB.2.2.weaken (fun _ q _ h => hFc q.1 h), hS1⟩ hp)
theorem cNSI {post : Int → S → Prop} (C : cx p s m args meth c cc nL own D cy) (w : wd D A H0 ws H locs) (hA : ∀ q, H0.size ≤ q → A q) (hM : MI l y cc' n' ret rm' D cy ws (As) post w1 mc' ms') (o : okS y cc' n' (some ret) k') {host : String} {wi : Nat} (hlk : tables_1[wi]? = some (.methodLinkNest own idx y host)) (hrc : rm'.cells = mc' ∧ rm'.slots = ms') (hR : rm'.frames + 1 ≤ R.frames ∧ 8 + (n' + 11) + rm'.locals ≤ R.locals) (hf : cells + mc' ≤ R.cells ∧ slots + ms' ≤ R.slots) (hn : As.length = k') (hl : ls.size = nL) (hst : st = As.reverse ++ rest) (hW : (rest.map fun v => v.category).sum ≤ 8) (hdg : decode cc pc = .ok (.invokestatic idx, 3))
    (kk : ∀ (v : Int) (u : S) (H1 : Heap) (locs1 : List Loc), wd D A H0 (w1 u) H1 locs1 → post v u → W p l e R s m args below meth c H1 locs1 (cells + mc') (slots + ms') Q (F0 m (pc + 3) ls (vI v :: rest))) : W p l e R s m args below meth c H locs cells slots Q (F0 m pc ls st) := by
  subst hst
  have hFc := wd_free w hA
  exact va_calli (va_runSN (As := As) (rest := rest) ⟨C.1, C.2.1, C.2.2.1, C.2.2.2.1, C.2.2.2.2.1⟩ (hM H.size) ⟨okC_N (C := C) o.1 hlk hrc hR, C.2.2.2.2.1 _ o.2, trivial⟩ ⟨gPc_blind, fun U hU hW => ⟨rfl, by rw [hU], by rw [hU]; exact w.1, va_K.moved hW.alike C.2.2.2.2.2.1, w.2.1.weaken (fun _ _ _ _ => trivial), xN_warm hW C.2.2.2.2.2.2⟩⟩ rfl hn hl rfl (lv_room hW) hdg hf) w.2.2 (fun q _ h => hFc q h) hFc (fun r u t H1 locs1 ht hvm hw hB hz1 hk1 hS1 => by
    obtain ⟨v, rfl, hp⟩ := hw
    exact kk v u H1 locs1 ⟨by rw [← ht]; exact hB.1, hB.2.2.weaken (fun _ q _ h => hFc q.1 h), hS1⟩ hp)
theorem cVL {post : Int → S → Prop} (C : cx p s m args meth c cc nL own D cy) (w : wd D A H0 ws H locs) (hA : ∀ q, H0.size ≤ q → A q) (hM : ML l y cc' n' rm' D cy ws (.ref b :: As) post w1 mc' ms') (o : okV y cc' n' (some .long) k') (hlk : .methodLink own idx y ∈ wAll) (hrc : rm'.cells = mc' ∧ rm'.slots = ms') (hR : rm'.frames + 1 ≤ R.frames ∧ 8 + (n' + 11) + rm'.locals ≤ R.locals) (hf : cells + mc' ≤ R.cells ∧ slots + ms' ≤ R.slots) (hn : As.length = k') (q0 : Nat) {ci N : Nat} {fs : List Value} {T : u_T} (he : ws[q0]? = some (b, .inr (ci, fs))) (hc : vwCl[ci]? = some (y.cls, T, N)) (hl : ls.size = nL) (hst : st = As.reverse ++ .ref b :: rest) (hW : (rest.map fun v => v.category).sum ≤ 8) (hdg : decode cc pc = .ok (.invokevirtual idx, 3))
    (kk : ∀ (v : Int) (u : S) (H1 : Heap) (locs1 : List Loc), wd D A H0 (w1 u) H1 locs1 → post v u → W p l e R s m args below meth c H1 locs1 (cells + mc') (slots + ms') Q (F0 m (pc + 3) ls (vL v :: rest))) : W p l e R s m args below meth c H locs cells slots Q (F0 m pc ls st) := by
  subst hst
  have hFc := wd_free w hA
  exact va_calll (va_runV (As := As) (rest := rest) ⟨C.1, C.2.1, C.2.2.1, C.2.2.2.1, C.2.2.2.2.1⟩ (hM H.size) ⟨okC_B (C := C) o.1 hlk hrc hR, C.2.2.2.2.1 _ o.2.1, C.2.2.2.2.1 _ o.2.2⟩ ⟨gPc_blind, va_recv C.2.2.2.2.2.1 w.1 (ci := ci) (q0 := q0) hc he, fun U hU hW => ⟨rfl, by rw [hU], by rw [hU]; exact w.1, va_K.moved hW.alike C.2.2.2.2.2.1, w.2.1.weaken (fun _ _ _ _ => trivial), xN_warm hW C.2.2.2.2.2.2⟩⟩ rfl hn hl rfl (lv_room hW) hdg hf) w.2.2 (fun q _ h => hFc q h) hFc (fun r u t H1 locs1 ht hvm hw hB hz1 hk1 hS1 => by
    obtain ⟨v, rfl, hp⟩ := hw
    exact kk v u H1 locs1 ⟨by rw [← ht]; exact hB.1, hB.2.2.weaken (fun _ q _ h => hFc q.1 h), hS1⟩ hp)
theorem cSL {post : Int → S → Prop} (C : cx p s m args meth c cc nL own D cy) (w : wd D A H0 ws H locs) (hA : ∀ q, H0.size ≤ q → A q) (hM : ML l y cc' n' rm' D cy ws (As) post w1 mc' ms') (o : okS y cc' n' (some .long) k') (hlk : .methodLink own idx y ∈ wAll) (hrc : rm'.cells = mc' ∧ rm'.slots = ms') (hR : rm'.frames + 1 ≤ R.frames ∧ 8 + (n' + 11) + rm'.locals ≤ R.locals) (hf : cells + mc' ≤ R.cells ∧ slots + ms' ≤ R.slots) (hn : As.length = k') (hl : ls.size = nL) (hst : st = As.reverse ++ rest) (hW : (rest.map fun v => v.category).sum ≤ 8) (hdg : decode cc pc = .ok (.invokestatic idx, 3))
    (kk : ∀ (v : Int) (u : S) (H1 : Heap) (locs1 : List Loc), wd D A H0 (w1 u) H1 locs1 → post v u → W p l e R s m args below meth c H1 locs1 (cells + mc') (slots + ms') Q (F0 m (pc + 3) ls (vL v :: rest))) : W p l e R s m args below meth c H locs cells slots Q (F0 m pc ls st) := by
  subst hst
  have hFc := wd_free w hA
  exact va_calll (va_runS (As := As) (rest := rest) ⟨C.1, C.2.1, C.2.2.1, C.2.2.2.1, C.2.2.2.2.1⟩ (hM H.size) ⟨okC_B (C := C) o.1 hlk hrc hR, C.2.2.2.2.1 _ o.2⟩ ⟨gPc_blind, fun U hU hW => ⟨rfl, by rw [hU], by rw [hU]; exact w.1, va_K.moved hW.alike C.2.2.2.2.2.1, w.2.1.weaken (fun _ _ _ _ => trivial), xN_warm hW C.2.2.2.2.2.2⟩⟩ rfl hn hl rfl (lv_room hW) hdg hf) w.2.2 (fun q _ h => hFc q h) hFc (fun r u t H1 locs1 ht hvm hw hB hz1 hk1 hS1 => by
    obtain ⟨v, rfl, hp⟩ := hw
    exact kk v u H1 locs1 ⟨by rw [← ht]; exact hB.1, hB.2.2.weaken (fun _ q _ h => hFc q.1 h), hS1⟩ hp)
theorem cNSL {post : Int → S → Prop} (C : cx p s m args meth c cc nL own D cy) (w : wd D A H0 ws H locs) (hA : ∀ q, H0.size ≤ q → A q) (hM : ML l y cc' n' rm' D cy ws (As) post w1 mc' ms') (o : okS y cc' n' (some .long) k') {host : String} {wi : Nat} (hlk : tables_1[wi]? = some (.methodLinkNest own idx y host)) (hrc : rm'.cells = mc' ∧ rm'.slots = ms') (hR : rm'.frames + 1 ≤ R.frames ∧ 8 + (n' + 11) + rm'.locals ≤ R.locals) (hf : cells + mc' ≤ R.cells ∧ slots + ms' ≤ R.slots) (hn : As.length = k') (hl : ls.size = nL) (hst : st = As.reverse ++ rest) (hW : (rest.map fun v => v.category).sum ≤ 8) (hdg : decode cc pc = .ok (.invokestatic idx, 3))
    (kk : ∀ (v : Int) (u : S) (H1 : Heap) (locs1 : List Loc), wd D A H0 (w1 u) H1 locs1 → post v u → W p l e R s m args below meth c H1 locs1 (cells + mc') (slots + ms') Q (F0 m (pc + 3) ls (vL v :: rest))) : W p l e R s m args below meth c H locs cells slots Q (F0 m pc ls st) := by
  subst hst
  have hFc := wd_free w hA
  exact va_calll (va_runSN (As := As) (rest := rest) ⟨C.1, C.2.1, C.2.2.1, C.2.2.2.1, C.2.2.2.2.1⟩ (hM H.size) ⟨okC_N (C := C) o.1 hlk hrc hR, C.2.2.2.2.1 _ o.2, trivial⟩ ⟨gPc_blind, fun U hU hW => ⟨rfl, by rw [hU], by rw [hU]; exact w.1, va_K.moved hW.alike C.2.2.2.2.2.1, w.2.1.weaken (fun _ _ _ _ => trivial), xN_warm hW C.2.2.2.2.2.2⟩⟩ rfl hn hl rfl (lv_room hW) hdg hf) w.2.2 (fun q _ h => hFc q h) hFc (fun r u t H1 locs1 ht hvm hw hB hz1 hk1 hS1 => by
    obtain ⟨v, rfl, hp⟩ := hw
    exact kk v u H1 locs1 ⟨by rw [← ht]; exact hB.1, hB.2.2.weaken (fun _ q _ h => hFc q.1 h), hS1⟩ hp)
theorem cVV {post : S → Prop} (C : cx p s m args meth c cc nL own D cy) (w : wd D A H0 ws H locs) (hA : ∀ q, H0.size ≤ q → A q) (hM : MV l y cc' n' rm' D cy ws (.ref b :: As) post w1 mc' ms') (o : okV y cc' n' none k') (hlk : .methodLink own idx y ∈ wAll) (hrc : rm'.cells = mc' ∧ rm'.slots = ms') (hR : rm'.frames + 1 ≤ R.frames ∧ 8 + (n' + 11) + rm'.locals ≤ R.locals) (hf : cells + mc' ≤ R.cells ∧ slots + ms' ≤ R.slots) (hn : As.length = k') (q0 : Nat) {ci N : Nat} {fs : List Value} {T : u_T} (he : ws[q0]? = some (b, .inr (ci, fs))) (hc : vwCl[ci]? = some (y.cls, T, N)) (hl : ls.size = nL) (hst : st = As.reverse ++ .ref b :: rest) (hW : (rest.map fun v => v.category).sum ≤ 8) (hdg : decode cc pc = .ok (.invokevirtual idx, 3))
    (kk : ∀ (u : S) (H1 : Heap) (locs1 : List Loc), wd D A H0 (w1 u) H1 locs1 → post u → W p l e R s m args below meth c H1 locs1 (cells + mc') (slots + ms') Q (F0 m (pc + 3) ls rest)) : W p l e R s m args below meth c H locs cells slots Q (F0 m pc ls st) := by
  subst hst
  have hFc := wd_free w hA
  exact va_callv (va_runV (As := As) (rest := rest) ⟨C.1, C.2.1, C.2.2.1, C.2.2.2.1, C.2.2.2.2.1⟩ (hM H.size) ⟨okC_B (C := C) o.1 hlk hrc hR, C.2.2.2.2.1 _ o.2.1, C.2.2.2.2.1 _ o.2.2⟩ ⟨gPc_blind, va_recv C.2.2.2.2.2.1 w.1 (ci := ci) (q0 := q0) hc he, fun U hU hW => ⟨rfl, by rw [hU], by rw [hU]; exact w.1, va_K.moved hW.alike C.2.2.2.2.2.1, w.2.1.weaken (fun _ _ _ _ => trivial), xN_warm hW C.2.2.2.2.2.2⟩⟩ rfl hn hl rfl (lv_room hW) hdg hf) w.2.2 (fun q _ h => hFc q h) hFc (fun u t H1 locs1 ht hvm hw hB hz1 hk1 hS1 => by
    exact kk u H1 locs1 ⟨by rw [← ht]; exact hB.1, hB.2.2.weaken (fun _ q _ h => hFc q.1 h), hS1⟩ hw)
theorem cSV {post : S → Prop} (C : cx p s m args meth c cc nL own D cy) (w : wd D A H0 ws H locs) (hA : ∀ q, H0.size ≤ q → A q) (hM : MV l y cc' n' rm' D cy ws (As) post w1 mc' ms') (o : okS y cc' n' none k') (hlk : .methodLink own idx y ∈ wAll) (hrc : rm'.cells = mc' ∧ rm'.slots = ms') (hR : rm'.frames + 1 ≤ R.frames ∧ 8 + (n' + 11) + rm'.locals ≤ R.locals) (hf : cells + mc' ≤ R.cells ∧ slots + ms' ≤ R.slots) (hn : As.length = k') (hl : ls.size = nL) (hst : st = As.reverse ++ rest) (hW : (rest.map fun v => v.category).sum ≤ 8) (hdg : decode cc pc = .ok (.invokestatic idx, 3))
    (kk : ∀ (u : S) (H1 : Heap) (locs1 : List Loc), wd D A H0 (w1 u) H1 locs1 → post u → W p l e R s m args below meth c H1 locs1 (cells + mc') (slots + ms') Q (F0 m (pc + 3) ls rest)) : W p l e R s m args below meth c H locs cells slots Q (F0 m pc ls st) := by
  subst hst
  have hFc := wd_free w hA
  exact va_callv (va_runS (As := As) (rest := rest) ⟨C.1, C.2.1, C.2.2.1, C.2.2.2.1, C.2.2.2.2.1⟩ (hM H.size) ⟨okC_B (C := C) o.1 hlk hrc hR, C.2.2.2.2.1 _ o.2⟩ ⟨gPc_blind, fun U hU hW => ⟨rfl, by rw [hU], by rw [hU]; exact w.1, va_K.moved hW.alike C.2.2.2.2.2.1, w.2.1.weaken (fun _ _ _ _ => trivial), xN_warm hW C.2.2.2.2.2.2⟩⟩ rfl hn hl rfl (lv_room hW) hdg hf) w.2.2 (fun q _ h => hFc q h) hFc (fun u t H1 locs1 ht hvm hw hB hz1 hk1 hS1 => by
    exact kk u H1 locs1 ⟨by rw [← ht]; exact hB.1, hB.2.2.weaken (fun _ q _ h => hFc q.1 h), hS1⟩ hw)
theorem cNSV {post : S → Prop} (C : cx p s m args meth c cc nL own D cy) (w : wd D A H0 ws H locs) (hA : ∀ q, H0.size ≤ q → A q) (hM : MV l y cc' n' rm' D cy ws (As) post w1 mc' ms') (o : okS y cc' n' none k') {host : String} {wi : Nat} (hlk : tables_1[wi]? = some (.methodLinkNest own idx y host)) (hrc : rm'.cells = mc' ∧ rm'.slots = ms') (hR : rm'.frames + 1 ≤ R.frames ∧ 8 + (n' + 11) + rm'.locals ≤ R.locals) (hf : cells + mc' ≤ R.cells ∧ slots + ms' ≤ R.slots) (hn : As.length = k') (hl : ls.size = nL) (hst : st = As.reverse ++ rest) (hW : (rest.map fun v => v.category).sum ≤ 8) (hdg : decode cc pc = .ok (.invokestatic idx, 3))
    (kk : ∀ (u : S) (H1 : Heap) (locs1 : List Loc), wd D A H0 (w1 u) H1 locs1 → post u → W p l e R s m args below meth c H1 locs1 (cells + mc') (slots + ms') Q (F0 m (pc + 3) ls rest)) : W p l e R s m args below meth c H locs cells slots Q (F0 m pc ls st) := by
  subst hst
  have hFc := wd_free w hA
  exact va_callv (va_runSN (As := As) (rest := rest) ⟨C.1, C.2.1, C.2.2.1, C.2.2.2.1, C.2.2.2.2.1⟩ (hM H.size) ⟨okC_N (C := C) o.1 hlk hrc hR, C.2.2.2.2.1 _ o.2, trivial⟩ ⟨gPc_blind, fun U hU hW => ⟨rfl, by rw [hU], by rw [hU]; exact w.1, va_K.moved hW.alike C.2.2.2.2.2.1, w.2.1.weaken (fun _ _ _ _ => trivial), xN_warm hW C.2.2.2.2.2.2⟩⟩ rfl hn hl rfl (lv_room hW) hdg hf) w.2.2 (fun q _ h => hFc q h) hFc (fun u t H1 locs1 ht hvm hw hB hz1 hk1 hS1 => by
    exact kk u H1 locs1 ⟨by rw [← ht]; exact hB.1, hB.2.2.weaken (fun _ q _ h => hFc q.1 h), hS1⟩ hw)
end RC
end
section
/-! the tables words that the walks use, by name -/
set_option maxRecDepth 20000 in
theorem kf_X8_9 : Cond.fieldLink "FruitHalls$Tape" 9 "FruitHalls$Tape" "bytes" "[I" ∈ wAll := wAll_t (i := 35) rfl rfl
set_option maxRecDepth 20000 in
theorem kf_X8_15 : Cond.fieldLink "FruitHalls$Tape" 15 "FruitHalls$Tape" "size" "I" ∈ wAll := wAll_t (i := 36) rfl rfl
set_option maxRecDepth 20000 in
theorem kf_X6_9 : Cond.fieldLink "FruitHalls$Rules" 9 "FruitHalls$Rules" "reserve" "[I" ∈ wAll := wAll_t (i := 55) rfl rfl
set_option maxRecDepth 20000 in
theorem kf_X6_15 : Cond.fieldLink "FruitHalls$Rules" 15 "FruitHalls$Rules" "part" "[I" ∈ wAll := wAll_t (i := 58) rfl rfl
set_option maxRecDepth 20000 in
theorem kf_X6_21 : Cond.fieldLink "FruitHalls$Rules" 21 "FruitHalls$Rules" "rot" "I" ∈ wAll := wAll_t (i := 61) rfl rfl
set_option maxRecDepth 20000 in
theorem kf_X6_25 : Cond.fieldLink "FruitHalls$Rules" 25 "FruitHalls$Rules" "lossOnBuyer" "Z" ∈ wAll := wAll_t (i := 65) rfl rfl
set_option maxRecDepth 20000 in
theorem kf_X6_29 : Cond.fieldLink "FruitHalls$Rules" 29 "FruitHalls$Rules" "told" "I" ∈ wAll := wAll_t (i := 67) rfl rfl
set_option maxRecDepth 20000 in
theorem kf_X5_25 : Cond.fieldLink "FruitHalls$RuleReader" 25 "FruitHalls$RuleReader" "text" "LFruitHalls$Tape;" ∈ wAll := wAll_t (i := 89) rfl rfl
set_option maxRecDepth 20000 in
theorem kf_X5_12 : Cond.fieldLink "FruitHalls$RuleReader" 12 "FruitHalls$RuleReader" "draft" "LFruitHalls$Rules;" ∈ wAll := wAll_t (i := 90) rfl rfl
set_option maxRecDepth 20000 in
theorem kf_X5_18 : Cond.fieldLink "FruitHalls$RuleReader" 18 "FruitHalls$RuleReader" "reserveTold" "[Z" ∈ wAll := wAll_t (i := 92) rfl rfl
set_option maxRecDepth 20000 in
theorem kf_X5_22 : Cond.fieldLink "FruitHalls$RuleReader" 22 "FruitHalls$RuleReader" "partTold" "[Z" ∈ wAll := wAll_t (i := 93) rfl rfl
set_option maxRecDepth 20000 in
theorem kf_X5_48 : Cond.fieldLink "FruitHalls$RuleReader" 48 "FruitHalls$RuleReader" "rotTold" "Z" ∈ wAll := wAll_t (i := 94) rfl rfl
set_option maxRecDepth 20000 in
theorem kf_X5_52 : Cond.fieldLink "FruitHalls$RuleReader" 52 "FruitHalls$RuleReader" "lossTold" "Z" ∈ wAll := wAll_t (i := 95) rfl rfl
set_option maxRecDepth 20000 in
theorem kf_X5_35 : Cond.fieldLink "FruitHalls$RuleReader" 35 "FruitHalls$RuleReader" "kind" "I" ∈ wAll := wAll_t (i := 96) rfl rfl
set_option maxRecDepth 20000 in
theorem kf_X5_114 : Cond.fieldLink "FruitHalls$RuleReader" 114 "FruitHalls$RuleReader" "start" "I" ∈ wAll := wAll_t (i := 97) rfl rfl
set_option maxRecDepth 20000 in
theorem kf_X5_55 : Cond.fieldLink "FruitHalls$RuleReader" 55 "FruitHalls$RuleReader" "behind" "I" ∈ wAll := wAll_t (i := 98) rfl rfl
set_option maxRecDepth 20000 in
theorem kf_X5_39 : Cond.fieldLink "FruitHalls$RuleReader" 39 "FruitHalls$RuleReader" "faultKind" "I" ∈ wAll := wAll_t (i := 99) rfl rfl
set_option maxRecDepth 20000 in
theorem kf_X5_58 : Cond.fieldLink "FruitHalls$RuleReader" 58 "FruitHalls$RuleReader" "faultPlace" "I" ∈ wAll := wAll_t (i := 101) rfl rfl
set_option maxRecDepth 20000 in
theorem kf_X2_9 : Cond.fieldLink "FruitHalls$Lots" 9 "FruitHalls$Lots" "grower" "[I" ∈ wAll := wAll_t (i := 133) rfl rfl
set_option maxRecDepth 20000 in
theorem kf_X2_15 : Cond.fieldLink "FruitHalls$Lots" 15 "FruitHalls$Lots" "mark" "[I" ∈ wAll := wAll_t (i := 136) rfl rfl
set_option maxRecDepth 20000 in
theorem kf_X2_18 : Cond.fieldLink "FruitHalls$Lots" 18 "FruitHalls$Lots" "grade" "[I" ∈ wAll := wAll_t (i := 139) rfl rfl
set_option maxRecDepth 20000 in
theorem kf_X2_21 : Cond.fieldLink "FruitHalls$Lots" 21 "FruitHalls$Lots" "boxes" "[I" ∈ wAll := wAll_t (i := 143) rfl rfl
set_option maxRecDepth 20000 in
theorem kf_X2_24 : Cond.fieldLink "FruitHalls$Lots" 24 "FruitHalls$Lots" "hall" "[I" ∈ wAll := wAll_t (i := 145) rfl rfl
set_option maxRecDepth 20000 in
theorem kf_X2_27 : Cond.fieldLink "FruitHalls$Lots" 27 "FruitHalls$Lots" "sold" "[Z" ∈ wAll := wAll_t (i := 147) rfl rfl
set_option maxRecDepth 20000 in
theorem kf_X2_31 : Cond.fieldLink "FruitHalls$Lots" 31 "FruitHalls$Lots" "lastSale" "[I" ∈ wAll := wAll_t (i := 149) rfl rfl
set_option maxRecDepth 20000 in
theorem kf_X2_34 : Cond.fieldLink "FruitHalls$Lots" 34 "FruitHalls$Lots" "size" "I" ∈ wAll := wAll_t (i := 151) rfl rfl
set_option maxRecDepth 20000 in
theorem kf_X7_9 : Cond.fieldLink "FruitHalls$Sales" 9 "FruitHalls$Sales" "ofLot" "[I" ∈ wAll := wAll_t (i := 176) rfl rfl
set_option maxRecDepth 20000 in
theorem kf_X7_15 : Cond.fieldLink "FruitHalls$Sales" 15 "FruitHalls$Sales" "buyer" "[I" ∈ wAll := wAll_t (i := 180) rfl rfl
set_option maxRecDepth 20000 in
theorem kf_X7_18 : Cond.fieldLink "FruitHalls$Sales" 18 "FruitHalls$Sales" "day" "[I" ∈ wAll := wAll_t (i := 182) rfl rfl
set_option maxRecDepth 20000 in
theorem kf_X7_21 : Cond.fieldLink "FruitHalls$Sales" 21 "FruitHalls$Sales" "boxes" "[I" ∈ wAll := wAll_t (i := 185) rfl rfl
set_option maxRecDepth 20000 in
theorem kf_X7_24 : Cond.fieldLink "FruitHalls$Sales" 24 "FruitHalls$Sales" "price" "[I" ∈ wAll := wAll_t (i := 188) rfl rfl
set_option maxRecDepth 20000 in
theorem kf_X7_27 : Cond.fieldLink "FruitHalls$Sales" 27 "FruitHalls$Sales" "rejectedOn" "[I" ∈ wAll := wAll_t (i := 192) rfl rfl
set_option maxRecDepth 20000 in
theorem kf_X7_30 : Cond.fieldLink "FruitHalls$Sales" 30 "FruitHalls$Sales" "soldAgainBy" "[I" ∈ wAll := wAll_t (i := 194) rfl rfl
set_option maxRecDepth 20000 in
theorem kf_X7_33 : Cond.fieldLink "FruitHalls$Sales" 33 "FruitHalls$Sales" "size" "I" ∈ wAll := wAll_t (i := 197) rfl rfl
set_option maxRecDepth 20000 in
theorem kf_X0_9 : Cond.fieldLink "FruitHalls$Buyers" 9 "FruitHalls$Buyers" "purse" "[I" ∈ wAll := wAll_t (i := 224) rfl rfl
set_option maxRecDepth 20000 in
theorem kf_X0_15 : Cond.fieldLink "FruitHalls$Buyers" 15 "FruitHalls$Buyers" "unspent" "[I" ∈ wAll := wAll_t (i := 226) rfl rfl
set_option maxRecDepth 20000 in
theorem kf_X0_18 : Cond.fieldLink "FruitHalls$Buyers" 18 "FruitHalls$Buyers" "wantBoxes" "[I" ∈ wAll := wAll_t (i := 228) rfl rfl
set_option maxRecDepth 20000 in
theorem kf_X0_21 : Cond.fieldLink "FruitHalls$Buyers" 21 "FruitHalls$Buyers" "wantLimit" "[I" ∈ wAll := wAll_t (i := 230) rfl rfl
set_option maxRecDepth 20000 in
theorem kf_X3_18 : Cond.fieldLink "FruitHalls$Payout" 18 "FruitHalls$Payout" "lots" "LFruitHalls$Lots;" ∈ wAll := wAll_t (i := 247) rfl rfl
set_option maxRecDepth 20000 in
theorem kf_X3_22 : Cond.fieldLink "FruitHalls$Payout" 22 "FruitHalls$Payout" "sales" "LFruitHalls$Sales;" ∈ wAll := wAll_t (i := 248) rfl rfl
set_option maxRecDepth 20000 in
theorem kf_X3_26 : Cond.fieldLink "FruitHalls$Payout" 26 "FruitHalls$Payout" "ruling" "LFruitHalls$Rules;" ∈ wAll := wAll_t (i := 249) rfl rfl
set_option maxRecDepth 20000 in
theorem kf_X3_9 : Cond.fieldLink "FruitHalls$Payout" 9 "FruitHalls$Payout" "weights" "[J" ∈ wAll := wAll_t (i := 250) rfl rfl
set_option maxRecDepth 20000 in
theorem kf_X3_15 : Cond.fieldLink "FruitHalls$Payout" 15 "FruitHalls$Payout" "rests" "[J" ∈ wAll := wAll_t (i := 251) rfl rfl
set_option maxRecDepth 20000 in
theorem kf_X4_21 : Cond.fieldLink "FruitHalls$Premium" 21 "FruitHalls$Premium" "lots" "LFruitHalls$Lots;" ∈ wAll := wAll_t (i := 270) rfl rfl
set_option maxRecDepth 20000 in
theorem kf_X4_25 : Cond.fieldLink "FruitHalls$Premium" 25 "FruitHalls$Premium" "sales" "LFruitHalls$Sales;" ∈ wAll := wAll_t (i := 271) rfl rfl
set_option maxRecDepth 20000 in
theorem kf_X4_9 : Cond.fieldLink "FruitHalls$Premium" 9 "FruitHalls$Premium" "gradeSales" "[J" ∈ wAll := wAll_t (i := 272) rfl rfl
set_option maxRecDepth 20000 in
theorem kf_X4_15 : Cond.fieldLink "FruitHalls$Premium" 15 "FruitHalls$Premium" "gradePrices" "[J" ∈ wAll := wAll_t (i := 273) rfl rfl
set_option maxRecDepth 20000 in
theorem kf_X4_18 : Cond.fieldLink "FruitHalls$Premium" 18 "FruitHalls$Premium" "markSales" "[J" ∈ wAll := wAll_t (i := 274) rfl rfl
set_option maxRecDepth 20000 in
theorem kf_X4_39 : Cond.fieldLink "FruitHalls$Premium" 39 "FruitHalls$Premium" "upper" "J" ∈ wAll := wAll_t (i := 275) rfl rfl
set_option maxRecDepth 20000 in
theorem kf_X4_43 : Cond.fieldLink "FruitHalls$Premium" 43 "FruitHalls$Premium" "lower" "J" ∈ wAll := wAll_t (i := 277) rfl rfl
set_option maxRecDepth 20000 in
theorem kf_X1_9 : Cond.fieldLink "FruitHalls$Freight" 9 "FruitHalls$Freight" "worthOfNext" "[I" ∈ wAll := wAll_t (i := 300) rfl rfl
set_option maxRecDepth 20000 in
theorem kf_X1_15 : Cond.fieldLink "FruitHalls$Freight" 15 "FruitHalls$Freight" "fall" "[I" ∈ wAll := wAll_t (i := 301) rfl rfl
set_option maxRecDepth 20000 in
theorem kf_X1_18 : Cond.fieldLink "FruitHalls$Freight" 18 "FruitHalls$Freight" "carsTo" "[I" ∈ wAll := wAll_t (i := 302) rfl rfl
set_option maxRecDepth 20000 in
theorem kf_X1_21 : Cond.fieldLink "FruitHalls$Freight" 21 "FruitHalls$Freight" "dispatched" "Z" ∈ wAll := wAll_t (i := 304) rfl rfl
set_option maxRecDepth 20000 in
theorem kf_X9_10 : Cond.fieldLink "FruitHalls" 10 "FruitHalls" "tape" "LFruitHalls$Tape;" ∈ wAll := wAll_t (i := 315) rfl rfl
set_option maxRecDepth 20000 in
theorem kf_X9_19 : Cond.fieldLink "FruitHalls" 19 "FruitHalls" "ruling" "LFruitHalls$Rules;" ∈ wAll := wAll_t (i := 316) rfl rfl
set_option maxRecDepth 20000 in
theorem kf_X9_28 : Cond.fieldLink "FruitHalls" 28 "FruitHalls" "reader" "LFruitHalls$RuleReader;" ∈ wAll := wAll_t (i := 317) rfl rfl
set_option maxRecDepth 20000 in
theorem kf_X9_35 : Cond.fieldLink "FruitHalls" 35 "FruitHalls" "lots" "LFruitHalls$Lots;" ∈ wAll := wAll_t (i := 318) rfl rfl
set_option maxRecDepth 20000 in
theorem kf_X9_42 : Cond.fieldLink "FruitHalls" 42 "FruitHalls" "sales" "LFruitHalls$Sales;" ∈ wAll := wAll_t (i := 319) rfl rfl
set_option maxRecDepth 20000 in
theorem kf_X9_49 : Cond.fieldLink "FruitHalls" 49 "FruitHalls" "buyers" "LFruitHalls$Buyers;" ∈ wAll := wAll_t (i := 320) rfl rfl
set_option maxRecDepth 20000 in
theorem kf_X9_58 : Cond.fieldLink "FruitHalls" 58 "FruitHalls" "payout" "LFruitHalls$Payout;" ∈ wAll := wAll_t (i := 321) rfl rfl
set_option maxRecDepth 20000 in
theorem kf_X9_67 : Cond.fieldLink "FruitHalls" 67 "FruitHalls" "premium" "LFruitHalls$Premium;" ∈ wAll := wAll_t (i := 322) rfl rfl
set_option maxRecDepth 20000 in
theorem kf_X9_74 : Cond.fieldLink "FruitHalls" 74 "FruitHalls" "freight" "LFruitHalls$Freight;" ∈ wAll := wAll_t (i := 323) rfl rfl
set_option maxRecDepth 20000 in
theorem kf_X9_78 : Cond.fieldLink "FruitHalls" 78 "FruitHalls" "offeredUpTo" "[I" ∈ wAll := wAll_t (i := 324) rfl rfl
set_option maxRecDepth 20000 in
theorem kf_X9_82 : Cond.fieldLink "FruitHalls" 82 "FruitHalls" "today" "I" ∈ wAll := wAll_t (i := 325) rfl rfl
set_option maxRecDepth 20000 in
theorem kf_X9_86 : Cond.fieldLink "FruitHalls" 86 "FruitHalls" "latestFault" "I" ∈ wAll := wAll_t (i := 326) rfl rfl
set_option maxRecDepth 20000 in
theorem kf_X10_97 : Cond.fieldLink "FruitHallsModel" 97 "FruitHallsModel" "thrown" "I" ∈ wAll := wAll_t (i := 777) rfl rfl
set_option maxRecDepth 20000 in
theorem kf_X10_7 : Cond.fieldLink "FruitHallsModel" 7 "FruitHallsModel" "tape" "[B" ∈ wAll := wAll_t (i := 778) rfl rfl
set_option maxRecDepth 20000 in
theorem kf_X10_101 : Cond.fieldLink "FruitHallsModel" 101 "FruitHallsModel" "length" "I" ∈ wAll := wAll_t (i := 779) rfl rfl
set_option maxRecDepth 20000 in
theorem kf_X10_108 : Cond.fieldLink "FruitHallsModel" 108 "FruitHallsModel" "size" "I" ∈ wAll := wAll_t (i := 780) rfl rfl
set_option maxRecDepth 20000 in
theorem kf_X10_111 : Cond.fieldLink "FruitHallsModel" 111 "FruitHallsModel" "p" "I" ∈ wAll := wAll_t (i := 781) rfl rfl
set_option maxRecDepth 20000 in
theorem kf_X10_13 : Cond.fieldLink "FruitHallsModel" 13 "FruitHallsModel" "law" "[I" ∈ wAll := wAll_t (i := 782) rfl rfl
set_option maxRecDepth 20000 in
theorem kf_X10_17 : Cond.fieldLink "FruitHallsModel" 17 "FruitHallsModel" "fresh" "[I" ∈ wAll := wAll_t (i := 783) rfl rfl
set_option maxRecDepth 20000 in
theorem kf_X10_20 : Cond.fieldLink "FruitHallsModel" 20 "FruitHallsModel" "isTold" "[Z" ∈ wAll := wAll_t (i := 784) rfl rfl
set_option maxRecDepth 20000 in
theorem kf_X10_121 : Cond.fieldLink "FruitHallsModel" 121 "FruitHallsModel" "token" "I" ∈ wAll := wAll_t (i := 785) rfl rfl
set_option maxRecDepth 20000 in
theorem kf_X10_118 : Cond.fieldLink "FruitHallsModel" 118 "FruitHallsModel" "at" "I" ∈ wAll := wAll_t (i := 786) rfl rfl
set_option maxRecDepth 20000 in
theorem kf_X10_135 : Cond.fieldLink "FruitHallsModel" 135 "FruitHallsModel" "number" "I" ∈ wAll := wAll_t (i := 787) rfl rfl
set_option maxRecDepth 20000 in
theorem kf_X10_138 : Cond.fieldLink "FruitHallsModel" 138 "FruitHallsModel" "fault" "I" ∈ wAll := wAll_t (i := 788) rfl rfl
set_option maxRecDepth 20000 in
theorem kf_X10_141 : Cond.fieldLink "FruitHallsModel" 141 "FruitHallsModel" "faultAt" "I" ∈ wAll := wAll_t (i := 789) rfl rfl
set_option maxRecDepth 20000 in
theorem kf_X10_158 : Cond.fieldLink "FruitHallsModel" 158 "FruitHallsModel" "ruleMany" "I" ∈ wAll := wAll_t (i := 790) rfl rfl
set_option maxRecDepth 20000 in
theorem kf_X10_131 : Cond.fieldLink "FruitHallsModel" 131 "FruitHallsModel" "word" "J" ∈ wAll := wAll_t (i := 791) rfl rfl
set_option maxRecDepth 20000 in
theorem kf_X10_24 : Cond.fieldLink "FruitHallsModel" 24 "FruitHallsModel" "growerOf" "[I" ∈ wAll := wAll_t (i := 792) rfl rfl
set_option maxRecDepth 20000 in
theorem kf_X10_27 : Cond.fieldLink "FruitHallsModel" 27 "FruitHallsModel" "markOf" "[I" ∈ wAll := wAll_t (i := 793) rfl rfl
set_option maxRecDepth 20000 in
theorem kf_X10_30 : Cond.fieldLink "FruitHallsModel" 30 "FruitHallsModel" "gradeOf" "[I" ∈ wAll := wAll_t (i := 794) rfl rfl
set_option maxRecDepth 20000 in
theorem kf_X10_33 : Cond.fieldLink "FruitHallsModel" 33 "FruitHallsModel" "boxes" "[I" ∈ wAll := wAll_t (i := 795) rfl rfl
set_option maxRecDepth 20000 in
theorem kf_X10_36 : Cond.fieldLink "FruitHallsModel" 36 "FruitHallsModel" "hallOf" "[I" ∈ wAll := wAll_t (i := 796) rfl rfl
set_option maxRecDepth 20000 in
theorem kf_X10_39 : Cond.fieldLink "FruitHallsModel" 39 "FruitHallsModel" "lastSale" "[I" ∈ wAll := wAll_t (i := 797) rfl rfl
set_option maxRecDepth 20000 in
theorem kf_X10_42 : Cond.fieldLink "FruitHallsModel" 42 "FruitHallsModel" "isSold" "[Z" ∈ wAll := wAll_t (i := 798) rfl rfl
set_option maxRecDepth 20000 in
theorem kf_X10_180 : Cond.fieldLink "FruitHallsModel" 180 "FruitHallsModel" "lots" "I" ∈ wAll := wAll_t (i := 799) rfl rfl
set_option maxRecDepth 20000 in
theorem kf_X10_192 : Cond.fieldLink "FruitHallsModel" 192 "FruitHallsModel" "day" "I" ∈ wAll := wAll_t (i := 800) rfl rfl
set_option maxRecDepth 20000 in
theorem kf_X10_45 : Cond.fieldLink "FruitHallsModel" 45 "FruitHallsModel" "money" "[I" ∈ wAll := wAll_t (i := 801) rfl rfl
set_option maxRecDepth 20000 in
theorem kf_X10_48 : Cond.fieldLink "FruitHallsModel" 48 "FruitHallsModel" "left" "[I" ∈ wAll := wAll_t (i := 802) rfl rfl
set_option maxRecDepth 20000 in
theorem kf_X10_51 : Cond.fieldLink "FruitHallsModel" 51 "FruitHallsModel" "wants" "[I" ∈ wAll := wAll_t (i := 803) rfl rfl
set_option maxRecDepth 20000 in
theorem kf_X10_54 : Cond.fieldLink "FruitHallsModel" 54 "FruitHallsModel" "limits" "[I" ∈ wAll := wAll_t (i := 804) rfl rfl
set_option maxRecDepth 20000 in
theorem kf_X10_57 : Cond.fieldLink "FruitHallsModel" 57 "FruitHallsModel" "sLot" "[I" ∈ wAll := wAll_t (i := 805) rfl rfl
set_option maxRecDepth 20000 in
theorem kf_X10_60 : Cond.fieldLink "FruitHallsModel" 60 "FruitHallsModel" "sBuyer" "[I" ∈ wAll := wAll_t (i := 806) rfl rfl
set_option maxRecDepth 20000 in
theorem kf_X10_63 : Cond.fieldLink "FruitHallsModel" 63 "FruitHallsModel" "sDay" "[I" ∈ wAll := wAll_t (i := 807) rfl rfl
set_option maxRecDepth 20000 in
theorem kf_X10_66 : Cond.fieldLink "FruitHallsModel" 66 "FruitHallsModel" "sBoxes" "[I" ∈ wAll := wAll_t (i := 808) rfl rfl
set_option maxRecDepth 20000 in
theorem kf_X10_69 : Cond.fieldLink "FruitHallsModel" 69 "FruitHallsModel" "sPrice" "[I" ∈ wAll := wAll_t (i := 809) rfl rfl
set_option maxRecDepth 20000 in
theorem kf_X10_72 : Cond.fieldLink "FruitHallsModel" 72 "FruitHallsModel" "sRejected" "[I" ∈ wAll := wAll_t (i := 810) rfl rfl
set_option maxRecDepth 20000 in
theorem kf_X10_198 : Cond.fieldLink "FruitHallsModel" 198 "FruitHallsModel" "sales" "I" ∈ wAll := wAll_t (i := 811) rfl rfl
set_option maxRecDepth 20000 in
theorem kf_X10_75 : Cond.fieldLink "FruitHallsModel" 75 "FruitHallsModel" "offered" "[I" ∈ wAll := wAll_t (i := 812) rfl rfl
set_option maxRecDepth 20000 in
theorem kf_X10_78 : Cond.fieldLink "FruitHallsModel" 78 "FruitHallsModel" "turn" "[I" ∈ wAll := wAll_t (i := 813) rfl rfl
set_option maxRecDepth 20000 in
theorem kf_X10_81 : Cond.fieldLink "FruitHallsModel" 81 "FruitHallsModel" "weight" "[J" ∈ wAll := wAll_t (i := 814) rfl rfl
set_option maxRecDepth 20000 in
theorem kf_X10_85 : Cond.fieldLink "FruitHallsModel" 85 "FruitHallsModel" "rest" "[J" ∈ wAll := wAll_t (i := 815) rfl rfl
set_option maxRecDepth 20000 in
theorem kf_X10_88 : Cond.fieldLink "FruitHallsModel" 88 "FruitHallsModel" "paid" "[J" ∈ wAll := wAll_t (i := 816) rfl rfl
set_option maxRecDepth 20000 in
theorem kf_X10_91 : Cond.fieldLink "FruitHallsModel" 91 "FruitHallsModel" "worths" "[I" ∈ wAll := wAll_t (i := 817) rfl rfl
set_option maxRecDepth 20000 in
theorem kf_X10_94 : Cond.fieldLink "FruitHallsModel" 94 "FruitHallsModel" "sent" "[I" ∈ wAll := wAll_t (i := 818) rfl rfl
set_option maxRecDepth 20000 in
theorem kf_X10_231 : Cond.fieldLink "FruitHallsModel" 231 "FruitHallsModel" "isSent" "Z" ∈ wAll := wAll_t (i := 819) rfl rfl
set_option maxRecDepth 20000 in
theorem km_L_22 : Cond.methodLink "FruitHallsLaw" 22 ⟨"FruitHalls", "<init>", "()V"⟩ ∈ wAll := wAll_t (i := 23) rfl rfl
set_option maxRecDepth 20000 in
theorem km_X9_1 : Cond.methodLink "FruitHalls" 1 ⟨"java/lang/Object", "<init>", "()V"⟩ ∈ wAll := wAll_t (i := 26) rfl rfl
set_option maxRecDepth 20000 in
theorem km_X8_3 : Cond.methodLink "FruitHalls$Tape" 3 ⟨"java/lang/Object", "<init>", "()V"⟩ ∈ wAll := wAll_t (i := 34) rfl rfl
set_option maxRecDepth 20000 in
theorem km_X9_18 : Cond.methodLink "FruitHalls" 18 ⟨"FruitHalls$Rules", "<init>", "()V"⟩ ∈ wAll := wAll_t (i := 47) rfl rfl
set_option maxRecDepth 20000 in
theorem km_X6_3 : Cond.methodLink "FruitHalls$Rules" 3 ⟨"java/lang/Object", "<init>", "()V"⟩ ∈ wAll := wAll_t (i := 50) rfl rfl
set_option maxRecDepth 20000 in
theorem km_X6_18 : Cond.methodLink "FruitHalls$Rules" 18 ⟨"FruitHalls$Rules", "clear", "()V"⟩ ∈ wAll := wAll_t (i := 51) rfl rfl
set_option maxRecDepth 20000 in
theorem km_X9_25 : Cond.methodLink "FruitHalls" 25 ⟨"FruitHalls$RuleReader", "<init>", "(LFruitHalls$Tape;)V"⟩ ∈ wAll := wAll_t (i := 83) rfl rfl
set_option maxRecDepth 20000 in
theorem km_X5_3 : Cond.methodLink "FruitHalls$RuleReader" 3 ⟨"java/lang/Object", "<init>", "()V"⟩ ∈ wAll := wAll_t (i := 86) rfl rfl
set_option maxRecDepth 20000 in
theorem km_X5_11 : Cond.methodLink "FruitHalls$RuleReader" 11 ⟨"FruitHalls$Rules", "<init>", "()V"⟩ ∈ wAll := wAll_t (i := 88) rfl rfl
set_option maxRecDepth 20000 in
theorem km_X2_3 : Cond.methodLink "FruitHalls$Lots" 3 ⟨"java/lang/Object", "<init>", "()V"⟩ ∈ wAll := wAll_t (i := 132) rfl rfl
set_option maxRecDepth 20000 in
theorem km_X7_3 : Cond.methodLink "FruitHalls$Sales" 3 ⟨"java/lang/Object", "<init>", "()V"⟩ ∈ wAll := wAll_t (i := 175) rfl rfl
set_option maxRecDepth 20000 in
theorem km_X0_3 : Cond.methodLink "FruitHalls$Buyers" 3 ⟨"java/lang/Object", "<init>", "()V"⟩ ∈ wAll := wAll_t (i := 223) rfl rfl
set_option maxRecDepth 20000 in
theorem km_X9_55 : Cond.methodLink "FruitHalls" 55 ⟨"FruitHalls$Payout", "<init>", "(LFruitHalls$Lots;LFruitHalls$Sales;LFruitHalls$Rules;)V"⟩ ∈ wAll := wAll_t (i := 243) rfl rfl
set_option maxRecDepth 20000 in
theorem km_X3_3 : Cond.methodLink "FruitHalls$Payout" 3 ⟨"java/lang/Object", "<init>", "()V"⟩ ∈ wAll := wAll_t (i := 246) rfl rfl
set_option maxRecDepth 20000 in
theorem km_X9_64 : Cond.methodLink "FruitHalls" 64 ⟨"FruitHalls$Premium", "<init>", "(LFruitHalls$Lots;LFruitHalls$Sales;)V"⟩ ∈ wAll := wAll_t (i := 266) rfl rfl
set_option maxRecDepth 20000 in
theorem km_X4_3 : Cond.methodLink "FruitHalls$Premium" 3 ⟨"java/lang/Object", "<init>", "()V"⟩ ∈ wAll := wAll_t (i := 269) rfl rfl
set_option maxRecDepth 20000 in
theorem km_X1_3 : Cond.methodLink "FruitHalls$Freight" 3 ⟨"java/lang/Object", "<init>", "()V"⟩ ∈ wAll := wAll_t (i := 299) rfl rfl
set_option maxRecDepth 20000 in
theorem km_L_26 : Cond.methodLink "FruitHallsLaw" 26 ⟨"FruitHalls", "feed", "(IIIII)I"⟩ ∈ wAll := wAll_t (i := 352) rfl rfl
set_option maxRecDepth 20000 in
theorem km_X9_92 : Cond.methodLink "FruitHalls" 92 ⟨"FruitHalls$Tape", "append", "(I)V"⟩ ∈ wAll := wAll_t (i := 356) rfl rfl
set_option maxRecDepth 20000 in
theorem km_L_31 : Cond.methodLink "FruitHallsLaw" 31 ⟨"FruitHalls", "end", "(I)Z"⟩ ∈ wAll := wAll_t (i := 360) rfl rfl
set_option maxRecDepth 20000 in
theorem km_L_36 : Cond.methodLink "FruitHallsLaw" 36 ⟨"FruitHalls", "rules", "()I"⟩ ∈ wAll := wAll_t (i := 364) rfl rfl
set_option maxRecDepth 20000 in
theorem km_X9_96 : Cond.methodLink "FruitHalls" 96 ⟨"FruitHalls$RuleReader", "read", "()V"⟩ ∈ wAll := wAll_t (i := 368) rfl rfl
set_option maxRecDepth 20000 in
theorem km_X5_29 : Cond.methodLink "FruitHalls$RuleReader" 29 ⟨"FruitHalls$RuleReader", "forget", "()V"⟩ ∈ wAll := wAll_t (i := 372) rfl rfl
set_option maxRecDepth 20000 in
theorem km_X5_45 : Cond.methodLink "FruitHalls$RuleReader" 45 ⟨"FruitHalls$Rules", "clear", "()V"⟩ ∈ wAll := wAll_t (i := 376) rfl rfl
set_option maxRecDepth 20000 in
theorem km_X5_32 : Cond.methodLink "FruitHalls$RuleReader" 32 ⟨"FruitHalls$RuleReader", "step", "()V"⟩ ∈ wAll := wAll_t (i := 377) rfl rfl
set_option maxRecDepth 20000 in
theorem km_X5_117 : Cond.methodLink "FruitHalls$RuleReader" 117 ⟨"FruitHalls$Tape", "byteAt", "(I)I"⟩ ∈ wAll := wAll_t (i := 381) rfl rfl
set_option maxRecDepth 20000 in
theorem km_X5_125 : Cond.methodLink "FruitHalls$RuleReader" 125 ⟨"FruitHalls$RuleReader", "isBlank", "(I)Z"⟩ ∈ wAll := wAll_t (i := 388) rfl rfl
set_option maxRecDepth 20000 in
theorem km_X5_129 : Cond.methodLink "FruitHalls$RuleReader" 129 ⟨"FruitHalls$RuleReader", "isLetter", "(I)Z"⟩ ∈ wAll := wAll_t (i := 391) rfl rfl
set_option maxRecDepth 20000 in
theorem km_X5_132 : Cond.methodLink "FruitHalls$RuleReader" 132 ⟨"FruitHalls$RuleReader", "isDigit", "(I)Z"⟩ ∈ wAll := wAll_t (i := 394) rfl rfl
set_option maxRecDepth 20000 in
theorem km_X5_135 : Cond.methodLink "FruitHalls$RuleReader" 135 ⟨"FruitHalls$RuleReader", "stepOverRun", "()V"⟩ ∈ wAll := wAll_t (i := 397) rfl rfl
set_option maxRecDepth 20000 in
theorem km_X5_42 : Cond.methodLink "FruitHalls$RuleReader" 42 ⟨"FruitHalls$RuleReader", "readRule", "()V"⟩ ∈ wAll := wAll_t (i := 401) rfl rfl
set_option maxRecDepth 20000 in
theorem km_X5_63 : Cond.methodLink "FruitHalls$RuleReader" 63 ⟨"FruitHalls$RuleReader", "isWord", "(Ljava/lang/String;)Z"⟩ ∈ wAll := wAll_t (i := 406) rfl rfl
set_option maxRecDepth 20000 in
theorem km_X5_138 : Cond.methodLink "FruitHalls$RuleReader" 138 ⟨"java/lang/String", "length", "()I"⟩ ∈ wAll := wAll_t (i := 410) rfl rfl
set_option maxRecDepth 20000 in
theorem km_X5_144 : Cond.methodLink "FruitHalls$RuleReader" 144 ⟨"java/lang/String", "charAt", "(I)C"⟩ ∈ wAll := wAll_t (i := 420) rfl rfl
set_option maxRecDepth 20000 in
theorem km_X5_70 : Cond.methodLink "FruitHalls$RuleReader" 70 ⟨"FruitHalls$RuleReader", "readByGrade", "([I[ZI)V"⟩ ∈ wAll := wAll_t (i := 458) rfl rfl
set_option maxRecDepth 20000 in
theorem km_X5_91 : Cond.methodLink "FruitHalls$RuleReader" 91 ⟨"FruitHalls$RuleReader", "takeNumber", "(I)I"⟩ ∈ wAll := wAll_t (i := 462) rfl rfl
set_option maxRecDepth 20000 in
theorem km_X5_88 : Cond.methodLink "FruitHalls$RuleReader" 88 ⟨"FruitHalls$RuleReader", "refuseToken", "()V"⟩ ∈ wAll := wAll_t (i := 466) rfl rfl
set_option maxRecDepth 20000 in
theorem km_X5_95 : Cond.methodLink "FruitHalls$RuleReader" 95 ⟨"FruitHalls$RuleReader", "refuse", "(I)V"⟩ ∈ wAll := wAll_t (i := 470) rfl rfl
set_option maxRecDepth 20000 in
theorem km_X5_99 : Cond.methodLink "FruitHalls$RuleReader" 99 ⟨"FruitHalls$RuleReader", "finishRule", "()V"⟩ ∈ wAll := wAll_t (i := 474) rfl rfl
set_option maxRecDepth 20000 in
theorem km_X5_80 : Cond.methodLink "FruitHalls$RuleReader" 80 ⟨"FruitHalls$RuleReader", "readRot", "()V"⟩ ∈ wAll := wAll_t (i := 480) rfl rfl
set_option maxRecDepth 20000 in
theorem km_X5_85 : Cond.methodLink "FruitHalls$RuleReader" 85 ⟨"FruitHalls$RuleReader", "readLoss", "()V"⟩ ∈ wAll := wAll_t (i := 485) rfl rfl
set_option maxRecDepth 20000 in
theorem km_X9_108 : Cond.methodLink "FruitHalls" 108 ⟨"FruitHalls$Rules", "copy", "(LFruitHalls$Rules;)V"⟩ ∈ wAll := wAll_t (i := 491) rfl rfl
set_option maxRecDepth 20000 in
theorem km_L_41 : Cond.methodLink "FruitHallsLaw" 41 ⟨"FruitHalls", "fault", "()I"⟩ ∈ wAll := wAll_t (i := 496) rfl rfl
set_option maxRecDepth 20000 in
theorem km_L_45 : Cond.methodLink "FruitHallsLaw" 45 ⟨"FruitHalls", "lot", "(IIIII)I"⟩ ∈ wAll := wAll_t (i := 500) rfl rfl
set_option maxRecDepth 20000 in
theorem km_X9_115 : Cond.methodLink "FruitHalls" 115 ⟨"FruitHalls", "isBelow", "(II)Z"⟩ ∈ wAll := wAll_t (i := 504) rfl rfl
set_option maxRecDepth 20000 in
theorem km_X9_120 : Cond.methodLink "FruitHalls" 120 ⟨"FruitHalls$Lots", "add", "(IIIII)I"⟩ ∈ wAll := wAll_t (i := 505) rfl rfl
set_option maxRecDepth 20000 in
theorem km_L_49 : Cond.methodLink "FruitHallsLaw" 49 ⟨"FruitHalls", "money", "(II)Z"⟩ ∈ wAll := wAll_t (i := 509) rfl rfl
set_option maxRecDepth 20000 in
theorem km_L_54 : Cond.methodLink "FruitHallsLaw" 54 ⟨"FruitHalls", "want", "(IIIII)Z"⟩ ∈ wAll := wAll_t (i := 514) rfl rfl
set_option maxRecDepth 20000 in
theorem km_X9_131 : Cond.methodLink "FruitHalls" 131 ⟨"FruitHalls", "isWantPlace", "(III)Z"⟩ ∈ wAll := wAll_t (i := 518) rfl rfl
set_option maxRecDepth 20000 in
theorem km_X9_135 : Cond.methodLink "FruitHalls" 135 ⟨"FruitHalls$Buyers", "wantPlace", "(III)I"⟩ ∈ wAll := wAll_t (i := 521) rfl rfl
set_option maxRecDepth 20000 in
theorem km_L_59 : Cond.methodLink "FruitHallsLaw" 59 ⟨"FruitHalls", "auction", "(I)I"⟩ ∈ wAll := wAll_t (i := 524) rfl rfl
set_option maxRecDepth 20000 in
theorem km_X9_146 : Cond.methodLink "FruitHalls" 146 ⟨"FruitHalls", "offerRound", "(I)Z"⟩ ∈ wAll := wAll_t (i := 528) rfl rfl
set_option maxRecDepth 20000 in
theorem km_X9_262 : Cond.methodLink "FruitHalls" 262 ⟨"FruitHalls$Lots", "nextOffered", "(III)I"⟩ ∈ wAll := wAll_t (i := 532) rfl rfl
set_option maxRecDepth 20000 in
theorem km_X2_38 : Cond.methodLink "FruitHalls$Lots" 38 ⟨"java/lang/Math", "max", "(II)I"⟩ ∈ wAll := wAll_t (i := 536) rfl rfl
set_option maxRecDepth 20000 in
theorem km_X2_44 : Cond.methodLink "FruitHalls$Lots" 44 ⟨"java/lang/Math", "min", "(II)I"⟩ ∈ wAll := wAll_t (i := 539) rfl rfl
set_option maxRecDepth 20000 in
theorem km_X9_265 : Cond.methodLink "FruitHalls" 265 ⟨"FruitHalls", "offerLot", "(I)V"⟩ ∈ wAll := wAll_t (i := 542) rfl rfl
set_option maxRecDepth 20000 in
theorem km_X9_271 : Cond.methodLink "FruitHalls" 271 ⟨"FruitHalls$Buyers", "bidOf", "(IIIII)I"⟩ ∈ wAll := wAll_t (i := 546) rfl rfl
set_option maxRecDepth 20000 in
theorem km_X0_24 : Cond.methodLink "FruitHalls$Buyers" 24 ⟨"FruitHalls$Buyers", "wantPlace", "(III)I"⟩ ∈ wAll := wAll_t (i := 550) rfl rfl
set_option maxRecDepth 20000 in
theorem km_X9_248 : Cond.methodLink "FruitHalls" 248 ⟨"java/lang/Math", "max", "(II)I"⟩ ∈ wAll := wAll_t (i := 551) rfl rfl
set_option maxRecDepth 20000 in
theorem km_X9_274 : Cond.methodLink "FruitHalls" 274 ⟨"FruitHalls", "sell", "(III)V"⟩ ∈ wAll := wAll_t (i := 552) rfl rfl
set_option maxRecDepth 20000 in
theorem km_X9_278 : Cond.methodLink "FruitHalls" 278 ⟨"FruitHalls$Buyers", "take", "(IIII)V"⟩ ∈ wAll := wAll_t (i := 556) rfl rfl
set_option maxRecDepth 20000 in
theorem km_X9_282 : Cond.methodLink "FruitHalls" 282 ⟨"FruitHalls$Sales", "add", "(IIIII)I"⟩ ∈ wAll := wAll_t (i := 560) rfl rfl
set_option maxRecDepth 20000 in
theorem km_L_64 : Cond.methodLink "FruitHallsLaw" 64 ⟨"FruitHalls", "reject", "(I)Z"⟩ ∈ wAll := wAll_t (i := 564) rfl rfl
set_option maxRecDepth 20000 in
theorem km_L_68 : Cond.methodLink "FruitHallsLaw" 68 ⟨"FruitHalls", "next", "()I"⟩ ∈ wAll := wAll_t (i := 568) rfl rfl
set_option maxRecDepth 20000 in
theorem km_X9_166 : Cond.methodLink "FruitHalls" 166 ⟨"FruitHalls$Lots", "rotWaiting", "(I)V"⟩ ∈ wAll := wAll_t (i := 572) rfl rfl
set_option maxRecDepth 20000 in
theorem km_X9_169 : Cond.methodLink "FruitHalls" 169 ⟨"FruitHalls$Buyers", "restoreMoney", "()V"⟩ ∈ wAll := wAll_t (i := 576) rfl rfl
set_option maxRecDepth 20000 in
theorem km_L_84 : Cond.methodLink "FruitHallsLaw" 84 ⟨"FruitHalls", "left", "(I)I"⟩ ∈ wAll := wAll_t (i := 580) rfl rfl
set_option maxRecDepth 20000 in
theorem km_L_88 : Cond.methodLink "FruitHallsLaw" 88 ⟨"FruitHalls", "wanted", "(III)I"⟩ ∈ wAll := wAll_t (i := 584) rfl rfl
set_option maxRecDepth 20000 in
theorem km_L_93 : Cond.methodLink "FruitHallsLaw" 93 ⟨"FruitHalls", "pool", "(I)I"⟩ ∈ wAll := wAll_t (i := 588) rfl rfl
set_option maxRecDepth 20000 in
theorem km_X9_214 : Cond.methodLink "FruitHalls" 214 ⟨"FruitHalls$Payout", "poolAsOf", "(I)J"⟩ ∈ wAll := wAll_t (i := 592) rfl rfl
set_option maxRecDepth 20000 in
theorem km_X3_58 : Cond.methodLink "FruitHalls$Payout" 58 ⟨"FruitHalls$Sales", "countsAsOf", "(II)Z"⟩ ∈ wAll := wAll_t (i := 596) rfl rfl
set_option maxRecDepth 20000 in
theorem km_X3_65 : Cond.methodLink "FruitHalls$Payout" 65 ⟨"FruitHalls$Payout", "claimOf", "(I)I"⟩ ∈ wAll := wAll_t (i := 600) rfl rfl
set_option maxRecDepth 20000 in
theorem km_X3_45 : Cond.methodLink "FruitHalls$Payout" 45 ⟨"java/lang/Math", "max", "(II)I"⟩ ∈ wAll := wAll_t (i := 604) rfl rfl
set_option maxRecDepth 20000 in
theorem km_L_97 : Cond.methodLink "FruitHallsLaw" 97 ⟨"FruitHalls", "pay", "(II)I"⟩ ∈ wAll := wAll_t (i := 605) rfl rfl
set_option maxRecDepth 20000 in
theorem km_X9_218 : Cond.methodLink "FruitHalls" 218 ⟨"FruitHalls$Payout", "shareOf", "(II)J"⟩ ∈ wAll := wAll_t (i := 609) rfl rfl
set_option maxRecDepth 20000 in
theorem km_X3_69 : Cond.methodLink "FruitHalls$Payout" 69 ⟨"FruitHalls$Payout", "weigh", "(I)J"⟩ ∈ wAll := wAll_t (i := 613) rfl rfl
set_option maxRecDepth 20000 in
theorem km_X3_73 : Cond.methodLink "FruitHalls$Payout" 73 ⟨"FruitHalls$Payout", "poolAsOf", "(I)J"⟩ ∈ wAll := wAll_t (i := 617) rfl rfl
set_option maxRecDepth 20000 in
theorem km_X3_76 : Cond.methodLink "FruitHalls$Payout" 76 ⟨"FruitHalls$Payout", "placeByRest", "(I)I"⟩ ∈ wAll := wAll_t (i := 618) rfl rfl
set_option maxRecDepth 20000 in
theorem km_L_105 : Cond.methodLink "FruitHallsLaw" 105 ⟨"FruitHalls", "wire", "(IIII)I"⟩ ∈ wAll := wAll_t (i := 622) rfl rfl
set_option maxRecDepth 20000 in
theorem km_X9_238 : Cond.methodLink "FruitHalls" 238 ⟨"FruitHalls", "isWired", "(IIII)Z"⟩ ∈ wAll := wAll_t (i := 626) rfl rfl
set_option maxRecDepth 20000 in
theorem km_X9_286 : Cond.methodLink "FruitHalls" 286 ⟨"FruitHalls$Sales", "countsAsOf", "(II)Z"⟩ ∈ wAll := wAll_t (i := 630) rfl rfl
set_option maxRecDepth 20000 in
theorem km_X9_242 : Cond.methodLink "FruitHalls" 242 ⟨"java/lang/Math", "min", "(II)I"⟩ ∈ wAll := wAll_t (i := 631) rfl rfl
set_option maxRecDepth 20000 in
theorem km_L_110 : Cond.methodLink "FruitHallsLaw" 110 ⟨"FruitHalls", "cars", "(I)I"⟩ ∈ wAll := wAll_t (i := 632) rfl rfl
set_option maxRecDepth 20000 in
theorem km_X9_251 : Cond.methodLink "FruitHalls" 251 ⟨"FruitHalls$Freight", "dispatch", "(LFruitHalls$Tape;I)I"⟩ ∈ wAll := wAll_t (i := 636) rfl rfl
set_option maxRecDepth 20000 in
theorem km_X1_25 : Cond.methodLink "FruitHalls$Freight" 25 ⟨"FruitHalls$Tape", "pairAt", "(I)I"⟩ ∈ wAll := wAll_t (i := 640) rfl rfl
set_option maxRecDepth 20000 in
theorem km_X8_23 : Cond.methodLink "FruitHalls$Tape" 23 ⟨"FruitHalls$Tape", "byteAt", "(I)I"⟩ ∈ wAll := wAll_t (i := 644) rfl rfl
set_option maxRecDepth 20000 in
theorem km_X1_31 : Cond.methodLink "FruitHalls$Freight" 31 ⟨"FruitHalls$Freight", "bestHall", "()I"⟩ ∈ wAll := wAll_t (i := 645) rfl rfl
set_option maxRecDepth 20000 in
theorem km_X1_35 : Cond.methodLink "FruitHalls$Freight" 35 ⟨"java/lang/Math", "max", "(II)I"⟩ ∈ wAll := wAll_t (i := 649) rfl rfl
set_option maxRecDepth 20000 in
theorem km_L_114 : Cond.methodLink "FruitHallsLaw" 114 ⟨"FruitHalls", "sent", "(I)I"⟩ ∈ wAll := wAll_t (i := 650) rfl rfl
set_option maxRecDepth 20000 in
theorem km_L_118 : Cond.methodLink "FruitHallsLaw" 118 ⟨"FruitHalls", "count", "(I)I"⟩ ∈ wAll := wAll_t (i := 654) rfl rfl
set_option maxRecDepth 20000 in
theorem km_L_72 : Cond.methodLink "FruitHallsLaw" 72 ⟨"FruitHallsLaw", "about", "(LFruitHalls;II[J)I"⟩ ∈ wAll := wAll_t (i := 658) rfl rfl
set_option maxRecDepth 20000 in
theorem km_L_7 : Cond.methodLink "FruitHallsLaw" 7 ⟨"FruitHalls", "about", "(II)I"⟩ ∈ wAll := wAll_t (i := 662) rfl rfl
set_option maxRecDepth 20000 in
theorem km_X9_176 : Cond.methodLink "FruitHalls" 176 ⟨"java/util/NoSuchElementException", "<init>", "(Ljava/lang/String;)V"⟩ ∈ wAll := wAll_t (i := 706) rfl rfl
set_option maxRecDepth 20000 in
theorem km_L_81 : Cond.methodLink "FruitHallsLaw" 81 ⟨"FruitHallsLaw", "sale", "(LFruitHalls;II[J)I"⟩ ∈ wAll := wAll_t (i := 732) rfl rfl
set_option maxRecDepth 20000 in
theorem km_L_15 : Cond.methodLink "FruitHallsLaw" 15 ⟨"FruitHalls", "sale", "(II)I"⟩ ∈ wAll := wAll_t (i := 735) rfl rfl
set_option maxRecDepth 20000 in
theorem km_X9_208 : Cond.methodLink "FruitHalls" 208 ⟨"FruitHalls$Payout", "claimOf", "(I)I"⟩ ∈ wAll := wAll_t (i := 740) rfl rfl
set_option maxRecDepth 20000 in
theorem km_L_101 : Cond.methodLink "FruitHallsLaw" 101 ⟨"FruitHallsLaw", "worth", "(LFruitHalls;III[J)I"⟩ ∈ wAll := wAll_t (i := 742) rfl rfl
set_option maxRecDepth 20000 in
theorem km_L_18 : Cond.methodLink "FruitHallsLaw" 18 ⟨"FruitHalls", "worth", "(III)J"⟩ ∈ wAll := wAll_t (i := 745) rfl rfl
set_option maxRecDepth 20000 in
theorem km_X9_226 : Cond.methodLink "FruitHalls" 226 ⟨"FruitHalls$Premium", "reckon", "(II)Z"⟩ ∈ wAll := wAll_t (i := 751) rfl rfl
set_option maxRecDepth 20000 in
theorem km_X4_29 : Cond.methodLink "FruitHalls$Premium" 29 ⟨"FruitHalls$Premium", "gather", "(II)J"⟩ ∈ wAll := wAll_t (i := 755) rfl rfl
set_option maxRecDepth 20000 in
theorem km_X4_55 : Cond.methodLink "FruitHalls$Premium" 55 ⟨"FruitHalls$Sales", "countsAsOf", "(II)Z"⟩ ∈ wAll := wAll_t (i := 759) rfl rfl
set_option maxRecDepth 20000 in
theorem km_X4_33 : Cond.methodLink "FruitHalls$Premium" 33 ⟨"java/lang/Math", "max", "(JJ)J"⟩ ∈ wAll := wAll_t (i := 760) rfl rfl
set_option maxRecDepth 20000 in
theorem km_X4_46 : Cond.methodLink "FruitHalls$Premium" 46 ⟨"FruitHalls$Premium", "reduce", "()V"⟩ ∈ wAll := wAll_t (i := 763) rfl rfl
set_option maxRecDepth 20000 in
theorem km_X4_74 : Cond.methodLink "FruitHalls$Premium" 74 ⟨"java/lang/Math", "abs", "(J)J"⟩ ∈ wAll := wAll_t (i := 767) rfl rfl
set_option maxRecDepth 20000 in
theorem km_L_25 : Cond.methodLink "FruitHallsLaw" 25 ⟨"FruitHallsModel", "<init>", "()V"⟩ ∈ wAll := wAll_t (i := 773) rfl rfl
set_option maxRecDepth 20000 in
theorem km_X10_1 : Cond.methodLink "FruitHallsModel" 1 ⟨"java/lang/Object", "<init>", "()V"⟩ ∈ wAll := wAll_t (i := 776) rfl rfl
set_option maxRecDepth 20000 in
theorem km_L_78 : Cond.methodLink "FruitHallsLaw" 78 ⟨"FruitHallsModel", "thrown", "()I"⟩ ∈ wAll := wAll_t (i := 907) rfl rfl
set_option maxRecDepth 20000 in
theorem km_L_30 : Cond.methodLink "FruitHallsLaw" 30 ⟨"FruitHallsModel", "feed", "(IIIII)I"⟩ ∈ wAll := wAll_t (i := 911) rfl rfl
set_option maxRecDepth 20000 in
theorem km_X10_104 : Cond.methodLink "FruitHallsModel" 104 ⟨"FruitHallsModel", "four", "(I)V"⟩ ∈ wAll := wAll_t (i := 915) rfl rfl
set_option maxRecDepth 20000 in
theorem km_L_35 : Cond.methodLink "FruitHallsLaw" 35 ⟨"FruitHallsModel", "end", "(I)Z"⟩ ∈ wAll := wAll_t (i := 919) rfl rfl
set_option maxRecDepth 20000 in
theorem km_L_40 : Cond.methodLink "FruitHallsLaw" 40 ⟨"FruitHallsModel", "rules", "()I"⟩ ∈ wAll := wAll_t (i := 923) rfl rfl
set_option maxRecDepth 20000 in
theorem km_X10_148 : Cond.methodLink "FruitHallsModel" 148 ⟨"FruitHallsModel", "taken", "()V"⟩ ∈ wAll := wAll_t (i := 927) rfl rfl
set_option maxRecDepth 20000 in
theorem km_X10_151 : Cond.methodLink "FruitHallsModel" 151 ⟨"FruitHallsModel", "next0", "()V"⟩ ∈ wAll := wAll_t (i := 931) rfl rfl
set_option maxRecDepth 20000 in
theorem km_X10_114 : Cond.methodLink "FruitHallsModel" 114 ⟨"FruitHallsModel", "peek", "()I"⟩ ∈ wAll := wAll_t (i := 935) rfl rfl
set_option maxRecDepth 20000 in
theorem km_X10_124 : Cond.methodLink "FruitHallsModel" 124 ⟨"FruitHallsModel", "isSmall", "(I)Z"⟩ ∈ wAll := wAll_t (i := 939) rfl rfl
set_option maxRecDepth 20000 in
theorem km_X10_128 : Cond.methodLink "FruitHallsModel" 128 ⟨"FruitHallsModel", "isDigit", "(I)Z"⟩ ∈ wAll := wAll_t (i := 942) rfl rfl
set_option maxRecDepth 20000 in
theorem km_X10_154 : Cond.methodLink "FruitHallsModel" 154 ⟨"FruitHallsModel", "rule", "()Z"⟩ ∈ wAll := wAll_t (i := 945) rfl rfl
set_option maxRecDepth 20000 in
theorem km_X10_163 : Cond.methodLink "FruitHallsModel" 163 ⟨"FruitHallsModel", "isWord", "(J)Z"⟩ ∈ wAll := wAll_t (i := 950) rfl rfl
set_option maxRecDepth 20000 in
theorem km_X10_173 : Cond.methodLink "FruitHallsModel" 173 ⟨"FruitHallsModel", "cant", "()Z"⟩ ∈ wAll := wAll_t (i := 957) rfl rfl
set_option maxRecDepth 20000 in
theorem km_X10_144 : Cond.methodLink "FruitHallsModel" 144 ⟨"FruitHallsModel", "wrong", "(II)Z"⟩ ∈ wAll := wAll_t (i := 961) rfl rfl
set_option maxRecDepth 20000 in
theorem km_L_44 : Cond.methodLink "FruitHallsLaw" 44 ⟨"FruitHallsModel", "fault", "()I"⟩ ∈ wAll := wAll_t (i := 967) rfl rfl
set_option maxRecDepth 20000 in
theorem km_L_48 : Cond.methodLink "FruitHallsLaw" 48 ⟨"FruitHallsModel", "lot", "(IIIII)I"⟩ ∈ wAll := wAll_t (i := 971) rfl rfl
set_option maxRecDepth 20000 in
theorem km_X10_183 : Cond.methodLink "FruitHallsModel" 183 ⟨"FruitHallsModel", "isIn", "(III)Z"⟩ ∈ wAll := wAll_t (i := 975) rfl rfl
set_option maxRecDepth 20000 in
theorem km_L_53 : Cond.methodLink "FruitHallsLaw" 53 ⟨"FruitHallsModel", "money", "(II)Z"⟩ ∈ wAll := wAll_t (i := 978) rfl rfl
set_option maxRecDepth 20000 in
theorem km_L_58 : Cond.methodLink "FruitHallsLaw" 58 ⟨"FruitHallsModel", "want", "(IIIII)Z"⟩ ∈ wAll := wAll_t (i := 983) rfl rfl
set_option maxRecDepth 20000 in
theorem km_X10_188 : Cond.methodLink "FruitHallsModel" 188 ⟨"FruitHallsModel", "place", "(III)I"⟩ ∈ wAll := wAll_t (i := 987) rfl rfl
set_option maxRecDepth 20000 in
theorem km_L_63 : Cond.methodLink "FruitHallsLaw" 63 ⟨"FruitHallsModel", "auction", "(I)I"⟩ ∈ wAll := wAll_t (i := 990) rfl rfl
set_option maxRecDepth 20000 in
theorem km_X10_195 : Cond.methodLink "FruitHallsModel" 195 ⟨"FruitHallsModel", "offer", "(I)Z"⟩ ∈ wAll := wAll_t (i := 994) rfl rfl
set_option maxRecDepth 20000 in
theorem km_X10_201 : Cond.methodLink "FruitHallsModel" 201 ⟨"FruitHallsModel", "bids", "(II)Z"⟩ ∈ wAll := wAll_t (i := 998) rfl rfl
set_option maxRecDepth 20000 in
theorem km_L_67 : Cond.methodLink "FruitHallsLaw" 67 ⟨"FruitHallsModel", "reject", "(I)Z"⟩ ∈ wAll := wAll_t (i := 1002) rfl rfl
set_option maxRecDepth 20000 in
theorem km_X10_204 : Cond.methodLink "FruitHallsModel" 204 ⟨"FruitHallsModel", "isSale", "(I)Z"⟩ ∈ wAll := wAll_t (i := 1006) rfl rfl
set_option maxRecDepth 20000 in
theorem km_L_71 : Cond.methodLink "FruitHallsLaw" 71 ⟨"FruitHallsModel", "next", "()I"⟩ ∈ wAll := wAll_t (i := 1010) rfl rfl
set_option maxRecDepth 20000 in
theorem km_L_77 : Cond.methodLink "FruitHallsLaw" 77 ⟨"FruitHallsModel", "about", "(II)I"⟩ ∈ wAll := wAll_t (i := 1014) rfl rfl
set_option maxRecDepth 20000 in
theorem km_X10_207 : Cond.methodLink "FruitHallsModel" 207 ⟨"FruitHallsModel", "throwsIf", "(Z)Z"⟩ ∈ wAll := wAll_t (i := 1018) rfl rfl
set_option maxRecDepth 20000 in
theorem km_L_83 : Cond.methodLink "FruitHallsLaw" 83 ⟨"FruitHallsModel", "sale", "(II)I"⟩ ∈ wAll := wAll_t (i := 1022) rfl rfl
set_option maxRecDepth 20000 in
theorem km_X10_215 : Cond.methodLink "FruitHallsModel" 215 ⟨"FruitHallsModel", "claimOf", "(I)I"⟩ ∈ wAll := wAll_t (i := 1026) rfl rfl
set_option maxRecDepth 20000 in
theorem km_X10_211 : Cond.methodLink "FruitHallsModel" 211 ⟨"FruitHallsModel", "nextOf", "(I)I"⟩ ∈ wAll := wAll_t (i := 1030) rfl rfl
set_option maxRecDepth 20000 in
theorem km_L_87 : Cond.methodLink "FruitHallsLaw" 87 ⟨"FruitHallsModel", "left", "(I)I"⟩ ∈ wAll := wAll_t (i := 1034) rfl rfl
set_option maxRecDepth 20000 in
theorem km_L_92 : Cond.methodLink "FruitHallsLaw" 92 ⟨"FruitHallsModel", "wanted", "(III)I"⟩ ∈ wAll := wAll_t (i := 1038) rfl rfl
set_option maxRecDepth 20000 in
theorem km_L_96 : Cond.methodLink "FruitHallsLaw" 96 ⟨"FruitHallsModel", "pool", "(I)I"⟩ ∈ wAll := wAll_t (i := 1042) rfl rfl
set_option maxRecDepth 20000 in
theorem km_X10_221 : Cond.methodLink "FruitHallsModel" 221 ⟨"FruitHallsModel", "poolOf", "(I)J"⟩ ∈ wAll := wAll_t (i := 1046) rfl rfl
set_option maxRecDepth 20000 in
theorem km_X10_218 : Cond.methodLink "FruitHallsModel" 218 ⟨"FruitHallsModel", "counts", "(II)Z"⟩ ∈ wAll := wAll_t (i := 1050) rfl rfl
set_option maxRecDepth 20000 in
theorem km_L_100 : Cond.methodLink "FruitHallsLaw" 100 ⟨"FruitHallsModel", "pay", "(II)I"⟩ ∈ wAll := wAll_t (i := 1054) rfl rfl
set_option maxRecDepth 20000 in
theorem km_L_104 : Cond.methodLink "FruitHallsLaw" 104 ⟨"FruitHallsModel", "worth", "(III)J"⟩ ∈ wAll := wAll_t (i := 1059) rfl rfl
set_option maxRecDepth 20000 in
theorem km_X10_227 : Cond.methodLink "FruitHallsModel" 227 ⟨"FruitHallsModel", "common", "(JJ)J"⟩ ∈ wAll := wAll_t (i := 1063) rfl rfl
set_option maxRecDepth 20000 in
theorem km_L_109 : Cond.methodLink "FruitHallsLaw" 109 ⟨"FruitHallsModel", "wire", "(IIII)I"⟩ ∈ wAll := wAll_t (i := 1066) rfl rfl
set_option maxRecDepth 20000 in
theorem km_L_113 : Cond.methodLink "FruitHallsLaw" 113 ⟨"FruitHallsModel", "cars", "(I)I"⟩ ∈ wAll := wAll_t (i := 1070) rfl rfl
set_option maxRecDepth 20000 in
theorem km_L_117 : Cond.methodLink "FruitHallsLaw" 117 ⟨"FruitHallsModel", "sent", "(I)I"⟩ ∈ wAll := wAll_t (i := 1074) rfl rfl
set_option maxRecDepth 20000 in
theorem km_L_121 : Cond.methodLink "FruitHallsLaw" 121 ⟨"FruitHallsModel", "count", "(I)I"⟩ ∈ wAll := wAll_t (i := 1078) rfl rfl
set_option maxRecDepth 20000 in
theorem kc_L_8 : Cond.classLink "FruitHallsLaw" 8 "FruitHalls" ∈ wAll := wAll_t (i := 21) rfl rfl
set_option maxRecDepth 20000 in
theorem kc_X9_7 : Cond.classLink "FruitHalls" 7 "FruitHalls$Tape" ∈ wAll := wAll_t (i := 29) rfl rfl
set_option maxRecDepth 20000 in
theorem kc_X9_16 : Cond.classLink "FruitHalls" 16 "FruitHalls$Rules" ∈ wAll := wAll_t (i := 45) rfl rfl
set_option maxRecDepth 20000 in
theorem kc_X9_23 : Cond.classLink "FruitHalls" 23 "FruitHalls$RuleReader" ∈ wAll := wAll_t (i := 81) rfl rfl
set_option maxRecDepth 20000 in
theorem kc_X5_9 : Cond.classLink "FruitHalls$RuleReader" 9 "FruitHalls$Rules" ∈ wAll := wAll_t (i := 87) rfl rfl
set_option maxRecDepth 20000 in
theorem kc_X9_32 : Cond.classLink "FruitHalls" 32 "FruitHalls$Lots" ∈ wAll := wAll_t (i := 127) rfl rfl
set_option maxRecDepth 20000 in
theorem kc_X9_39 : Cond.classLink "FruitHalls" 39 "FruitHalls$Sales" ∈ wAll := wAll_t (i := 170) rfl rfl
set_option maxRecDepth 20000 in
theorem kc_X9_46 : Cond.classLink "FruitHalls" 46 "FruitHalls$Buyers" ∈ wAll := wAll_t (i := 218) rfl rfl
set_option maxRecDepth 20000 in
theorem kc_X9_53 : Cond.classLink "FruitHalls" 53 "FruitHalls$Payout" ∈ wAll := wAll_t (i := 241) rfl rfl
set_option maxRecDepth 20000 in
theorem kc_X9_62 : Cond.classLink "FruitHalls" 62 "FruitHalls$Premium" ∈ wAll := wAll_t (i := 264) rfl rfl
set_option maxRecDepth 20000 in
theorem kc_X9_71 : Cond.classLink "FruitHalls" 71 "FruitHalls$Freight" ∈ wAll := wAll_t (i := 294) rfl rfl
set_option maxRecDepth 20000 in
theorem kc_L_13 : Cond.classLink "FruitHallsLaw" 13 "java/util/NoSuchElementException" ∈ wAll := wAll_t (i := 661) rfl rfl
set_option maxRecDepth 20000 in
theorem kc_X9_172 : Cond.classLink "FruitHalls" 172 "java/util/NoSuchElementException" ∈ wAll := wAll_t (i := 666) rfl rfl
set_option maxRecDepth 20000 in
theorem kc_L_23 : Cond.classLink "FruitHallsLaw" 23 "FruitHallsModel" ∈ wAll := wAll_t (i := 771) rfl rfl
set_option maxRecDepth 20000 in
theorem kn_X9 : Cond.instantiable "FruitHalls" 12 ∈ wAll := wAll_t (i := 22) rfl rfl
set_option maxRecDepth 20000 in
theorem kn_X8 : Cond.instantiable "FruitHalls$Tape" 2 ∈ wAll := wAll_t (i := 30) rfl rfl
set_option maxRecDepth 20000 in
theorem kn_X6 : Cond.instantiable "FruitHalls$Rules" 5 ∈ wAll := wAll_t (i := 46) rfl rfl
set_option maxRecDepth 20000 in
theorem kn_X5 : Cond.instantiable "FruitHalls$RuleReader" 11 ∈ wAll := wAll_t (i := 82) rfl rfl
set_option maxRecDepth 20000 in
theorem kn_X2 : Cond.instantiable "FruitHalls$Lots" 8 ∈ wAll := wAll_t (i := 128) rfl rfl
set_option maxRecDepth 20000 in
theorem kn_X7 : Cond.instantiable "FruitHalls$Sales" 8 ∈ wAll := wAll_t (i := 171) rfl rfl
set_option maxRecDepth 20000 in
theorem kn_X0 : Cond.instantiable "FruitHalls$Buyers" 4 ∈ wAll := wAll_t (i := 219) rfl rfl
set_option maxRecDepth 20000 in
theorem kn_X3 : Cond.instantiable "FruitHalls$Payout" 5 ∈ wAll := wAll_t (i := 242) rfl rfl
set_option maxRecDepth 20000 in
theorem kn_X4 : Cond.instantiable "FruitHalls$Premium" 7 ∈ wAll := wAll_t (i := 265) rfl rfl
set_option maxRecDepth 20000 in
theorem kn_X1 : Cond.instantiable "FruitHalls$Freight" 4 ∈ wAll := wAll_t (i := 295) rfl rfl
set_option maxRecDepth 20000 in
theorem kn_X10 : Cond.instantiable "FruitHallsModel" 43 ∈ wAll := wAll_t (i := 772) rfl rfl
set_option maxRecDepth 20000 in
theorem ki_L : Cond.initialized "FruitHallsLaw" ∈ wAll := wAll_t (i := 0) rfl rfl
set_option maxRecDepth 20000 in
theorem ki_X9 : Cond.initialized "FruitHalls" ∈ wAll := wAll_t (i := 1) rfl rfl
set_option maxRecDepth 20000 in
theorem ki_X8 : Cond.initialized "FruitHalls$Tape" ∈ wAll := wAll_t (i := 2) rfl rfl
set_option maxRecDepth 20000 in
theorem ki_X6 : Cond.initialized "FruitHalls$Rules" ∈ wAll := wAll_t (i := 3) rfl rfl
set_option maxRecDepth 20000 in
theorem ki_X5 : Cond.initialized "FruitHalls$RuleReader" ∈ wAll := wAll_t (i := 4) rfl rfl
set_option maxRecDepth 20000 in
theorem ki_X2 : Cond.initialized "FruitHalls$Lots" ∈ wAll := wAll_t (i := 5) rfl rfl
set_option maxRecDepth 20000 in
theorem ki_X7 : Cond.initialized "FruitHalls$Sales" ∈ wAll := wAll_t (i := 6) rfl rfl
set_option maxRecDepth 20000 in
theorem ki_X0 : Cond.initialized "FruitHalls$Buyers" ∈ wAll := wAll_t (i := 7) rfl rfl
set_option maxRecDepth 20000 in
theorem ki_X3 : Cond.initialized "FruitHalls$Payout" ∈ wAll := wAll_t (i := 8) rfl rfl
set_option maxRecDepth 20000 in
theorem ki_X4 : Cond.initialized "FruitHalls$Premium" ∈ wAll := wAll_t (i := 9) rfl rfl
set_option maxRecDepth 20000 in
theorem ki_X1 : Cond.initialized "FruitHalls$Freight" ∈ wAll := wAll_t (i := 10) rfl rfl
set_option maxRecDepth 20000 in
theorem ki_X10 : Cond.initialized "FruitHallsModel" ∈ wAll := wAll_t (i := 11) rfl rfl
set_option maxRecDepth 20000 in
theorem kk_X9_124 : Cond.constant "FruitHalls" 124 (1000000 : Int32) ∈ wAll := wAll_t (i := 513) rfl rfl
set_option maxRecDepth 20000 in
theorem kk_X10_187 : Cond.constant "FruitHallsModel" 187 (1000000 : Int32) ∈ wAll := wAll_t (i := 982) rfl rfl
set_option maxRecDepth 20000 in
theorem kk_X10_161 : Cond.constantLong "FruitHallsModel" 161 (32199693642659429 : Int64) ∈ wAll := wAll_t (i := 949) rfl rfl
set_option maxRecDepth 20000 in
theorem kk_X10_167 : Cond.constantLong "FruitHallsModel" 167 (1885434484 : Int64) ∈ wAll := wAll_t (i := 954) rfl rfl
set_option maxRecDepth 20000 in
theorem kk_X10_169 : Cond.constantLong "FruitHallsModel" 169 (7499636 : Int64) ∈ wAll := wAll_t (i := 955) rfl rfl
set_option maxRecDepth 20000 in
theorem kk_X10_171 : Cond.constantLong "FruitHallsModel" 171 (1819243379 : Int64) ∈ wAll := wAll_t (i := 956) rfl rfl
set_option maxRecDepth 20000 in
theorem kk_X10_176 : Cond.constantLong "FruitHallsModel" 176 (422877685106 : Int64) ∈ wAll := wAll_t (i := 965) rfl rfl
set_option maxRecDepth 20000 in
theorem kk_X10_178 : Cond.constantLong "FruitHallsModel" 178 (1886351212 : Int64) ∈ wAll := wAll_t (i := 966) rfl rfl
set_option maxRecDepth 20000 in
theorem kk_X10_225 : Cond.constantLong "FruitHallsModel" 225 (-1 : Int64) ∈ wAll := wAll_t (i := 1058) rfl rfl
set_option maxRecDepth 20000 in
theorem inX0 : ∀ w ∈ u_ws RX0 TX0 4, w ∈ wAll := by
  intro w hw
  obtain ⟨k, hk, rfl⟩ := List.mem_map.mp hw
  have hk := List.mem_range.mp hk
  match k, hk with
  | 0, _ => exact wAll_t (i := 232) rfl rfl
  | 1, _ => exact wAll_t (i := 234) rfl rfl
  | 2, _ => exact wAll_t (i := 236) rfl rfl
  | 3, _ => exact wAll_t (i := 238) rfl rfl
  | k + 4, h => exact absurd h (by omega)
set_option maxRecDepth 20000 in
theorem inX1 : ∀ w ∈ u_ws RX1 TX1 4, w ∈ wAll := by
  intro w hw
  obtain ⟨k, hk, rfl⟩ := List.mem_map.mp hw
  have hk := List.mem_range.mp hk
  match k, hk with
  | 0, _ => exact wAll_t (i := 306) rfl rfl
  | 1, _ => exact wAll_t (i := 308) rfl rfl
  | 2, _ => exact wAll_t (i := 310) rfl rfl
  | 3, _ => exact wAll_t (i := 312) rfl rfl
  | k + 4, h => exact absurd h (by omega)
set_option maxRecDepth 20000 in
theorem inX2 : ∀ w ∈ u_ws RX2 TX2 8, w ∈ wAll := by
  intro w hw
  obtain ⟨k, hk, rfl⟩ := List.mem_map.mp hw
  have hk := List.mem_range.mp hk
  match k, hk with
  | 0, _ => exact wAll_t (i := 153) rfl rfl
  | 1, _ => exact wAll_t (i := 155) rfl rfl
  | 2, _ => exact wAll_t (i := 157) rfl rfl
  | 3, _ => exact wAll_t (i := 159) rfl rfl
  | 4, _ => exact wAll_t (i := 161) rfl rfl
  | 5, _ => exact wAll_t (i := 163) rfl rfl
  | 6, _ => exact wAll_t (i := 165) rfl rfl
  | 7, _ => exact wAll_t (i := 167) rfl rfl
  | k + 8, h => exact absurd h (by omega)
set_option maxRecDepth 20000 in
theorem inX3 : ∀ w ∈ u_ws RX3 TX3 5, w ∈ wAll := by
  intro w hw
  obtain ⟨k, hk, rfl⟩ := List.mem_map.mp hw
  have hk := List.mem_range.mp hk
  match k, hk with
  | 0, _ => exact wAll_t (i := 252) rfl rfl
  | 1, _ => exact wAll_t (i := 254) rfl rfl
  | 2, _ => exact wAll_t (i := 256) rfl rfl
  | 3, _ => exact wAll_t (i := 258) rfl rfl
  | 4, _ => exact wAll_t (i := 260) rfl rfl
  | k + 5, h => exact absurd h (by omega)
set_option maxRecDepth 20000 in
theorem inX4 : ∀ w ∈ u_ws RX4 TX4 7, w ∈ wAll := by
  intro w hw
  obtain ⟨k, hk, rfl⟩ := List.mem_map.mp hw
  have hk := List.mem_range.mp hk
  match k, hk with
  | 0, _ => exact wAll_t (i := 279) rfl rfl
  | 1, _ => exact wAll_t (i := 281) rfl rfl
  | 2, _ => exact wAll_t (i := 283) rfl rfl
  | 3, _ => exact wAll_t (i := 285) rfl rfl
  | 4, _ => exact wAll_t (i := 287) rfl rfl
  | 5, _ => exact wAll_t (i := 289) rfl rfl
  | 6, _ => exact wAll_t (i := 291) rfl rfl
  | k + 7, h => exact absurd h (by omega)
set_option maxRecDepth 20000 in
theorem inX5 : ∀ w ∈ u_ws RX5 TX5 11, w ∈ wAll := by
  intro w hw
  obtain ⟨k, hk, rfl⟩ := List.mem_map.mp hw
  have hk := List.mem_range.mp hk
  match k, hk with
  | 0, _ => exact wAll_t (i := 103) rfl rfl
  | 1, _ => exact wAll_t (i := 105) rfl rfl
  | 2, _ => exact wAll_t (i := 107) rfl rfl
  | 3, _ => exact wAll_t (i := 109) rfl rfl
  | 4, _ => exact wAll_t (i := 111) rfl rfl
  | 5, _ => exact wAll_t (i := 113) rfl rfl
  | 6, _ => exact wAll_t (i := 115) rfl rfl
  | 7, _ => exact wAll_t (i := 117) rfl rfl
  | 8, _ => exact wAll_t (i := 119) rfl rfl
  | 9, _ => exact wAll_t (i := 121) rfl rfl
  | 10, _ => exact wAll_t (i := 123) rfl rfl
  | k + 11, h => exact absurd h (by omega)
set_option maxRecDepth 20000 in
theorem inX6 : ∀ w ∈ u_ws RX6 TX6 5, w ∈ wAll := by
  intro w hw
  obtain ⟨k, hk, rfl⟩ := List.mem_map.mp hw
  have hk := List.mem_range.mp hk
  match k, hk with
  | 0, _ => exact wAll_t (i := 70) rfl rfl
  | 1, _ => exact wAll_t (i := 72) rfl rfl
  | 2, _ => exact wAll_t (i := 74) rfl rfl
  | 3, _ => exact wAll_t (i := 76) rfl rfl
  | 4, _ => exact wAll_t (i := 78) rfl rfl
  | k + 5, h => exact absurd h (by omega)
set_option maxRecDepth 20000 in
theorem inX7 : ∀ w ∈ u_ws RX7 TX7 8, w ∈ wAll := by
  intro w hw
  obtain ⟨k, hk, rfl⟩ := List.mem_map.mp hw
  have hk := List.mem_range.mp hk
  match k, hk with
  | 0, _ => exact wAll_t (i := 201) rfl rfl
  | 1, _ => exact wAll_t (i := 203) rfl rfl
  | 2, _ => exact wAll_t (i := 205) rfl rfl
  | 3, _ => exact wAll_t (i := 207) rfl rfl
  | 4, _ => exact wAll_t (i := 209) rfl rfl
  | 5, _ => exact wAll_t (i := 211) rfl rfl
  | 6, _ => exact wAll_t (i := 213) rfl rfl
  | 7, _ => exact wAll_t (i := 215) rfl rfl
  | k + 8, h => exact absurd h (by omega)
set_option maxRecDepth 20000 in
theorem inX8 : ∀ w ∈ u_ws RX8 TX8 2, w ∈ wAll := by
  intro w hw
  obtain ⟨k, hk, rfl⟩ := List.mem_map.mp hw
  have hk := List.mem_range.mp hk
  match k, hk with
  | 0, _ => exact wAll_t (i := 39) rfl rfl
  | 1, _ => exact wAll_t (i := 41) rfl rfl
  | k + 2, h => exact absurd h (by omega)
set_option maxRecDepth 20000 in
theorem inX9 : ∀ w ∈ u_ws RX9 TX9 12, w ∈ wAll := by
  intro w hw
  obtain ⟨k, hk, rfl⟩ := List.mem_map.mp hw
  have hk := List.mem_range.mp hk
  match k, hk with
  | 0, _ => exact wAll_t (i := 327) rfl rfl
  | 1, _ => exact wAll_t (i := 329) rfl rfl
  | 2, _ => exact wAll_t (i := 331) rfl rfl
  | 3, _ => exact wAll_t (i := 333) rfl rfl
  | 4, _ => exact wAll_t (i := 335) rfl rfl
  | 5, _ => exact wAll_t (i := 337) rfl rfl
  | 6, _ => exact wAll_t (i := 339) rfl rfl
  | 7, _ => exact wAll_t (i := 341) rfl rfl
  | 8, _ => exact wAll_t (i := 343) rfl rfl
  | 9, _ => exact wAll_t (i := 345) rfl rfl
  | 10, _ => exact wAll_t (i := 347) rfl rfl
  | 11, _ => exact wAll_t (i := 349) rfl rfl
  | k + 12, h => exact absurd h (by omega)
set_option maxRecDepth 20000 in
theorem inX10 : ∀ w ∈ u_ws RX10 TX10 43, w ∈ wAll := by
  intro w hw
  obtain ⟨k, hk, rfl⟩ := List.mem_map.mp hw
  have hk := List.mem_range.mp hk
  match k, hk with
  | 0, _ => exact wAll_t (i := 820) rfl rfl
  | 1, _ => exact wAll_t (i := 822) rfl rfl
  | 2, _ => exact wAll_t (i := 824) rfl rfl
  | 3, _ => exact wAll_t (i := 826) rfl rfl
  | 4, _ => exact wAll_t (i := 828) rfl rfl
  | 5, _ => exact wAll_t (i := 830) rfl rfl
  | 6, _ => exact wAll_t (i := 832) rfl rfl
  | 7, _ => exact wAll_t (i := 834) rfl rfl
  | 8, _ => exact wAll_t (i := 836) rfl rfl
  | 9, _ => exact wAll_t (i := 838) rfl rfl
  | 10, _ => exact wAll_t (i := 840) rfl rfl
  | 11, _ => exact wAll_t (i := 842) rfl rfl
  | 12, _ => exact wAll_t (i := 844) rfl rfl
  | 13, _ => exact wAll_t (i := 846) rfl rfl
  | 14, _ => exact wAll_t (i := 848) rfl rfl
  | 15, _ => exact wAll_t (i := 850) rfl rfl
  | 16, _ => exact wAll_t (i := 852) rfl rfl
  | 17, _ => exact wAll_t (i := 854) rfl rfl
  | 18, _ => exact wAll_t (i := 856) rfl rfl
  | 19, _ => exact wAll_t (i := 858) rfl rfl
  | 20, _ => exact wAll_t (i := 860) rfl rfl
  | 21, _ => exact wAll_t (i := 862) rfl rfl
  | 22, _ => exact wAll_t (i := 864) rfl rfl
  | 23, _ => exact wAll_t (i := 866) rfl rfl
  | 24, _ => exact wAll_t (i := 868) rfl rfl
  | 25, _ => exact wAll_t (i := 870) rfl rfl
  | 26, _ => exact wAll_t (i := 872) rfl rfl
  | 27, _ => exact wAll_t (i := 874) rfl rfl
  | 28, _ => exact wAll_t (i := 876) rfl rfl
  | 29, _ => exact wAll_t (i := 878) rfl rfl
  | 30, _ => exact wAll_t (i := 880) rfl rfl
  | 31, _ => exact wAll_t (i := 882) rfl rfl
  | 32, _ => exact wAll_t (i := 884) rfl rfl
  | 33, _ => exact wAll_t (i := 886) rfl rfl
  | 34, _ => exact wAll_t (i := 888) rfl rfl
  | 35, _ => exact wAll_t (i := 890) rfl rfl
  | 36, _ => exact wAll_t (i := 892) rfl rfl
  | 37, _ => exact wAll_t (i := 894) rfl rfl
  | 38, _ => exact wAll_t (i := 896) rfl rfl
  | 39, _ => exact wAll_t (i := 898) rfl rfl
  | 40, _ => exact wAll_t (i := 900) rfl rfl
  | 41, _ => exact wAll_t (i := 902) rfl rfl
  | 42, _ => exact wAll_t (i := 904) rfl rfl
  | k + 43, h => exact absurd h (by omega)
set_option maxRecDepth 20000 in
theorem ok_X0_init : okI yX0_init cX0_init 1 0 := ⟨⟨ki_X0, wAll_t (i := 222) rfl rfl, by decide +kernel, by decide +kernel, by decide +kernel⟩, wAll_t (i := 221) rfl rfl, rfl⟩
set_option maxRecDepth 20000 in
theorem ok_X0_wantPlace : okS yX0_wantPlace cX0_wantPlace 3 (some .int) 3 := ⟨⟨ki_X0, wAll_t (i := 523) rfl rfl, by decide +kernel, by decide +kernel, by decide +kernel⟩, wAll_t (i := 522) rfl rfl⟩
set_option maxRecDepth 20000 in
theorem ok_X0_bidOf : okV yX0_bidOf cX0_bidOf 9 (some .int) 5 := ⟨⟨ki_X0, wAll_t (i := 549) rfl rfl, by decide +kernel, by decide +kernel, by decide +kernel⟩, wAll_t (i := 547) rfl rfl, wAll_t (i := 548) rfl rfl⟩
set_option maxRecDepth 20000 in
theorem ok_X0_take : okV yX0_take cX0_take 5 none 4 := ⟨⟨ki_X0, wAll_t (i := 559) rfl rfl, by decide +kernel, by decide +kernel, by decide +kernel⟩, wAll_t (i := 557) rfl rfl, wAll_t (i := 558) rfl rfl⟩
set_option maxRecDepth 20000 in
theorem ok_X0_restoreMoney : okV yX0_restoreMoney cX0_restoreMoney 2 none 0 := ⟨⟨ki_X0, wAll_t (i := 579) rfl rfl, by decide +kernel, by decide +kernel, by decide +kernel⟩, wAll_t (i := 577) rfl rfl, wAll_t (i := 578) rfl rfl⟩
set_option maxRecDepth 20000 in
theorem ok_X1_init : okI yX1_init cX1_init 1 0 := ⟨⟨ki_X1, wAll_t (i := 298) rfl rfl, by decide +kernel, by decide +kernel, by decide +kernel⟩, wAll_t (i := 297) rfl rfl, rfl⟩
set_option maxRecDepth 20000 in
theorem ok_X1_dispatch : okV yX1_dispatch cX1_dispatch 6 (some .int) 2 := ⟨⟨ki_X1, wAll_t (i := 639) rfl rfl, by decide +kernel, by decide +kernel, by decide +kernel⟩, wAll_t (i := 637) rfl rfl, wAll_t (i := 638) rfl rfl⟩
set_option maxRecDepth 20000 in
theorem ok_X1_bestHall : okV yX1_bestHall cX1_bestHall 3 (some .int) 0 := ⟨⟨ki_X1, wAll_t (i := 648) rfl rfl, by decide +kernel, by decide +kernel, by decide +kernel⟩, wAll_t (i := 647) rfl rfl, wAll_s (i := 18) rfl rfl⟩
set_option maxRecDepth 20000 in
theorem ok_X2_init : okI yX2_init cX2_init 1 0 := ⟨⟨ki_X2, wAll_t (i := 131) rfl rfl, by decide +kernel, by decide +kernel, by decide +kernel⟩, wAll_t (i := 130) rfl rfl, rfl⟩
set_option maxRecDepth 20000 in
theorem ok_X2_add : okV yX2_add cX2_add 6 (some .int) 5 := ⟨⟨ki_X2, wAll_t (i := 508) rfl rfl, by decide +kernel, by decide +kernel, by decide +kernel⟩, wAll_t (i := 506) rfl rfl, wAll_t (i := 507) rfl rfl⟩
set_option maxRecDepth 20000 in
theorem ok_X2_rotWaiting : okV yX2_rotWaiting cX2_rotWaiting 3 none 1 := ⟨⟨ki_X2, wAll_t (i := 575) rfl rfl, by decide +kernel, by decide +kernel, by decide +kernel⟩, wAll_t (i := 573) rfl rfl, wAll_t (i := 574) rfl rfl⟩
set_option maxRecDepth 20000 in
theorem ok_X2_nextOffered : okV yX2_nextOffered cX2_nextOffered 5 (some .int) 3 := ⟨⟨ki_X2, wAll_t (i := 535) rfl rfl, by decide +kernel, by decide +kernel, by decide +kernel⟩, wAll_t (i := 533) rfl rfl, wAll_t (i := 534) rfl rfl⟩
set_option maxRecDepth 20000 in
theorem ok_X3_init : okI yX3_init cX3_init 4 3 := ⟨⟨ki_X3, wAll_t (i := 245) rfl rfl, by decide +kernel, by decide +kernel, by decide +kernel⟩, wAll_t (i := 244) rfl rfl, rfl⟩
set_option maxRecDepth 20000 in
theorem ok_X3_claimOf : okV yX3_claimOf cX3_claimOf 3 (some .int) 1 := ⟨⟨ki_X3, wAll_t (i := 603) rfl rfl, by decide +kernel, by decide +kernel, by decide +kernel⟩, wAll_t (i := 601) rfl rfl, wAll_t (i := 602) rfl rfl⟩
set_option maxRecDepth 20000 in
theorem ok_X3_poolAsOf : okV yX3_poolAsOf cX3_poolAsOf 6 (some .long) 1 := ⟨⟨ki_X3, wAll_t (i := 595) rfl rfl, by decide +kernel, by decide +kernel, by decide +kernel⟩, wAll_t (i := 593) rfl rfl, wAll_t (i := 594) rfl rfl⟩
set_option maxRecDepth 20000 in
theorem ok_X3_shareOf : okV yX3_shareOf cX3_shareOf 11 (some .long) 2 := ⟨⟨ki_X3, wAll_t (i := 612) rfl rfl, by decide +kernel, by decide +kernel, by decide +kernel⟩, wAll_t (i := 610) rfl rfl, wAll_t (i := 611) rfl rfl⟩
set_option maxRecDepth 20000 in
theorem ok_X3_weigh : okV yX3_weigh cX3_weigh 8 (some .long) 1 := ⟨⟨ki_X3, wAll_t (i := 616) rfl rfl, by decide +kernel, by decide +kernel, by decide +kernel⟩, wAll_t (i := 615) rfl rfl, wAll_s (i := 15) rfl rfl⟩
set_option maxRecDepth 20000 in
theorem ok_X3_placeByRest : okV yX3_placeByRest cX3_placeByRest 4 (some .int) 1 := ⟨⟨ki_X3, wAll_t (i := 621) rfl rfl, by decide +kernel, by decide +kernel, by decide +kernel⟩, wAll_t (i := 620) rfl rfl, wAll_s (i := 16) rfl rfl⟩
set_option maxRecDepth 20000 in
theorem ok_X4_init : okI yX4_init cX4_init 3 2 := ⟨⟨ki_X4, wAll_t (i := 268) rfl rfl, by decide +kernel, by decide +kernel, by decide +kernel⟩, wAll_t (i := 267) rfl rfl, rfl⟩
set_option maxRecDepth 20000 in
theorem ok_X4_reckon : okV yX4_reckon cX4_reckon 10 (some .boolean) 2 := ⟨⟨ki_X4, wAll_t (i := 754) rfl rfl, by decide +kernel, by decide +kernel, by decide +kernel⟩, wAll_t (i := 752) rfl rfl, wAll_t (i := 753) rfl rfl⟩
set_option maxRecDepth 20000 in
theorem ok_X4_gather : okV yX4_gather cX4_gather 8 (some .long) 2 := ⟨⟨ki_X4, wAll_t (i := 758) rfl rfl, by decide +kernel, by decide +kernel, by decide +kernel⟩, wAll_t (i := 757) rfl rfl, wAll_s (i := 20) rfl rfl⟩
set_option maxRecDepth 20000 in
theorem ok_X4_reduce : okV yX4_reduce cX4_reduce 8 none 0 := ⟨⟨ki_X4, wAll_t (i := 766) rfl rfl, by decide +kernel, by decide +kernel, by decide +kernel⟩, wAll_t (i := 765) rfl rfl, wAll_s (i := 21) rfl rfl⟩
set_option maxRecDepth 20000 in
theorem ok_X5_init : okI yX5_init cX5_init 2 1 := ⟨⟨ki_X5, wAll_t (i := 85) rfl rfl, by decide +kernel, by decide +kernel, by decide +kernel⟩, wAll_t (i := 84) rfl rfl, rfl⟩
set_option maxRecDepth 20000 in
theorem ok_X5_read : okV yX5_read cX5_read 2 none 0 := ⟨⟨ki_X5, wAll_t (i := 371) rfl rfl, by decide +kernel, by decide +kernel, by decide +kernel⟩, wAll_t (i := 369) rfl rfl, wAll_t (i := 370) rfl rfl⟩
set_option maxRecDepth 20000 in
theorem ok_X5_forget : okV yX5_forget cX5_forget 2 none 0 := ⟨⟨ki_X5, wAll_t (i := 375) rfl rfl, by decide +kernel, by decide +kernel, by decide +kernel⟩, wAll_t (i := 374) rfl rfl, wAll_s (i := 0) rfl rfl⟩
set_option maxRecDepth 20000 in
theorem ok_X5_readRule : okV yX5_readRule cX5_readRule 1 none 0 := ⟨⟨ki_X5, wAll_t (i := 404) rfl rfl, by decide +kernel, by decide +kernel, by decide +kernel⟩, wAll_t (i := 403) rfl rfl, wAll_s (i := 3) rfl rfl⟩
set_option maxRecDepth 20000 in
theorem ok_X5_readByGrade : okV yX5_readByGrade cX5_readByGrade 6 none 3 := ⟨⟨ki_X5, wAll_t (i := 461) rfl rfl, by decide +kernel, by decide +kernel, by decide +kernel⟩, wAll_t (i := 460) rfl rfl, wAll_s (i := 5) rfl rfl⟩
set_option maxRecDepth 20000 in
theorem ok_X5_readRot : okV yX5_readRot cX5_readRot 2 none 0 := ⟨⟨ki_X5, wAll_t (i := 483) rfl rfl, by decide +kernel, by decide +kernel, by decide +kernel⟩, wAll_t (i := 482) rfl rfl, wAll_s (i := 10) rfl rfl⟩
set_option maxRecDepth 20000 in
theorem ok_X5_readLoss : okV yX5_readLoss cX5_readLoss 2 none 0 := ⟨⟨ki_X5, wAll_t (i := 488) rfl rfl, by decide +kernel, by decide +kernel, by decide +kernel⟩, wAll_t (i := 487) rfl rfl, wAll_s (i := 11) rfl rfl⟩
set_option maxRecDepth 20000 in
theorem ok_X5_finishRule : okV yX5_finishRule cX5_finishRule 1 none 0 := ⟨⟨ki_X5, wAll_t (i := 477) rfl rfl, by decide +kernel, by decide +kernel, by decide +kernel⟩, wAll_t (i := 476) rfl rfl, wAll_s (i := 9) rfl rfl⟩
set_option maxRecDepth 20000 in
theorem ok_X5_takeNumber : okV yX5_takeNumber cX5_takeNumber 4 (some .int) 1 := ⟨⟨ki_X5, wAll_t (i := 465) rfl rfl, by decide +kernel, by decide +kernel, by decide +kernel⟩, wAll_t (i := 464) rfl rfl, wAll_s (i := 6) rfl rfl⟩
set_option maxRecDepth 20000 in
theorem ok_X5_refuseToken : okV yX5_refuseToken cX5_refuseToken 1 none 0 := ⟨⟨ki_X5, wAll_t (i := 469) rfl rfl, by decide +kernel, by decide +kernel, by decide +kernel⟩, wAll_t (i := 468) rfl rfl, wAll_s (i := 7) rfl rfl⟩
set_option maxRecDepth 20000 in
theorem ok_X5_refuse : okV yX5_refuse cX5_refuse 2 none 1 := ⟨⟨ki_X5, wAll_t (i := 473) rfl rfl, by decide +kernel, by decide +kernel, by decide +kernel⟩, wAll_t (i := 472) rfl rfl, wAll_s (i := 8) rfl rfl⟩
set_option maxRecDepth 20000 in
theorem ok_X5_step : okV yX5_step cX5_step 2 none 0 := ⟨⟨ki_X5, wAll_t (i := 380) rfl rfl, by decide +kernel, by decide +kernel, by decide +kernel⟩, wAll_t (i := 379) rfl rfl, wAll_s (i := 1) rfl rfl⟩
set_option maxRecDepth 20000 in
theorem ok_X5_stepOverRun : okV yX5_stepOverRun cX5_stepOverRun 3 none 0 := ⟨⟨ki_X5, wAll_t (i := 400) rfl rfl, by decide +kernel, by decide +kernel, by decide +kernel⟩, wAll_t (i := 399) rfl rfl, wAll_s (i := 2) rfl rfl⟩
set_option maxRecDepth 20000 in
theorem ok_X5_isWord : okV yX5_isWord cX5_isWord 3 (some .boolean) 1 := ⟨⟨ki_X5, wAll_t (i := 409) rfl rfl, by decide +kernel, by decide +kernel, by decide +kernel⟩, wAll_t (i := 408) rfl rfl, wAll_s (i := 4) rfl rfl⟩
set_option maxRecDepth 20000 in
theorem ok_X5_isBlank : okS yX5_isBlank cX5_isBlank 1 (some .boolean) 1 := ⟨⟨ki_X5, wAll_t (i := 390) rfl rfl, by decide +kernel, by decide +kernel, by decide +kernel⟩, wAll_t (i := 389) rfl rfl⟩
set_option maxRecDepth 20000 in
theorem ok_X5_isLetter : okS yX5_isLetter cX5_isLetter 1 (some .boolean) 1 := ⟨⟨ki_X5, wAll_t (i := 393) rfl rfl, by decide +kernel, by decide +kernel, by decide +kernel⟩, wAll_t (i := 392) rfl rfl⟩
set_option maxRecDepth 20000 in
theorem ok_X5_isDigit : okS yX5_isDigit cX5_isDigit 1 (some .boolean) 1 := ⟨⟨ki_X5, wAll_t (i := 396) rfl rfl, by decide +kernel, by decide +kernel, by decide +kernel⟩, wAll_t (i := 395) rfl rfl⟩
set_option maxRecDepth 20000 in
theorem ok_X6_init : okI yX6_init cX6_init 1 0 := ⟨⟨ki_X6, wAll_t (i := 49) rfl rfl, by decide +kernel, by decide +kernel, by decide +kernel⟩, wAll_t (i := 48) rfl rfl, rfl⟩
set_option maxRecDepth 20000 in
theorem ok_X6_clear : okV yX6_clear cX6_clear 2 none 0 := ⟨⟨ki_X6, wAll_t (i := 54) rfl rfl, by decide +kernel, by decide +kernel, by decide +kernel⟩, wAll_t (i := 52) rfl rfl, wAll_t (i := 53) rfl rfl⟩
set_option maxRecDepth 20000 in
theorem ok_X6_copy : okV yX6_copy cX6_copy 3 none 1 := ⟨⟨ki_X6, wAll_t (i := 494) rfl rfl, by decide +kernel, by decide +kernel, by decide +kernel⟩, wAll_t (i := 492) rfl rfl, wAll_t (i := 493) rfl rfl⟩
set_option maxRecDepth 20000 in
theorem ok_X7_init : okI yX7_init cX7_init 1 0 := ⟨⟨ki_X7, wAll_t (i := 174) rfl rfl, by decide +kernel, by decide +kernel, by decide +kernel⟩, wAll_t (i := 173) rfl rfl, rfl⟩
set_option maxRecDepth 20000 in
theorem ok_X7_add : okV yX7_add cX7_add 6 (some .int) 5 := ⟨⟨ki_X7, wAll_t (i := 563) rfl rfl, by decide +kernel, by decide +kernel, by decide +kernel⟩, wAll_t (i := 561) rfl rfl, wAll_t (i := 562) rfl rfl⟩
set_option maxRecDepth 20000 in
theorem ok_X7_countsAsOf : okV yX7_countsAsOf cX7_countsAsOf 3 (some .boolean) 2 := ⟨⟨ki_X7, wAll_t (i := 599) rfl rfl, by decide +kernel, by decide +kernel, by decide +kernel⟩, wAll_t (i := 597) rfl rfl, wAll_t (i := 598) rfl rfl⟩
set_option maxRecDepth 20000 in
theorem ok_X8_init : okI yX8_init cX8_init 1 0 := ⟨⟨ki_X8, wAll_t (i := 33) rfl rfl, by decide +kernel, by decide +kernel, by decide +kernel⟩, wAll_t (i := 32) rfl rfl, rfl⟩
set_option maxRecDepth 20000 in
theorem ok_X8_append : okV yX8_append cX8_append 2 none 1 := ⟨⟨ki_X8, wAll_t (i := 359) rfl rfl, by decide +kernel, by decide +kernel, by decide +kernel⟩, wAll_t (i := 357) rfl rfl, wAll_t (i := 358) rfl rfl⟩
set_option maxRecDepth 20000 in
theorem ok_X8_byteAt : okV yX8_byteAt cX8_byteAt 2 (some .int) 1 := ⟨⟨ki_X8, wAll_t (i := 384) rfl rfl, by decide +kernel, by decide +kernel, by decide +kernel⟩, wAll_t (i := 382) rfl rfl, wAll_t (i := 383) rfl rfl⟩
set_option maxRecDepth 20000 in
theorem ok_X8_pairAt : okV yX8_pairAt cX8_pairAt 2 (some .int) 1 := ⟨⟨ki_X8, wAll_t (i := 643) rfl rfl, by decide +kernel, by decide +kernel, by decide +kernel⟩, wAll_t (i := 641) rfl rfl, wAll_t (i := 642) rfl rfl⟩
set_option maxRecDepth 20000 in
theorem ok_X9_init : okI yX9_init cX9_init 1 0 := ⟨⟨ki_X9, wAll_t (i := 25) rfl rfl, by decide +kernel, by decide +kernel, by decide +kernel⟩, wAll_t (i := 24) rfl rfl, rfl⟩
set_option maxRecDepth 20000 in
theorem ok_X9_feed : okV yX9_feed cX9_feed 6 (some .int) 5 := ⟨⟨ki_X9, wAll_t (i := 355) rfl rfl, by decide +kernel, by decide +kernel, by decide +kernel⟩, wAll_t (i := 353) rfl rfl, wAll_t (i := 354) rfl rfl⟩
set_option maxRecDepth 20000 in
theorem ok_X9_end : okV yX9_end cX9_end 2 (some .boolean) 1 := ⟨⟨ki_X9, wAll_t (i := 363) rfl rfl, by decide +kernel, by decide +kernel, by decide +kernel⟩, wAll_t (i := 361) rfl rfl, wAll_t (i := 362) rfl rfl⟩
set_option maxRecDepth 20000 in
theorem ok_X9_rules : okV yX9_rules cX9_rules 1 (some .int) 0 := ⟨⟨ki_X9, wAll_t (i := 367) rfl rfl, by decide +kernel, by decide +kernel, by decide +kernel⟩, wAll_t (i := 365) rfl rfl, wAll_t (i := 366) rfl rfl⟩
set_option maxRecDepth 20000 in
theorem ok_X9_fault : okV yX9_fault cX9_fault 1 (some .int) 0 := ⟨⟨ki_X9, wAll_t (i := 499) rfl rfl, by decide +kernel, by decide +kernel, by decide +kernel⟩, wAll_t (i := 497) rfl rfl, wAll_t (i := 498) rfl rfl⟩
set_option maxRecDepth 20000 in
theorem ok_X9_lot : okV yX9_lot cX9_lot 7 (some .int) 5 := ⟨⟨ki_X9, wAll_t (i := 503) rfl rfl, by decide +kernel, by decide +kernel, by decide +kernel⟩, wAll_t (i := 501) rfl rfl, wAll_t (i := 502) rfl rfl⟩
set_option maxRecDepth 20000 in
theorem ok_X9_money : okV yX9_money cX9_money 3 (some .boolean) 2 := ⟨⟨ki_X9, wAll_t (i := 512) rfl rfl, by decide +kernel, by decide +kernel, by decide +kernel⟩, wAll_t (i := 510) rfl rfl, wAll_t (i := 511) rfl rfl⟩
set_option maxRecDepth 20000 in
theorem ok_X9_want : okV yX9_want cX9_want 8 (some .boolean) 5 := ⟨⟨ki_X9, wAll_t (i := 517) rfl rfl, by decide +kernel, by decide +kernel, by decide +kernel⟩, wAll_t (i := 515) rfl rfl, wAll_t (i := 516) rfl rfl⟩
set_option maxRecDepth 20000 in
theorem ok_X9_auction : okV yX9_auction cX9_auction 5 (some .int) 1 := ⟨⟨ki_X9, wAll_t (i := 527) rfl rfl, by decide +kernel, by decide +kernel, by decide +kernel⟩, wAll_t (i := 525) rfl rfl, wAll_t (i := 526) rfl rfl⟩
set_option maxRecDepth 20000 in
theorem ok_X9_reject : okV yX9_reject cX9_reject 3 (some .boolean) 1 := ⟨⟨ki_X9, wAll_t (i := 567) rfl rfl, by decide +kernel, by decide +kernel, by decide +kernel⟩, wAll_t (i := 565) rfl rfl, wAll_t (i := 566) rfl rfl⟩
set_option maxRecDepth 20000 in
theorem ok_X9_next : okV yX9_next cX9_next 1 (some .int) 0 := ⟨⟨ki_X9, wAll_t (i := 571) rfl rfl, by decide +kernel, by decide +kernel, by decide +kernel⟩, wAll_t (i := 569) rfl rfl, wAll_t (i := 570) rfl rfl⟩
set_option maxRecDepth 20000 in
theorem ok_X9_about : okV yX9_about cX9_about 3 (some .int) 2 := ⟨⟨ki_X9, wAll_t (i := 665) rfl rfl, by decide +kernel, by decide +kernel, by decide +kernel⟩, wAll_t (i := 663) rfl rfl, wAll_t (i := 664) rfl rfl⟩
set_option maxRecDepth 20000 in
theorem ok_X9_sale : okV yX9_sale cX9_sale 3 (some .int) 2 := ⟨⟨ki_X9, wAll_t (i := 738) rfl rfl, by decide +kernel, by decide +kernel, by decide +kernel⟩, wAll_t (i := 736) rfl rfl, wAll_t (i := 737) rfl rfl⟩
set_option maxRecDepth 20000 in
theorem ok_X9_left : okV yX9_left cX9_left 2 (some .int) 1 := ⟨⟨ki_X9, wAll_t (i := 583) rfl rfl, by decide +kernel, by decide +kernel, by decide +kernel⟩, wAll_t (i := 581) rfl rfl, wAll_t (i := 582) rfl rfl⟩
set_option maxRecDepth 20000 in
theorem ok_X9_wanted : okV yX9_wanted cX9_wanted 4 (some .int) 3 := ⟨⟨ki_X9, wAll_t (i := 587) rfl rfl, by decide +kernel, by decide +kernel, by decide +kernel⟩, wAll_t (i := 585) rfl rfl, wAll_t (i := 586) rfl rfl⟩
set_option maxRecDepth 20000 in
theorem ok_X9_pool : okV yX9_pool cX9_pool 2 (some .int) 1 := ⟨⟨ki_X9, wAll_t (i := 591) rfl rfl, by decide +kernel, by decide +kernel, by decide +kernel⟩, wAll_t (i := 589) rfl rfl, wAll_t (i := 590) rfl rfl⟩
set_option maxRecDepth 20000 in
theorem ok_X9_pay : okV yX9_pay cX9_pay 3 (some .int) 2 := ⟨⟨ki_X9, wAll_t (i := 608) rfl rfl, by decide +kernel, by decide +kernel, by decide +kernel⟩, wAll_t (i := 606) rfl rfl, wAll_t (i := 607) rfl rfl⟩
set_option maxRecDepth 20000 in
theorem ok_X9_worth : okV yX9_worth cX9_worth 4 (some .long) 3 := ⟨⟨ki_X9, wAll_t (i := 748) rfl rfl, by decide +kernel, by decide +kernel, by decide +kernel⟩, wAll_t (i := 746) rfl rfl, wAll_t (i := 747) rfl rfl⟩
set_option maxRecDepth 20000 in
theorem ok_X9_wire : okV yX9_wire cX9_wire 12 (some .int) 4 := ⟨⟨ki_X9, wAll_t (i := 625) rfl rfl, by decide +kernel, by decide +kernel, by decide +kernel⟩, wAll_t (i := 623) rfl rfl, wAll_t (i := 624) rfl rfl⟩
set_option maxRecDepth 20000 in
theorem ok_X9_cars : okV yX9_cars cX9_cars 4 (some .int) 1 := ⟨⟨ki_X9, wAll_t (i := 635) rfl rfl, by decide +kernel, by decide +kernel, by decide +kernel⟩, wAll_t (i := 633) rfl rfl, wAll_t (i := 634) rfl rfl⟩
set_option maxRecDepth 20000 in
theorem ok_X9_sent : okV yX9_sent cX9_sent 2 (some .int) 1 := ⟨⟨ki_X9, wAll_t (i := 653) rfl rfl, by decide +kernel, by decide +kernel, by decide +kernel⟩, wAll_t (i := 651) rfl rfl, wAll_t (i := 652) rfl rfl⟩
set_option maxRecDepth 20000 in
theorem ok_X9_count : okV yX9_count cX9_count 2 (some .int) 1 := ⟨⟨ki_X9, wAll_t (i := 657) rfl rfl, by decide +kernel, by decide +kernel, by decide +kernel⟩, wAll_t (i := 655) rfl rfl, wAll_t (i := 656) rfl rfl⟩
set_option maxRecDepth 20000 in
theorem ok_X9_isBelow : okS yX9_isBelow cX9_isBelow 2 (some .boolean) 2 := ⟨⟨ki_X9, wAll_t (i := 387) rfl rfl, by decide +kernel, by decide +kernel, by decide +kernel⟩, wAll_t (i := 386) rfl rfl⟩
set_option maxRecDepth 20000 in
theorem ok_X9_isWantPlace : okS yX9_isWantPlace cX9_isWantPlace 3 (some .boolean) 3 := ⟨⟨ki_X9, wAll_t (i := 520) rfl rfl, by decide +kernel, by decide +kernel, by decide +kernel⟩, wAll_t (i := 519) rfl rfl⟩
set_option maxRecDepth 20000 in
theorem ok_X9_offerRound : okV yX9_offerRound cX9_offerRound 6 (some .boolean) 1 := ⟨⟨ki_X9, wAll_t (i := 531) rfl rfl, by decide +kernel, by decide +kernel, by decide +kernel⟩, wAll_t (i := 530) rfl rfl, wAll_s (i := 12) rfl rfl⟩
set_option maxRecDepth 20000 in
theorem ok_X9_offerLot : okV yX9_offerLot cX9_offerLot 9 none 1 := ⟨⟨ki_X9, wAll_t (i := 545) rfl rfl, by decide +kernel, by decide +kernel, by decide +kernel⟩, wAll_t (i := 544) rfl rfl, wAll_s (i := 13) rfl rfl⟩
set_option maxRecDepth 20000 in
theorem ok_X9_sell : okV yX9_sell cX9_sell 7 none 3 := ⟨⟨ki_X9, wAll_t (i := 555) rfl rfl, by decide +kernel, by decide +kernel, by decide +kernel⟩, wAll_t (i := 554) rfl rfl, wAll_s (i := 14) rfl rfl⟩
set_option maxRecDepth 20000 in
theorem ok_X9_isWired : okV yX9_isWired cX9_isWired 6 (some .boolean) 4 := ⟨⟨ki_X9, wAll_t (i := 629) rfl rfl, by decide +kernel, by decide +kernel, by decide +kernel⟩, wAll_t (i := 628) rfl rfl, wAll_s (i := 17) rfl rfl⟩
set_option maxRecDepth 20000 in
theorem ok_X10_init : okI yX10_init cX10_init 1 0 := ⟨⟨ki_X10, wAll_t (i := 775) rfl rfl, by decide +kernel, by decide +kernel, by decide +kernel⟩, wAll_t (i := 774) rfl rfl, rfl⟩
set_option maxRecDepth 20000 in
theorem ok_X10_thrown : okV yX10_thrown cX10_thrown 1 (some .int) 0 := ⟨⟨ki_X10, wAll_t (i := 910) rfl rfl, by decide +kernel, by decide +kernel, by decide +kernel⟩, wAll_t (i := 908) rfl rfl, wAll_t (i := 909) rfl rfl⟩
set_option maxRecDepth 20000 in
theorem ok_X10_throwsIf : okV yX10_throwsIf cX10_throwsIf 2 (some .boolean) 1 := ⟨⟨ki_X10, wAll_t (i := 1021) rfl rfl, by decide +kernel, by decide +kernel, by decide +kernel⟩, wAll_t (i := 1020) rfl rfl, wAll_s (i := 33) rfl rfl⟩
set_option maxRecDepth 20000 in
theorem ok_X10_feed : okV yX10_feed cX10_feed 6 (some .int) 5 := ⟨⟨ki_X10, wAll_t (i := 914) rfl rfl, by decide +kernel, by decide +kernel, by decide +kernel⟩, wAll_t (i := 912) rfl rfl, wAll_t (i := 913) rfl rfl⟩
set_option maxRecDepth 20000 in
theorem ok_X10_four : okV yX10_four cX10_four 3 none 1 := ⟨⟨ki_X10, wAll_t (i := 918) rfl rfl, by decide +kernel, by decide +kernel, by decide +kernel⟩, wAll_t (i := 917) rfl rfl, wAll_s (i := 22) rfl rfl⟩
set_option maxRecDepth 20000 in
theorem ok_X10_end : okV yX10_end cX10_end 2 (some .boolean) 1 := ⟨⟨ki_X10, wAll_t (i := 922) rfl rfl, by decide +kernel, by decide +kernel, by decide +kernel⟩, wAll_t (i := 920) rfl rfl, wAll_t (i := 921) rfl rfl⟩
set_option maxRecDepth 20000 in
theorem ok_X10_taken : okV yX10_taken cX10_taken 1 none 0 := ⟨⟨ki_X10, wAll_t (i := 930) rfl rfl, by decide +kernel, by decide +kernel, by decide +kernel⟩, wAll_t (i := 929) rfl rfl, wAll_s (i := 23) rfl rfl⟩
set_option maxRecDepth 20000 in
theorem ok_X10_peek : okV yX10_peek cX10_peek 1 (some .int) 0 := ⟨⟨ki_X10, wAll_t (i := 938) rfl rfl, by decide +kernel, by decide +kernel, by decide +kernel⟩, wAll_t (i := 937) rfl rfl, wAll_s (i := 25) rfl rfl⟩
set_option maxRecDepth 20000 in
theorem ok_X10_isSmall : okS yX10_isSmall cX10_isSmall 1 (some .boolean) 1 := ⟨⟨ki_X10, wAll_t (i := 941) rfl rfl, by decide +kernel, by decide +kernel, by decide +kernel⟩, wAll_t (i := 940) rfl rfl⟩
set_option maxRecDepth 20000 in
theorem ok_X10_isDigit : okS yX10_isDigit cX10_isDigit 1 (some .boolean) 1 := ⟨⟨ki_X10, wAll_t (i := 944) rfl rfl, by decide +kernel, by decide +kernel, by decide +kernel⟩, wAll_t (i := 943) rfl rfl⟩
set_option maxRecDepth 20000 in
theorem ok_X10_next0 : okV yX10_next0 cX10_next0 5 none 0 := ⟨⟨ki_X10, wAll_t (i := 934) rfl rfl, by decide +kernel, by decide +kernel, by decide +kernel⟩, wAll_t (i := 933) rfl rfl, wAll_s (i := 24) rfl rfl⟩
set_option maxRecDepth 20000 in
theorem ok_X10_wrong : okV yX10_wrong cX10_wrong 3 (some .boolean) 2 := ⟨⟨ki_X10, wAll_t (i := 964) rfl rfl, by decide +kernel, by decide +kernel, by decide +kernel⟩, wAll_t (i := 963) rfl rfl, wAll_s (i := 29) rfl rfl⟩
set_option maxRecDepth 20000 in
theorem ok_X10_cant : okV yX10_cant cX10_cant 1 (some .boolean) 0 := ⟨⟨ki_X10, wAll_t (i := 960) rfl rfl, by decide +kernel, by decide +kernel, by decide +kernel⟩, wAll_t (i := 959) rfl rfl, wAll_s (i := 28) rfl rfl⟩
set_option maxRecDepth 20000 in
theorem ok_X10_isWord : okV yX10_isWord cX10_isWord 3 (some .boolean) 1 := ⟨⟨ki_X10, wAll_t (i := 953) rfl rfl, by decide +kernel, by decide +kernel, by decide +kernel⟩, wAll_t (i := 952) rfl rfl, wAll_s (i := 27) rfl rfl⟩
set_option maxRecDepth 20000 in
theorem ok_X10_rules : okV yX10_rules cX10_rules 3 (some .int) 0 := ⟨⟨ki_X10, wAll_t (i := 926) rfl rfl, by decide +kernel, by decide +kernel, by decide +kernel⟩, wAll_t (i := 924) rfl rfl, wAll_t (i := 925) rfl rfl⟩
set_option maxRecDepth 20000 in
theorem ok_X10_rule : okV yX10_rule cX10_rule 4 (some .boolean) 0 := ⟨⟨ki_X10, wAll_t (i := 948) rfl rfl, by decide +kernel, by decide +kernel, by decide +kernel⟩, wAll_t (i := 947) rfl rfl, wAll_s (i := 26) rfl rfl⟩
set_option maxRecDepth 20000 in
theorem ok_X10_fault : okV yX10_fault cX10_fault 1 (some .int) 0 := ⟨⟨ki_X10, wAll_t (i := 970) rfl rfl, by decide +kernel, by decide +kernel, by decide +kernel⟩, wAll_t (i := 968) rfl rfl, wAll_t (i := 969) rfl rfl⟩
set_option maxRecDepth 20000 in
theorem ok_X10_isIn : okS yX10_isIn cX10_isIn 3 (some .boolean) 3 := ⟨⟨ki_X10, wAll_t (i := 977) rfl rfl, by decide +kernel, by decide +kernel, by decide +kernel⟩, wAll_t (i := 976) rfl rfl⟩
set_option maxRecDepth 20000 in
theorem ok_X10_lot : okV yX10_lot cX10_lot 6 (some .int) 5 := ⟨⟨ki_X10, wAll_t (i := 974) rfl rfl, by decide +kernel, by decide +kernel, by decide +kernel⟩, wAll_t (i := 972) rfl rfl, wAll_t (i := 973) rfl rfl⟩
set_option maxRecDepth 20000 in
theorem ok_X10_money : okV yX10_money cX10_money 3 (some .boolean) 2 := ⟨⟨ki_X10, wAll_t (i := 981) rfl rfl, by decide +kernel, by decide +kernel, by decide +kernel⟩, wAll_t (i := 979) rfl rfl, wAll_t (i := 980) rfl rfl⟩
set_option maxRecDepth 20000 in
theorem ok_X10_place : okS yX10_place cX10_place 3 (some .int) 3 := ⟨⟨ki_X10, wAll_t (i := 989) rfl rfl, by decide +kernel, by decide +kernel, by decide +kernel⟩, wAll_t (i := 988) rfl rfl⟩
set_option maxRecDepth 20000 in
theorem ok_X10_want : okV yX10_want cX10_want 6 (some .boolean) 5 := ⟨⟨ki_X10, wAll_t (i := 986) rfl rfl, by decide +kernel, by decide +kernel, by decide +kernel⟩, wAll_t (i := 984) rfl rfl, wAll_t (i := 985) rfl rfl⟩
set_option maxRecDepth 20000 in
theorem ok_X10_auction : okV yX10_auction cX10_auction 9 (some .int) 1 := ⟨⟨ki_X10, wAll_t (i := 993) rfl rfl, by decide +kernel, by decide +kernel, by decide +kernel⟩, wAll_t (i := 991) rfl rfl, wAll_t (i := 992) rfl rfl⟩
set_option maxRecDepth 20000 in
theorem ok_X10_bids : okV yX10_bids cX10_bids 4 (some .boolean) 2 := ⟨⟨ki_X10, wAll_t (i := 1001) rfl rfl, by decide +kernel, by decide +kernel, by decide +kernel⟩, wAll_t (i := 1000) rfl rfl, wAll_s (i := 31) rfl rfl⟩
set_option maxRecDepth 20000 in
theorem ok_X10_offer : okV yX10_offer cX10_offer 6 (some .boolean) 1 := ⟨⟨ki_X10, wAll_t (i := 997) rfl rfl, by decide +kernel, by decide +kernel, by decide +kernel⟩, wAll_t (i := 996) rfl rfl, wAll_s (i := 30) rfl rfl⟩
set_option maxRecDepth 20000 in
theorem ok_X10_isSale : okV yX10_isSale cX10_isSale 2 (some .boolean) 1 := ⟨⟨ki_X10, wAll_t (i := 1009) rfl rfl, by decide +kernel, by decide +kernel, by decide +kernel⟩, wAll_t (i := 1008) rfl rfl, wAll_s (i := 32) rfl rfl⟩
set_option maxRecDepth 20000 in
theorem ok_X10_reject : okV yX10_reject cX10_reject 2 (some .boolean) 1 := ⟨⟨ki_X10, wAll_t (i := 1005) rfl rfl, by decide +kernel, by decide +kernel, by decide +kernel⟩, wAll_t (i := 1003) rfl rfl, wAll_t (i := 1004) rfl rfl⟩
set_option maxRecDepth 20000 in
theorem ok_X10_next : okV yX10_next cX10_next 2 (some .int) 0 := ⟨⟨ki_X10, wAll_t (i := 1013) rfl rfl, by decide +kernel, by decide +kernel, by decide +kernel⟩, wAll_t (i := 1011) rfl rfl, wAll_t (i := 1012) rfl rfl⟩
set_option maxRecDepth 20000 in
theorem ok_X10_about : okV yX10_about cX10_about 3 (some .int) 2 := ⟨⟨ki_X10, wAll_t (i := 1017) rfl rfl, by decide +kernel, by decide +kernel, by decide +kernel⟩, wAll_t (i := 1015) rfl rfl, wAll_t (i := 1016) rfl rfl⟩
set_option maxRecDepth 20000 in
theorem ok_X10_nextOf : okV yX10_nextOf cX10_nextOf 3 (some .int) 1 := ⟨⟨ki_X10, wAll_t (i := 1033) rfl rfl, by decide +kernel, by decide +kernel, by decide +kernel⟩, wAll_t (i := 1032) rfl rfl, wAll_s (i := 35) rfl rfl⟩
set_option maxRecDepth 20000 in
theorem ok_X10_claimOf : okV yX10_claimOf cX10_claimOf 3 (some .int) 1 := ⟨⟨ki_X10, wAll_t (i := 1029) rfl rfl, by decide +kernel, by decide +kernel, by decide +kernel⟩, wAll_t (i := 1028) rfl rfl, wAll_s (i := 34) rfl rfl⟩
set_option maxRecDepth 20000 in
theorem ok_X10_sale : okV yX10_sale cX10_sale 3 (some .int) 2 := ⟨⟨ki_X10, wAll_t (i := 1025) rfl rfl, by decide +kernel, by decide +kernel, by decide +kernel⟩, wAll_t (i := 1023) rfl rfl, wAll_t (i := 1024) rfl rfl⟩
set_option maxRecDepth 20000 in
theorem ok_X10_left : okV yX10_left cX10_left 2 (some .int) 1 := ⟨⟨ki_X10, wAll_t (i := 1037) rfl rfl, by decide +kernel, by decide +kernel, by decide +kernel⟩, wAll_t (i := 1035) rfl rfl, wAll_t (i := 1036) rfl rfl⟩
set_option maxRecDepth 20000 in
theorem ok_X10_wanted : okV yX10_wanted cX10_wanted 4 (some .int) 3 := ⟨⟨ki_X10, wAll_t (i := 1041) rfl rfl, by decide +kernel, by decide +kernel, by decide +kernel⟩, wAll_t (i := 1039) rfl rfl, wAll_t (i := 1040) rfl rfl⟩
set_option maxRecDepth 20000 in
theorem ok_X10_counts : okV yX10_counts cX10_counts 3 (some .boolean) 2 := ⟨⟨ki_X10, wAll_t (i := 1053) rfl rfl, by decide +kernel, by decide +kernel, by decide +kernel⟩, wAll_t (i := 1052) rfl rfl, wAll_s (i := 37) rfl rfl⟩
set_option maxRecDepth 20000 in
theorem ok_X10_poolOf : okV yX10_poolOf cX10_poolOf 6 (some .long) 1 := ⟨⟨ki_X10, wAll_t (i := 1049) rfl rfl, by decide +kernel, by decide +kernel, by decide +kernel⟩, wAll_t (i := 1048) rfl rfl, wAll_s (i := 36) rfl rfl⟩
set_option maxRecDepth 20000 in
theorem ok_X10_pool : okV yX10_pool cX10_pool 2 (some .int) 1 := ⟨⟨ki_X10, wAll_t (i := 1045) rfl rfl, by decide +kernel, by decide +kernel, by decide +kernel⟩, wAll_t (i := 1043) rfl rfl, wAll_t (i := 1044) rfl rfl⟩
set_option maxRecDepth 20000 in
theorem ok_X10_pay : okV yX10_pay cX10_pay 11 (some .int) 2 := ⟨⟨ki_X10, wAll_t (i := 1057) rfl rfl, by decide +kernel, by decide +kernel, by decide +kernel⟩, wAll_t (i := 1055) rfl rfl, wAll_t (i := 1056) rfl rfl⟩
set_option maxRecDepth 20000 in
theorem ok_X10_common : okS yX10_common cX10_common 10 (some .long) 2 := ⟨⟨ki_X10, wAll_t (i := 1065) rfl rfl, by decide +kernel, by decide +kernel, by decide +kernel⟩, wAll_t (i := 1064) rfl rfl⟩
set_option maxRecDepth 20000 in
theorem ok_X10_worth : okV yX10_worth cX10_worth 22 (some .long) 3 := ⟨⟨ki_X10, wAll_t (i := 1062) rfl rfl, by decide +kernel, by decide +kernel, by decide +kernel⟩, wAll_t (i := 1060) rfl rfl, wAll_t (i := 1061) rfl rfl⟩
set_option maxRecDepth 20000 in
theorem ok_X10_wire : okV yX10_wire cX10_wire 10 (some .int) 4 := ⟨⟨ki_X10, wAll_t (i := 1069) rfl rfl, by decide +kernel, by decide +kernel, by decide +kernel⟩, wAll_t (i := 1067) rfl rfl, wAll_t (i := 1068) rfl rfl⟩
set_option maxRecDepth 20000 in
theorem ok_X10_cars : okV yX10_cars cX10_cars 7 (some .int) 1 := ⟨⟨ki_X10, wAll_t (i := 1073) rfl rfl, by decide +kernel, by decide +kernel, by decide +kernel⟩, wAll_t (i := 1071) rfl rfl, wAll_t (i := 1072) rfl rfl⟩
set_option maxRecDepth 20000 in
theorem ok_X10_sent : okV yX10_sent cX10_sent 2 (some .int) 1 := ⟨⟨ki_X10, wAll_t (i := 1077) rfl rfl, by decide +kernel, by decide +kernel, by decide +kernel⟩, wAll_t (i := 1075) rfl rfl, wAll_t (i := 1076) rfl rfl⟩
set_option maxRecDepth 20000 in
theorem ok_X10_count : okV yX10_count cX10_count 2 (some .int) 1 := ⟨⟨ki_X10, wAll_t (i := 1081) rfl rfl, by decide +kernel, by decide +kernel, by decide +kernel⟩, wAll_t (i := 1079) rfl rfl, wAll_t (i := 1080) rfl rfl⟩
end
section
/-! the two worlds: FruitHalls and all that it holds (xw), the reference (mw); a: the addresses, z: the numbers, g: the rows -/
abbrev sX : Type := (Nat → Int) × (Nat → Int → Int)
def xw (cy : Nat → ClassId) (a : Nat → Nat) (z : Nat → Int) (g : Nat → Int → Int) : va_W := [(a 0, .inr (9, [.ref (a 1), .ref (a 3), .ref (a 6), .ref (a 12), .ref (a 20), .ref (a 28), .ref (a 33), .ref (a 36), .ref (a 40), .ref (a 44), vI (z 0), vI (z 1)])), (a 1, .inr (8, [.ref (a 2), vI (z 2)])), (a 2, .inl (cy 0, 200, .inl (aI (g 2)))), (a 3, .inr (6, [.ref (a 4), .ref (a 5), vI (z 3), vI (z 4), vI (z 5)])), (a 4, .inl (cy 0, 4, .inl (aI (g 4)))), (a 5, .inl (cy 0, 4, .inl (aI (g 5)))), (a 6, .inr (5, [.ref (a 1), .ref (a 7), .ref (a 10), .ref (a 11), vI (z 6), vI (z 7), vI (z 8), vI (z 9), vI (z 10), vI (z 11), vI (z 12)])), (a 7, .inr (6, [.ref (a 8), .ref (a 9), vI (z 13), vI (z 14), vI (z 15)])), (a 8, .inl (cy 0, 4, .inl (aI (g 8)))), (a 9, .inl (cy 0, 4, .inl (aI (g 9)))), (a 10, .inl (cy 2, 4, .inl (aI (g 10)))), (a 11, .inl (cy 2, 4, .inl (aI (g 11)))), (a 12, .inr (2, [.ref (a 13), .ref (a 14), .ref (a 15), .ref (a 16), .ref (a 17), .ref (a 18), .ref (a 19), vI (z 16)])), (a 13, .inl (cy 0, 100, .inl (aI (g 13)))), (a 14, .inl (cy 0, 100, .inl (aI (g 14)))), (a 15, .inl (cy 0, 100, .inl (aI (g 15)))), (a 16, .inl (cy 0, 100, .inl (aI (g 16)))), (a 17, .inl (cy 0, 100, .inl (aI (g 17)))), (a 18, .inl (cy 2, 100, .inl (aI (g 18)))), (a 19, .inl (cy 0, 100, .inl (aI (g 19)))), (a 20, .inr (7, [.ref (a 21), .ref (a 22), .ref (a 23), .ref (a 24), .ref (a 25), .ref (a 26), .ref (a 27), vI (z 17)])), (a 21, .inl (cy 0, 400, .inl (aI (g 21)))), (a 22, .inl (cy 0, 400, .inl (aI (g 22)))), (a 23, .inl (cy 0, 400, .inl (aI (g 23)))), (a 24, .inl (cy 0, 400, .inl (aI (g 24)))), (a 25, .inl (cy 0, 400, .inl (aI (g 25)))), (a 26, .inl (cy 0, 400, .inl (aI (g 26)))), (a 27, .inl (cy 0, 400, .inl (aI (g 27)))), (a 28, .inr (0, [.ref (a 29), .ref (a 30), .ref (a 31), .ref (a 32)])), (a 29, .inl (cy 0, 10, .inl (aI (g 29)))), (a 30, .inl (cy 0, 10, .inl (aI (g 30)))), (a 31, .inl (cy 0, 160, .inl (aI (g 31)))), (a 32, .inl (cy 0, 160, .inl (aI (g 32)))), (a 33, .inr (3, [.ref (a 12), .ref (a 20), .ref (a 3), .ref (a 34), .ref (a 35)])), (a 34, .inl (cy 1, 8, .inr (.inl (aL (g 34))))), (a 35, .inl (cy 1, 8, .inr (.inl (aL (g 35))))), (a 36, .inr (4, [.ref (a 12), .ref (a 20), .ref (a 37), .ref (a 38), .ref (a 39), vL (z 18), vL (z 19)])), (a 37, .inl (cy 1, 4, .inr (.inl (aL (g 37))))), (a 38, .inl (cy 1, 4, .inr (.inl (aL (g 38))))), (a 39, .inl (cy 1, 4, .inr (.inl (aL (g 39))))), (a 40, .inr (1, [.ref (a 41), .ref (a 42), .ref (a 43), vI (z 20)])), (a 41, .inl (cy 0, 4, .inl (aI (g 41)))), (a 42, .inl (cy 0, 4, .inl (aI (g 42)))), (a 43, .inl (cy 0, 4, .inl (aI (g 43)))), (a 44, .inl (cy 0, 8, .inl (aI (g 44))))]
theorem xw_z0 (cy : Nat → ClassId) (a : Nat → Nat) (z : Nat → Int) (g : Nat → Int → Int) (v : Int) : (xw cy a z g).set 0 (a 0, .inr (9, [.ref (a 1), .ref (a 3), .ref (a 6), .ref (a 12), .ref (a 20), .ref (a 28), .ref (a 33), .ref (a 36), .ref (a 40), .ref (a 44), vI v, vI (z 1)])) = xw cy a (uZ z 0 v) g := rfl
theorem xw_z1 (cy : Nat → ClassId) (a : Nat → Nat) (z : Nat → Int) (g : Nat → Int → Int) (v : Int) : (xw cy a z g).set 0 (a 0, .inr (9, [.ref (a 1), .ref (a 3), .ref (a 6), .ref (a 12), .ref (a 20), .ref (a 28), .ref (a 33), .ref (a 36), .ref (a 40), .ref (a 44), vI (z 0), vI v])) = xw cy a (uZ z 1 v) g := rfl
theorem xw_z2 (cy : Nat → ClassId) (a : Nat → Nat) (z : Nat → Int) (g : Nat → Int → Int) (v : Int) : (xw cy a z g).set 1 (a 1, .inr (8, [.ref (a 2), vI v])) = xw cy a (uZ z 2 v) g := rfl
theorem xw_z3 (cy : Nat → ClassId) (a : Nat → Nat) (z : Nat → Int) (g : Nat → Int → Int) (v : Int) : (xw cy a z g).set 3 (a 3, .inr (6, [.ref (a 4), .ref (a 5), vI v, vI (z 4), vI (z 5)])) = xw cy a (uZ z 3 v) g := rfl
theorem xw_z4 (cy : Nat → ClassId) (a : Nat → Nat) (z : Nat → Int) (g : Nat → Int → Int) (v : Int) : (xw cy a z g).set 3 (a 3, .inr (6, [.ref (a 4), .ref (a 5), vI (z 3), vI v, vI (z 5)])) = xw cy a (uZ z 4 v) g := rfl
theorem xw_z5 (cy : Nat → ClassId) (a : Nat → Nat) (z : Nat → Int) (g : Nat → Int → Int) (v : Int) : (xw cy a z g).set 3 (a 3, .inr (6, [.ref (a 4), .ref (a 5), vI (z 3), vI (z 4), vI v])) = xw cy a (uZ z 5 v) g := rfl
theorem xw_z6 (cy : Nat → ClassId) (a : Nat → Nat) (z : Nat → Int) (g : Nat → Int → Int) (v : Int) : (xw cy a z g).set 6 (a 6, .inr (5, [.ref (a 1), .ref (a 7), .ref (a 10), .ref (a 11), vI v, vI (z 7), vI (z 8), vI (z 9), vI (z 10), vI (z 11), vI (z 12)])) = xw cy a (uZ z 6 v) g := rfl
theorem xw_z7 (cy : Nat → ClassId) (a : Nat → Nat) (z : Nat → Int) (g : Nat → Int → Int) (v : Int) : (xw cy a z g).set 6 (a 6, .inr (5, [.ref (a 1), .ref (a 7), .ref (a 10), .ref (a 11), vI (z 6), vI v, vI (z 8), vI (z 9), vI (z 10), vI (z 11), vI (z 12)])) = xw cy a (uZ z 7 v) g := rfl
theorem xw_z8 (cy : Nat → ClassId) (a : Nat → Nat) (z : Nat → Int) (g : Nat → Int → Int) (v : Int) : (xw cy a z g).set 6 (a 6, .inr (5, [.ref (a 1), .ref (a 7), .ref (a 10), .ref (a 11), vI (z 6), vI (z 7), vI v, vI (z 9), vI (z 10), vI (z 11), vI (z 12)])) = xw cy a (uZ z 8 v) g := rfl
theorem xw_z9 (cy : Nat → ClassId) (a : Nat → Nat) (z : Nat → Int) (g : Nat → Int → Int) (v : Int) : (xw cy a z g).set 6 (a 6, .inr (5, [.ref (a 1), .ref (a 7), .ref (a 10), .ref (a 11), vI (z 6), vI (z 7), vI (z 8), vI v, vI (z 10), vI (z 11), vI (z 12)])) = xw cy a (uZ z 9 v) g := rfl
theorem xw_z10 (cy : Nat → ClassId) (a : Nat → Nat) (z : Nat → Int) (g : Nat → Int → Int) (v : Int) : (xw cy a z g).set 6 (a 6, .inr (5, [.ref (a 1), .ref (a 7), .ref (a 10), .ref (a 11), vI (z 6), vI (z 7), vI (z 8), vI (z 9), vI v, vI (z 11), vI (z 12)])) = xw cy a (uZ z 10 v) g := rfl
theorem xw_z11 (cy : Nat → ClassId) (a : Nat → Nat) (z : Nat → Int) (g : Nat → Int → Int) (v : Int) : (xw cy a z g).set 6 (a 6, .inr (5, [.ref (a 1), .ref (a 7), .ref (a 10), .ref (a 11), vI (z 6), vI (z 7), vI (z 8), vI (z 9), vI (z 10), vI v, vI (z 12)])) = xw cy a (uZ z 11 v) g := rfl
theorem xw_z12 (cy : Nat → ClassId) (a : Nat → Nat) (z : Nat → Int) (g : Nat → Int → Int) (v : Int) : (xw cy a z g).set 6 (a 6, .inr (5, [.ref (a 1), .ref (a 7), .ref (a 10), .ref (a 11), vI (z 6), vI (z 7), vI (z 8), vI (z 9), vI (z 10), vI (z 11), vI v])) = xw cy a (uZ z 12 v) g := rfl
theorem xw_z13 (cy : Nat → ClassId) (a : Nat → Nat) (z : Nat → Int) (g : Nat → Int → Int) (v : Int) : (xw cy a z g).set 7 (a 7, .inr (6, [.ref (a 8), .ref (a 9), vI v, vI (z 14), vI (z 15)])) = xw cy a (uZ z 13 v) g := rfl
theorem xw_z14 (cy : Nat → ClassId) (a : Nat → Nat) (z : Nat → Int) (g : Nat → Int → Int) (v : Int) : (xw cy a z g).set 7 (a 7, .inr (6, [.ref (a 8), .ref (a 9), vI (z 13), vI v, vI (z 15)])) = xw cy a (uZ z 14 v) g := rfl
theorem xw_z15 (cy : Nat → ClassId) (a : Nat → Nat) (z : Nat → Int) (g : Nat → Int → Int) (v : Int) : (xw cy a z g).set 7 (a 7, .inr (6, [.ref (a 8), .ref (a 9), vI (z 13), vI (z 14), vI v])) = xw cy a (uZ z 15 v) g := rfl
theorem xw_z16 (cy : Nat → ClassId) (a : Nat → Nat) (z : Nat → Int) (g : Nat → Int → Int) (v : Int) : (xw cy a z g).set 12 (a 12, .inr (2, [.ref (a 13), .ref (a 14), .ref (a 15), .ref (a 16), .ref (a 17), .ref (a 18), .ref (a 19), vI v])) = xw cy a (uZ z 16 v) g := rfl
theorem xw_z17 (cy : Nat → ClassId) (a : Nat → Nat) (z : Nat → Int) (g : Nat → Int → Int) (v : Int) : (xw cy a z g).set 20 (a 20, .inr (7, [.ref (a 21), .ref (a 22), .ref (a 23), .ref (a 24), .ref (a 25), .ref (a 26), .ref (a 27), vI v])) = xw cy a (uZ z 17 v) g := rfl
theorem xw_z18 (cy : Nat → ClassId) (a : Nat → Nat) (z : Nat → Int) (g : Nat → Int → Int) (v : Int) : (xw cy a z g).set 36 (a 36, .inr (4, [.ref (a 12), .ref (a 20), .ref (a 37), .ref (a 38), .ref (a 39), vL v, vL (z 19)])) = xw cy a (uZ z 18 v) g := rfl
theorem xw_z19 (cy : Nat → ClassId) (a : Nat → Nat) (z : Nat → Int) (g : Nat → Int → Int) (v : Int) : (xw cy a z g).set 36 (a 36, .inr (4, [.ref (a 12), .ref (a 20), .ref (a 37), .ref (a 38), .ref (a 39), vL (z 18), vL v])) = xw cy a (uZ z 19 v) g := rfl
theorem xw_z20 (cy : Nat → ClassId) (a : Nat → Nat) (z : Nat → Int) (g : Nat → Int → Int) (v : Int) : (xw cy a z g).set 40 (a 40, .inr (1, [.ref (a 41), .ref (a 42), .ref (a 43), vI v])) = xw cy a (uZ z 20 v) g := rfl
theorem xw_g2 (cy : Nat → ClassId) (a : Nat → Nat) (z : Nat → Int) (g : Nat → Int → Int) (f : Int → Int) : (xw cy a z g).set 2 (a 2, .inl (cy 0, 200, .inl (aI f))) = xw cy a z (uZ g 2 f) := rfl
theorem xw_g4 (cy : Nat → ClassId) (a : Nat → Nat) (z : Nat → Int) (g : Nat → Int → Int) (f : Int → Int) : (xw cy a z g).set 4 (a 4, .inl (cy 0, 4, .inl (aI f))) = xw cy a z (uZ g 4 f) := rfl
theorem xw_g5 (cy : Nat → ClassId) (a : Nat → Nat) (z : Nat → Int) (g : Nat → Int → Int) (f : Int → Int) : (xw cy a z g).set 5 (a 5, .inl (cy 0, 4, .inl (aI f))) = xw cy a z (uZ g 5 f) := rfl
theorem xw_g8 (cy : Nat → ClassId) (a : Nat → Nat) (z : Nat → Int) (g : Nat → Int → Int) (f : Int → Int) : (xw cy a z g).set 8 (a 8, .inl (cy 0, 4, .inl (aI f))) = xw cy a z (uZ g 8 f) := rfl
theorem xw_g9 (cy : Nat → ClassId) (a : Nat → Nat) (z : Nat → Int) (g : Nat → Int → Int) (f : Int → Int) : (xw cy a z g).set 9 (a 9, .inl (cy 0, 4, .inl (aI f))) = xw cy a z (uZ g 9 f) := rfl
theorem xw_g10 (cy : Nat → ClassId) (a : Nat → Nat) (z : Nat → Int) (g : Nat → Int → Int) (f : Int → Int) : (xw cy a z g).set 10 (a 10, .inl (cy 2, 4, .inl (aI f))) = xw cy a z (uZ g 10 f) := rfl
theorem xw_g11 (cy : Nat → ClassId) (a : Nat → Nat) (z : Nat → Int) (g : Nat → Int → Int) (f : Int → Int) : (xw cy a z g).set 11 (a 11, .inl (cy 2, 4, .inl (aI f))) = xw cy a z (uZ g 11 f) := rfl
theorem xw_g13 (cy : Nat → ClassId) (a : Nat → Nat) (z : Nat → Int) (g : Nat → Int → Int) (f : Int → Int) : (xw cy a z g).set 13 (a 13, .inl (cy 0, 100, .inl (aI f))) = xw cy a z (uZ g 13 f) := rfl
theorem xw_g14 (cy : Nat → ClassId) (a : Nat → Nat) (z : Nat → Int) (g : Nat → Int → Int) (f : Int → Int) : (xw cy a z g).set 14 (a 14, .inl (cy 0, 100, .inl (aI f))) = xw cy a z (uZ g 14 f) := rfl
theorem xw_g15 (cy : Nat → ClassId) (a : Nat → Nat) (z : Nat → Int) (g : Nat → Int → Int) (f : Int → Int) : (xw cy a z g).set 15 (a 15, .inl (cy 0, 100, .inl (aI f))) = xw cy a z (uZ g 15 f) := rfl
theorem xw_g16 (cy : Nat → ClassId) (a : Nat → Nat) (z : Nat → Int) (g : Nat → Int → Int) (f : Int → Int) : (xw cy a z g).set 16 (a 16, .inl (cy 0, 100, .inl (aI f))) = xw cy a z (uZ g 16 f) := rfl
theorem xw_g17 (cy : Nat → ClassId) (a : Nat → Nat) (z : Nat → Int) (g : Nat → Int → Int) (f : Int → Int) : (xw cy a z g).set 17 (a 17, .inl (cy 0, 100, .inl (aI f))) = xw cy a z (uZ g 17 f) := rfl
theorem xw_g18 (cy : Nat → ClassId) (a : Nat → Nat) (z : Nat → Int) (g : Nat → Int → Int) (f : Int → Int) : (xw cy a z g).set 18 (a 18, .inl (cy 2, 100, .inl (aI f))) = xw cy a z (uZ g 18 f) := rfl
theorem xw_g19 (cy : Nat → ClassId) (a : Nat → Nat) (z : Nat → Int) (g : Nat → Int → Int) (f : Int → Int) : (xw cy a z g).set 19 (a 19, .inl (cy 0, 100, .inl (aI f))) = xw cy a z (uZ g 19 f) := rfl
theorem xw_g21 (cy : Nat → ClassId) (a : Nat → Nat) (z : Nat → Int) (g : Nat → Int → Int) (f : Int → Int) : (xw cy a z g).set 21 (a 21, .inl (cy 0, 400, .inl (aI f))) = xw cy a z (uZ g 21 f) := rfl
theorem xw_g22 (cy : Nat → ClassId) (a : Nat → Nat) (z : Nat → Int) (g : Nat → Int → Int) (f : Int → Int) : (xw cy a z g).set 22 (a 22, .inl (cy 0, 400, .inl (aI f))) = xw cy a z (uZ g 22 f) := rfl
theorem xw_g23 (cy : Nat → ClassId) (a : Nat → Nat) (z : Nat → Int) (g : Nat → Int → Int) (f : Int → Int) : (xw cy a z g).set 23 (a 23, .inl (cy 0, 400, .inl (aI f))) = xw cy a z (uZ g 23 f) := rfl
theorem xw_g24 (cy : Nat → ClassId) (a : Nat → Nat) (z : Nat → Int) (g : Nat → Int → Int) (f : Int → Int) : (xw cy a z g).set 24 (a 24, .inl (cy 0, 400, .inl (aI f))) = xw cy a z (uZ g 24 f) := rfl
theorem xw_g25 (cy : Nat → ClassId) (a : Nat → Nat) (z : Nat → Int) (g : Nat → Int → Int) (f : Int → Int) : (xw cy a z g).set 25 (a 25, .inl (cy 0, 400, .inl (aI f))) = xw cy a z (uZ g 25 f) := rfl
theorem xw_g26 (cy : Nat → ClassId) (a : Nat → Nat) (z : Nat → Int) (g : Nat → Int → Int) (f : Int → Int) : (xw cy a z g).set 26 (a 26, .inl (cy 0, 400, .inl (aI f))) = xw cy a z (uZ g 26 f) := rfl
theorem xw_g27 (cy : Nat → ClassId) (a : Nat → Nat) (z : Nat → Int) (g : Nat → Int → Int) (f : Int → Int) : (xw cy a z g).set 27 (a 27, .inl (cy 0, 400, .inl (aI f))) = xw cy a z (uZ g 27 f) := rfl
theorem xw_g29 (cy : Nat → ClassId) (a : Nat → Nat) (z : Nat → Int) (g : Nat → Int → Int) (f : Int → Int) : (xw cy a z g).set 29 (a 29, .inl (cy 0, 10, .inl (aI f))) = xw cy a z (uZ g 29 f) := rfl
theorem xw_g30 (cy : Nat → ClassId) (a : Nat → Nat) (z : Nat → Int) (g : Nat → Int → Int) (f : Int → Int) : (xw cy a z g).set 30 (a 30, .inl (cy 0, 10, .inl (aI f))) = xw cy a z (uZ g 30 f) := rfl
theorem xw_g31 (cy : Nat → ClassId) (a : Nat → Nat) (z : Nat → Int) (g : Nat → Int → Int) (f : Int → Int) : (xw cy a z g).set 31 (a 31, .inl (cy 0, 160, .inl (aI f))) = xw cy a z (uZ g 31 f) := rfl
theorem xw_g32 (cy : Nat → ClassId) (a : Nat → Nat) (z : Nat → Int) (g : Nat → Int → Int) (f : Int → Int) : (xw cy a z g).set 32 (a 32, .inl (cy 0, 160, .inl (aI f))) = xw cy a z (uZ g 32 f) := rfl
theorem xw_g34 (cy : Nat → ClassId) (a : Nat → Nat) (z : Nat → Int) (g : Nat → Int → Int) (f : Int → Int) : (xw cy a z g).set 34 (a 34, .inl (cy 1, 8, .inr (.inl (aL f)))) = xw cy a z (uZ g 34 f) := rfl
theorem xw_g35 (cy : Nat → ClassId) (a : Nat → Nat) (z : Nat → Int) (g : Nat → Int → Int) (f : Int → Int) : (xw cy a z g).set 35 (a 35, .inl (cy 1, 8, .inr (.inl (aL f)))) = xw cy a z (uZ g 35 f) := rfl
theorem xw_g37 (cy : Nat → ClassId) (a : Nat → Nat) (z : Nat → Int) (g : Nat → Int → Int) (f : Int → Int) : (xw cy a z g).set 37 (a 37, .inl (cy 1, 4, .inr (.inl (aL f)))) = xw cy a z (uZ g 37 f) := rfl
theorem xw_g38 (cy : Nat → ClassId) (a : Nat → Nat) (z : Nat → Int) (g : Nat → Int → Int) (f : Int → Int) : (xw cy a z g).set 38 (a 38, .inl (cy 1, 4, .inr (.inl (aL f)))) = xw cy a z (uZ g 38 f) := rfl
theorem xw_g39 (cy : Nat → ClassId) (a : Nat → Nat) (z : Nat → Int) (g : Nat → Int → Int) (f : Int → Int) : (xw cy a z g).set 39 (a 39, .inl (cy 1, 4, .inr (.inl (aL f)))) = xw cy a z (uZ g 39 f) := rfl
theorem xw_g41 (cy : Nat → ClassId) (a : Nat → Nat) (z : Nat → Int) (g : Nat → Int → Int) (f : Int → Int) : (xw cy a z g).set 41 (a 41, .inl (cy 0, 4, .inl (aI f))) = xw cy a z (uZ g 41 f) := rfl
theorem xw_g42 (cy : Nat → ClassId) (a : Nat → Nat) (z : Nat → Int) (g : Nat → Int → Int) (f : Int → Int) : (xw cy a z g).set 42 (a 42, .inl (cy 0, 4, .inl (aI f))) = xw cy a z (uZ g 42 f) := rfl
theorem xw_g43 (cy : Nat → ClassId) (a : Nat → Nat) (z : Nat → Int) (g : Nat → Int → Int) (f : Int → Int) : (xw cy a z g).set 43 (a 43, .inl (cy 0, 4, .inl (aI f))) = xw cy a z (uZ g 43 f) := rfl
theorem xw_g44 (cy : Nat → ClassId) (a : Nat → Nat) (z : Nat → Int) (g : Nat → Int → Int) (f : Int → Int) : (xw cy a z g).set 44 (a 44, .inl (cy 0, 8, .inl (aI f))) = xw cy a z (uZ g 44 f) := rfl
def mw (cy : Nat → ClassId) (a : Nat → Nat) (z : Nat → Int) (g : Nat → Int → Int) : va_W := [(a 0, .inr (10, [vI (z 0), .ref (a 1), vI (z 1), vI (z 2), vI (z 3), .ref (a 2), .ref (a 3), .ref (a 4), vI (z 4), vI (z 5), vI (z 6), vI (z 7), vI (z 8), vI (z 9), vL (z 10), .ref (a 5), .ref (a 6), .ref (a 7), .ref (a 8), .ref (a 9), .ref (a 10), .ref (a 11), vI (z 11), vI (z 12), .ref (a 12), .ref (a 13), .ref (a 14), .ref (a 15), .ref (a 16), .ref (a 17), .ref (a 18), .ref (a 19), .ref (a 20), .ref (a 21), vI (z 13), .ref (a 22), .ref (a 23), .ref (a 24), .ref (a 25), .ref (a 26), .ref (a 27), .ref (a 28), vI (z 14)])), (a 1, .inl (cy 3, 200, .inl (aI (g 1)))), (a 2, .inl (cy 0, 10, .inl (aI (g 2)))), (a 3, .inl (cy 0, 10, .inl (aI (g 3)))), (a 4, .inl (cy 2, 10, .inl (aI (g 4)))), (a 5, .inl (cy 0, 100, .inl (aI (g 5)))), (a 6, .inl (cy 0, 100, .inl (aI (g 6)))), (a 7, .inl (cy 0, 100, .inl (aI (g 7)))), (a 8, .inl (cy 0, 100, .inl (aI (g 8)))), (a 9, .inl (cy 0, 100, .inl (aI (g 9)))), (a 10, .inl (cy 0, 100, .inl (aI (g 10)))), (a 11, .inl (cy 2, 100, .inl (aI (g 11)))), (a 12, .inl (cy 0, 10, .inl (aI (g 12)))), (a 13, .inl (cy 0, 10, .inl (aI (g 13)))), (a 14, .inl (cy 0, 160, .inl (aI (g 14)))), (a 15, .inl (cy 0, 160, .inl (aI (g 15)))), (a 16, .inl (cy 0, 400, .inl (aI (g 16)))), (a 17, .inl (cy 0, 400, .inl (aI (g 17)))), (a 18, .inl (cy 0, 400, .inl (aI (g 18)))), (a 19, .inl (cy 0, 400, .inl (aI (g 19)))), (a 20, .inl (cy 0, 400, .inl (aI (g 20)))), (a 21, .inl (cy 0, 400, .inl (aI (g 21)))), (a 22, .inl (cy 0, 100, .inl (aI (g 22)))), (a 23, .inl (cy 0, 100, .inl (aI (g 23)))), (a 24, .inl (cy 1, 8, .inr (.inl (aL (g 24))))), (a 25, .inl (cy 1, 8, .inr (.inl (aL (g 25))))), (a 26, .inl (cy 1, 8, .inr (.inl (aL (g 26))))), (a 27, .inl (cy 0, 164, .inl (aI (g 27)))), (a 28, .inl (cy 0, 4, .inl (aI (g 28))))]
theorem mw_z0 (cy : Nat → ClassId) (a : Nat → Nat) (z : Nat → Int) (g : Nat → Int → Int) (v : Int) : (mw cy a z g).set 0 (a 0, .inr (10, [vI v, .ref (a 1), vI (z 1), vI (z 2), vI (z 3), .ref (a 2), .ref (a 3), .ref (a 4), vI (z 4), vI (z 5), vI (z 6), vI (z 7), vI (z 8), vI (z 9), vL (z 10), .ref (a 5), .ref (a 6), .ref (a 7), .ref (a 8), .ref (a 9), .ref (a 10), .ref (a 11), vI (z 11), vI (z 12), .ref (a 12), .ref (a 13), .ref (a 14), .ref (a 15), .ref (a 16), .ref (a 17), .ref (a 18), .ref (a 19), .ref (a 20), .ref (a 21), vI (z 13), .ref (a 22), .ref (a 23), .ref (a 24), .ref (a 25), .ref (a 26), .ref (a 27), .ref (a 28), vI (z 14)])) = mw cy a (uZ z 0 v) g := rfl
theorem mw_z1 (cy : Nat → ClassId) (a : Nat → Nat) (z : Nat → Int) (g : Nat → Int → Int) (v : Int) : (mw cy a z g).set 0 (a 0, .inr (10, [vI (z 0), .ref (a 1), vI v, vI (z 2), vI (z 3), .ref (a 2), .ref (a 3), .ref (a 4), vI (z 4), vI (z 5), vI (z 6), vI (z 7), vI (z 8), vI (z 9), vL (z 10), .ref (a 5), .ref (a 6), .ref (a 7), .ref (a 8), .ref (a 9), .ref (a 10), .ref (a 11), vI (z 11), vI (z 12), .ref (a 12), .ref (a 13), .ref (a 14), .ref (a 15), .ref (a 16), .ref (a 17), .ref (a 18), .ref (a 19), .ref (a 20), .ref (a 21), vI (z 13), .ref (a 22), .ref (a 23), .ref (a 24), .ref (a 25), .ref (a 26), .ref (a 27), .ref (a 28), vI (z 14)])) = mw cy a (uZ z 1 v) g := rfl
theorem mw_z2 (cy : Nat → ClassId) (a : Nat → Nat) (z : Nat → Int) (g : Nat → Int → Int) (v : Int) : (mw cy a z g).set 0 (a 0, .inr (10, [vI (z 0), .ref (a 1), vI (z 1), vI v, vI (z 3), .ref (a 2), .ref (a 3), .ref (a 4), vI (z 4), vI (z 5), vI (z 6), vI (z 7), vI (z 8), vI (z 9), vL (z 10), .ref (a 5), .ref (a 6), .ref (a 7), .ref (a 8), .ref (a 9), .ref (a 10), .ref (a 11), vI (z 11), vI (z 12), .ref (a 12), .ref (a 13), .ref (a 14), .ref (a 15), .ref (a 16), .ref (a 17), .ref (a 18), .ref (a 19), .ref (a 20), .ref (a 21), vI (z 13), .ref (a 22), .ref (a 23), .ref (a 24), .ref (a 25), .ref (a 26), .ref (a 27), .ref (a 28), vI (z 14)])) = mw cy a (uZ z 2 v) g := rfl
theorem mw_z3 (cy : Nat → ClassId) (a : Nat → Nat) (z : Nat → Int) (g : Nat → Int → Int) (v : Int) : (mw cy a z g).set 0 (a 0, .inr (10, [vI (z 0), .ref (a 1), vI (z 1), vI (z 2), vI v, .ref (a 2), .ref (a 3), .ref (a 4), vI (z 4), vI (z 5), vI (z 6), vI (z 7), vI (z 8), vI (z 9), vL (z 10), .ref (a 5), .ref (a 6), .ref (a 7), .ref (a 8), .ref (a 9), .ref (a 10), .ref (a 11), vI (z 11), vI (z 12), .ref (a 12), .ref (a 13), .ref (a 14), .ref (a 15), .ref (a 16), .ref (a 17), .ref (a 18), .ref (a 19), .ref (a 20), .ref (a 21), vI (z 13), .ref (a 22), .ref (a 23), .ref (a 24), .ref (a 25), .ref (a 26), .ref (a 27), .ref (a 28), vI (z 14)])) = mw cy a (uZ z 3 v) g := rfl
theorem mw_z4 (cy : Nat → ClassId) (a : Nat → Nat) (z : Nat → Int) (g : Nat → Int → Int) (v : Int) : (mw cy a z g).set 0 (a 0, .inr (10, [vI (z 0), .ref (a 1), vI (z 1), vI (z 2), vI (z 3), .ref (a 2), .ref (a 3), .ref (a 4), vI v, vI (z 5), vI (z 6), vI (z 7), vI (z 8), vI (z 9), vL (z 10), .ref (a 5), .ref (a 6), .ref (a 7), .ref (a 8), .ref (a 9), .ref (a 10), .ref (a 11), vI (z 11), vI (z 12), .ref (a 12), .ref (a 13), .ref (a 14), .ref (a 15), .ref (a 16), .ref (a 17), .ref (a 18), .ref (a 19), .ref (a 20), .ref (a 21), vI (z 13), .ref (a 22), .ref (a 23), .ref (a 24), .ref (a 25), .ref (a 26), .ref (a 27), .ref (a 28), vI (z 14)])) = mw cy a (uZ z 4 v) g := rfl
theorem mw_z5 (cy : Nat → ClassId) (a : Nat → Nat) (z : Nat → Int) (g : Nat → Int → Int) (v : Int) : (mw cy a z g).set 0 (a 0, .inr (10, [vI (z 0), .ref (a 1), vI (z 1), vI (z 2), vI (z 3), .ref (a 2), .ref (a 3), .ref (a 4), vI (z 4), vI v, vI (z 6), vI (z 7), vI (z 8), vI (z 9), vL (z 10), .ref (a 5), .ref (a 6), .ref (a 7), .ref (a 8), .ref (a 9), .ref (a 10), .ref (a 11), vI (z 11), vI (z 12), .ref (a 12), .ref (a 13), .ref (a 14), .ref (a 15), .ref (a 16), .ref (a 17), .ref (a 18), .ref (a 19), .ref (a 20), .ref (a 21), vI (z 13), .ref (a 22), .ref (a 23), .ref (a 24), .ref (a 25), .ref (a 26), .ref (a 27), .ref (a 28), vI (z 14)])) = mw cy a (uZ z 5 v) g := rfl
theorem mw_z6 (cy : Nat → ClassId) (a : Nat → Nat) (z : Nat → Int) (g : Nat → Int → Int) (v : Int) : (mw cy a z g).set 0 (a 0, .inr (10, [vI (z 0), .ref (a 1), vI (z 1), vI (z 2), vI (z 3), .ref (a 2), .ref (a 3), .ref (a 4), vI (z 4), vI (z 5), vI v, vI (z 7), vI (z 8), vI (z 9), vL (z 10), .ref (a 5), .ref (a 6), .ref (a 7), .ref (a 8), .ref (a 9), .ref (a 10), .ref (a 11), vI (z 11), vI (z 12), .ref (a 12), .ref (a 13), .ref (a 14), .ref (a 15), .ref (a 16), .ref (a 17), .ref (a 18), .ref (a 19), .ref (a 20), .ref (a 21), vI (z 13), .ref (a 22), .ref (a 23), .ref (a 24), .ref (a 25), .ref (a 26), .ref (a 27), .ref (a 28), vI (z 14)])) = mw cy a (uZ z 6 v) g := rfl
theorem mw_z7 (cy : Nat → ClassId) (a : Nat → Nat) (z : Nat → Int) (g : Nat → Int → Int) (v : Int) : (mw cy a z g).set 0 (a 0, .inr (10, [vI (z 0), .ref (a 1), vI (z 1), vI (z 2), vI (z 3), .ref (a 2), .ref (a 3), .ref (a 4), vI (z 4), vI (z 5), vI (z 6), vI v, vI (z 8), vI (z 9), vL (z 10), .ref (a 5), .ref (a 6), .ref (a 7), .ref (a 8), .ref (a 9), .ref (a 10), .ref (a 11), vI (z 11), vI (z 12), .ref (a 12), .ref (a 13), .ref (a 14), .ref (a 15), .ref (a 16), .ref (a 17), .ref (a 18), .ref (a 19), .ref (a 20), .ref (a 21), vI (z 13), .ref (a 22), .ref (a 23), .ref (a 24), .ref (a 25), .ref (a 26), .ref (a 27), .ref (a 28), vI (z 14)])) = mw cy a (uZ z 7 v) g := rfl
theorem mw_z8 (cy : Nat → ClassId) (a : Nat → Nat) (z : Nat → Int) (g : Nat → Int → Int) (v : Int) : (mw cy a z g).set 0 (a 0, .inr (10, [vI (z 0), .ref (a 1), vI (z 1), vI (z 2), vI (z 3), .ref (a 2), .ref (a 3), .ref (a 4), vI (z 4), vI (z 5), vI (z 6), vI (z 7), vI v, vI (z 9), vL (z 10), .ref (a 5), .ref (a 6), .ref (a 7), .ref (a 8), .ref (a 9), .ref (a 10), .ref (a 11), vI (z 11), vI (z 12), .ref (a 12), .ref (a 13), .ref (a 14), .ref (a 15), .ref (a 16), .ref (a 17), .ref (a 18), .ref (a 19), .ref (a 20), .ref (a 21), vI (z 13), .ref (a 22), .ref (a 23), .ref (a 24), .ref (a 25), .ref (a 26), .ref (a 27), .ref (a 28), vI (z 14)])) = mw cy a (uZ z 8 v) g := rfl
theorem mw_z9 (cy : Nat → ClassId) (a : Nat → Nat) (z : Nat → Int) (g : Nat → Int → Int) (v : Int) : (mw cy a z g).set 0 (a 0, .inr (10, [vI (z 0), .ref (a 1), vI (z 1), vI (z 2), vI (z 3), .ref (a 2), .ref (a 3), .ref (a 4), vI (z 4), vI (z 5), vI (z 6), vI (z 7), vI (z 8), vI v, vL (z 10), .ref (a 5), .ref (a 6), .ref (a 7), .ref (a 8), .ref (a 9), .ref (a 10), .ref (a 11), vI (z 11), vI (z 12), .ref (a 12), .ref (a 13), .ref (a 14), .ref (a 15), .ref (a 16), .ref (a 17), .ref (a 18), .ref (a 19), .ref (a 20), .ref (a 21), vI (z 13), .ref (a 22), .ref (a 23), .ref (a 24), .ref (a 25), .ref (a 26), .ref (a 27), .ref (a 28), vI (z 14)])) = mw cy a (uZ z 9 v) g := rfl
theorem mw_z10 (cy : Nat → ClassId) (a : Nat → Nat) (z : Nat → Int) (g : Nat → Int → Int) (v : Int) : (mw cy a z g).set 0 (a 0, .inr (10, [vI (z 0), .ref (a 1), vI (z 1), vI (z 2), vI (z 3), .ref (a 2), .ref (a 3), .ref (a 4), vI (z 4), vI (z 5), vI (z 6), vI (z 7), vI (z 8), vI (z 9), vL v, .ref (a 5), .ref (a 6), .ref (a 7), .ref (a 8), .ref (a 9), .ref (a 10), .ref (a 11), vI (z 11), vI (z 12), .ref (a 12), .ref (a 13), .ref (a 14), .ref (a 15), .ref (a 16), .ref (a 17), .ref (a 18), .ref (a 19), .ref (a 20), .ref (a 21), vI (z 13), .ref (a 22), .ref (a 23), .ref (a 24), .ref (a 25), .ref (a 26), .ref (a 27), .ref (a 28), vI (z 14)])) = mw cy a (uZ z 10 v) g := rfl
theorem mw_z11 (cy : Nat → ClassId) (a : Nat → Nat) (z : Nat → Int) (g : Nat → Int → Int) (v : Int) : (mw cy a z g).set 0 (a 0, .inr (10, [vI (z 0), .ref (a 1), vI (z 1), vI (z 2), vI (z 3), .ref (a 2), .ref (a 3), .ref (a 4), vI (z 4), vI (z 5), vI (z 6), vI (z 7), vI (z 8), vI (z 9), vL (z 10), .ref (a 5), .ref (a 6), .ref (a 7), .ref (a 8), .ref (a 9), .ref (a 10), .ref (a 11), vI v, vI (z 12), .ref (a 12), .ref (a 13), .ref (a 14), .ref (a 15), .ref (a 16), .ref (a 17), .ref (a 18), .ref (a 19), .ref (a 20), .ref (a 21), vI (z 13), .ref (a 22), .ref (a 23), .ref (a 24), .ref (a 25), .ref (a 26), .ref (a 27), .ref (a 28), vI (z 14)])) = mw cy a (uZ z 11 v) g := rfl
theorem mw_z12 (cy : Nat → ClassId) (a : Nat → Nat) (z : Nat → Int) (g : Nat → Int → Int) (v : Int) : (mw cy a z g).set 0 (a 0, .inr (10, [vI (z 0), .ref (a 1), vI (z 1), vI (z 2), vI (z 3), .ref (a 2), .ref (a 3), .ref (a 4), vI (z 4), vI (z 5), vI (z 6), vI (z 7), vI (z 8), vI (z 9), vL (z 10), .ref (a 5), .ref (a 6), .ref (a 7), .ref (a 8), .ref (a 9), .ref (a 10), .ref (a 11), vI (z 11), vI v, .ref (a 12), .ref (a 13), .ref (a 14), .ref (a 15), .ref (a 16), .ref (a 17), .ref (a 18), .ref (a 19), .ref (a 20), .ref (a 21), vI (z 13), .ref (a 22), .ref (a 23), .ref (a 24), .ref (a 25), .ref (a 26), .ref (a 27), .ref (a 28), vI (z 14)])) = mw cy a (uZ z 12 v) g := rfl
theorem mw_z13 (cy : Nat → ClassId) (a : Nat → Nat) (z : Nat → Int) (g : Nat → Int → Int) (v : Int) : (mw cy a z g).set 0 (a 0, .inr (10, [vI (z 0), .ref (a 1), vI (z 1), vI (z 2), vI (z 3), .ref (a 2), .ref (a 3), .ref (a 4), vI (z 4), vI (z 5), vI (z 6), vI (z 7), vI (z 8), vI (z 9), vL (z 10), .ref (a 5), .ref (a 6), .ref (a 7), .ref (a 8), .ref (a 9), .ref (a 10), .ref (a 11), vI (z 11), vI (z 12), .ref (a 12), .ref (a 13), .ref (a 14), .ref (a 15), .ref (a 16), .ref (a 17), .ref (a 18), .ref (a 19), .ref (a 20), .ref (a 21), vI v, .ref (a 22), .ref (a 23), .ref (a 24), .ref (a 25), .ref (a 26), .ref (a 27), .ref (a 28), vI (z 14)])) = mw cy a (uZ z 13 v) g := rfl
theorem mw_z14 (cy : Nat → ClassId) (a : Nat → Nat) (z : Nat → Int) (g : Nat → Int → Int) (v : Int) : (mw cy a z g).set 0 (a 0, .inr (10, [vI (z 0), .ref (a 1), vI (z 1), vI (z 2), vI (z 3), .ref (a 2), .ref (a 3), .ref (a 4), vI (z 4), vI (z 5), vI (z 6), vI (z 7), vI (z 8), vI (z 9), vL (z 10), .ref (a 5), .ref (a 6), .ref (a 7), .ref (a 8), .ref (a 9), .ref (a 10), .ref (a 11), vI (z 11), vI (z 12), .ref (a 12), .ref (a 13), .ref (a 14), .ref (a 15), .ref (a 16), .ref (a 17), .ref (a 18), .ref (a 19), .ref (a 20), .ref (a 21), vI (z 13), .ref (a 22), .ref (a 23), .ref (a 24), .ref (a 25), .ref (a 26), .ref (a 27), .ref (a 28), vI v])) = mw cy a (uZ z 14 v) g := rfl
theorem mw_g1 (cy : Nat → ClassId) (a : Nat → Nat) (z : Nat → Int) (g : Nat → Int → Int) (f : Int → Int) : (mw cy a z g).set 1 (a 1, .inl (cy 3, 200, .inl (aI f))) = mw cy a z (uZ g 1 f) := rfl
theorem mw_g2 (cy : Nat → ClassId) (a : Nat → Nat) (z : Nat → Int) (g : Nat → Int → Int) (f : Int → Int) : (mw cy a z g).set 2 (a 2, .inl (cy 0, 10, .inl (aI f))) = mw cy a z (uZ g 2 f) := rfl
theorem mw_g3 (cy : Nat → ClassId) (a : Nat → Nat) (z : Nat → Int) (g : Nat → Int → Int) (f : Int → Int) : (mw cy a z g).set 3 (a 3, .inl (cy 0, 10, .inl (aI f))) = mw cy a z (uZ g 3 f) := rfl
theorem mw_g4 (cy : Nat → ClassId) (a : Nat → Nat) (z : Nat → Int) (g : Nat → Int → Int) (f : Int → Int) : (mw cy a z g).set 4 (a 4, .inl (cy 2, 10, .inl (aI f))) = mw cy a z (uZ g 4 f) := rfl
theorem mw_g5 (cy : Nat → ClassId) (a : Nat → Nat) (z : Nat → Int) (g : Nat → Int → Int) (f : Int → Int) : (mw cy a z g).set 5 (a 5, .inl (cy 0, 100, .inl (aI f))) = mw cy a z (uZ g 5 f) := rfl
theorem mw_g6 (cy : Nat → ClassId) (a : Nat → Nat) (z : Nat → Int) (g : Nat → Int → Int) (f : Int → Int) : (mw cy a z g).set 6 (a 6, .inl (cy 0, 100, .inl (aI f))) = mw cy a z (uZ g 6 f) := rfl
theorem mw_g7 (cy : Nat → ClassId) (a : Nat → Nat) (z : Nat → Int) (g : Nat → Int → Int) (f : Int → Int) : (mw cy a z g).set 7 (a 7, .inl (cy 0, 100, .inl (aI f))) = mw cy a z (uZ g 7 f) := rfl
theorem mw_g8 (cy : Nat → ClassId) (a : Nat → Nat) (z : Nat → Int) (g : Nat → Int → Int) (f : Int → Int) : (mw cy a z g).set 8 (a 8, .inl (cy 0, 100, .inl (aI f))) = mw cy a z (uZ g 8 f) := rfl
theorem mw_g9 (cy : Nat → ClassId) (a : Nat → Nat) (z : Nat → Int) (g : Nat → Int → Int) (f : Int → Int) : (mw cy a z g).set 9 (a 9, .inl (cy 0, 100, .inl (aI f))) = mw cy a z (uZ g 9 f) := rfl
theorem mw_g10 (cy : Nat → ClassId) (a : Nat → Nat) (z : Nat → Int) (g : Nat → Int → Int) (f : Int → Int) : (mw cy a z g).set 10 (a 10, .inl (cy 0, 100, .inl (aI f))) = mw cy a z (uZ g 10 f) := rfl
theorem mw_g11 (cy : Nat → ClassId) (a : Nat → Nat) (z : Nat → Int) (g : Nat → Int → Int) (f : Int → Int) : (mw cy a z g).set 11 (a 11, .inl (cy 2, 100, .inl (aI f))) = mw cy a z (uZ g 11 f) := rfl
theorem mw_g12 (cy : Nat → ClassId) (a : Nat → Nat) (z : Nat → Int) (g : Nat → Int → Int) (f : Int → Int) : (mw cy a z g).set 12 (a 12, .inl (cy 0, 10, .inl (aI f))) = mw cy a z (uZ g 12 f) := rfl
theorem mw_g13 (cy : Nat → ClassId) (a : Nat → Nat) (z : Nat → Int) (g : Nat → Int → Int) (f : Int → Int) : (mw cy a z g).set 13 (a 13, .inl (cy 0, 10, .inl (aI f))) = mw cy a z (uZ g 13 f) := rfl
theorem mw_g14 (cy : Nat → ClassId) (a : Nat → Nat) (z : Nat → Int) (g : Nat → Int → Int) (f : Int → Int) : (mw cy a z g).set 14 (a 14, .inl (cy 0, 160, .inl (aI f))) = mw cy a z (uZ g 14 f) := rfl
theorem mw_g15 (cy : Nat → ClassId) (a : Nat → Nat) (z : Nat → Int) (g : Nat → Int → Int) (f : Int → Int) : (mw cy a z g).set 15 (a 15, .inl (cy 0, 160, .inl (aI f))) = mw cy a z (uZ g 15 f) := rfl
theorem mw_g16 (cy : Nat → ClassId) (a : Nat → Nat) (z : Nat → Int) (g : Nat → Int → Int) (f : Int → Int) : (mw cy a z g).set 16 (a 16, .inl (cy 0, 400, .inl (aI f))) = mw cy a z (uZ g 16 f) := rfl
theorem mw_g17 (cy : Nat → ClassId) (a : Nat → Nat) (z : Nat → Int) (g : Nat → Int → Int) (f : Int → Int) : (mw cy a z g).set 17 (a 17, .inl (cy 0, 400, .inl (aI f))) = mw cy a z (uZ g 17 f) := rfl
theorem mw_g18 (cy : Nat → ClassId) (a : Nat → Nat) (z : Nat → Int) (g : Nat → Int → Int) (f : Int → Int) : (mw cy a z g).set 18 (a 18, .inl (cy 0, 400, .inl (aI f))) = mw cy a z (uZ g 18 f) := rfl
theorem mw_g19 (cy : Nat → ClassId) (a : Nat → Nat) (z : Nat → Int) (g : Nat → Int → Int) (f : Int → Int) : (mw cy a z g).set 19 (a 19, .inl (cy 0, 400, .inl (aI f))) = mw cy a z (uZ g 19 f) := rfl
theorem mw_g20 (cy : Nat → ClassId) (a : Nat → Nat) (z : Nat → Int) (g : Nat → Int → Int) (f : Int → Int) : (mw cy a z g).set 20 (a 20, .inl (cy 0, 400, .inl (aI f))) = mw cy a z (uZ g 20 f) := rfl
theorem mw_g21 (cy : Nat → ClassId) (a : Nat → Nat) (z : Nat → Int) (g : Nat → Int → Int) (f : Int → Int) : (mw cy a z g).set 21 (a 21, .inl (cy 0, 400, .inl (aI f))) = mw cy a z (uZ g 21 f) := rfl
theorem mw_g22 (cy : Nat → ClassId) (a : Nat → Nat) (z : Nat → Int) (g : Nat → Int → Int) (f : Int → Int) : (mw cy a z g).set 22 (a 22, .inl (cy 0, 100, .inl (aI f))) = mw cy a z (uZ g 22 f) := rfl
theorem mw_g23 (cy : Nat → ClassId) (a : Nat → Nat) (z : Nat → Int) (g : Nat → Int → Int) (f : Int → Int) : (mw cy a z g).set 23 (a 23, .inl (cy 0, 100, .inl (aI f))) = mw cy a z (uZ g 23 f) := rfl
theorem mw_g24 (cy : Nat → ClassId) (a : Nat → Nat) (z : Nat → Int) (g : Nat → Int → Int) (f : Int → Int) : (mw cy a z g).set 24 (a 24, .inl (cy 1, 8, .inr (.inl (aL f)))) = mw cy a z (uZ g 24 f) := rfl
theorem mw_g25 (cy : Nat → ClassId) (a : Nat → Nat) (z : Nat → Int) (g : Nat → Int → Int) (f : Int → Int) : (mw cy a z g).set 25 (a 25, .inl (cy 1, 8, .inr (.inl (aL f)))) = mw cy a z (uZ g 25 f) := rfl
theorem mw_g26 (cy : Nat → ClassId) (a : Nat → Nat) (z : Nat → Int) (g : Nat → Int → Int) (f : Int → Int) : (mw cy a z g).set 26 (a 26, .inl (cy 1, 8, .inr (.inl (aL f)))) = mw cy a z (uZ g 26 f) := rfl
theorem mw_g27 (cy : Nat → ClassId) (a : Nat → Nat) (z : Nat → Int) (g : Nat → Int → Int) (f : Int → Int) : (mw cy a z g).set 27 (a 27, .inl (cy 0, 164, .inl (aI f))) = mw cy a z (uZ g 27 f) := rfl
theorem mw_g28 (cy : Nat → ClassId) (a : Nat → Nat) (z : Nat → Int) (g : Nat → Int → Int) (f : Int → Int) : (mw cy a z g).set 28 (a 28, .inl (cy 0, 4, .inl (aI f))) = mw cy a z (uZ g 28 f) := rfl
end
section
/-! the nest words by their places; booleans -/
set_option maxRecDepth 20000 in
theorem kt_X3_30 : tables_1[195]? = some (Cond.fieldLinkNest "FruitHalls$Payout" 30 "FruitHalls$Sales" "soldAgainBy" "[I" "FruitHalls") := rfl
set_option maxRecDepth 20000 in
theorem kt_X3_36 : tables_1[64]? = some (Cond.fieldLinkNest "FruitHalls$Payout" 36 "FruitHalls$Rules" "lossOnBuyer" "Z" "FruitHalls") := rfl
set_option maxRecDepth 20000 in
theorem kt_X3_42 : tables_1[189]? = some (Cond.fieldLinkNest "FruitHalls$Payout" 42 "FruitHalls$Sales" "price" "[I" "FruitHalls") := rfl
set_option maxRecDepth 20000 in
theorem kt_X3_51 : tables_1[186]? = some (Cond.fieldLinkNest "FruitHalls$Payout" 51 "FruitHalls$Sales" "boxes" "[I" "FruitHalls") := rfl
set_option maxRecDepth 20000 in
theorem kt_X3_54 : tables_1[198]? = some (Cond.fieldLinkNest "FruitHalls$Payout" 54 "FruitHalls$Sales" "size" "I" "FruitHalls") := rfl
set_option maxRecDepth 20000 in
theorem kt_X3_62 : tables_1[183]? = some (Cond.fieldLinkNest "FruitHalls$Payout" 62 "FruitHalls$Sales" "day" "[I" "FruitHalls") := rfl
set_option maxRecDepth 20000 in
theorem kt_X3_79 : tables_1[178]? = some (Cond.fieldLinkNest "FruitHalls$Payout" 79 "FruitHalls$Sales" "ofLot" "[I" "FruitHalls") := rfl
set_option maxRecDepth 20000 in
theorem kt_X3_82 : tables_1[60]? = some (Cond.fieldLinkNest "FruitHalls$Payout" 82 "FruitHalls$Rules" "part" "[I" "FruitHalls") := rfl
set_option maxRecDepth 20000 in
theorem kt_X3_85 : tables_1[141]? = some (Cond.fieldLinkNest "FruitHalls$Payout" 85 "FruitHalls$Lots" "grade" "[I" "FruitHalls") := rfl
set_option maxRecDepth 20000 in
theorem kt_X3_90 : tables_1[134]? = some (Cond.fieldLinkNest "FruitHalls$Payout" 90 "FruitHalls$Lots" "grower" "[I" "FruitHalls") := rfl
set_option maxRecDepth 20000 in
theorem kt_X4_49 : tables_1[199]? = some (Cond.fieldLinkNest "FruitHalls$Premium" 49 "FruitHalls$Sales" "size" "I" "FruitHalls") := rfl
set_option maxRecDepth 20000 in
theorem kt_X4_59 : tables_1[177]? = some (Cond.fieldLinkNest "FruitHalls$Premium" 59 "FruitHalls$Sales" "ofLot" "[I" "FruitHalls") := rfl
set_option maxRecDepth 20000 in
theorem kt_X4_63 : tables_1[140]? = some (Cond.fieldLinkNest "FruitHalls$Premium" 63 "FruitHalls$Lots" "grade" "[I" "FruitHalls") := rfl
set_option maxRecDepth 20000 in
theorem kt_X4_68 : tables_1[190]? = some (Cond.fieldLinkNest "FruitHalls$Premium" 68 "FruitHalls$Sales" "price" "[I" "FruitHalls") := rfl
set_option maxRecDepth 20000 in
theorem kt_X4_71 : tables_1[137]? = some (Cond.fieldLinkNest "FruitHalls$Premium" 71 "FruitHalls$Lots" "mark" "[I" "FruitHalls") := rfl
set_option maxRecDepth 20000 in
theorem kt_X5_67 : tables_1[56]? = some (Cond.fieldLinkNest "FruitHalls$RuleReader" 67 "FruitHalls$Rules" "reserve" "[I" "FruitHalls") := rfl
set_option maxRecDepth 20000 in
theorem kt_X5_76 : tables_1[59]? = some (Cond.fieldLinkNest "FruitHalls$RuleReader" 76 "FruitHalls$Rules" "part" "[I" "FruitHalls") := rfl
set_option maxRecDepth 20000 in
theorem kt_X5_102 : tables_1[62]? = some (Cond.fieldLinkNest "FruitHalls$RuleReader" 102 "FruitHalls$Rules" "rot" "I" "FruitHalls") := rfl
set_option maxRecDepth 20000 in
theorem kt_X5_108 : tables_1[66]? = some (Cond.fieldLinkNest "FruitHalls$RuleReader" 108 "FruitHalls$Rules" "lossOnBuyer" "Z" "FruitHalls") := rfl
set_option maxRecDepth 20000 in
theorem kt_X5_111 : tables_1[69]? = some (Cond.fieldLinkNest "FruitHalls$RuleReader" 111 "FruitHalls$Rules" "told" "I" "FruitHalls") := rfl
set_option maxRecDepth 20000 in
theorem kt_X5_122 : tables_1[38]? = some (Cond.fieldLinkNest "FruitHalls$RuleReader" 122 "FruitHalls$Tape" "size" "I" "FruitHalls") := rfl
set_option maxRecDepth 20000 in
theorem kt_X8_19 : tables_1[385]? = some (Cond.methodLinkNest "FruitHalls$Tape" 19 ⟨"FruitHalls", "isBelow", "(II)Z"⟩ "FruitHalls") := rfl
set_option maxRecDepth 20000 in
theorem kt_X9_9 : tables_1[31]? = some (Cond.methodLinkNest "FruitHalls" 9 ⟨"FruitHalls$Tape", "<init>", "()V"⟩ "FruitHalls") := rfl
set_option maxRecDepth 20000 in
theorem kt_X9_34 : tables_1[129]? = some (Cond.methodLinkNest "FruitHalls" 34 ⟨"FruitHalls$Lots", "<init>", "()V"⟩ "FruitHalls") := rfl
set_option maxRecDepth 20000 in
theorem kt_X9_41 : tables_1[172]? = some (Cond.methodLinkNest "FruitHalls" 41 ⟨"FruitHalls$Sales", "<init>", "()V"⟩ "FruitHalls") := rfl
set_option maxRecDepth 20000 in
theorem kt_X9_48 : tables_1[220]? = some (Cond.methodLinkNest "FruitHalls" 48 ⟨"FruitHalls$Buyers", "<init>", "()V"⟩ "FruitHalls") := rfl
set_option maxRecDepth 20000 in
theorem kt_X9_73 : tables_1[296]? = some (Cond.methodLinkNest "FruitHalls" 73 ⟨"FruitHalls$Freight", "<init>", "()V"⟩ "FruitHalls") := rfl
set_option maxRecDepth 20000 in
theorem kt_X9_89 : tables_1[37]? = some (Cond.fieldLinkNest "FruitHalls" 89 "FruitHalls$Tape" "size" "I" "FruitHalls") := rfl
set_option maxRecDepth 20000 in
theorem kt_X9_99 : tables_1[100]? = some (Cond.fieldLinkNest "FruitHalls" 99 "FruitHalls$RuleReader" "faultKind" "I" "FruitHalls") := rfl
set_option maxRecDepth 20000 in
theorem kt_X9_102 : tables_1[102]? = some (Cond.fieldLinkNest "FruitHalls" 102 "FruitHalls$RuleReader" "faultPlace" "I" "FruitHalls") := rfl
set_option maxRecDepth 20000 in
theorem kt_X9_105 : tables_1[91]? = some (Cond.fieldLinkNest "FruitHalls" 105 "FruitHalls$RuleReader" "draft" "LFruitHalls$Rules;" "FruitHalls") := rfl
set_option maxRecDepth 20000 in
theorem kt_X9_112 : tables_1[68]? = some (Cond.fieldLinkNest "FruitHalls" 112 "FruitHalls$Rules" "told" "I" "FruitHalls") := rfl
set_option maxRecDepth 20000 in
theorem kt_X9_119 : tables_1[152]? = some (Cond.fieldLinkNest "FruitHalls" 119 "FruitHalls$Lots" "size" "I" "FruitHalls") := rfl
set_option maxRecDepth 20000 in
theorem kt_X9_125 : tables_1[225]? = some (Cond.fieldLinkNest "FruitHalls" 125 "FruitHalls$Buyers" "purse" "[I" "FruitHalls") := rfl
set_option maxRecDepth 20000 in
theorem kt_X9_128 : tables_1[227]? = some (Cond.fieldLinkNest "FruitHalls" 128 "FruitHalls$Buyers" "unspent" "[I" "FruitHalls") := rfl
set_option maxRecDepth 20000 in
theorem kt_X9_139 : tables_1[229]? = some (Cond.fieldLinkNest "FruitHalls" 139 "FruitHalls$Buyers" "wantBoxes" "[I" "FruitHalls") := rfl
set_option maxRecDepth 20000 in
theorem kt_X9_142 : tables_1[231]? = some (Cond.fieldLinkNest "FruitHalls" 142 "FruitHalls$Buyers" "wantLimit" "[I" "FruitHalls") := rfl
set_option maxRecDepth 20000 in
theorem kt_X9_145 : tables_1[200]? = some (Cond.fieldLinkNest "FruitHalls" 145 "FruitHalls$Sales" "size" "I" "FruitHalls") := rfl
set_option maxRecDepth 20000 in
theorem kt_X9_150 : tables_1[193]? = some (Cond.fieldLinkNest "FruitHalls" 150 "FruitHalls$Sales" "rejectedOn" "[I" "FruitHalls") := rfl
set_option maxRecDepth 20000 in
theorem kt_X9_153 : tables_1[179]? = some (Cond.fieldLinkNest "FruitHalls" 153 "FruitHalls$Sales" "ofLot" "[I" "FruitHalls") := rfl
set_option maxRecDepth 20000 in
theorem kt_X9_156 : tables_1[150]? = some (Cond.fieldLinkNest "FruitHalls" 156 "FruitHalls$Lots" "lastSale" "[I" "FruitHalls") := rfl
set_option maxRecDepth 20000 in
theorem kt_X9_159 : tables_1[148]? = some (Cond.fieldLinkNest "FruitHalls" 159 "FruitHalls$Lots" "sold" "[Z" "FruitHalls") := rfl
set_option maxRecDepth 20000 in
theorem kt_X9_163 : tables_1[63]? = some (Cond.fieldLinkNest "FruitHalls" 163 "FruitHalls$Rules" "rot" "I" "FruitHalls") := rfl
set_option maxRecDepth 20000 in
theorem kt_X9_179 : tables_1[135]? = some (Cond.fieldLinkNest "FruitHalls" 179 "FruitHalls$Lots" "grower" "[I" "FruitHalls") := rfl
set_option maxRecDepth 20000 in
theorem kt_X9_182 : tables_1[138]? = some (Cond.fieldLinkNest "FruitHalls" 182 "FruitHalls$Lots" "mark" "[I" "FruitHalls") := rfl
set_option maxRecDepth 20000 in
theorem kt_X9_185 : tables_1[142]? = some (Cond.fieldLinkNest "FruitHalls" 185 "FruitHalls$Lots" "grade" "[I" "FruitHalls") := rfl
set_option maxRecDepth 20000 in
theorem kt_X9_188 : tables_1[144]? = some (Cond.fieldLinkNest "FruitHalls" 188 "FruitHalls$Lots" "boxes" "[I" "FruitHalls") := rfl
set_option maxRecDepth 20000 in
theorem kt_X9_191 : tables_1[146]? = some (Cond.fieldLinkNest "FruitHalls" 191 "FruitHalls$Lots" "hall" "[I" "FruitHalls") := rfl
set_option maxRecDepth 20000 in
theorem kt_X9_198 : tables_1[181]? = some (Cond.fieldLinkNest "FruitHalls" 198 "FruitHalls$Sales" "buyer" "[I" "FruitHalls") := rfl
set_option maxRecDepth 20000 in
theorem kt_X9_201 : tables_1[184]? = some (Cond.fieldLinkNest "FruitHalls" 201 "FruitHalls$Sales" "day" "[I" "FruitHalls") := rfl
set_option maxRecDepth 20000 in
theorem kt_X9_204 : tables_1[187]? = some (Cond.fieldLinkNest "FruitHalls" 204 "FruitHalls$Sales" "boxes" "[I" "FruitHalls") := rfl
set_option maxRecDepth 20000 in
theorem kt_X9_205 : tables_1[191]? = some (Cond.fieldLinkNest "FruitHalls" 205 "FruitHalls$Sales" "price" "[I" "FruitHalls") := rfl
set_option maxRecDepth 20000 in
theorem kt_X9_231 : tables_1[276]? = some (Cond.fieldLinkNest "FruitHalls" 231 "FruitHalls$Premium" "upper" "J" "FruitHalls") := rfl
set_option maxRecDepth 20000 in
theorem kt_X9_235 : tables_1[278]? = some (Cond.fieldLinkNest "FruitHalls" 235 "FruitHalls$Premium" "lower" "J" "FruitHalls") := rfl
set_option maxRecDepth 20000 in
theorem kt_X9_255 : tables_1[305]? = some (Cond.fieldLinkNest "FruitHalls" 255 "FruitHalls$Freight" "dispatched" "Z" "FruitHalls") := rfl
set_option maxRecDepth 20000 in
theorem kt_X9_259 : tables_1[303]? = some (Cond.fieldLinkNest "FruitHalls" 259 "FruitHalls$Freight" "carsTo" "[I" "FruitHalls") := rfl
set_option maxRecDepth 20000 in
theorem kt_X9_268 : tables_1[57]? = some (Cond.fieldLinkNest "FruitHalls" 268 "FruitHalls$Rules" "reserve" "[I" "FruitHalls") := rfl
set_option maxRecDepth 20000 in
theorem kt_X9_283 : tables_1[196]? = some (Cond.fieldLinkNest "FruitHalls" 283 "FruitHalls$Sales" "soldAgainBy" "[I" "FruitHalls") := rfl
theorem uI_b {f : Int → Int} {lo hi i v : Int} (h : ∀ j : Int, lo ≤ f j ∧ f j ≤ hi) (hv : lo ≤ v ∧ v ≤ hi) : ∀ j : Int, lo ≤ uI f i v j ∧ uI f i v j ≤ hi := by
  intro j
  unfold uI
  by_cases e : j = i
  · rw [if_pos e]; exact hv
  · rw [if_neg e]; exact h j
theorem uZ_uZ {α : Type} (f : Nat → α) (k : Nat) (v w : α) : uZ (uZ f k v) k w = uZ f k w := by
  funext j
  unfold uZ
  cases Nat.beq j k <;> rfl
theorem nb01 {v : Int} (h : v = 0 ∨ v = 1) : narrow .boolean (vI v) = vI v := by rcases h with rfl | rfl <;> rfl
theorem fb01 {v : Int} (h : v = 0 ∨ v = 1) : fits .boolean (vI v) = true := by rcases h with rfl | rfl <;> rfl
theorem vz01 {v : Int} (h : v = 0 ∨ v = 1) : vp_nar .boolean (iI v) = iI v := by rcases h with rfl | rfl <;> rfl
end
section
/-! bounds of all that the worlds hold -/
theorem uZ_s {α : Type} (f : Nat → α) (k : Nat) (v : α) : uZ f k v k = v := by simp [uZ]
theorem uZ_n {α : Type} (f : Nat → α) {k j : Nat} (v : α) (h : j ≠ k) : uZ f k v j = f j := by
  have hb : Nat.beq j k = false := by
    cases hb : Nat.beq j k
    · rfl
    · exact absurd (Nat.eq_of_beq_eq_true hb) h
  simp [uZ, hb]
def xglo : Nat → Int := fun k => match k with
  | 2 => 0
  | 4 => 0
  | 5 => 0
  | 8 => 0
  | 9 => 0
  | 10 => 0
  | 11 => 0
  | 13 => 0
  | 14 => 0
  | 15 => 0
  | 16 => 0
  | 17 => 0
  | 18 => 0
  | 19 => -1
  | 21 => 0
  | 22 => 0
  | 23 => 0
  | 24 => 0
  | 25 => 0
  | 26 => -1
  | 27 => -1
  | 29 => 0
  | 30 => 0
  | 31 => 0
  | 32 => 0
  | 34 => -9223372036854775808
  | 35 => -9223372036854775808
  | 37 => -9223372036854775808
  | 38 => -9223372036854775808
  | 39 => -9223372036854775808
  | 41 => 0
  | 42 => 0
  | 43 => 0
  | 44 => 0
  | _ => -9223372036854775808
def xghi : Nat → Int := fun k => match k with
  | 2 => 255
  | 4 => 9999
  | 5 => 100
  | 8 => 9999
  | 9 => 100
  | 10 => 1
  | 11 => 1
  | 13 => 7
  | 14 => 5
  | 15 => 3
  | 16 => 500
  | 17 => 3
  | 18 => 1
  | 19 => 399
  | 21 => 99
  | 22 => 9
  | 23 => 999
  | 24 => 500
  | 25 => 9999
  | 26 => 999
  | 27 => 399
  | 29 => 1000000
  | 30 => 1000000
  | 31 => 5000
  | 32 => 9999
  | 34 => 9223372036854775807
  | 35 => 9223372036854775807
  | 37 => 9223372036854775807
  | 38 => 9223372036854775807
  | 39 => 9223372036854775807
  | 41 => 65535
  | 42 => 65535
  | 43 => 40
  | 44 => 101
  | _ => 9223372036854775807
def xzlo : Nat → Int := fun k => match k with
  | 0 => 0
  | 1 => 0
  | 2 => 0
  | 3 => 0
  | 4 => 0
  | 5 => 0
  | 6 => 0
  | 7 => 0
  | 8 => 0
  | 9 => 0
  | 10 => 0
  | 11 => 0
  | 12 => 0
  | 13 => 0
  | 14 => 0
  | 15 => 0
  | 16 => 0
  | 17 => 0
  | 18 => -9223372036854775808
  | 19 => -9223372036854775808
  | 20 => 0
  | _ => -9223372036854775808
def xzhi : Nat → Int := fun k => match k with
  | 0 => 999
  | 1 => 4
  | 2 => 200
  | 3 => 50
  | 4 => 1
  | 5 => 200
  | 6 => 1
  | 7 => 1
  | 8 => 4
  | 9 => 200
  | 10 => 200
  | 11 => 4
  | 12 => 200
  | 13 => 50
  | 14 => 1
  | 15 => 200
  | 16 => 100
  | 17 => 400
  | 18 => 9223372036854775807
  | 19 => 9223372036854775807
  | 20 => 1
  | _ => 9223372036854775807
def xBz (z : Nat → Int) : Prop := ∀ k : Nat, k < 21 → xzlo k ≤ z k ∧ z k ≤ xzhi k
def xBg (g : Nat → Int → Int) : Prop := ∀ k : Nat, k < 45 → ∀ j : Int, xglo k ≤ g k j ∧ g k j ≤ xghi k
theorem xBz_u {z : Nat → Int} (h : xBz z) (k : Nat) {v : Int} (hv : xzlo k ≤ v ∧ v ≤ xzhi k) : xBz (uZ z k v) := by
  intro j hj
  by_cases e : j = k
  · subst e
    have : uZ z j v j = v := uZ_s z j v
    rw [this]; exact hv
  · have : uZ z k v j = z j := uZ_n z v e
    rw [this]; exact h j hj
theorem xBg_u {g : Nat → Int → Int} (h : xBg g) (k : Nat) {f : Int → Int} (hf : ∀ j : Int, xglo k ≤ f j ∧ f j ≤ xghi k) : xBg (uZ g k f) := by
  intro j hj i
  by_cases e : j = k
  · subst e
    have : uZ g j f j = f := uZ_s g j f
    rw [this]; exact hf i
  · have : uZ g k f j = g j := uZ_n g f e
    rw [this]; exact h j hj i
theorem xBg_i {g : Nat → Int → Int} (h : xBg g) (k : Nat) (hk : k < 45) {i v : Int} (hv : xglo k ≤ v ∧ v ≤ xghi k) : xBg (uZ g k (uI (g k) i v)) := by
  refine xBg_u h k (fun j => ?_)
  unfold uI
  by_cases e : j = i
  · rw [if_pos e]; exact hv
  · rw [if_neg e]; exact h k hk j
theorem xB2 {g : Nat → Int → Int} (h : xBg g) (j : Int) : 0 ≤ g 2 j ∧ g 2 j ≤ 255 := h 2 (by decide) j
theorem xB4 {g : Nat → Int → Int} (h : xBg g) (j : Int) : 0 ≤ g 4 j ∧ g 4 j ≤ 9999 := h 4 (by decide) j
theorem xB5 {g : Nat → Int → Int} (h : xBg g) (j : Int) : 0 ≤ g 5 j ∧ g 5 j ≤ 100 := h 5 (by decide) j
theorem xB8 {g : Nat → Int → Int} (h : xBg g) (j : Int) : 0 ≤ g 8 j ∧ g 8 j ≤ 9999 := h 8 (by decide) j
theorem xB9 {g : Nat → Int → Int} (h : xBg g) (j : Int) : 0 ≤ g 9 j ∧ g 9 j ≤ 100 := h 9 (by decide) j
theorem xB10 {g : Nat → Int → Int} (h : xBg g) (j : Int) : 0 ≤ g 10 j ∧ g 10 j ≤ 1 := h 10 (by decide) j
theorem xB11 {g : Nat → Int → Int} (h : xBg g) (j : Int) : 0 ≤ g 11 j ∧ g 11 j ≤ 1 := h 11 (by decide) j
theorem xB13 {g : Nat → Int → Int} (h : xBg g) (j : Int) : 0 ≤ g 13 j ∧ g 13 j ≤ 7 := h 13 (by decide) j
theorem xB14 {g : Nat → Int → Int} (h : xBg g) (j : Int) : 0 ≤ g 14 j ∧ g 14 j ≤ 5 := h 14 (by decide) j
theorem xB15 {g : Nat → Int → Int} (h : xBg g) (j : Int) : 0 ≤ g 15 j ∧ g 15 j ≤ 3 := h 15 (by decide) j
theorem xB16 {g : Nat → Int → Int} (h : xBg g) (j : Int) : 0 ≤ g 16 j ∧ g 16 j ≤ 500 := h 16 (by decide) j
theorem xB17 {g : Nat → Int → Int} (h : xBg g) (j : Int) : 0 ≤ g 17 j ∧ g 17 j ≤ 3 := h 17 (by decide) j
theorem xB18 {g : Nat → Int → Int} (h : xBg g) (j : Int) : 0 ≤ g 18 j ∧ g 18 j ≤ 1 := h 18 (by decide) j
theorem xB19 {g : Nat → Int → Int} (h : xBg g) (j : Int) : -1 ≤ g 19 j ∧ g 19 j ≤ 399 := h 19 (by decide) j
theorem xB21 {g : Nat → Int → Int} (h : xBg g) (j : Int) : 0 ≤ g 21 j ∧ g 21 j ≤ 99 := h 21 (by decide) j
theorem xB22 {g : Nat → Int → Int} (h : xBg g) (j : Int) : 0 ≤ g 22 j ∧ g 22 j ≤ 9 := h 22 (by decide) j
theorem xB23 {g : Nat → Int → Int} (h : xBg g) (j : Int) : 0 ≤ g 23 j ∧ g 23 j ≤ 999 := h 23 (by decide) j
theorem xB24 {g : Nat → Int → Int} (h : xBg g) (j : Int) : 0 ≤ g 24 j ∧ g 24 j ≤ 500 := h 24 (by decide) j
theorem xB25 {g : Nat → Int → Int} (h : xBg g) (j : Int) : 0 ≤ g 25 j ∧ g 25 j ≤ 9999 := h 25 (by decide) j
theorem xB26 {g : Nat → Int → Int} (h : xBg g) (j : Int) : -1 ≤ g 26 j ∧ g 26 j ≤ 999 := h 26 (by decide) j
theorem xB27 {g : Nat → Int → Int} (h : xBg g) (j : Int) : -1 ≤ g 27 j ∧ g 27 j ≤ 399 := h 27 (by decide) j
theorem xB29 {g : Nat → Int → Int} (h : xBg g) (j : Int) : 0 ≤ g 29 j ∧ g 29 j ≤ 1000000 := h 29 (by decide) j
theorem xB30 {g : Nat → Int → Int} (h : xBg g) (j : Int) : 0 ≤ g 30 j ∧ g 30 j ≤ 1000000 := h 30 (by decide) j
theorem xB31 {g : Nat → Int → Int} (h : xBg g) (j : Int) : 0 ≤ g 31 j ∧ g 31 j ≤ 5000 := h 31 (by decide) j
theorem xB32 {g : Nat → Int → Int} (h : xBg g) (j : Int) : 0 ≤ g 32 j ∧ g 32 j ≤ 9999 := h 32 (by decide) j
theorem xB34 {g : Nat → Int → Int} (h : xBg g) (j : Int) : -9223372036854775808 ≤ g 34 j ∧ g 34 j ≤ 9223372036854775807 := h 34 (by decide) j
theorem xB35 {g : Nat → Int → Int} (h : xBg g) (j : Int) : -9223372036854775808 ≤ g 35 j ∧ g 35 j ≤ 9223372036854775807 := h 35 (by decide) j
theorem xB37 {g : Nat → Int → Int} (h : xBg g) (j : Int) : -9223372036854775808 ≤ g 37 j ∧ g 37 j ≤ 9223372036854775807 := h 37 (by decide) j
theorem xB38 {g : Nat → Int → Int} (h : xBg g) (j : Int) : -9223372036854775808 ≤ g 38 j ∧ g 38 j ≤ 9223372036854775807 := h 38 (by decide) j
theorem xB39 {g : Nat → Int → Int} (h : xBg g) (j : Int) : -9223372036854775808 ≤ g 39 j ∧ g 39 j ≤ 9223372036854775807 := h 39 (by decide) j
theorem xB41 {g : Nat → Int → Int} (h : xBg g) (j : Int) : 0 ≤ g 41 j ∧ g 41 j ≤ 65535 := h 41 (by decide) j
theorem xB42 {g : Nat → Int → Int} (h : xBg g) (j : Int) : 0 ≤ g 42 j ∧ g 42 j ≤ 65535 := h 42 (by decide) j
theorem xB43 {g : Nat → Int → Int} (h : xBg g) (j : Int) : 0 ≤ g 43 j ∧ g 43 j ≤ 40 := h 43 (by decide) j
theorem xB44 {g : Nat → Int → Int} (h : xBg g) (j : Int) : 0 ≤ g 44 j ∧ g 44 j ≤ 101 := h 44 (by decide) j
theorem xZ0 {z : Nat → Int} (h : xBz z) : 0 ≤ z 0 ∧ z 0 ≤ 999 := h 0 (by decide)
theorem xZ1 {z : Nat → Int} (h : xBz z) : 0 ≤ z 1 ∧ z 1 ≤ 4 := h 1 (by decide)
theorem xZ2 {z : Nat → Int} (h : xBz z) : 0 ≤ z 2 ∧ z 2 ≤ 200 := h 2 (by decide)
theorem xZ3 {z : Nat → Int} (h : xBz z) : 0 ≤ z 3 ∧ z 3 ≤ 50 := h 3 (by decide)
theorem xZ4 {z : Nat → Int} (h : xBz z) : 0 ≤ z 4 ∧ z 4 ≤ 1 := h 4 (by decide)
theorem xZ5 {z : Nat → Int} (h : xBz z) : 0 ≤ z 5 ∧ z 5 ≤ 200 := h 5 (by decide)
theorem xZ6 {z : Nat → Int} (h : xBz z) : 0 ≤ z 6 ∧ z 6 ≤ 1 := h 6 (by decide)
theorem xZ7 {z : Nat → Int} (h : xBz z) : 0 ≤ z 7 ∧ z 7 ≤ 1 := h 7 (by decide)
theorem xZ8 {z : Nat → Int} (h : xBz z) : 0 ≤ z 8 ∧ z 8 ≤ 4 := h 8 (by decide)
theorem xZ9 {z : Nat → Int} (h : xBz z) : 0 ≤ z 9 ∧ z 9 ≤ 200 := h 9 (by decide)
theorem xZ10 {z : Nat → Int} (h : xBz z) : 0 ≤ z 10 ∧ z 10 ≤ 200 := h 10 (by decide)
theorem xZ11 {z : Nat → Int} (h : xBz z) : 0 ≤ z 11 ∧ z 11 ≤ 4 := h 11 (by decide)
theorem xZ12 {z : Nat → Int} (h : xBz z) : 0 ≤ z 12 ∧ z 12 ≤ 200 := h 12 (by decide)
theorem xZ13 {z : Nat → Int} (h : xBz z) : 0 ≤ z 13 ∧ z 13 ≤ 50 := h 13 (by decide)
theorem xZ14 {z : Nat → Int} (h : xBz z) : 0 ≤ z 14 ∧ z 14 ≤ 1 := h 14 (by decide)
theorem xZ15 {z : Nat → Int} (h : xBz z) : 0 ≤ z 15 ∧ z 15 ≤ 200 := h 15 (by decide)
theorem xZ16 {z : Nat → Int} (h : xBz z) : 0 ≤ z 16 ∧ z 16 ≤ 100 := h 16 (by decide)
theorem xZ17 {z : Nat → Int} (h : xBz z) : 0 ≤ z 17 ∧ z 17 ≤ 400 := h 17 (by decide)
theorem xZ18 {z : Nat → Int} (h : xBz z) : -9223372036854775808 ≤ z 18 ∧ z 18 ≤ 9223372036854775807 := h 18 (by decide)
theorem xZ19 {z : Nat → Int} (h : xBz z) : -9223372036854775808 ≤ z 19 ∧ z 19 ≤ 9223372036854775807 := h 19 (by decide)
theorem xZ20 {z : Nat → Int} (h : xBz z) : 0 ≤ z 20 ∧ z 20 ≤ 1 := h 20 (by decide)
def mglo : Nat → Int := fun k => match k with
  | 1 => -128
  | 2 => 0
  | 3 => 0
  | 4 => 0
  | 5 => 0
  | 6 => 0
  | 7 => 0
  | 8 => 0
  | 9 => 0
  | 10 => -1
  | 11 => 0
  | 12 => 0
  | 13 => 0
  | 14 => 0
  | 15 => 0
  | 16 => 0
  | 17 => 0
  | 18 => 0
  | 19 => 0
  | 20 => 0
  | 21 => -1
  | 22 => 0
  | 23 => 0
  | 24 => -9223372036854775808
  | 25 => -9223372036854775808
  | 26 => -9223372036854775808
  | 27 => -2147483648
  | 28 => 0
  | _ => -9223372036854775808
def mghi : Nat → Int := fun k => match k with
  | 1 => 127
  | 2 => 9999
  | 3 => 9999
  | 4 => 1
  | 5 => 7
  | 6 => 5
  | 7 => 3
  | 8 => 500
  | 9 => 3
  | 10 => 399
  | 11 => 1
  | 12 => 1000000
  | 13 => 1000000
  | 14 => 5000
  | 15 => 9999
  | 16 => 99
  | 17 => 9
  | 18 => 999
  | 19 => 500
  | 20 => 9999
  | 21 => 999
  | 22 => 99
  | 23 => 100
  | 24 => 9223372036854775807
  | 25 => 9223372036854775807
  | 26 => 9223372036854775807
  | 27 => 2147483647
  | 28 => 40
  | _ => 9223372036854775807
def mzlo : Nat → Int := fun k => match k with
  | 0 => 0
  | 1 => 0
  | 2 => 0
  | 3 => 0
  | 4 => 0
  | 5 => 0
  | 6 => -2147483648
  | 7 => 0
  | 8 => 0
  | 9 => 0
  | 10 => -9223372036854775808
  | 11 => 0
  | 12 => 0
  | 13 => 0
  | 14 => 0
  | _ => -9223372036854775808
def mzhi : Nat → Int := fun k => match k with
  | 0 => 1
  | 1 => 200
  | 2 => 200
  | 3 => 200
  | 4 => 4
  | 5 => 200
  | 6 => 2147483647
  | 7 => 4
  | 8 => 200
  | 9 => 200
  | 10 => 9223372036854775807
  | 11 => 100
  | 12 => 999
  | 13 => 400
  | 14 => 1
  | _ => 9223372036854775807
def mBz (z : Nat → Int) : Prop := ∀ k : Nat, k < 15 → mzlo k ≤ z k ∧ z k ≤ mzhi k
def mBg (g : Nat → Int → Int) : Prop := ∀ k : Nat, k < 29 → ∀ j : Int, mglo k ≤ g k j ∧ g k j ≤ mghi k
theorem mBz_u {z : Nat → Int} (h : mBz z) (k : Nat) {v : Int} (hv : mzlo k ≤ v ∧ v ≤ mzhi k) : mBz (uZ z k v) := by
  intro j hj
  by_cases e : j = k
  · subst e
    have : uZ z j v j = v := uZ_s z j v
    rw [this]; exact hv
  · have : uZ z k v j = z j := uZ_n z v e
    rw [this]; exact h j hj
theorem mBg_u {g : Nat → Int → Int} (h : mBg g) (k : Nat) {f : Int → Int} (hf : ∀ j : Int, mglo k ≤ f j ∧ f j ≤ mghi k) : mBg (uZ g k f) := by
  intro j hj i
  by_cases e : j = k
  · subst e
    have : uZ g j f j = f := uZ_s g j f
    rw [this]; exact hf i
  · have : uZ g k f j = g j := uZ_n g f e
    rw [this]; exact h j hj i
theorem mBg_i {g : Nat → Int → Int} (h : mBg g) (k : Nat) (hk : k < 29) {i v : Int} (hv : mglo k ≤ v ∧ v ≤ mghi k) : mBg (uZ g k (uI (g k) i v)) := by
  refine mBg_u h k (fun j => ?_)
  unfold uI
  by_cases e : j = i
  · rw [if_pos e]; exact hv
  · rw [if_neg e]; exact h k hk j
theorem mB1 {g : Nat → Int → Int} (h : mBg g) (j : Int) : -128 ≤ g 1 j ∧ g 1 j ≤ 127 := h 1 (by decide) j
theorem mB2 {g : Nat → Int → Int} (h : mBg g) (j : Int) : 0 ≤ g 2 j ∧ g 2 j ≤ 9999 := h 2 (by decide) j
theorem mB3 {g : Nat → Int → Int} (h : mBg g) (j : Int) : 0 ≤ g 3 j ∧ g 3 j ≤ 9999 := h 3 (by decide) j
theorem mB4 {g : Nat → Int → Int} (h : mBg g) (j : Int) : 0 ≤ g 4 j ∧ g 4 j ≤ 1 := h 4 (by decide) j
theorem mB5 {g : Nat → Int → Int} (h : mBg g) (j : Int) : 0 ≤ g 5 j ∧ g 5 j ≤ 7 := h 5 (by decide) j
theorem mB6 {g : Nat → Int → Int} (h : mBg g) (j : Int) : 0 ≤ g 6 j ∧ g 6 j ≤ 5 := h 6 (by decide) j
theorem mB7 {g : Nat → Int → Int} (h : mBg g) (j : Int) : 0 ≤ g 7 j ∧ g 7 j ≤ 3 := h 7 (by decide) j
theorem mB8 {g : Nat → Int → Int} (h : mBg g) (j : Int) : 0 ≤ g 8 j ∧ g 8 j ≤ 500 := h 8 (by decide) j
theorem mB9 {g : Nat → Int → Int} (h : mBg g) (j : Int) : 0 ≤ g 9 j ∧ g 9 j ≤ 3 := h 9 (by decide) j
theorem mB10 {g : Nat → Int → Int} (h : mBg g) (j : Int) : -1 ≤ g 10 j ∧ g 10 j ≤ 399 := h 10 (by decide) j
theorem mB11 {g : Nat → Int → Int} (h : mBg g) (j : Int) : 0 ≤ g 11 j ∧ g 11 j ≤ 1 := h 11 (by decide) j
theorem mB12 {g : Nat → Int → Int} (h : mBg g) (j : Int) : 0 ≤ g 12 j ∧ g 12 j ≤ 1000000 := h 12 (by decide) j
theorem mB13 {g : Nat → Int → Int} (h : mBg g) (j : Int) : 0 ≤ g 13 j ∧ g 13 j ≤ 1000000 := h 13 (by decide) j
theorem mB14 {g : Nat → Int → Int} (h : mBg g) (j : Int) : 0 ≤ g 14 j ∧ g 14 j ≤ 5000 := h 14 (by decide) j
theorem mB15 {g : Nat → Int → Int} (h : mBg g) (j : Int) : 0 ≤ g 15 j ∧ g 15 j ≤ 9999 := h 15 (by decide) j
theorem mB16 {g : Nat → Int → Int} (h : mBg g) (j : Int) : 0 ≤ g 16 j ∧ g 16 j ≤ 99 := h 16 (by decide) j
theorem mB17 {g : Nat → Int → Int} (h : mBg g) (j : Int) : 0 ≤ g 17 j ∧ g 17 j ≤ 9 := h 17 (by decide) j
theorem mB18 {g : Nat → Int → Int} (h : mBg g) (j : Int) : 0 ≤ g 18 j ∧ g 18 j ≤ 999 := h 18 (by decide) j
theorem mB19 {g : Nat → Int → Int} (h : mBg g) (j : Int) : 0 ≤ g 19 j ∧ g 19 j ≤ 500 := h 19 (by decide) j
theorem mB20 {g : Nat → Int → Int} (h : mBg g) (j : Int) : 0 ≤ g 20 j ∧ g 20 j ≤ 9999 := h 20 (by decide) j
theorem mB21 {g : Nat → Int → Int} (h : mBg g) (j : Int) : -1 ≤ g 21 j ∧ g 21 j ≤ 999 := h 21 (by decide) j
theorem mB22 {g : Nat → Int → Int} (h : mBg g) (j : Int) : 0 ≤ g 22 j ∧ g 22 j ≤ 99 := h 22 (by decide) j
theorem mB23 {g : Nat → Int → Int} (h : mBg g) (j : Int) : 0 ≤ g 23 j ∧ g 23 j ≤ 100 := h 23 (by decide) j
theorem mB24 {g : Nat → Int → Int} (h : mBg g) (j : Int) : -9223372036854775808 ≤ g 24 j ∧ g 24 j ≤ 9223372036854775807 := h 24 (by decide) j
theorem mB25 {g : Nat → Int → Int} (h : mBg g) (j : Int) : -9223372036854775808 ≤ g 25 j ∧ g 25 j ≤ 9223372036854775807 := h 25 (by decide) j
theorem mB26 {g : Nat → Int → Int} (h : mBg g) (j : Int) : -9223372036854775808 ≤ g 26 j ∧ g 26 j ≤ 9223372036854775807 := h 26 (by decide) j
theorem mB27 {g : Nat → Int → Int} (h : mBg g) (j : Int) : -2147483648 ≤ g 27 j ∧ g 27 j ≤ 2147483647 := h 27 (by decide) j
theorem mB28 {g : Nat → Int → Int} (h : mBg g) (j : Int) : 0 ≤ g 28 j ∧ g 28 j ≤ 40 := h 28 (by decide) j
theorem mZ0 {z : Nat → Int} (h : mBz z) : 0 ≤ z 0 ∧ z 0 ≤ 1 := h 0 (by decide)
theorem mZ1 {z : Nat → Int} (h : mBz z) : 0 ≤ z 1 ∧ z 1 ≤ 200 := h 1 (by decide)
theorem mZ2 {z : Nat → Int} (h : mBz z) : 0 ≤ z 2 ∧ z 2 ≤ 200 := h 2 (by decide)
theorem mZ3 {z : Nat → Int} (h : mBz z) : 0 ≤ z 3 ∧ z 3 ≤ 200 := h 3 (by decide)
theorem mZ4 {z : Nat → Int} (h : mBz z) : 0 ≤ z 4 ∧ z 4 ≤ 4 := h 4 (by decide)
theorem mZ5 {z : Nat → Int} (h : mBz z) : 0 ≤ z 5 ∧ z 5 ≤ 200 := h 5 (by decide)
theorem mZ6 {z : Nat → Int} (h : mBz z) : -2147483648 ≤ z 6 ∧ z 6 ≤ 2147483647 := h 6 (by decide)
theorem mZ7 {z : Nat → Int} (h : mBz z) : 0 ≤ z 7 ∧ z 7 ≤ 4 := h 7 (by decide)
theorem mZ8 {z : Nat → Int} (h : mBz z) : 0 ≤ z 8 ∧ z 8 ≤ 200 := h 8 (by decide)
theorem mZ9 {z : Nat → Int} (h : mBz z) : 0 ≤ z 9 ∧ z 9 ≤ 200 := h 9 (by decide)
theorem mZ10 {z : Nat → Int} (h : mBz z) : -9223372036854775808 ≤ z 10 ∧ z 10 ≤ 9223372036854775807 := h 10 (by decide)
theorem mZ11 {z : Nat → Int} (h : mBz z) : 0 ≤ z 11 ∧ z 11 ≤ 100 := h 11 (by decide)
theorem mZ12 {z : Nat → Int} (h : mBz z) : 0 ≤ z 12 ∧ z 12 ≤ 999 := h 12 (by decide)
theorem mZ13 {z : Nat → Int} (h : mBz z) : 0 ≤ z 13 ∧ z 13 ≤ 400 := h 13 (by decide)
theorem mZ14 {z : Nat → Int} (h : mBz z) : 0 ≤ z 14 ∧ z 14 ≤ 1 := h 14 (by decide)
end
section
/-! bits: shifts and masks over integers -/
theorem iI_bn (p : Int) : (iI p).toBitVec.toNat = (p % 4294967296).toNat := by
  show (BitVec.ofInt 32 p).toNat = _
  rw [BitVec.toNat_ofInt]
  rfl
theorem iI_nat (n : Nat) : nI n = iI (n : Int) := (Int32.ofInt_eq_ofNat).symm
theorem lI_nat (n : Nat) : lN n = lI (n : Int) := (Int64.ofInt_eq_ofNat).symm
theorem iI_and {p m : Int} (k : Nat) (hm : (iI m).toBitVec.toNat = 2 ^ k - 1) (hk : k ≤ 31) : iI p &&& iI m = iI (p % 2 ^ k) := by
  rw [pk_and (iI p) k hm, iI_bn, iI_nat]
  congr 1
  have h2 : (2 : Int) ^ k ∣ 4294967296 := by
    have : (4294967296 : Int) = 2 ^ 32 := by decide
    rw [this]
    exact ⟨2 ^ (32 - k), by rw [← Int.pow_add]; congr 1; omega⟩
  rw [Int.natCast_emod, Int.toNat_of_nonneg (Int.emod_nonneg _ (by decide))]
  have e2 : ((2 ^ k : Nat) : Int) = (2 : Int) ^ k := by simp
  rw [e2]
  exact Int.emod_emod_of_dvd p h2
theorem iI_inj_bn {x y : Int32} (h : x.toBitVec.toNat = y.toBitVec.toNat) : x = y := by
  have : x.toBitVec = y.toBitVec := BitVec.eq_of_toNat_eq h
  exact Int32.toBitVec_inj.mp this
theorem iI_ushr {p q : Int} (k : Nat) (hs : (((iI q).toUInt32 &&& Int32.toUInt32 31).toBitVec % 32).toNat = k) : ((iI p).toUInt32 >>> ((iI q).toUInt32 &&& Int32.toUInt32 31)).toInt32 = iI (p % 4294967296 / 2 ^ k) := by
  apply iI_inj_bn
  rw [pk_ushr (iI p) (iI q) k hs, iI_bn, iI_bn]
  have h0 : 0 ≤ p % 4294967296 := Int.emod_nonneg _ (by decide)
  have h1 : p % 4294967296 < 4294967296 := Int.emod_lt_of_pos _ (by decide)
  have h2 : 0 ≤ p % 4294967296 / 2 ^ k := Int.ediv_nonneg h0 (Int.pow_nonneg (by decide))
  have h3 : p % 4294967296 / 2 ^ k ≤ p % 4294967296 := Int.ediv_le_self _ h0
  rw [Int.emod_eq_of_lt h2 (by omega)]
  apply Int.ofNat.inj
  show (((p % 4294967296).toNat / 2 ^ k : Nat) : Int) = ((p % 4294967296 / 2 ^ k).toNat : Int)
  rw [Int.natCast_ediv, Int.toNat_of_nonneg h0, Int.toNat_of_nonneg h2]
  simp
theorem iI_shr {p q : Int} (hp : iR p) (k : Nat) (hs : ((iI q &&& 31).toBitVec.smod 32).toNat = k) : iI p >>> (iI q &&& 31) = iI (p / 2 ^ k) := by
  apply Int32.toInt_inj.mp
  rw [pk_shr (iI p) (iI q &&& 31) k hs, iI_toInt hp, Int.shiftRight_eq_div_pow]
  have e2 : ((2 ^ k : Nat) : Int) = (2 : Int) ^ k := by simp
  rw [e2, iI_toInt]
  have hk : (0 : Int) < 2 ^ k := Int.pow_pos (by decide)
  have h1 : -2147483648 ≤ p / 2 ^ k := by
    rw [Int.le_ediv_iff_mul_le hk]
    have : (1 : Int) ≤ 2 ^ k := hk
    have : (-2147483648 : Int) * 2 ^ k ≤ -2147483648 * 1 := Int.mul_le_mul_of_nonpos_left (by decide) this
    have := hp.1
    omega
  have h2 : p / 2 ^ k ≤ 2147483647 := by
    have h3 : p / 2 ^ k < 2147483648 := by
      rw [Int.ediv_lt_iff_lt_mul hk]
      have : (1 : Int) ≤ 2 ^ k := hk
      have : (2147483648 : Int) * 1 ≤ 2147483648 * 2 ^ k := Int.mul_le_mul_of_nonneg_left this (by decide)
      have := hp.2
      omega
    omega
  exact ⟨h1, h2⟩
theorem iI_b8 (p : Int) : (iI p).toInt8.toInt32 = iI (p.bmod 256) := by
  apply Int32.toInt_inj.mp
  rw [Int8.toInt_toInt32, Int32.toInt_toInt8]
  have e : (iI p).toInt = p.bmod 4294967296 := Int32.toInt_ofInt
  rw [e]
  have b1 : (p.bmod 4294967296).bmod 256 = p.bmod 256 := Int.bmod_bmod_of_dvd (show 256 ∣ 4294967296 by decide)
  show (p.bmod 4294967296).bmod 256 = _
  rw [b1, iI_toInt]
  have h1 := Int.le_bmod (x := p) (m := 256) (by decide)
  have h2 := Int.bmod_lt (x := p) (m := 256) (by decide)
  constructor <;> omega
theorem iI_nb8 {p : Int} (h : -128 ≤ p ∧ p ≤ 127) : vp_nar .byte (iI p) = iI p := by
  rw [vp_nar_byte, iI_b8]
  congr 1
  exact Int.bmod_eq_of_le (by omega) (by omega)
theorem iI_orS {a b : Int} (k : Nat) (ha : 0 ≤ a) (hb : 0 ≤ b) (h : b < 2 ^ k) : iI (a * 2 ^ k) ||| iI b = iI (a * 2 ^ k + b) := by
  obtain ⟨n, rfl⟩ := Int.eq_ofNat_of_zero_le ha
  obtain ⟨q, rfl⟩ := Int.eq_ofNat_of_zero_le hb
  have hq : q < 2 ^ k := by
    have e2 : ((2 ^ k : Nat) : Int) = (2 : Int) ^ k := by simp
    omega
  have e1 : (n : Int) * 2 ^ k = ((2 ^ k * n : Nat) : Int) := by
    simp [Int.mul_comm]
  rw [e1, ← iI_nat, ← iI_nat, show ((2 ^ k * n : Nat) : Int) + (q : Int) = ((2 ^ k * n + q : Nat) : Int) by simp, ← iI_nat]
  apply Int32.toBitVec_inj.mp
  show BitVec.ofNat 32 _ ||| BitVec.ofNat 32 _ = BitVec.ofNat 32 _
  rw [Nat.two_pow_add_eq_or_of_lt hq]
  apply BitVec.eq_of_getLsbD_eq
  intro i hi
  simp [hi]
section RB
variable {p : Program} {l : Launch} {e : Env} {R : Room} {s : State} {m : MethodId} {args : Array Value} {below : List Frame} {meth : Method} {c : Code} {H : Heap} {locs : List Loc} {cells slots : Nat} {Q : State → Prop}
variable {cc : ByteArray} {pc : Nat} {ls : Array Slot} {rest : List Value}
theorem r_iand (hx : p.tables.exec = Jvm.exec) (hb : c.code = cc) {a q : Int} (k : Nat) (hdg : decode cc pc = .ok (.iand, 1)) (hm : (iI q).toBitVec.toNat = 2 ^ k - 1) (hk : k ≤ 31) (kk : W p l e R s m args below meth c H locs cells slots Q (F0 m (pc + 1) ls (vI (a % 2 ^ k) :: rest))) : W p l e R s m args below meth c H locs cells slots Q (F0 m pc ls (vI q :: vI a :: rest)) := lv_iand hx hb hdg (by rw [iI_and k hm hk]; exact kk)
theorem r_iushr (hx : p.tables.exec = Jvm.exec) (hb : c.code = cc) {a q : Int} (k : Nat) (hdg : decode cc pc = .ok (.iushr, 1)) (hs : (((iI q).toUInt32 &&& Int32.toUInt32 31).toBitVec % 32).toNat = k) (kk : W p l e R s m args below meth c H locs cells slots Q (F0 m (pc + 1) ls (vI (a % 4294967296 / 2 ^ k) :: rest))) : W p l e R s m args below meth c H locs cells slots Q (F0 m pc ls (vI q :: vI a :: rest)) := lv_iushr hx hb hdg (iI_ushr k hs) kk
theorem r_ishr (hx : p.tables.exec = Jvm.exec) (hb : c.code = cc) {a q : Int} (k : Nat) (hdg : decode cc pc = .ok (.ishr, 1)) (ha : iR a) (hs : ((iI q &&& 31).toBitVec.smod 32).toNat = k) (kk : W p l e R s m args below meth c H locs cells slots Q (F0 m (pc + 1) ls (vI (a / 2 ^ k) :: rest))) : W p l e R s m args below meth c H locs cells slots Q (F0 m pc ls (vI q :: vI a :: rest)) := lv_ishr hx hb hdg (by rw [iI_shr ha k hs]; exact kk)
theorem r_i2b (hx : p.tables.exec = Jvm.exec) (hb : c.code = cc) {a : Int} (hdg : decode cc pc = .ok (.i2b, 1)) (kk : W p l e R s m args below meth c H locs cells slots Q (F0 m (pc + 1) ls (vI (a.bmod 256) :: rest))) : W p l e R s m args below meth c H locs cells slots Q (F0 m pc ls (vI a :: rest)) := lv_i2b hx hb hdg (iI_b8 a) kk
end RB
end
section
/-! Math.max, min, abs: the kit rows, over integers -/
set_option maxRecDepth 20000 in
theorem ki_J9 : Cond.initialized "java/lang/Math" ∈ wAll := wAll_t (i := 16) rfl rfl
set_option maxRecDepth 20000 in
theorem kM_max_s : Cond.static ⟨"java/lang/Math", "max", "(II)I"⟩ ∈ wAll := wAll_t (i := 537) rfl rfl
set_option maxRecDepth 20000 in
theorem kM_max_c : Cond.code ⟨"java/lang/Math", "max", "(II)I"⟩ prog_14_method_65_code 2 (some .int) ∈ wAll := wAll_t (i := 538) rfl rfl
set_option maxRecDepth 20000 in
theorem kM_min_s : Cond.static ⟨"java/lang/Math", "min", "(II)I"⟩ ∈ wAll := wAll_t (i := 540) rfl rfl
set_option maxRecDepth 20000 in
theorem kM_min_c : Cond.code ⟨"java/lang/Math", "min", "(II)I"⟩ prog_14_method_69_code 2 (some .int) ∈ wAll := wAll_t (i := 541) rfl rfl
set_option maxRecDepth 20000 in
theorem kM_maxL_s : Cond.static ⟨"java/lang/Math", "max", "(JJ)J"⟩ ∈ wAll := wAll_t (i := 761) rfl rfl
set_option maxRecDepth 20000 in
theorem kM_maxL_c : Cond.code ⟨"java/lang/Math", "max", "(JJ)J"⟩ prog_14_method_66_code 4 (some .long) ∈ wAll := wAll_t (i := 762) rfl rfl
set_option maxRecDepth 20000 in
theorem kM_absL_s : Cond.static ⟨"java/lang/Math", "abs", "(J)J"⟩ ∈ wAll := wAll_t (i := 768) rfl rfl
set_option maxRecDepth 20000 in
theorem kM_absL_c : Cond.code ⟨"java/lang/Math", "abs", "(J)J"⟩ prog_14_method_61_code 2 (some .long) ∈ wAll := wAll_t (i := 769) rfl rfl
section RM
variable {p : Program} {l : Launch} {e : Env} {R : Room} {s : State} {m : MethodId} {args : Array Value} {below : List Frame} {meth : Method} {c : Code} {H : Heap} {locs : List Loc} {cells slots : Nat} {Q : State → Prop}
variable {cc : ByteArray} {pc nL : Nat} {ls : Array Slot} {rest : List Value} {D : va_G} {cy : Nat → ClassId} {own : String}
theorem r_mmax (C : cx p s m args meth c cc nL own D cy) {idx : Nat} (hlk : .methodLink own idx ⟨"java/lang/Math", "max", "(II)I"⟩ ∈ wAll) (hl : ls.size = nL) (hf : 1 ≤ R.frames) (hlo : (rest.map fun v => v.category).sum + 13 ≤ R.locals) (hc : cells ≤ R.cells ∧ slots ≤ R.slots) {a b : Int} (ha : iR a) (hb2 : iR b) (hdg : decode cc pc = .ok (.invokestatic idx, 3)) (kk : ∀ v : Int, (v = a ∨ v = b) ∧ a ≤ v ∧ b ≤ v → W p l e R s m args below meth c H locs cells slots Q (F0 m (pc + 3) ls (vI v :: rest))) : W p l e R s m args below meth c H locs cells slots Q (F0 m pc ls (vI b :: vI a :: rest)) := by
  refine va_mmax C.1 C.2.1 (C.2.2.1.trans hl.symm) C.2.2.2.1 (C.2.2.2.2.1 _ hlk) (C.2.2.2.2.1 _ kM_max_s) (C.2.2.2.2.1 _ ki_J9) (C.2.2.2.2.1 _ kM_max_c) hf hlo hc.1 hc.2 hdg ?_
  by_cases h : a < b
  · rw [if_pos ((iI_lt ha hb2).mpr h)]; exact kk b (by omega)
  · rw [if_neg (fun z => h ((iI_lt ha hb2).mp z))]; exact kk a (by omega)
theorem r_mmin (C : cx p s m args meth c cc nL own D cy) {idx : Nat} (hlk : .methodLink own idx ⟨"java/lang/Math", "min", "(II)I"⟩ ∈ wAll) (hl : ls.size = nL) (hf : 1 ≤ R.frames) (hlo : (rest.map fun v => v.category).sum + 13 ≤ R.locals) (hc : cells ≤ R.cells ∧ slots ≤ R.slots) {a b : Int} (ha : iR a) (hb2 : iR b) (hdg : decode cc pc = .ok (.invokestatic idx, 3)) (kk : ∀ v : Int, (v = a ∨ v = b) ∧ v ≤ a ∧ v ≤ b → W p l e R s m args below meth c H locs cells slots Q (F0 m (pc + 3) ls (vI v :: rest))) : W p l e R s m args below meth c H locs cells slots Q (F0 m pc ls (vI b :: vI a :: rest)) := by
  refine va_mmin C.1 C.2.1 (C.2.2.1.trans hl.symm) C.2.2.2.1 (C.2.2.2.2.1 _ hlk) (C.2.2.2.2.1 _ kM_min_s) (C.2.2.2.2.1 _ ki_J9) (C.2.2.2.2.1 _ kM_min_c) hf hlo hc.1 hc.2 hdg ?_
  by_cases h : b < a
  · rw [if_pos ((iI_lt hb2 ha).mpr h)]; exact kk b (by omega)
  · rw [if_neg (fun z => h ((iI_lt hb2 ha).mp z))]; exact kk a (by omega)
theorem r_mmaxL (C : cx p s m args meth c cc nL own D cy) {idx : Nat} (hlk : .methodLink own idx ⟨"java/lang/Math", "max", "(JJ)J"⟩ ∈ wAll) (hl : ls.size = nL) (hf : 1 ≤ R.frames) (hlo : (rest.map fun v => v.category).sum + 15 ≤ R.locals) (hc : cells ≤ R.cells ∧ slots ≤ R.slots) {a b : Int} (ha : lR a) (hb2 : lR b) (hdg : decode cc pc = .ok (.invokestatic idx, 3)) (kk : ∀ v : Int, (v = a ∨ v = b) ∧ a ≤ v ∧ b ≤ v → W p l e R s m args below meth c H locs cells slots Q (F0 m (pc + 3) ls (vL v :: rest))) : W p l e R s m args below meth c H locs cells slots Q (F0 m pc ls (vL b :: vL a :: rest)) := by
  refine va_mmax_long C.1 C.2.1 (C.2.2.1.trans hl.symm) C.2.2.2.1 (C.2.2.2.2.1 _ hlk) (C.2.2.2.2.1 _ kM_maxL_s) (C.2.2.2.2.1 _ ki_J9) (C.2.2.2.2.1 _ kM_maxL_c) hf hlo hc.1 hc.2 hdg ?_
  by_cases h : b < a
  · rw [if_pos ((lI_lt hb2 ha).mpr h)]; exact kk a (by omega)
  · rw [if_neg (fun z => h ((lI_lt hb2 ha).mp z))]; exact kk b (by omega)
theorem r_mabsL (C : cx p s m args meth c cc nL own D cy) {idx : Nat} (hlk : .methodLink own idx ⟨"java/lang/Math", "abs", "(J)J"⟩ ∈ wAll) (hl : ls.size = nL) (hf : 1 ≤ R.frames) (hlo : (rest.map fun v => v.category).sum + 13 ≤ R.locals) (hc : cells ≤ R.cells ∧ slots ≤ R.slots) {a : Int} (ha : lR a) (hdg : decode cc pc = .ok (.invokestatic idx, 3)) (kk : ∀ v : Int, (0 ≤ a ∧ v = a) ∨ (a ≤ 0 ∧ v = -a) → W p l e R s m args below meth c H locs cells slots Q (F0 m (pc + 3) ls (vL v :: rest))) : W p l e R s m args below meth c H locs cells slots Q (F0 m pc ls (vL a :: rest)) := by
  refine va_mabs_long C.1 C.2.1 (C.2.2.1.trans hl.symm) C.2.2.2.1 (C.2.2.2.2.1 _ hlk) (C.2.2.2.2.1 _ kM_absL_s) (C.2.2.2.2.1 _ ki_J9) (C.2.2.2.2.1 _ kM_absL_c) hf hlo hc.1 hc.2 hdg ?_
  by_cases h : 0 < a
  · rw [if_pos (show (0 : Int64) < lI a from (lI_lt (a := 0) ⟨by decide, by decide⟩ ha).mpr h)]; exact kk a (by omega)
  · rw [if_neg (show ¬ (0 : Int64) < lI a from fun z => h ((lI_lt (a := 0) ⟨by decide, by decide⟩ ha).mp z))]; rw [lI_neg]; exact kk (-a) (by omega)
end RM
end
section
/-! switches over integers -/
section RS
variable {p : Program} {l : Launch} {e : Env} {R : Room} {s : State} {m : MethodId} {args : Array Value} {below : List Frame} {meth : Method} {c : Code} {H : Heap} {locs : List Loc} {cells slots : Nat} {Q : State → Prop}
variable {cc : ByteArray} {pc : Nat} {ls : Array Slot} {rest : List Value}
theorem r_tsI (hx : p.tables.exec = Jvm.exec) (hb : c.code = cc) {dflt lo hi off a k : Int} {offs : Array Int} {len tgt : Nat} (hdg : decode cc pc = .ok (.tableswitch dflt lo hi offs, len)) (hR : iR a) (ha : a = k) (hk : lo ≤ k ∧ k ≤ hi) (ho : offs[(k - lo).toNat]? = some off) (ht : (pc : Int) + off = (tgt : Int)) (kk : W p l e R s m args below meth c H locs cells slots Q (F0 m tgt ls rest)) : W p l e R s m args below meth c H locs cells slots Q (F0 m pc ls (vI a :: rest)) :=
  lv_tableIn hx hb hdg (by rw [iI_toInt hR]; omega) (by rw [iI_toInt hR]; omega) (by rw [iI_toInt hR, ha]; exact ho) ht kk
theorem r_tsO (hx : p.tables.exec = Jvm.exec) (hb : c.code = cc) {dflt lo hi a : Int} {offs : Array Int} {len tgt : Nat} (hdg : decode cc pc = .ok (.tableswitch dflt lo hi offs, len)) (hR : iR a) (h : a < lo ∨ hi < a) (ht : (pc : Int) + dflt = (tgt : Int)) (kk : W p l e R s m args below meth c H locs cells slots Q (F0 m tgt ls rest)) : W p l e R s m args below meth c H locs cells slots Q (F0 m pc ls (vI a :: rest)) :=
  lv_tableOut hx hb hdg (by rw [iI_toInt hR]; exact h) ht kk
end RS
end
section
abbrev rm_X9_isBelow : Room := { frames := 0, cells := 0, slots := 0, locals := 0 }
set_option maxHeartbeats 4000000 in
set_option maxRecDepth 100000 in
theorem ct_X9_isBelow (l : Launch) (D : va_G) (cy : Nat → ClassId) (a : Nat → Nat) (z : Nat → Int) (g : Nat → Int → Int) (p0 p1 : Int) (h0 : iR p0) (h1 : iR p1) : MI l yX9_isBelow cX9_isBelow 2 .boolean (rm_X9_isBelow) D cy (xw cy a z g) [vI p0, vI p1] (fun (v : Int) (u : Unit) => (v = 1 ∧ 0 ≤ p0 ∧ p0 < p1) ∨ (v = 0 ∧ ¬ (0 ≤ p0 ∧ p0 < p1))) (fun _ => xw cy a z g) 0 0 := by
  refine go_i (by decide +kernel) (Nat.le_of_ble_eq_true rfl) (Or.inr (fun v u h => nb01 (by omega))) ?_
  intro p e s m args below meth c Q A ls C hnm hA w hl hend
  have hx := C.1
  have hb := C.2.1
  replace hl : lv_has ls 2 [(0, vI p0), (1, vI p1)] := hl
  refine lv_iload_n hx hb dX9_isBelow_0 rfl (lv_at hl 0 rfl) ?_
  refine r_if_lt (tgt := 13) hx hb dX9_isBelow_1 (by decide) (by omega) (fun c1 => ?_) (fun c1 => ?_)
  · skip
    refine r_iconst hx hb dX9_isBelow_13 ?_
    exact hend 0 () _ _ _ _ dX9_isBelow_14 w (by omega)
  · skip
    refine lv_iload_n hx hb dX9_isBelow_4 rfl (lv_at hl 0 rfl) ?_
    refine lv_iload_n hx hb dX9_isBelow_5 rfl (lv_at hl 1 rfl) ?_
    refine r_icmp_ge (tgt := 13) hx hb dX9_isBelow_6 (by decide) (by omega) (by omega) (fun c6 => ?_) (fun c6 => ?_)
    · skip
      refine r_iconst hx hb dX9_isBelow_13 ?_
      exact hend 0 () _ _ _ _ dX9_isBelow_14 w (by omega)
    · skip
      refine r_iconst hx hb dX9_isBelow_9 ?_
      refine lv_goto (tgt := 14) hx hb dX9_isBelow_10 (by decide) ?_
      exact hend 1 () _ _ _ _ dX9_isBelow_14 w (by omega)

abbrev rm_X0_wantPlace : Room := { frames := 0, cells := 0, slots := 0, locals := 0 }
set_option maxHeartbeats 4000000 in
set_option maxRecDepth 100000 in
theorem ct_X0_wantPlace (l : Launch) (D : va_G) (cy : Nat → ClassId) (a : Nat → Nat) (z : Nat → Int) (g : Nat → Int → Int) (p0 p1 p2 : Int)  : MI l yX0_wantPlace cX0_wantPlace 3 .int (rm_X0_wantPlace) D cy (xw cy a z g) [vI p0, vI p1, vI p2] (fun (v : Int) (u : Unit) => v = (p0 * 4 + p1) * 4 + p2) (fun _ => xw cy a z g) 0 0 := by
  refine go_i (by decide +kernel) (Nat.le_of_ble_eq_true rfl) (Or.inl rfl) ?_
  intro p e s m args below meth c Q A ls C hnm hA w hl hend
  have hx := C.1
  have hb := C.2.1
  replace hl : lv_has ls 3 [(0, vI p0), (1, vI p1), (2, vI p2)] := hl
  refine lv_iload_n hx hb dX0_wantPlace_0 rfl (lv_at hl 0 rfl) ?_
  refine r_iconst hx hb dX0_wantPlace_1 ?_
  refine r_imul hx hb dX0_wantPlace_2 ?_
  refine lv_iload_n hx hb dX0_wantPlace_3 rfl (lv_at hl 1 rfl) ?_
  refine r_iadd hx hb dX0_wantPlace_4 ?_
  refine r_iconst hx hb dX0_wantPlace_5 ?_
  refine r_imul hx hb dX0_wantPlace_6 ?_
  refine lv_iload_n hx hb dX0_wantPlace_7 rfl (lv_at hl 2 rfl) ?_
  refine r_iadd hx hb dX0_wantPlace_8 ?_
  exact hend ((((p0 * 4) + p1) * 4) + p2) () _ _ _ _ dX0_wantPlace_9 w (by rfl)

abbrev rm_X7_countsAsOf : Room := { frames := 0, cells := 0, slots := 0, locals := 0 }
set_option maxHeartbeats 4000000 in
set_option maxRecDepth 100000 in
theorem ct_X7_countsAsOf (l : Launch) (D : va_G) (cy : Nat → ClassId) (a : Nat → Nat) (z : Nat → Int) (g : Nat → Int → Int) (p0 p1 : Int) (hz : xBz z) (hg : xBg g) (h0 : 0 ≤ p0 ∧ p0 < 400) (h1 : iR p1) : MI l yX7_countsAsOf cX7_countsAsOf 3 .boolean (rm_X7_countsAsOf) D cy (xw cy a z g) [.ref (a 20), vI p0, vI p1] (fun (v : Int) (u : Unit) => (v = 1 ∧ g 23 p0 ≤ p1 ∧ (g 26 p0 = -1 ∨ p1 < g 26 p0)) ∨ (v = 0 ∧ ¬ (g 23 p0 ≤ p1 ∧ (g 26 p0 = -1 ∨ p1 < g 26 p0)))) (fun _ => xw cy a z g) 0 0 := by
  refine go_i (by decide +kernel) (Nat.le_of_ble_eq_true rfl) (Or.inr (fun v u h => nb01 (by omega))) ?_
  intro p e s m args below meth c Q A ls C hnm hA w hl hend
  have hx := C.1
  have hb := C.2.1
  replace hl : lv_has ls 3 [(0, .ref (a 20)), (1, vI p0), (2, vI p1)] := hl
  refine lv_aload_n hx hb dX7_countsAsOf_0 rfl (lv_at hl 0 rfl) ?_
  refine r_get C w 20 (v := .ref (a 23)) rfl rfl 2 (by decide) inX7 kf_X7_18 rfl dX7_countsAsOf_1 ?_
  refine lv_iload_n hx hb dX7_countsAsOf_4 rfl (lv_at hl 1 rfl) ?_
  refine r_iald C w 23 (f := (g 23)) rfl (by omega) (by omega) (by decide) dX7_countsAsOf_5 ?_
  have qg1 := xB23 hg p0
  refine lv_iload_n hx hb dX7_countsAsOf_6 rfl (lv_at hl 2 rfl) ?_
  refine r_icmp_gt (tgt := 34) hx hb dX7_countsAsOf_7 (by decide) (by omega) (by omega) (fun c7 => ?_) (fun c7 => ?_)
  · skip
    refine r_iconst hx hb dX7_countsAsOf_34 ?_
    exact hend 0 () _ _ _ _ dX7_countsAsOf_35 w (by omega)
  · skip
    refine lv_aload_n hx hb dX7_countsAsOf_10 rfl (lv_at hl 0 rfl) ?_
    refine r_get C w 20 (v := .ref (a 26)) rfl rfl 5 (by decide) inX7 kf_X7_27 rfl dX7_countsAsOf_11 ?_
    refine lv_iload_n hx hb dX7_countsAsOf_14 rfl (lv_at hl 1 rfl) ?_
    refine r_iald C w 26 (f := (g 26)) rfl (by omega) (by omega) (by decide) dX7_countsAsOf_15 ?_
    have qg2 := xB26 hg p0
    refine r_iconst hx hb dX7_countsAsOf_16 ?_
    refine r_icmp_eq (tgt := 30) hx hb dX7_countsAsOf_17 (by decide) (by omega) (by omega) (fun c17 => ?_) (fun c17 => ?_)
    · skip
      refine r_iconst hx hb dX7_countsAsOf_30 ?_
      refine lv_goto (tgt := 35) hx hb dX7_countsAsOf_31 (by decide) ?_
      exact hend 1 () _ _ _ _ dX7_countsAsOf_35 w (by omega)
    · skip
      refine lv_aload_n hx hb dX7_countsAsOf_20 rfl (lv_at hl 0 rfl) ?_
      refine r_get C w 20 (v := .ref (a 26)) rfl rfl 5 (by decide) inX7 kf_X7_27 rfl dX7_countsAsOf_21 ?_
      refine lv_iload_n hx hb dX7_countsAsOf_24 rfl (lv_at hl 1 rfl) ?_
      refine r_iald C w 26 (f := (g 26)) rfl (by omega) (by omega) (by decide) dX7_countsAsOf_25 ?_
      have qg3 := xB26 hg p0
      refine lv_iload_n hx hb dX7_countsAsOf_26 rfl (lv_at hl 2 rfl) ?_
      refine r_icmp_le (tgt := 34) hx hb dX7_countsAsOf_27 (by decide) (by omega) (by omega) (fun c27 => ?_) (fun c27 => ?_)
      · skip
        refine r_iconst hx hb dX7_countsAsOf_34 ?_
        exact hend 0 () _ _ _ _ dX7_countsAsOf_35 w (by omega)
      · skip
        refine r_iconst hx hb dX7_countsAsOf_30 ?_
        refine lv_goto (tgt := 35) hx hb dX7_countsAsOf_31 (by decide) ?_
        exact hend 1 () _ _ _ _ dX7_countsAsOf_35 w (by omega)

abbrev rm_X8_byteAt : Room := { frames := 1, cells := 0, slots := 0, locals := 21 }
set_option maxHeartbeats 4000000 in
set_option maxRecDepth 100000 in
theorem ct_X8_byteAt (l : Launch) (D : va_G) (cy : Nat → ClassId) (a : Nat → Nat) (z : Nat → Int) (g : Nat → Int → Int) (p0 : Int) (hz : xBz z) (hg : xBg g) (h0 : iR p0) : MI l yX8_byteAt cX8_byteAt 2 .int (rm_X8_byteAt) D cy (xw cy a z g) [.ref (a 1), vI p0] (fun (v : Int) (u : Unit) => (0 ≤ p0 ∧ p0 < z 2 ∧ v = g 2 p0) ∨ (¬ (0 ≤ p0 ∧ p0 < z 2) ∧ v = 0)) (fun _ => xw cy a z g) 0 0 := by
  refine go_i (by decide +kernel) (Nat.le_of_ble_eq_true rfl) (Or.inl rfl) ?_
  intro p e s m args below meth c Q A ls C hnm hA w hl hend
  have hx := C.1
  have hb := C.2.1
  replace hl : lv_has ls 2 [(0, .ref (a 1)), (1, vI p0)] := hl
  refine lv_iload_n hx hb dX8_byteAt_0 rfl (lv_at hl 1 rfl) ?_
  refine lv_aload_n hx hb dX8_byteAt_1 rfl (lv_at hl 0 rfl) ?_
  refine r_get C w 1 (v := vI (z 2)) rfl rfl 1 (by decide) inX8 kf_X8_15 rfl dX8_byteAt_2 ?_
  have qz1 := xZ2 hz
  refine cNSI C w hA (ct_X9_isBelow l D cy a z g p0 (z 2) (by show iR p0; omega) (by show iR (z 2); omega)) ok_X9_isBelow kt_X8_19 ⟨rfl, rfl⟩ ⟨by decide, by decide⟩ ⟨by decide, by decide⟩ rfl hl.1 rfl (Nat.le_of_ble_eq_true rfl) dX8_byteAt_5 (fun rv_1 uv_1 H locs w hp_1 => ?_)
  replace hp_1 : (rv_1 = 1 ∧ 0 ≤ p0 ∧ p0 < (z 2)) ∨ (rv_1 = 0 ∧ ¬ (0 ≤ p0 ∧ p0 < (z 2))) := hp_1
  replace w : wd D A s.heap (xw cy a z g) H locs := w
  refine r_if_eq (tgt := 20) hx hb dX8_byteAt_8 (by decide) (by omega) (fun c8 => ?_) (fun c8 => ?_)
  · skip
    refine r_iconst hx hb dX8_byteAt_20 ?_
    exact hend 0 () _ _ _ _ dX8_byteAt_21 w (by omega)
  · skip
    refine lv_aload_n hx hb dX8_byteAt_11 rfl (lv_at hl 0 rfl) ?_
    refine r_get C w 1 (v := .ref (a 2)) rfl rfl 0 (by decide) inX8 kf_X8_9 rfl dX8_byteAt_12 ?_
    refine lv_iload_n hx hb dX8_byteAt_15 rfl (lv_at hl 1 rfl) ?_
    refine r_iald C w 2 (f := (g 2)) rfl (by omega) (by omega) (by decide) dX8_byteAt_16 ?_
    have qg2 := xB2 hg p0
    refine lv_goto (tgt := 21) hx hb dX8_byteAt_17 (by decide) ?_
    exact hend ((g 2) p0) () _ _ _ _ dX8_byteAt_21 w (by omega)

abbrev rm_X8_pairAt : Room := { frames := 2, cells := 0, slots := 0, locals := 42 }
set_option maxHeartbeats 4000000 in
set_option maxRecDepth 100000 in
theorem ct_X8_pairAt (l : Launch) (D : va_G) (cy : Nat → ClassId) (a : Nat → Nat) (z : Nat → Int) (g : Nat → Int → Int) (p0 : Int) (hz : xBz z) (hg : xBg g) (h0 : 0 ≤ p0 ∧ p0 + 1 < z 2) : MI l yX8_pairAt cX8_pairAt 2 .int (rm_X8_pairAt) D cy (xw cy a z g) [.ref (a 1), vI p0] (fun (v : Int) (u : Unit) => v = g 2 p0 * 256 + g 2 (p0 + 1)) (fun _ => xw cy a z g) 0 0 := by
  refine go_i (by decide +kernel) (Nat.le_of_ble_eq_true rfl) (Or.inl rfl) ?_
  intro p e s m args below meth c Q A ls C hnm hA w hl hend
  have hx := C.1
  have hb := C.2.1
  have b2 := xZ2 hz
  replace hl : lv_has ls 2 [(0, .ref (a 1)), (1, vI p0)] := hl
  refine lv_aload_n hx hb dX8_pairAt_0 rfl (lv_at hl 0 rfl) ?_
  refine lv_iload_n hx hb dX8_pairAt_1 rfl (lv_at hl 1 rfl) ?_
  refine cVI C w hA (ct_X8_byteAt l D cy a z g p0 hz hg (by show iR p0; omega)) ok_X8_byteAt km_X8_23 ⟨rfl, rfl⟩ ⟨by decide, by decide⟩ ⟨by decide, by decide⟩ rfl 1 rfl rfl hl.1 rfl (Nat.le_of_ble_eq_true rfl) dX8_pairAt_2 (fun rv_1 uv_1 H locs w hp_1 => ?_)
  replace hp_1 : (0 ≤ p0 ∧ p0 < (z 2) ∧ rv_1 = (g 2) p0) ∨ (¬ (0 ≤ p0 ∧ p0 < (z 2)) ∧ rv_1 = 0) := hp_1
  replace w : wd D A s.heap (xw cy a z g) H locs := w
  refine r_sipush hx hb dX8_pairAt_5 (by decide) ?_
  refine r_imul hx hb dX8_pairAt_8 ?_
  refine lv_aload_n hx hb dX8_pairAt_9 rfl (lv_at hl 0 rfl) ?_
  refine lv_iload_n hx hb dX8_pairAt_10 rfl (lv_at hl 1 rfl) ?_
  refine r_iconst hx hb dX8_pairAt_11 ?_
  refine r_iadd hx hb dX8_pairAt_12 ?_
  refine cVI C w hA (ct_X8_byteAt l D cy a z g (p0 + 1) hz hg (by show iR (p0 + 1); omega)) ok_X8_byteAt km_X8_23 ⟨rfl, rfl⟩ ⟨by decide, by decide⟩ ⟨by decide, by decide⟩ rfl 1 rfl rfl hl.1 rfl (Nat.le_of_ble_eq_true rfl) dX8_pairAt_13 (fun rv_2 uv_2 H locs w hp_2 => ?_)
  replace hp_2 : (0 ≤ (p0 + 1) ∧ (p0 + 1) < (z 2) ∧ rv_2 = (g 2) (p0 + 1)) ∨ (¬ (0 ≤ (p0 + 1) ∧ (p0 + 1) < (z 2)) ∧ rv_2 = 0) := hp_2
  replace w : wd D A s.heap (xw cy a z g) H locs := w
  refine r_iadd hx hb dX8_pairAt_16 ?_
  exact hend ((rv_1 * 256) + rv_2) () _ _ _ _ dX8_pairAt_17 w (by rw [show rv_1 = g 2 p0 by omega, show rv_2 = g 2 (p0 + 1) by omega])

def tp4 (f : Int → Int) (n p : Int) : Int → Int := uI (uI (uI (uI f n (p % 4294967296 / 2 ^ 24)) (n + 1) (p % 4294967296 / 2 ^ 16 % 2 ^ 8)) (n + 2) (p % 4294967296 / 2 ^ 8 % 2 ^ 8)) (n + 3) (p % 2 ^ 8)
abbrev rm_X8_append : Room := { frames := 0, cells := 0, slots := 0, locals := 0 }
set_option maxHeartbeats 4000000 in
set_option maxRecDepth 100000 in
theorem ct_X8_append (l : Launch) (D : va_G) (cy : Nat → ClassId) (a : Nat → Nat) (z : Nat → Int) (g : Nat → Int → Int) (p0 : Int) (hz : xBz z) (hg : xBg g) (h0 : iR p0) (h1 : z 2 + 4 ≤ 200) : MV l yX8_append cX8_append 2 (rm_X8_append) D cy (xw cy a z g) [.ref (a 1), vI p0] (fun (u : sX) => (u.1 = uZ z 2 (z 2 + 4) ∧ u.2 = uZ g 2 (tp4 (g 2) (z 2) p0)) ∧ xBz u.1 ∧ xBg u.2) (fun u => xw cy a u.1 u.2) 0 0 := by
  refine go_v (by decide +kernel) (Nat.le_of_ble_eq_true rfl) ?_
  intro p e s m args below meth c Q A ls C hnm hA w hl hend
  have hx := C.1
  have hb := C.2.1
  replace hl : lv_has ls 2 [(0, .ref (a 1)), (1, vI p0)] := hl
  refine lv_aload_n hx hb dX8_append_0 rfl (lv_at hl 0 rfl) ?_
  refine r_get C w 1 (v := vI (z 2)) rfl rfl 1 (by decide) inX8 kf_X8_15 rfl dX8_append_1 ?_
  have qz1 := xZ2 hz
  refine r_iconst hx hb dX8_append_4 ?_
  refine r_iadd hx hb dX8_append_5 ?_
  refine r_sipush hx hb dX8_append_6 (by decide) ?_
  refine r_icmp_le (tgt := 13) hx hb dX8_append_9 (by decide) (by omega) (by omega) (fun c9 => ?_) (fun c9 => ?_)
  · skip
    refine lv_aload_n hx hb dX8_append_13 rfl (lv_at hl 0 rfl) ?_
    refine r_get C w 1 (v := .ref (a 2)) rfl rfl 0 (by decide) inX8 kf_X8_9 rfl dX8_append_14 ?_
    refine lv_aload_n hx hb dX8_append_17 rfl (lv_at hl 0 rfl) ?_
    refine r_get C w 1 (v := vI (z 2)) rfl rfl 1 (by decide) inX8 kf_X8_15 rfl dX8_append_18 ?_
    have qz2 := xZ2 hz
    refine lv_iload_n hx hb dX8_append_21 rfl (lv_at hl 1 rfl) ?_
    refine r_bipush hx hb dX8_append_22 (by decide) ?_
    refine r_iushr hx hb 24 dX8_append_24 (by decide) ?_
    refine r_iast C w 2 (f := (g 2)) rfl (by omega) (by omega) (by decide) (ws' := xw cy a z (uZ g 2 (uI (g 2) (z 2) (p0 % 4294967296 / 2 ^ 24)))) (xw_g2 cy a z g (uI (g 2) (z 2) (p0 % 4294967296 / 2 ^ 24))) dX8_append_25 (fun H locs w => ?_)
    have bg3 : ∀ j : Int, (0 : Int) ≤ (uI (g 2) (z 2) (p0 % 4294967296 / 2 ^ 24)) j ∧ (uI (g 2) (z 2) (p0 % 4294967296 / 2 ^ 24)) j ≤ 255 := uI_b (xB2 hg) (by omega)
    refine lv_aload_n hx hb dX8_append_26 rfl (lv_at hl 0 rfl) ?_
    refine r_get C w 1 (v := .ref (a 2)) rfl rfl 0 (by decide) inX8 kf_X8_9 rfl dX8_append_27 ?_
    refine lv_aload_n hx hb dX8_append_30 rfl (lv_at hl 0 rfl) ?_
    refine r_get C w 1 (v := vI (z 2)) rfl rfl 1 (by decide) inX8 kf_X8_15 rfl dX8_append_31 ?_
    have qz4 := xZ2 hz
    refine r_iconst hx hb dX8_append_34 ?_
    refine r_iadd hx hb dX8_append_35 ?_
    refine lv_iload_n hx hb dX8_append_36 rfl (lv_at hl 1 rfl) ?_
    refine r_bipush hx hb dX8_append_37 (by decide) ?_
    refine r_iushr hx hb 16 dX8_append_39 (by decide) ?_
    refine r_sipush hx hb dX8_append_40 (by decide) ?_
    refine r_iand hx hb 8 dX8_append_43 rfl (by decide) ?_
    refine r_iast C w 2 (f := (uI (g 2) (z 2) (p0 % 4294967296 / 2 ^ 24))) rfl (by omega) (by omega) (by decide) (ws' := xw cy a z (uZ g 2 (uI (uI (g 2) (z 2) (p0 % 4294967296 / 2 ^ 24)) ((z 2) + 1) ((p0 % 4294967296 / 2 ^ 16) % 2 ^ 8)))) rfl dX8_append_44 (fun H locs w => ?_)
    have bg5 : ∀ j : Int, (0 : Int) ≤ (uI (uI (g 2) (z 2) (p0 % 4294967296 / 2 ^ 24)) ((z 2) + 1) ((p0 % 4294967296 / 2 ^ 16) % 2 ^ 8)) j ∧ (uI (uI (g 2) (z 2) (p0 % 4294967296 / 2 ^ 24)) ((z 2) + 1) ((p0 % 4294967296 / 2 ^ 16) % 2 ^ 8)) j ≤ 255 := uI_b bg3 (by omega)
    refine lv_aload_n hx hb dX8_append_45 rfl (lv_at hl 0 rfl) ?_
    refine r_get C w 1 (v := .ref (a 2)) rfl rfl 0 (by decide) inX8 kf_X8_9 rfl dX8_append_46 ?_
    refine lv_aload_n hx hb dX8_append_49 rfl (lv_at hl 0 rfl) ?_
    refine r_get C w 1 (v := vI (z 2)) rfl rfl 1 (by decide) inX8 kf_X8_15 rfl dX8_append_50 ?_
    have qz6 := xZ2 hz
    refine r_iconst hx hb dX8_append_53 ?_
    refine r_iadd hx hb dX8_append_54 ?_
    refine lv_iload_n hx hb dX8_append_55 rfl (lv_at hl 1 rfl) ?_
    refine r_bipush hx hb dX8_append_56 (by decide) ?_
    refine r_iushr hx hb 8 dX8_append_58 (by decide) ?_
    refine r_sipush hx hb dX8_append_59 (by decide) ?_
    refine r_iand hx hb 8 dX8_append_62 rfl (by decide) ?_
    refine r_iast C w 2 (f := (uI (uI (g 2) (z 2) (p0 % 4294967296 / 2 ^ 24)) ((z 2) + 1) ((p0 % 4294967296 / 2 ^ 16) % 2 ^ 8))) rfl (by omega) (by omega) (by decide) (ws' := xw cy a z (uZ g 2 (uI (uI (uI (g 2) (z 2) (p0 % 4294967296 / 2 ^ 24)) ((z 2) + 1) ((p0 % 4294967296 / 2 ^ 16) % 2 ^ 8)) ((z 2) + 2) ((p0 % 4294967296 / 2 ^ 8) % 2 ^ 8)))) rfl dX8_append_63 (fun H locs w => ?_)
    have bg7 : ∀ j : Int, (0 : Int) ≤ (uI (uI (uI (g 2) (z 2) (p0 % 4294967296 / 2 ^ 24)) ((z 2) + 1) ((p0 % 4294967296 / 2 ^ 16) % 2 ^ 8)) ((z 2) + 2) ((p0 % 4294967296 / 2 ^ 8) % 2 ^ 8)) j ∧ (uI (uI (uI (g 2) (z 2) (p0 % 4294967296 / 2 ^ 24)) ((z 2) + 1) ((p0 % 4294967296 / 2 ^ 16) % 2 ^ 8)) ((z 2) + 2) ((p0 % 4294967296 / 2 ^ 8) % 2 ^ 8)) j ≤ 255 := uI_b bg5 (by omega)
    refine lv_aload_n hx hb dX8_append_64 rfl (lv_at hl 0 rfl) ?_
    refine r_get C w 1 (v := .ref (a 2)) rfl rfl 0 (by decide) inX8 kf_X8_9 rfl dX8_append_65 ?_
    refine lv_aload_n hx hb dX8_append_68 rfl (lv_at hl 0 rfl) ?_
    refine r_get C w 1 (v := vI (z 2)) rfl rfl 1 (by decide) inX8 kf_X8_15 rfl dX8_append_69 ?_
    have qz8 := xZ2 hz
    refine r_iconst hx hb dX8_append_72 ?_
    refine r_iadd hx hb dX8_append_73 ?_
    refine lv_iload_n hx hb dX8_append_74 rfl (lv_at hl 1 rfl) ?_
    refine r_sipush hx hb dX8_append_75 (by decide) ?_
    refine r_iand hx hb 8 dX8_append_78 rfl (by decide) ?_
    refine r_iast C w 2 (f := (uI (uI (uI (g 2) (z 2) (p0 % 4294967296 / 2 ^ 24)) ((z 2) + 1) ((p0 % 4294967296 / 2 ^ 16) % 2 ^ 8)) ((z 2) + 2) ((p0 % 4294967296 / 2 ^ 8) % 2 ^ 8))) rfl (by omega) (by omega) (by decide) (ws' := xw cy a z (uZ g 2 (uI (uI (uI (uI (g 2) (z 2) (p0 % 4294967296 / 2 ^ 24)) ((z 2) + 1) ((p0 % 4294967296 / 2 ^ 16) % 2 ^ 8)) ((z 2) + 2) ((p0 % 4294967296 / 2 ^ 8) % 2 ^ 8)) ((z 2) + 3) (p0 % 2 ^ 8)))) rfl dX8_append_79 (fun H locs w => ?_)
    have bg9 : ∀ j : Int, (0 : Int) ≤ (uI (uI (uI (uI (g 2) (z 2) (p0 % 4294967296 / 2 ^ 24)) ((z 2) + 1) ((p0 % 4294967296 / 2 ^ 16) % 2 ^ 8)) ((z 2) + 2) ((p0 % 4294967296 / 2 ^ 8) % 2 ^ 8)) ((z 2) + 3) (p0 % 2 ^ 8)) j ∧ (uI (uI (uI (uI (g 2) (z 2) (p0 % 4294967296 / 2 ^ 24)) ((z 2) + 1) ((p0 % 4294967296 / 2 ^ 16) % 2 ^ 8)) ((z 2) + 2) ((p0 % 4294967296 / 2 ^ 8) % 2 ^ 8)) ((z 2) + 3) (p0 % 2 ^ 8)) j ≤ 255 := uI_b bg7 (by omega)
    refine lv_aload_n hx hb dX8_append_80 rfl (lv_at hl 0 rfl) ?_
    refine lv_dup hx hb dX8_append_81 rfl ?_
    refine r_get C w 1 (v := vI (z 2)) rfl rfl 1 (by decide) inX8 kf_X8_15 rfl dX8_append_82 ?_
    have qz10 := xZ2 hz
    refine r_iconst hx hb dX8_append_85 ?_
    refine r_iadd hx hb dX8_append_86 ?_
    refine r_put C w 1 tyX8 tyX8_ok nmX8 rfl rfl 1 (by decide) inX8 kf_X8_15 rfl rfl rfl (Nat.le_of_ble_eq_true rfl) (ws' := xw cy a (uZ z 2 ((z 2) + 4)) (uZ g 2 (uI (uI (uI (uI (g 2) (z 2) (p0 % 4294967296 / 2 ^ 24)) ((z 2) + 1) ((p0 % 4294967296 / 2 ^ 16) % 2 ^ 8)) ((z 2) + 2) ((p0 % 4294967296 / 2 ^ 8) % 2 ^ 8)) ((z 2) + 3) (p0 % 2 ^ 8)))) (xw_z2 cy a z (uZ g 2 (uI (uI (uI (uI (g 2) (z 2) (p0 % 4294967296 / 2 ^ 24)) ((z 2) + 1) ((p0 % 4294967296 / 2 ^ 16) % 2 ^ 8)) ((z 2) + 2) ((p0 % 4294967296 / 2 ^ 8) % 2 ^ 8)) ((z 2) + 3) (p0 % 2 ^ 8))) ((z 2) + 4)) dX8_append_87 (fun H locs w => ?_)
    have bz11 : (0 : Int) ≤ ((z 2) + 4) ∧ (((z 2) + 4) : Int) ≤ 200 := (by omega)
    exact hend ((uZ z 2 ((z 2) + 4)), (uZ g 2 (uI (uI (uI (uI (g 2) (z 2) (p0 % 4294967296 / 2 ^ 24)) ((z 2) + 1) ((p0 % 4294967296 / 2 ^ 16) % 2 ^ 8)) ((z 2) + 2) ((p0 % 4294967296 / 2 ^ 8) % 2 ^ 8)) ((z 2) + 3) (p0 % 2 ^ 8)))) _ _ _ _ dX8_append_90 w ⟨(by exact ⟨rfl, rfl⟩), (xBz_u hz 2 bz11), (xBg_u hg 2 bg9)⟩
  · skip
    exact absurd c9 (by omega)

abbrev rm_X9_feed : Room := { frames := 1, cells := 0, slots := 0, locals := 21 }
set_option maxHeartbeats 4000000 in
set_option maxRecDepth 100000 in
theorem ct_X9_feed (l : Launch) (D : va_G) (cy : Nat → ClassId) (a : Nat → Nat) (z : Nat → Int) (g : Nat → Int → Int) (p0 p1 p2 p3 p4 : Int) (hz : xBz z) (hg : xBg g) (h0 : iR p0) (h1 : iR p1) (h2 : iR p2) (h3 : iR p3) (h4 : iR p4) : MI l yX9_feed cX9_feed 6 .int (rm_X9_feed) D cy (xw cy a z g) [.ref (a 0), vI p0, vI p1, vI p2, vI p3, vI p4] (fun (v : Int) (u : sX) => ((200 < z 2 + 20 ∧ v = -1 ∧ u = (z, g)) ∨ (z 2 + 20 ≤ 200 ∧ v = z 2 + 20 ∧ u.1 = uZ z 2 (z 2 + 20) ∧ u.2 = uZ g 2 (tp4 (tp4 (tp4 (tp4 (tp4 (g 2) (z 2) p0) (z 2 + 4) p1) (z 2 + 8) p2) (z 2 + 12) p3) (z 2 + 16) p4))) ∧ xBz u.1 ∧ xBg u.2) (fun u => xw cy a u.1 u.2) 0 0 := by
  refine go_i (by decide +kernel) (Nat.le_of_ble_eq_true rfl) (Or.inl rfl) ?_
  intro p e s m args below meth c Q A ls C hnm hA w hl hend
  have hx := C.1
  have hb := C.2.1
  replace hl : lv_has ls 6 [(0, .ref (a 0)), (1, vI p0), (2, vI p1), (3, vI p2), (4, vI p3), (5, vI p4)] := hl
  refine lv_aload_n hx hb dX9_feed_0 rfl (lv_at hl 0 rfl) ?_
  refine r_get C w 0 (v := .ref (a 1)) rfl rfl 0 (by decide) inX9 kf_X9_10 rfl dX9_feed_1 ?_
  refine r_getN C w 1 (v := vI (z 2)) rfl rfl 1 (by decide) inX8 kt_X9_89 rfl dX9_feed_4 ?_
  have qz1 := xZ2 hz
  refine r_bipush hx hb dX9_feed_7 (by decide) ?_
  refine r_iadd hx hb dX9_feed_9 ?_
  refine r_sipush hx hb dX9_feed_10 (by decide) ?_
  refine r_icmp_le (tgt := 18) hx hb dX9_feed_13 (by decide) (by omega) (by omega) (fun c13 => ?_) (fun c13 => ?_)
  · skip
    refine lv_aload_n hx hb dX9_feed_18 rfl (lv_at hl 0 rfl) ?_
    refine r_get C w 0 (v := .ref (a 1)) rfl rfl 0 (by decide) inX9 kf_X9_10 rfl dX9_feed_19 ?_
    refine lv_iload_n hx hb dX9_feed_22 rfl (lv_at hl 1 rfl) ?_
    refine cVV C w hA (ct_X8_append l D cy a z g p0 hz hg (by show iR p0; omega) (by show (z 2) + 4 ≤ 200; omega)) ok_X8_append km_X9_92 ⟨rfl, rfl⟩ ⟨by decide, by decide⟩ ⟨by decide, by decide⟩ rfl 1 rfl rfl hl.1 rfl (Nat.le_of_ble_eq_true rfl) dX9_feed_23 (fun uv_1 H locs w hp_1 => ?_)
    obtain ⟨zc_1, gc_1⟩ := uv_1
    obtain ⟨hp_1, hzc_1, hgc_1⟩ := hp_1
    replace w : wd D A s.heap (xw cy a zc_1 gc_1) H locs := w
    replace hzc_1 : xBz zc_1 := hzc_1
    replace hgc_1 : xBg gc_1 := hgc_1
    try dsimp only at hp_1
    have e_1 : zc_1 2 = (z 2) + 4 := by rw [hp_1.1]; rfl
    refine lv_aload_n hx hb dX9_feed_26 rfl (lv_at hl 0 rfl) ?_
    refine r_get C w 0 (v := .ref (a 1)) rfl rfl 0 (by decide) inX9 kf_X9_10 rfl dX9_feed_27 ?_
    refine lv_iload_n hx hb dX9_feed_30 rfl (lv_at hl 2 rfl) ?_
    refine cVV C w hA (ct_X8_append l D cy a zc_1 gc_1 p1 hzc_1 hgc_1 (by show iR p1; omega) (by show (zc_1 2) + 4 ≤ 200; omega)) ok_X8_append km_X9_92 ⟨rfl, rfl⟩ ⟨by decide, by decide⟩ ⟨by decide, by decide⟩ rfl 1 rfl rfl hl.1 rfl (Nat.le_of_ble_eq_true rfl) dX9_feed_31 (fun uv_2 H locs w hp_2 => ?_)
    obtain ⟨zc_2, gc_2⟩ := uv_2
    obtain ⟨hp_2, hzc_2, hgc_2⟩ := hp_2
    replace w : wd D A s.heap (xw cy a zc_2 gc_2) H locs := w
    replace hzc_2 : xBz zc_2 := hzc_2
    replace hgc_2 : xBg gc_2 := hgc_2
    try dsimp only at hp_2
    have e_2 : zc_2 2 = (zc_1 2) + 4 := by rw [hp_2.1]; rfl
    refine lv_aload_n hx hb dX9_feed_34 rfl (lv_at hl 0 rfl) ?_
    refine r_get C w 0 (v := .ref (a 1)) rfl rfl 0 (by decide) inX9 kf_X9_10 rfl dX9_feed_35 ?_
    refine lv_iload_n hx hb dX9_feed_38 rfl (lv_at hl 3 rfl) ?_
    refine cVV C w hA (ct_X8_append l D cy a zc_2 gc_2 p2 hzc_2 hgc_2 (by show iR p2; omega) (by show (zc_2 2) + 4 ≤ 200; omega)) ok_X8_append km_X9_92 ⟨rfl, rfl⟩ ⟨by decide, by decide⟩ ⟨by decide, by decide⟩ rfl 1 rfl rfl hl.1 rfl (Nat.le_of_ble_eq_true rfl) dX9_feed_39 (fun uv_3 H locs w hp_3 => ?_)
    obtain ⟨zc_3, gc_3⟩ := uv_3
    obtain ⟨hp_3, hzc_3, hgc_3⟩ := hp_3
    replace w : wd D A s.heap (xw cy a zc_3 gc_3) H locs := w
    replace hzc_3 : xBz zc_3 := hzc_3
    replace hgc_3 : xBg gc_3 := hgc_3
    try dsimp only at hp_3
    have e_3 : zc_3 2 = (zc_2 2) + 4 := by rw [hp_3.1]; rfl
    refine lv_aload_n hx hb dX9_feed_42 rfl (lv_at hl 0 rfl) ?_
    refine r_get C w 0 (v := .ref (a 1)) rfl rfl 0 (by decide) inX9 kf_X9_10 rfl dX9_feed_43 ?_
    refine lv_iload hx hb dX9_feed_46 (lv_at hl 4 rfl) ?_
    refine cVV C w hA (ct_X8_append l D cy a zc_3 gc_3 p3 hzc_3 hgc_3 (by show iR p3; omega) (by show (zc_3 2) + 4 ≤ 200; omega)) ok_X8_append km_X9_92 ⟨rfl, rfl⟩ ⟨by decide, by decide⟩ ⟨by decide, by decide⟩ rfl 1 rfl rfl hl.1 rfl (Nat.le_of_ble_eq_true rfl) dX9_feed_48 (fun uv_4 H locs w hp_4 => ?_)
    obtain ⟨zc_4, gc_4⟩ := uv_4
    obtain ⟨hp_4, hzc_4, hgc_4⟩ := hp_4
    replace w : wd D A s.heap (xw cy a zc_4 gc_4) H locs := w
    replace hzc_4 : xBz zc_4 := hzc_4
    replace hgc_4 : xBg gc_4 := hgc_4
    try dsimp only at hp_4
    have e_4 : zc_4 2 = (zc_3 2) + 4 := by rw [hp_4.1]; rfl
    refine lv_aload_n hx hb dX9_feed_51 rfl (lv_at hl 0 rfl) ?_
    refine r_get C w 0 (v := .ref (a 1)) rfl rfl 0 (by decide) inX9 kf_X9_10 rfl dX9_feed_52 ?_
    refine lv_iload hx hb dX9_feed_55 (lv_at hl 5 rfl) ?_
    refine cVV C w hA (ct_X8_append l D cy a zc_4 gc_4 p4 hzc_4 hgc_4 (by show iR p4; omega) (by show (zc_4 2) + 4 ≤ 200; omega)) ok_X8_append km_X9_92 ⟨rfl, rfl⟩ ⟨by decide, by decide⟩ ⟨by decide, by decide⟩ rfl 1 rfl rfl hl.1 rfl (Nat.le_of_ble_eq_true rfl) dX9_feed_57 (fun uv_5 H locs w hp_5 => ?_)
    obtain ⟨zc_5, gc_5⟩ := uv_5
    obtain ⟨hp_5, hzc_5, hgc_5⟩ := hp_5
    replace w : wd D A s.heap (xw cy a zc_5 gc_5) H locs := w
    replace hzc_5 : xBz zc_5 := hzc_5
    replace hgc_5 : xBg gc_5 := hgc_5
    try dsimp only at hp_5
    have e_5 : zc_5 2 = (zc_4 2) + 4 := by rw [hp_5.1]; rfl
    refine lv_aload_n hx hb dX9_feed_60 rfl (lv_at hl 0 rfl) ?_
    refine r_get C w 0 (v := .ref (a 1)) rfl rfl 0 (by decide) inX9 kf_X9_10 rfl dX9_feed_61 ?_
    refine r_getN C w 1 (v := vI (zc_5 2)) rfl rfl 1 (by decide) inX8 kt_X9_89 rfl dX9_feed_64 ?_
    have qz2 := xZ2 hzc_5
    exact hend (zc_5 2) (zc_5, gc_5) _ _ _ _ dX9_feed_67 w ⟨(by refine Or.inr ⟨by omega, by omega, ?_, ?_⟩ <;> simp only [hp_1, hp_2, hp_3, hp_4, hp_5, uZ_uZ, uZ_s, Int.add_assoc, Int.reduceAdd]), hzc_5, hgc_5⟩
  · skip
    refine r_iconst hx hb dX9_feed_16 ?_
    exact hend (-1) (z, g) _ _ _ _ dX9_feed_17 w ⟨(by exact Or.inl ⟨by omega, rfl, rfl⟩), hz, hg⟩
end
section
abbrev rm_X9_end : Room := { frames := 0, cells := 0, slots := 0, locals := 0 }
set_option maxHeartbeats 4000000 in
set_option maxRecDepth 100000 in
theorem ct_X9_end (l : Launch) (D : va_G) (cy : Nat → ClassId) (a : Nat → Nat) (z : Nat → Int) (g : Nat → Int → Int) (p0 : Int) (hz : xBz z) (hg : xBg g) (h0 : iR p0) : MI l yX9_end cX9_end 2 .boolean (rm_X9_end) D cy (xw cy a z g) [.ref (a 0), vI p0] (fun (v : Int) (u : sX) => ((¬ (0 ≤ p0 ∧ p0 ≤ z 2) ∧ v = 0 ∧ u = (z, g)) ∨ ((0 ≤ p0 ∧ p0 ≤ z 2) ∧ v = 1 ∧ u = (uZ z 2 p0, g))) ∧ xBz u.1 ∧ xBg u.2) (fun u => xw cy a u.1 u.2) 0 0 := by
  refine go_i (by decide +kernel) (Nat.le_of_ble_eq_true rfl) (Or.inr (fun v u h => nb01 (by omega))) ?_
  intro p e s m args below meth c Q A ls C hnm hA w hl hend
  have hx := C.1
  have hb := C.2.1
  replace hl : lv_has ls 2 [(0, .ref (a 0)), (1, vI p0)] := hl
  refine lv_iload_n hx hb dX9_end_0 rfl (lv_at hl 1 rfl) ?_
  refine r_if_lt (tgt := 15) hx hb dX9_end_1 (by decide) (by omega) (fun c1 => ?_) (fun c1 => ?_)
  · skip
    refine r_iconst hx hb dX9_end_15 ?_
    exact hend 0 (z, g) _ _ _ _ dX9_end_16 w ⟨(by first | exact Or.inl ⟨by omega, rfl, rfl⟩ | exact Or.inr ⟨by omega, rfl, rfl⟩), hz, hg⟩
  · skip
    refine lv_iload_n hx hb dX9_end_4 rfl (lv_at hl 1 rfl) ?_
    refine lv_aload_n hx hb dX9_end_5 rfl (lv_at hl 0 rfl) ?_
    refine r_get C w 0 (v := .ref (a 1)) rfl rfl 0 (by decide) inX9 kf_X9_10 rfl dX9_end_6 ?_
    refine r_getN C w 1 (v := vI (z 2)) rfl rfl 1 (by decide) inX8 kt_X9_89 rfl dX9_end_9 ?_
    have qz1 := xZ2 hz
    refine r_icmp_le (tgt := 17) hx hb dX9_end_12 (by decide) (by omega) (by omega) (fun c12 => ?_) (fun c12 => ?_)
    · skip
      refine lv_aload_n hx hb dX9_end_17 rfl (lv_at hl 0 rfl) ?_
      refine r_get C w 0 (v := .ref (a 1)) rfl rfl 0 (by decide) inX9 kf_X9_10 rfl dX9_end_18 ?_
      refine lv_iload_n hx hb dX9_end_21 rfl (lv_at hl 1 rfl) ?_
      refine r_putN C w 1 tyX8 tyX8_ok nmX8 rfl rfl 1 (by decide) inX8 kt_X9_89 rfl rfl rfl (Nat.le_of_ble_eq_true rfl) (ws' := xw cy a (uZ z 2 p0) g) (xw_z2 cy a z g p0) dX9_end_22 (fun H locs w => ?_)
      have bz2 : (0 : Int) ≤ p0 ∧ (p0 : Int) ≤ 200 := (by omega)
      refine r_iconst hx hb dX9_end_25 ?_
      exact hend 1 ((uZ z 2 p0), g) _ _ _ _ dX9_end_26 w ⟨(by first | exact Or.inl ⟨by omega, rfl, rfl⟩ | exact Or.inr ⟨by omega, rfl, rfl⟩), (xBz_u hz 2 bz2), hg⟩
    · skip
      refine r_iconst hx hb dX9_end_15 ?_
      exact hend 0 (z, g) _ _ _ _ dX9_end_16 w ⟨(by first | exact Or.inl ⟨by omega, rfl, rfl⟩ | exact Or.inr ⟨by omega, rfl, rfl⟩), hz, hg⟩

abbrev rm_X9_fault : Room := { frames := 0, cells := 0, slots := 0, locals := 0 }
set_option maxHeartbeats 4000000 in
set_option maxRecDepth 100000 in
theorem ct_X9_fault (l : Launch) (D : va_G) (cy : Nat → ClassId) (a : Nat → Nat) (z : Nat → Int) (g : Nat → Int → Int)  (hz : xBz z) (hg : xBg g) : MI l yX9_fault cX9_fault 1 .int (rm_X9_fault) D cy (xw cy a z g) [.ref (a 0)] (fun (v : Int) (u : Unit) => v = z 1) (fun _ => xw cy a z g) 0 0 := by
  refine go_i (by decide +kernel) (Nat.le_of_ble_eq_true rfl) (Or.inl rfl) ?_
  intro p e s m args below meth c Q A ls C hnm hA w hl hend
  have hx := C.1
  have hb := C.2.1
  replace hl : lv_has ls 1 [(0, .ref (a 0))] := hl
  refine lv_aload_n hx hb dX9_fault_0 rfl (lv_at hl 0 rfl) ?_
  refine r_get C w 0 (v := vI (z 1)) rfl rfl 11 (by decide) inX9 kf_X9_86 rfl dX9_fault_1 ?_
  have qz1 := xZ1 hz
  exact hend (z 1) () _ _ _ _ dX9_fault_4 w (by rfl)

abbrev rm_X2_add : Room := { frames := 0, cells := 0, slots := 0, locals := 0 }
set_option maxHeartbeats 4000000 in
set_option maxRecDepth 100000 in
theorem ct_X2_add (l : Launch) (D : va_G) (cy : Nat → ClassId) (a : Nat → Nat) (z : Nat → Int) (g : Nat → Int → Int) (p0 p1 p2 p3 p4 : Int) (hz : xBz z) (hg : xBg g) (h0 : 0 ≤ p0 ∧ p0 < 8) (h1 : 0 ≤ p1 ∧ p1 < 6) (h2 : 0 ≤ p2 ∧ p2 < 4) (h3 : 1 ≤ p3 ∧ p3 ≤ 500) (h4 : 0 ≤ p4 ∧ p4 < 4) (h5 : z 16 < 100) : MI l yX2_add cX2_add 6 .int (rm_X2_add) D cy (xw cy a z g) [.ref (a 12), vI p0, vI p1, vI p2, vI p3, vI p4] (fun (v : Int) (u : sX) => (v = z 16 ∧ u = (uZ z 16 (z 16 + 1), uZ (uZ (uZ (uZ (uZ (uZ (uZ g 13 (uI (g 13) (z 16) p0)) 14 (uI (g 14) (z 16) p1)) 15 (uI (g 15) (z 16) p2)) 16 (uI (g 16) (z 16) p3)) 17 (uI (g 17) (z 16) p4)) 18 (uI (g 18) (z 16) 0)) 19 (uI (g 19) (z 16) (-1)))) ∧ xBz u.1 ∧ xBg u.2) (fun u => xw cy a u.1 u.2) 0 0 := by
  refine go_i (by decide +kernel) (Nat.le_of_ble_eq_true rfl) (Or.inl rfl) ?_
  intro p e s m args below meth c Q A ls C hnm hA w hl hend
  have hx := C.1
  have hb := C.2.1
  replace hl : lv_has ls 6 [(0, .ref (a 12)), (1, vI p0), (2, vI p1), (3, vI p2), (4, vI p3), (5, vI p4)] := hl
  refine lv_aload_n hx hb dX2_add_0 rfl (lv_at hl 0 rfl) ?_
  refine r_get C w 12 (v := vI (z 16)) rfl rfl 7 (by decide) inX2 kf_X2_34 rfl dX2_add_1 ?_
  have qz1 := xZ16 hz
  refine r_bipush hx hb dX2_add_4 (by decide) ?_
  refine r_icmp_lt (tgt := 11) hx hb dX2_add_6 (by decide) (by omega) (by omega) (fun c6 => ?_) (fun c6 => ?_)
  · skip
    refine lv_aload_n hx hb dX2_add_11 rfl (lv_at hl 0 rfl) ?_
    refine r_get C w 12 (v := .ref (a 13)) rfl rfl 0 (by decide) inX2 kf_X2_9 rfl dX2_add_12 ?_
    refine lv_aload_n hx hb dX2_add_15 rfl (lv_at hl 0 rfl) ?_
    refine r_get C w 12 (v := vI (z 16)) rfl rfl 7 (by decide) inX2 kf_X2_34 rfl dX2_add_16 ?_
    have qz2 := xZ16 hz
    refine lv_iload_n hx hb dX2_add_19 rfl (lv_at hl 1 rfl) ?_
    refine r_iast C w 13 (f := (g 13)) rfl (by omega) (by omega) (by decide) (ws' := xw cy a z (uZ g 13 (uI (g 13) (z 16) p0))) (xw_g13 cy a z g (uI (g 13) (z 16) p0)) dX2_add_20 (fun H locs w => ?_)
    have bg3 : ∀ j : Int, (0 : Int) ≤ (uI (g 13) (z 16) p0) j ∧ (uI (g 13) (z 16) p0) j ≤ 7 := uI_b (xB13 hg) (by omega)
    refine lv_aload_n hx hb dX2_add_21 rfl (lv_at hl 0 rfl) ?_
    refine r_get C w 12 (v := .ref (a 14)) rfl rfl 1 (by decide) inX2 kf_X2_15 rfl dX2_add_22 ?_
    refine lv_aload_n hx hb dX2_add_25 rfl (lv_at hl 0 rfl) ?_
    refine r_get C w 12 (v := vI (z 16)) rfl rfl 7 (by decide) inX2 kf_X2_34 rfl dX2_add_26 ?_
    have qz4 := xZ16 hz
    refine lv_iload_n hx hb dX2_add_29 rfl (lv_at hl 2 rfl) ?_
    refine r_iast C w 14 (f := (g 14)) rfl (by omega) (by omega) (by decide) (ws' := xw cy a z (uZ (uZ g 13 (uI (g 13) (z 16) p0)) 14 (uI (g 14) (z 16) p1))) (xw_g14 cy a z (uZ g 13 (uI (g 13) (z 16) p0)) (uI (g 14) (z 16) p1)) dX2_add_30 (fun H locs w => ?_)
    have bg5 : ∀ j : Int, (0 : Int) ≤ (uI (g 14) (z 16) p1) j ∧ (uI (g 14) (z 16) p1) j ≤ 5 := uI_b (xB14 hg) (by omega)
    refine lv_aload_n hx hb dX2_add_31 rfl (lv_at hl 0 rfl) ?_
    refine r_get C w 12 (v := .ref (a 15)) rfl rfl 2 (by decide) inX2 kf_X2_18 rfl dX2_add_32 ?_
    refine lv_aload_n hx hb dX2_add_35 rfl (lv_at hl 0 rfl) ?_
    refine r_get C w 12 (v := vI (z 16)) rfl rfl 7 (by decide) inX2 kf_X2_34 rfl dX2_add_36 ?_
    have qz6 := xZ16 hz
    refine lv_iload_n hx hb dX2_add_39 rfl (lv_at hl 3 rfl) ?_
    refine r_iast C w 15 (f := (g 15)) rfl (by omega) (by omega) (by decide) (ws' := xw cy a z (uZ (uZ (uZ g 13 (uI (g 13) (z 16) p0)) 14 (uI (g 14) (z 16) p1)) 15 (uI (g 15) (z 16) p2))) (xw_g15 cy a z (uZ (uZ g 13 (uI (g 13) (z 16) p0)) 14 (uI (g 14) (z 16) p1)) (uI (g 15) (z 16) p2)) dX2_add_40 (fun H locs w => ?_)
    have bg7 : ∀ j : Int, (0 : Int) ≤ (uI (g 15) (z 16) p2) j ∧ (uI (g 15) (z 16) p2) j ≤ 3 := uI_b (xB15 hg) (by omega)
    refine lv_aload_n hx hb dX2_add_41 rfl (lv_at hl 0 rfl) ?_
    refine r_get C w 12 (v := .ref (a 16)) rfl rfl 3 (by decide) inX2 kf_X2_21 rfl dX2_add_42 ?_
    refine lv_aload_n hx hb dX2_add_45 rfl (lv_at hl 0 rfl) ?_
    refine r_get C w 12 (v := vI (z 16)) rfl rfl 7 (by decide) inX2 kf_X2_34 rfl dX2_add_46 ?_
    have qz8 := xZ16 hz
    refine lv_iload hx hb dX2_add_49 (lv_at hl 4 rfl) ?_
    refine r_iast C w 16 (f := (g 16)) rfl (by omega) (by omega) (by decide) (ws' := xw cy a z (uZ (uZ (uZ (uZ g 13 (uI (g 13) (z 16) p0)) 14 (uI (g 14) (z 16) p1)) 15 (uI (g 15) (z 16) p2)) 16 (uI (g 16) (z 16) p3))) (xw_g16 cy a z (uZ (uZ (uZ g 13 (uI (g 13) (z 16) p0)) 14 (uI (g 14) (z 16) p1)) 15 (uI (g 15) (z 16) p2)) (uI (g 16) (z 16) p3)) dX2_add_51 (fun H locs w => ?_)
    have bg9 : ∀ j : Int, (0 : Int) ≤ (uI (g 16) (z 16) p3) j ∧ (uI (g 16) (z 16) p3) j ≤ 500 := uI_b (xB16 hg) (by omega)
    refine lv_aload_n hx hb dX2_add_52 rfl (lv_at hl 0 rfl) ?_
    refine r_get C w 12 (v := .ref (a 17)) rfl rfl 4 (by decide) inX2 kf_X2_24 rfl dX2_add_53 ?_
    refine lv_aload_n hx hb dX2_add_56 rfl (lv_at hl 0 rfl) ?_
    refine r_get C w 12 (v := vI (z 16)) rfl rfl 7 (by decide) inX2 kf_X2_34 rfl dX2_add_57 ?_
    have qz10 := xZ16 hz
    refine lv_iload hx hb dX2_add_60 (lv_at hl 5 rfl) ?_
    refine r_iast C w 17 (f := (g 17)) rfl (by omega) (by omega) (by decide) (ws' := xw cy a z (uZ (uZ (uZ (uZ (uZ g 13 (uI (g 13) (z 16) p0)) 14 (uI (g 14) (z 16) p1)) 15 (uI (g 15) (z 16) p2)) 16 (uI (g 16) (z 16) p3)) 17 (uI (g 17) (z 16) p4))) (xw_g17 cy a z (uZ (uZ (uZ (uZ g 13 (uI (g 13) (z 16) p0)) 14 (uI (g 14) (z 16) p1)) 15 (uI (g 15) (z 16) p2)) 16 (uI (g 16) (z 16) p3)) (uI (g 17) (z 16) p4)) dX2_add_62 (fun H locs w => ?_)
    have bg11 : ∀ j : Int, (0 : Int) ≤ (uI (g 17) (z 16) p4) j ∧ (uI (g 17) (z 16) p4) j ≤ 3 := uI_b (xB17 hg) (by omega)
    refine lv_aload_n hx hb dX2_add_63 rfl (lv_at hl 0 rfl) ?_
    refine r_get C w 12 (v := .ref (a 18)) rfl rfl 5 (by decide) inX2 kf_X2_27 rfl dX2_add_64 ?_
    refine lv_aload_n hx hb dX2_add_67 rfl (lv_at hl 0 rfl) ?_
    refine r_get C w 12 (v := vI (z 16)) rfl rfl 7 (by decide) inX2 kf_X2_34 rfl dX2_add_68 ?_
    have qz12 := xZ16 hz
    refine r_iconst hx hb dX2_add_71 ?_
    refine r_zast C w 18 (f := (g 18)) rfl (by omega) (by omega) (by decide) (vz01 (by omega)) (ws' := xw cy a z (uZ (uZ (uZ (uZ (uZ (uZ g 13 (uI (g 13) (z 16) p0)) 14 (uI (g 14) (z 16) p1)) 15 (uI (g 15) (z 16) p2)) 16 (uI (g 16) (z 16) p3)) 17 (uI (g 17) (z 16) p4)) 18 (uI (g 18) (z 16) 0))) (xw_g18 cy a z (uZ (uZ (uZ (uZ (uZ g 13 (uI (g 13) (z 16) p0)) 14 (uI (g 14) (z 16) p1)) 15 (uI (g 15) (z 16) p2)) 16 (uI (g 16) (z 16) p3)) 17 (uI (g 17) (z 16) p4)) (uI (g 18) (z 16) 0)) dX2_add_72 (fun H locs w => ?_)
    have bg13 : ∀ j : Int, (0 : Int) ≤ (uI (g 18) (z 16) 0) j ∧ (uI (g 18) (z 16) 0) j ≤ 1 := uI_b (xB18 hg) (by omega)
    refine lv_aload_n hx hb dX2_add_73 rfl (lv_at hl 0 rfl) ?_
    refine r_get C w 12 (v := .ref (a 19)) rfl rfl 6 (by decide) inX2 kf_X2_31 rfl dX2_add_74 ?_
    refine lv_aload_n hx hb dX2_add_77 rfl (lv_at hl 0 rfl) ?_
    refine r_get C w 12 (v := vI (z 16)) rfl rfl 7 (by decide) inX2 kf_X2_34 rfl dX2_add_78 ?_
    have qz14 := xZ16 hz
    refine r_iconst hx hb dX2_add_81 ?_
    refine r_iast C w 19 (f := (g 19)) rfl (by omega) (by omega) (by decide) (ws' := xw cy a z (uZ (uZ (uZ (uZ (uZ (uZ (uZ g 13 (uI (g 13) (z 16) p0)) 14 (uI (g 14) (z 16) p1)) 15 (uI (g 15) (z 16) p2)) 16 (uI (g 16) (z 16) p3)) 17 (uI (g 17) (z 16) p4)) 18 (uI (g 18) (z 16) 0)) 19 (uI (g 19) (z 16) (-1)))) (xw_g19 cy a z (uZ (uZ (uZ (uZ (uZ (uZ g 13 (uI (g 13) (z 16) p0)) 14 (uI (g 14) (z 16) p1)) 15 (uI (g 15) (z 16) p2)) 16 (uI (g 16) (z 16) p3)) 17 (uI (g 17) (z 16) p4)) 18 (uI (g 18) (z 16) 0)) (uI (g 19) (z 16) (-1))) dX2_add_82 (fun H locs w => ?_)
    have bg15 : ∀ j : Int, (-1 : Int) ≤ (uI (g 19) (z 16) (-1)) j ∧ (uI (g 19) (z 16) (-1)) j ≤ 399 := uI_b (xB19 hg) (by omega)
    refine lv_aload_n hx hb dX2_add_83 rfl (lv_at hl 0 rfl) ?_
    refine lv_dup hx hb dX2_add_84 rfl ?_
    refine r_get C w 12 (v := vI (z 16)) rfl rfl 7 (by decide) inX2 kf_X2_34 rfl dX2_add_85 ?_
    have qz16 := xZ16 hz
    refine r_iconst hx hb dX2_add_88 ?_
    refine r_iadd hx hb dX2_add_89 ?_
    refine r_put C w 12 tyX2 tyX2_ok nmX2 rfl rfl 7 (by decide) inX2 kf_X2_34 rfl rfl rfl (Nat.le_of_ble_eq_true rfl) (ws' := xw cy a (uZ z 16 ((z 16) + 1)) (uZ (uZ (uZ (uZ (uZ (uZ (uZ g 13 (uI (g 13) (z 16) p0)) 14 (uI (g 14) (z 16) p1)) 15 (uI (g 15) (z 16) p2)) 16 (uI (g 16) (z 16) p3)) 17 (uI (g 17) (z 16) p4)) 18 (uI (g 18) (z 16) 0)) 19 (uI (g 19) (z 16) (-1)))) (xw_z16 cy a z (uZ (uZ (uZ (uZ (uZ (uZ (uZ g 13 (uI (g 13) (z 16) p0)) 14 (uI (g 14) (z 16) p1)) 15 (uI (g 15) (z 16) p2)) 16 (uI (g 16) (z 16) p3)) 17 (uI (g 17) (z 16) p4)) 18 (uI (g 18) (z 16) 0)) 19 (uI (g 19) (z 16) (-1))) ((z 16) + 1)) dX2_add_90 (fun H locs w => ?_)
    have bz17 : (0 : Int) ≤ ((z 16) + 1) ∧ (((z 16) + 1) : Int) ≤ 100 := (by omega)
    refine lv_aload_n hx hb dX2_add_93 rfl (lv_at hl 0 rfl) ?_
    refine r_get C w 12 (v := vI ((z 16) + 1)) rfl rfl 7 (by decide) inX2 kf_X2_34 rfl dX2_add_94 ?_
    refine r_iconst hx hb dX2_add_97 ?_
    refine r_isub hx hb dX2_add_98 ?_
    exact hend (((z 16) + 1) - 1) ((uZ z 16 ((z 16) + 1)), (uZ (uZ (uZ (uZ (uZ (uZ (uZ g 13 (uI (g 13) (z 16) p0)) 14 (uI (g 14) (z 16) p1)) 15 (uI (g 15) (z 16) p2)) 16 (uI (g 16) (z 16) p3)) 17 (uI (g 17) (z 16) p4)) 18 (uI (g 18) (z 16) 0)) 19 (uI (g 19) (z 16) (-1)))) _ _ _ _ dX2_add_99 w ⟨(by exact ⟨by omega, rfl⟩), (xBz_u hz 16 bz17), (xBg_u (xBg_u (xBg_u (xBg_u (xBg_u (xBg_u (xBg_u hg 13 bg3) 14 bg5) 15 bg7) 16 bg9) 17 bg11) 18 bg13) 19 bg15)⟩
  · skip
    exact absurd c6 (by omega)

def okLot (p0 p1 p2 p3 p4 : Int) : Prop := (0 ≤ p0 ∧ p0 < 8) ∧ (0 ≤ p1 ∧ p1 < 6) ∧ (0 ≤ p2 ∧ p2 < 4) ∧ (1 ≤ p3 ∧ p3 ≤ 500) ∧ (0 ≤ p4 ∧ p4 < 4)
abbrev rm_X9_lot : Room := { frames := 1, cells := 0, slots := 0, locals := 25 }
set_option maxHeartbeats 4000000 in
set_option maxRecDepth 100000 in
theorem ct_X9_lot (l : Launch) (D : va_G) (cy : Nat → ClassId) (a : Nat → Nat) (z : Nat → Int) (g : Nat → Int → Int) (p0 p1 p2 p3 p4 : Int) (hz : xBz z) (hg : xBg g) (h0 : iR p0) (h1 : iR p1) (h2 : iR p2) (h3 : iR p3) (h4 : iR p4) : MI l yX9_lot cX9_lot 7 .int (rm_X9_lot) D cy (xw cy a z g) [.ref (a 0), vI p0, vI p1, vI p2, vI p3, vI p4] (fun (v : Int) (u : sX) => ((¬ (okLot p0 p1 p2 p3 p4 ∧ z 16 < 100) ∧ v = -1 ∧ u = (z, g)) ∨ ((okLot p0 p1 p2 p3 p4 ∧ z 16 < 100) ∧ v = z 16 ∧ u = (uZ z 16 (z 16 + 1), uZ (uZ (uZ (uZ (uZ (uZ (uZ g 13 (uI (g 13) (z 16) p0)) 14 (uI (g 14) (z 16) p1)) 15 (uI (g 15) (z 16) p2)) 16 (uI (g 16) (z 16) p3)) 17 (uI (g 17) (z 16) p4)) 18 (uI (g 18) (z 16) 0)) 19 (uI (g 19) (z 16) (-1))))) ∧ xBz u.1 ∧ xBg u.2) (fun u => xw cy a u.1 u.2) 0 0 := by
  refine go_i (by decide +kernel) (Nat.le_of_ble_eq_true rfl) (Or.inl rfl) ?_
  intro p e s m args below meth c Q A ls C hnm hA w hl hend
  have hx := C.1
  have hb := C.2.1
  have J54 : ∀ (b : Int), ((b = 1 ∧ okLot p0 p1 p2 p3 p4) ∨ (b = 0 ∧ ¬ okLot p0 p1 p2 p3 p4)) → ∀ (H : Heap) (locs : List Loc) (ls : Array Slot), wd D A s.heap (xw cy a z g) H locs → lv_has ls 7 [(0, .ref (a 0)), (1, vI p0), (2, vI p1), (3, vI p2), (4, vI p3), (5, vI p4)] → W p l e (rm_X9_lot) s m args below meth c H locs 0 0 Q (F0 m 54 ls [vI b]) := by
    intro b hb1 H locs ls w hl
    unfold okLot at hb1
    refine lv_istore (lv' := [(6, vI b), (0, .ref (a 0)), (1, vI p0), (2, vI p1), (3, vI p2), (4, vI p3), (5, vI p4)]) hx hb dX9_lot_54 hl (by decide) rfl (fun ls hl => ?_)
    refine lv_iload hx hb dX9_lot_56 (lv_at hl 0 rfl) ?_
    refine r_if_eq (tgt := 73) hx hb dX9_lot_58 (by decide) (by omega) (fun c58 => ?_) (fun c58 => ?_)
    · skip
      refine r_iconst hx hb dX9_lot_73 ?_
      exact hend (-1) (z, g) _ _ _ _ dX9_lot_74 w ⟨(by exact Or.inl ⟨by unfold okLot; omega, rfl, rfl⟩), hz, hg⟩
    · skip
      refine lv_aload_n hx hb dX9_lot_61 rfl (lv_at hl 1 rfl) ?_
      refine r_get C w 0 (v := .ref (a 12)) rfl rfl 3 (by decide) inX9 kf_X9_35 rfl dX9_lot_62 ?_
      refine r_getN C w 12 (v := vI (z 16)) rfl rfl 7 (by decide) inX2 kt_X9_119 rfl dX9_lot_65 ?_
      have qz1 := xZ16 hz
      refine r_bipush hx hb dX9_lot_68 (by decide) ?_
      refine r_icmp_lt (tgt := 75) hx hb dX9_lot_70 (by decide) (by omega) (by omega) (fun c70 => ?_) (fun c70 => ?_)
      · skip
        refine lv_aload_n hx hb dX9_lot_75 rfl (lv_at hl 1 rfl) ?_
        refine r_get C w 0 (v := .ref (a 12)) rfl rfl 3 (by decide) inX9 kf_X9_35 rfl dX9_lot_76 ?_
        refine lv_iload_n hx hb dX9_lot_79 rfl (lv_at hl 2 rfl) ?_
        refine lv_iload_n hx hb dX9_lot_80 rfl (lv_at hl 3 rfl) ?_
        refine lv_iload_n hx hb dX9_lot_81 rfl (lv_at hl 4 rfl) ?_
        refine lv_iload hx hb dX9_lot_82 (lv_at hl 5 rfl) ?_
        refine lv_iload hx hb dX9_lot_84 (lv_at hl 6 rfl) ?_
        refine cVI C w hA (ct_X2_add l D cy a z g p0 p1 p2 p3 p4 hz hg (by show 0 ≤ p0 ∧ p0 < 8; omega) (by show 0 ≤ p1 ∧ p1 < 6; omega) (by show 0 ≤ p2 ∧ p2 < 4; omega) (by show 1 ≤ p3 ∧ p3 ≤ 500; omega) (by show 0 ≤ p4 ∧ p4 < 4; omega) (by show (z 16) < 100; omega)) ok_X2_add km_X9_120 ⟨rfl, rfl⟩ ⟨by decide, by decide⟩ ⟨by decide, by decide⟩ rfl 12 rfl rfl hl.1 rfl (Nat.le_of_ble_eq_true rfl) dX9_lot_86 (fun rv_1 uv_1 H locs w hp_1 => ?_)
        obtain ⟨zc_1, gc_1⟩ := uv_1
        obtain ⟨hp_1, hzc_1, hgc_1⟩ := hp_1
        replace w : wd D A s.heap (xw cy a zc_1 gc_1) H locs := w
        replace hzc_1 : xBz zc_1 := hzc_1
        replace hgc_1 : xBg gc_1 := hgc_1
        try dsimp only at hp_1
        exact hend rv_1 (zc_1, gc_1) _ _ _ _ dX9_lot_89 w ⟨(by exact Or.inr ⟨by unfold okLot; omega, hp_1.1, hp_1.2⟩), hzc_1, hgc_1⟩
      · skip
        refine r_iconst hx hb dX9_lot_73 ?_
        exact hend (-1) (z, g) _ _ _ _ dX9_lot_74 w ⟨(by exact Or.inl ⟨by unfold okLot; omega, rfl, rfl⟩), hz, hg⟩
  replace hl : lv_has ls 7 [(0, .ref (a 0)), (1, vI p0), (2, vI p1), (3, vI p2), (4, vI p3), (5, vI p4)] := hl
  refine lv_iload_n hx hb dX9_lot_0 rfl (lv_at hl 1 rfl) ?_
  refine r_bipush hx hb dX9_lot_1 (by decide) ?_
  refine cSI C w hA (ct_X9_isBelow l D cy a z g p0 8 (by show iR p0; omega) (by show iR 8; omega)) ok_X9_isBelow km_X9_115 ⟨rfl, rfl⟩ ⟨by decide, by decide⟩ ⟨by decide, by decide⟩ rfl hl.1 rfl (Nat.le_of_ble_eq_true rfl) dX9_lot_3 (fun rv_2 uv_2 H locs w hp_2 => ?_)
  replace hp_2 : (rv_2 = 1 ∧ 0 ≤ p0 ∧ p0 < 8) ∨ (rv_2 = 0 ∧ ¬ (0 ≤ p0 ∧ p0 < 8)) := hp_2
  replace w : wd D A s.heap (xw cy a z g) H locs := w
  refine r_if_eq (tgt := 53) hx hb dX9_lot_6 (by decide) (by omega) (fun c6 => ?_) (fun c6 => ?_)
  · skip
    refine r_iconst hx hb dX9_lot_53 ?_
    exact J54 0 (by unfold okLot; omega) _ _ _ w (lv_sub hl [0, 1, 2, 3, 4, 5] rfl)
  · skip
    refine lv_iload_n hx hb dX9_lot_9 rfl (lv_at hl 2 rfl) ?_
    refine r_bipush hx hb dX9_lot_10 (by decide) ?_
    refine cSI C w hA (ct_X9_isBelow l D cy a z g p1 6 (by show iR p1; omega) (by show iR 6; omega)) ok_X9_isBelow km_X9_115 ⟨rfl, rfl⟩ ⟨by decide, by decide⟩ ⟨by decide, by decide⟩ rfl hl.1 rfl (Nat.le_of_ble_eq_true rfl) dX9_lot_12 (fun rv_3 uv_3 H locs w hp_3 => ?_)
    replace hp_3 : (rv_3 = 1 ∧ 0 ≤ p1 ∧ p1 < 6) ∨ (rv_3 = 0 ∧ ¬ (0 ≤ p1 ∧ p1 < 6)) := hp_3
    replace w : wd D A s.heap (xw cy a z g) H locs := w
    refine r_if_eq (tgt := 53) hx hb dX9_lot_15 (by decide) (by omega) (fun c15 => ?_) (fun c15 => ?_)
    · skip
      refine r_iconst hx hb dX9_lot_53 ?_
      exact J54 0 (by unfold okLot; omega) _ _ _ w (lv_sub hl [0, 1, 2, 3, 4, 5] rfl)
    · skip
      refine lv_iload_n hx hb dX9_lot_18 rfl (lv_at hl 3 rfl) ?_
      refine r_iconst hx hb dX9_lot_19 ?_
      refine cSI C w hA (ct_X9_isBelow l D cy a z g p2 4 (by show iR p2; omega) (by show iR 4; omega)) ok_X9_isBelow km_X9_115 ⟨rfl, rfl⟩ ⟨by decide, by decide⟩ ⟨by decide, by decide⟩ rfl hl.1 rfl (Nat.le_of_ble_eq_true rfl) dX9_lot_20 (fun rv_4 uv_4 H locs w hp_4 => ?_)
      replace hp_4 : (rv_4 = 1 ∧ 0 ≤ p2 ∧ p2 < 4) ∨ (rv_4 = 0 ∧ ¬ (0 ≤ p2 ∧ p2 < 4)) := hp_4
      replace w : wd D A s.heap (xw cy a z g) H locs := w
      refine r_if_eq (tgt := 53) hx hb dX9_lot_23 (by decide) (by omega) (fun c23 => ?_) (fun c23 => ?_)
      · skip
        refine r_iconst hx hb dX9_lot_53 ?_
        exact J54 0 (by unfold okLot; omega) _ _ _ w (lv_sub hl [0, 1, 2, 3, 4, 5] rfl)
      · skip
        refine lv_iload hx hb dX9_lot_26 (lv_at hl 4 rfl) ?_
        refine r_iconst hx hb dX9_lot_28 ?_
        refine r_icmp_lt (tgt := 53) hx hb dX9_lot_29 (by decide) (by omega) (by omega) (fun c29 => ?_) (fun c29 => ?_)
        · skip
          refine r_iconst hx hb dX9_lot_53 ?_
          exact J54 0 (by unfold okLot; omega) _ _ _ w (lv_sub hl [0, 1, 2, 3, 4, 5] rfl)
        · skip
          refine lv_iload hx hb dX9_lot_32 (lv_at hl 4 rfl) ?_
          refine r_sipush hx hb dX9_lot_34 (by decide) ?_
          refine r_icmp_gt (tgt := 53) hx hb dX9_lot_37 (by decide) (by omega) (by omega) (fun c37 => ?_) (fun c37 => ?_)
          · skip
            refine r_iconst hx hb dX9_lot_53 ?_
            exact J54 0 (by unfold okLot; omega) _ _ _ w (lv_sub hl [0, 1, 2, 3, 4, 5] rfl)
          · skip
            refine lv_iload hx hb dX9_lot_40 (lv_at hl 5 rfl) ?_
            refine r_iconst hx hb dX9_lot_42 ?_
            refine cSI C w hA (ct_X9_isBelow l D cy a z g p4 4 (by show iR p4; omega) (by show iR 4; omega)) ok_X9_isBelow km_X9_115 ⟨rfl, rfl⟩ ⟨by decide, by decide⟩ ⟨by decide, by decide⟩ rfl hl.1 rfl (Nat.le_of_ble_eq_true rfl) dX9_lot_43 (fun rv_5 uv_5 H locs w hp_5 => ?_)
            replace hp_5 : (rv_5 = 1 ∧ 0 ≤ p4 ∧ p4 < 4) ∨ (rv_5 = 0 ∧ ¬ (0 ≤ p4 ∧ p4 < 4)) := hp_5
            replace w : wd D A s.heap (xw cy a z g) H locs := w
            refine r_if_eq (tgt := 53) hx hb dX9_lot_46 (by decide) (by omega) (fun c46 => ?_) (fun c46 => ?_)
            · skip
              refine r_iconst hx hb dX9_lot_53 ?_
              exact J54 0 (by unfold okLot; omega) _ _ _ w (lv_sub hl [0, 1, 2, 3, 4, 5] rfl)
            · skip
              refine r_iconst hx hb dX9_lot_49 ?_
              refine lv_goto (tgt := 54) hx hb dX9_lot_50 (by decide) ?_
              exact J54 1 (by unfold okLot; omega) _ _ _ w (lv_sub hl [0, 1, 2, 3, 4, 5] rfl)

abbrev rm_X9_money : Room := { frames := 1, cells := 0, slots := 0, locals := 21 }
set_option maxHeartbeats 4000000 in
set_option maxRecDepth 100000 in
theorem ct_X9_money (l : Launch) (D : va_G) (cy : Nat → ClassId) (a : Nat → Nat) (z : Nat → Int) (g : Nat → Int → Int) (p0 p1 : Int) (hz : xBz z) (hg : xBg g) (h0 : iR p0) (h1 : iR p1) : MI l yX9_money cX9_money 3 .boolean (rm_X9_money) D cy (xw cy a z g) [.ref (a 0), vI p0, vI p1] (fun (v : Int) (u : sX) => ((¬ ((0 ≤ p0 ∧ p0 < 10) ∧ 0 ≤ p1 ∧ p1 ≤ 1000000) ∧ v = 0 ∧ u = (z, g)) ∨ (((0 ≤ p0 ∧ p0 < 10) ∧ 0 ≤ p1 ∧ p1 ≤ 1000000) ∧ v = 1 ∧ u = (z, uZ (uZ g 29 (uI (g 29) p0 p1)) 30 (uI (g 30) p0 p1)))) ∧ xBz u.1 ∧ xBg u.2) (fun u => xw cy a u.1 u.2) 0 0 := by
  refine go_i (by decide +kernel) (Nat.le_of_ble_eq_true rfl) (Or.inr (fun v u h => nb01 (by omega))) ?_
  intro p e s m args below meth c Q A ls C hnm hA w hl hend
  have hx := C.1
  have hb := C.2.1
  replace hl : lv_has ls 3 [(0, .ref (a 0)), (1, vI p0), (2, vI p1)] := hl
  refine lv_iload_n hx hb dX9_money_0 rfl (lv_at hl 1 rfl) ?_
  refine r_bipush hx hb dX9_money_1 (by decide) ?_
  refine cSI C w hA (ct_X9_isBelow l D cy a z g p0 10 (by show iR p0; omega) (by show iR 10; omega)) ok_X9_isBelow km_X9_115 ⟨rfl, rfl⟩ ⟨by decide, by decide⟩ ⟨by decide, by decide⟩ rfl hl.1 rfl (Nat.le_of_ble_eq_true rfl) dX9_money_3 (fun rv_1 uv_1 H locs w hp_1 => ?_)
  replace hp_1 : (rv_1 = 1 ∧ 0 ≤ p0 ∧ p0 < 10) ∨ (rv_1 = 0 ∧ ¬ (0 ≤ p0 ∧ p0 < 10)) := hp_1
  replace w : wd D A s.heap (xw cy a z g) H locs := w
  refine r_if_eq (tgt := 19) hx hb dX9_money_6 (by decide) (by omega) (fun c6 => ?_) (fun c6 => ?_)
  · skip
    refine r_iconst hx hb dX9_money_19 ?_
    exact hend 0 (z, g) _ _ _ _ dX9_money_20 w ⟨(by first | exact Or.inl ⟨by omega, rfl, rfl⟩ | exact Or.inr ⟨by omega, rfl, rfl⟩), hz, hg⟩
  · skip
    refine lv_iload_n hx hb dX9_money_9 rfl (lv_at hl 2 rfl) ?_
    refine r_if_lt (tgt := 19) hx hb dX9_money_10 (by decide) (by omega) (fun c10 => ?_) (fun c10 => ?_)
    · skip
      refine r_iconst hx hb dX9_money_19 ?_
      exact hend 0 (z, g) _ _ _ _ dX9_money_20 w ⟨(by first | exact Or.inl ⟨by omega, rfl, rfl⟩ | exact Or.inr ⟨by omega, rfl, rfl⟩), hz, hg⟩
    · skip
      refine lv_iload_n hx hb dX9_money_13 rfl (lv_at hl 2 rfl) ?_
      refine lv_ldc (v := iI 1000000) hx hb C.2.2.2.1 (C.2.2.2.2.1 _ kk_X9_124) dX9_money_14 ?_
      refine r_icmp_le (tgt := 21) hx hb dX9_money_16 (by decide) (by omega) (by omega) (fun c16 => ?_) (fun c16 => ?_)
      · skip
        refine lv_aload_n hx hb dX9_money_21 rfl (lv_at hl 0 rfl) ?_
        refine r_get C w 0 (v := .ref (a 28)) rfl rfl 5 (by decide) inX9 kf_X9_49 rfl dX9_money_22 ?_
        refine r_getN C w 28 (v := .ref (a 29)) rfl rfl 0 (by decide) inX0 kt_X9_125 rfl dX9_money_25 ?_
        refine lv_iload_n hx hb dX9_money_28 rfl (lv_at hl 1 rfl) ?_
        refine lv_iload_n hx hb dX9_money_29 rfl (lv_at hl 2 rfl) ?_
        refine r_iast C w 29 (f := (g 29)) rfl (by omega) (by omega) (by decide) (ws' := xw cy a z (uZ g 29 (uI (g 29) p0 p1))) (xw_g29 cy a z g (uI (g 29) p0 p1)) dX9_money_30 (fun H locs w => ?_)
        have bg1 : ∀ j : Int, (0 : Int) ≤ (uI (g 29) p0 p1) j ∧ (uI (g 29) p0 p1) j ≤ 1000000 := uI_b (xB29 hg) (by omega)
        refine lv_aload_n hx hb dX9_money_31 rfl (lv_at hl 0 rfl) ?_
        refine r_get C w 0 (v := .ref (a 28)) rfl rfl 5 (by decide) inX9 kf_X9_49 rfl dX9_money_32 ?_
        refine r_getN C w 28 (v := .ref (a 30)) rfl rfl 1 (by decide) inX0 kt_X9_128 rfl dX9_money_35 ?_
        refine lv_iload_n hx hb dX9_money_38 rfl (lv_at hl 1 rfl) ?_
        refine lv_iload_n hx hb dX9_money_39 rfl (lv_at hl 2 rfl) ?_
        refine r_iast C w 30 (f := (g 30)) rfl (by omega) (by omega) (by decide) (ws' := xw cy a z (uZ (uZ g 29 (uI (g 29) p0 p1)) 30 (uI (g 30) p0 p1))) (xw_g30 cy a z (uZ g 29 (uI (g 29) p0 p1)) (uI (g 30) p0 p1)) dX9_money_40 (fun H locs w => ?_)
        have bg2 : ∀ j : Int, (0 : Int) ≤ (uI (g 30) p0 p1) j ∧ (uI (g 30) p0 p1) j ≤ 1000000 := uI_b (xB30 hg) (by omega)
        refine r_iconst hx hb dX9_money_41 ?_
        exact hend 1 (z, (uZ (uZ g 29 (uI (g 29) p0 p1)) 30 (uI (g 30) p0 p1))) _ _ _ _ dX9_money_42 w ⟨(by first | exact Or.inl ⟨by omega, rfl, rfl⟩ | exact Or.inr ⟨by omega, rfl, rfl⟩), hz, (xBg_u (xBg_u hg 29 bg1) 30 bg2)⟩
      · skip
        refine r_iconst hx hb dX9_money_19 ?_
        exact hend 0 (z, g) _ _ _ _ dX9_money_20 w ⟨(by first | exact Or.inl ⟨by omega, rfl, rfl⟩ | exact Or.inr ⟨by omega, rfl, rfl⟩), hz, hg⟩

abbrev rm_X9_isWantPlace : Room := { frames := 1, cells := 0, slots := 0, locals := 21 }
set_option maxHeartbeats 4000000 in
set_option maxRecDepth 100000 in
theorem ct_X9_isWantPlace (l : Launch) (D : va_G) (cy : Nat → ClassId) (a : Nat → Nat) (z : Nat → Int) (g : Nat → Int → Int) (p0 p1 p2 : Int) (h0 : iR p0) (h1 : iR p1) (h2 : iR p2) : MI l yX9_isWantPlace cX9_isWantPlace 3 .boolean (rm_X9_isWantPlace) D cy (xw cy a z g) [vI p0, vI p1, vI p2] (fun (v : Int) (u : Unit) => (v = 1 ∧ (0 ≤ p0 ∧ p0 < 10) ∧ (0 ≤ p1 ∧ p1 < 4) ∧ (0 ≤ p2 ∧ p2 < 4)) ∨ (v = 0 ∧ ¬ ((0 ≤ p0 ∧ p0 < 10) ∧ (0 ≤ p1 ∧ p1 < 4) ∧ (0 ≤ p2 ∧ p2 < 4)))) (fun _ => xw cy a z g) 0 0 := by
  refine go_i (by decide +kernel) (Nat.le_of_ble_eq_true rfl) (Or.inr (fun v u h => nb01 (by omega))) ?_
  intro p e s m args below meth c Q A ls C hnm hA w hl hend
  have hx := C.1
  have hb := C.2.1
  replace hl : lv_has ls 3 [(0, vI p0), (1, vI p1), (2, vI p2)] := hl
  refine lv_iload_n hx hb dX9_isWantPlace_0 rfl (lv_at hl 0 rfl) ?_
  refine r_bipush hx hb dX9_isWantPlace_1 (by decide) ?_
  refine cSI C w hA (ct_X9_isBelow l D cy a z g p0 10 (by show iR p0; omega) (by show iR 10; omega)) ok_X9_isBelow km_X9_115 ⟨rfl, rfl⟩ ⟨by decide, by decide⟩ ⟨by decide, by decide⟩ rfl hl.1 rfl (Nat.le_of_ble_eq_true rfl) dX9_isWantPlace_3 (fun rv_1 uv_1 H locs w hp_1 => ?_)
  replace hp_1 : (rv_1 = 1 ∧ 0 ≤ p0 ∧ p0 < 10) ∨ (rv_1 = 0 ∧ ¬ (0 ≤ p0 ∧ p0 < 10)) := hp_1
  replace w : wd D A s.heap (xw cy a z g) H locs := w
  refine r_if_eq (tgt := 29) hx hb dX9_isWantPlace_6 (by decide) (by omega) (fun c6 => ?_) (fun c6 => ?_)
  · skip
    refine r_iconst hx hb dX9_isWantPlace_29 ?_
    exact hend 0 () _ _ _ _ dX9_isWantPlace_30 w (by omega)
  · skip
    refine lv_iload_n hx hb dX9_isWantPlace_9 rfl (lv_at hl 1 rfl) ?_
    refine r_iconst hx hb dX9_isWantPlace_10 ?_
    refine cSI C w hA (ct_X9_isBelow l D cy a z g p1 4 (by show iR p1; omega) (by show iR 4; omega)) ok_X9_isBelow km_X9_115 ⟨rfl, rfl⟩ ⟨by decide, by decide⟩ ⟨by decide, by decide⟩ rfl hl.1 rfl (Nat.le_of_ble_eq_true rfl) dX9_isWantPlace_11 (fun rv_2 uv_2 H locs w hp_2 => ?_)
    replace hp_2 : (rv_2 = 1 ∧ 0 ≤ p1 ∧ p1 < 4) ∨ (rv_2 = 0 ∧ ¬ (0 ≤ p1 ∧ p1 < 4)) := hp_2
    replace w : wd D A s.heap (xw cy a z g) H locs := w
    refine r_if_eq (tgt := 29) hx hb dX9_isWantPlace_14 (by decide) (by omega) (fun c14 => ?_) (fun c14 => ?_)
    · skip
      refine r_iconst hx hb dX9_isWantPlace_29 ?_
      exact hend 0 () _ _ _ _ dX9_isWantPlace_30 w (by omega)
    · skip
      refine lv_iload_n hx hb dX9_isWantPlace_17 rfl (lv_at hl 2 rfl) ?_
      refine r_iconst hx hb dX9_isWantPlace_18 ?_
      refine cSI C w hA (ct_X9_isBelow l D cy a z g p2 4 (by show iR p2; omega) (by show iR 4; omega)) ok_X9_isBelow km_X9_115 ⟨rfl, rfl⟩ ⟨by decide, by decide⟩ ⟨by decide, by decide⟩ rfl hl.1 rfl (Nat.le_of_ble_eq_true rfl) dX9_isWantPlace_19 (fun rv_3 uv_3 H locs w hp_3 => ?_)
      replace hp_3 : (rv_3 = 1 ∧ 0 ≤ p2 ∧ p2 < 4) ∨ (rv_3 = 0 ∧ ¬ (0 ≤ p2 ∧ p2 < 4)) := hp_3
      replace w : wd D A s.heap (xw cy a z g) H locs := w
      refine r_if_eq (tgt := 29) hx hb dX9_isWantPlace_22 (by decide) (by omega) (fun c22 => ?_) (fun c22 => ?_)
      · skip
        refine r_iconst hx hb dX9_isWantPlace_29 ?_
        exact hend 0 () _ _ _ _ dX9_isWantPlace_30 w (by omega)
      · skip
        refine r_iconst hx hb dX9_isWantPlace_25 ?_
        refine lv_goto (tgt := 30) hx hb dX9_isWantPlace_26 (by decide) ?_
        exact hend 1 () _ _ _ _ dX9_isWantPlace_30 w (by omega)

abbrev rm_X9_want : Room := { frames := 2, cells := 0, slots := 0, locals := 43 }
set_option maxHeartbeats 4000000 in
set_option maxRecDepth 100000 in
theorem ct_X9_want (l : Launch) (D : va_G) (cy : Nat → ClassId) (a : Nat → Nat) (z : Nat → Int) (g : Nat → Int → Int) (p0 p1 p2 p3 p4 : Int) (hz : xBz z) (hg : xBg g) (h0 : iR p0) (h1 : iR p1) (h2 : iR p2) (h3 : iR p3) (h4 : iR p4) : MI l yX9_want cX9_want 8 .boolean (rm_X9_want) D cy (xw cy a z g) [.ref (a 0), vI p0, vI p1, vI p2, vI p3, vI p4] (fun (v : Int) (u : sX) => ((¬ ((0 ≤ p0 ∧ p0 < 10) ∧ (0 ≤ p1 ∧ p1 < 4) ∧ (0 ≤ p2 ∧ p2 < 4) ∧ (0 ≤ p3 ∧ p3 ≤ 5000) ∧ (0 ≤ p4 ∧ p4 ≤ 9999)) ∧ v = 0 ∧ u = (z, g)) ∨ (((0 ≤ p0 ∧ p0 < 10) ∧ (0 ≤ p1 ∧ p1 < 4) ∧ (0 ≤ p2 ∧ p2 < 4) ∧ (0 ≤ p3 ∧ p3 ≤ 5000) ∧ (0 ≤ p4 ∧ p4 ≤ 9999)) ∧ v = 1 ∧ u = (z, uZ (uZ g 31 (uI (g 31) ((p0 * 4 + p1) * 4 + p2) p3)) 32 (uI (g 32) ((p0 * 4 + p1) * 4 + p2) p4)))) ∧ xBz u.1 ∧ xBg u.2) (fun u => xw cy a u.1 u.2) 0 0 := by
  refine go_i (by decide +kernel) (Nat.le_of_ble_eq_true rfl) (Or.inr (fun v u h => nb01 (by omega))) ?_
  intro p e s m args below meth c Q A ls C hnm hA w hl hend
  have hx := C.1
  have hb := C.2.1
  have J40 : ∀ (b : Int), ((b = 1 ∧ (0 ≤ p0 ∧ p0 < 10) ∧ (0 ≤ p1 ∧ p1 < 4) ∧ (0 ≤ p2 ∧ p2 < 4) ∧ (0 ≤ p3 ∧ p3 ≤ 5000) ∧ (0 ≤ p4 ∧ p4 ≤ 9999)) ∨ (b = 0 ∧ ¬ ((0 ≤ p0 ∧ p0 < 10) ∧ (0 ≤ p1 ∧ p1 < 4) ∧ (0 ≤ p2 ∧ p2 < 4) ∧ (0 ≤ p3 ∧ p3 ≤ 5000) ∧ (0 ≤ p4 ∧ p4 ≤ 9999)))) → ∀ (H : Heap) (locs : List Loc) (ls : Array Slot), wd D A s.heap (xw cy a z g) H locs → lv_has ls 8 [(0, .ref (a 0)), (1, vI p0), (2, vI p1), (3, vI p2), (4, vI p3), (5, vI p4)] → W p l e (rm_X9_want) s m args below meth c H locs 0 0 Q (F0 m 40 ls [vI b]) := by
    intro b hb1 H locs ls w hl
    refine lv_istore (lv' := [(6, vI b), (0, .ref (a 0)), (1, vI p0), (2, vI p1), (3, vI p2), (4, vI p3), (5, vI p4)]) hx hb dX9_want_40 hl (by decide) rfl (fun ls hl => ?_)
    refine lv_iload hx hb dX9_want_42 (lv_at hl 0 rfl) ?_
    refine r_if_ne (tgt := 49) hx hb dX9_want_44 (by decide) (by omega) (fun c44 => ?_) (fun c44 => ?_)
    · skip
      refine lv_iload_n hx hb dX9_want_49 rfl (lv_at hl 2 rfl) ?_
      refine lv_iload_n hx hb dX9_want_50 rfl (lv_at hl 3 rfl) ?_
      refine lv_iload_n hx hb dX9_want_51 rfl (lv_at hl 4 rfl) ?_
      refine cSI C w hA (ct_X0_wantPlace l D cy a z g p0 p1 p2 ) ok_X0_wantPlace km_X9_135 ⟨rfl, rfl⟩ ⟨by decide, by decide⟩ ⟨by decide, by decide⟩ rfl hl.1 rfl (Nat.le_of_ble_eq_true rfl) dX9_want_52 (fun rv_1 uv_1 H locs w hp_1 => ?_)
      replace hp_1 : rv_1 = (p0 * 4 + p1) * 4 + p2 := hp_1
      replace w : wd D A s.heap (xw cy a z g) H locs := w
      subst hp_1
      refine lv_istore (lv' := [(7, vI ((p0 * 4 + p1) * 4 + p2)), (6, vI b), (0, .ref (a 0)), (1, vI p0), (2, vI p1), (3, vI p2), (4, vI p3), (5, vI p4)]) hx hb dX9_want_55 hl (by decide) rfl (fun ls hl => ?_)
      refine lv_aload_n hx hb dX9_want_57 rfl (lv_at hl 2 rfl) ?_
      refine r_get C w 0 (v := .ref (a 28)) rfl rfl 5 (by decide) inX9 kf_X9_49 rfl dX9_want_58 ?_
      refine r_getN C w 28 (v := .ref (a 31)) rfl rfl 2 (by decide) inX0 kt_X9_139 rfl dX9_want_61 ?_
      refine lv_iload hx hb dX9_want_64 (lv_at hl 0 rfl) ?_
      refine lv_iload hx hb dX9_want_66 (lv_at hl 6 rfl) ?_
      refine r_iast C w 31 (f := (g 31)) rfl (by omega) (by omega) (by decide) (ws' := xw cy a z (uZ g 31 (uI (g 31) ((p0 * 4 + p1) * 4 + p2) p3))) (xw_g31 cy a z g (uI (g 31) ((p0 * 4 + p1) * 4 + p2) p3)) dX9_want_68 (fun H locs w => ?_)
      have bg1 : ∀ j : Int, (0 : Int) ≤ (uI (g 31) ((p0 * 4 + p1) * 4 + p2) p3) j ∧ (uI (g 31) ((p0 * 4 + p1) * 4 + p2) p3) j ≤ 5000 := uI_b (xB31 hg) (by omega)
      refine lv_aload_n hx hb dX9_want_69 rfl (lv_at hl 2 rfl) ?_
      refine r_get C w 0 (v := .ref (a 28)) rfl rfl 5 (by decide) inX9 kf_X9_49 rfl dX9_want_70 ?_
      refine r_getN C w 28 (v := .ref (a 32)) rfl rfl 3 (by decide) inX0 kt_X9_142 rfl dX9_want_73 ?_
      refine lv_iload hx hb dX9_want_76 (lv_at hl 0 rfl) ?_
      refine lv_iload hx hb dX9_want_78 (lv_at hl 7 rfl) ?_
      refine r_iast C w 32 (f := (g 32)) rfl (by omega) (by omega) (by decide) (ws' := xw cy a z (uZ (uZ g 31 (uI (g 31) ((p0 * 4 + p1) * 4 + p2) p3)) 32 (uI (g 32) ((p0 * 4 + p1) * 4 + p2) p4))) (xw_g32 cy a z (uZ g 31 (uI (g 31) ((p0 * 4 + p1) * 4 + p2) p3)) (uI (g 32) ((p0 * 4 + p1) * 4 + p2) p4)) dX9_want_80 (fun H locs w => ?_)
      have bg2 : ∀ j : Int, (0 : Int) ≤ (uI (g 32) ((p0 * 4 + p1) * 4 + p2) p4) j ∧ (uI (g 32) ((p0 * 4 + p1) * 4 + p2) p4) j ≤ 9999 := uI_b (xB32 hg) (by omega)
      refine r_iconst hx hb dX9_want_81 ?_
      exact hend 1 (z, (uZ (uZ g 31 (uI (g 31) ((p0 * 4 + p1) * 4 + p2) p3)) 32 (uI (g 32) ((p0 * 4 + p1) * 4 + p2) p4))) _ _ _ _ dX9_want_82 w ⟨(by exact Or.inr ⟨by omega, rfl, rfl⟩), hz, (xBg_u (xBg_u hg 31 bg1) 32 bg2)⟩
    · skip
      refine r_iconst hx hb dX9_want_47 ?_
      exact hend 0 (z, g) _ _ _ _ dX9_want_48 w ⟨(by exact Or.inl ⟨by omega, rfl, rfl⟩), hz, hg⟩
  replace hl : lv_has ls 8 [(0, .ref (a 0)), (1, vI p0), (2, vI p1), (3, vI p2), (4, vI p3), (5, vI p4)] := hl
  refine lv_iload_n hx hb dX9_want_0 rfl (lv_at hl 1 rfl) ?_
  refine lv_iload_n hx hb dX9_want_1 rfl (lv_at hl 2 rfl) ?_
  refine lv_iload_n hx hb dX9_want_2 rfl (lv_at hl 3 rfl) ?_
  refine cSI C w hA (ct_X9_isWantPlace l D cy a z g p0 p1 p2 (by show iR p0; omega) (by show iR p1; omega) (by show iR p2; omega)) ok_X9_isWantPlace km_X9_131 ⟨rfl, rfl⟩ ⟨by decide, by decide⟩ ⟨by decide, by decide⟩ rfl hl.1 rfl (Nat.le_of_ble_eq_true rfl) dX9_want_3 (fun rv_2 uv_2 H locs w hp_2 => ?_)
  replace hp_2 : (rv_2 = 1 ∧ (0 ≤ p0 ∧ p0 < 10) ∧ (0 ≤ p1 ∧ p1 < 4) ∧ (0 ≤ p2 ∧ p2 < 4)) ∨ (rv_2 = 0 ∧ ¬ ((0 ≤ p0 ∧ p0 < 10) ∧ (0 ≤ p1 ∧ p1 < 4) ∧ (0 ≤ p2 ∧ p2 < 4))) := hp_2
  replace w : wd D A s.heap (xw cy a z g) H locs := w
  refine r_if_eq (tgt := 39) hx hb dX9_want_6 (by decide) (by omega) (fun c6 => ?_) (fun c6 => ?_)
  · skip
    refine r_iconst hx hb dX9_want_39 ?_
    exact J40 0 (by omega) _ _ _ w (lv_sub hl [0, 1, 2, 3, 4, 5] rfl)
  · skip
    refine lv_iload hx hb dX9_want_9 (lv_at hl 4 rfl) ?_
    refine r_if_lt (tgt := 39) hx hb dX9_want_11 (by decide) (by omega) (fun c11 => ?_) (fun c11 => ?_)
    · skip
      refine r_iconst hx hb dX9_want_39 ?_
      exact J40 0 (by omega) _ _ _ w (lv_sub hl [0, 1, 2, 3, 4, 5] rfl)
    · skip
      refine lv_iload hx hb dX9_want_14 (lv_at hl 4 rfl) ?_
      refine r_sipush hx hb dX9_want_16 (by decide) ?_
      refine r_icmp_gt (tgt := 39) hx hb dX9_want_19 (by decide) (by omega) (by omega) (fun c19 => ?_) (fun c19 => ?_)
      · skip
        refine r_iconst hx hb dX9_want_39 ?_
        exact J40 0 (by omega) _ _ _ w (lv_sub hl [0, 1, 2, 3, 4, 5] rfl)
      · skip
        refine lv_iload hx hb dX9_want_22 (lv_at hl 5 rfl) ?_
        refine r_if_lt (tgt := 39) hx hb dX9_want_24 (by decide) (by omega) (fun c24 => ?_) (fun c24 => ?_)
        · skip
          refine r_iconst hx hb dX9_want_39 ?_
          exact J40 0 (by omega) _ _ _ w (lv_sub hl [0, 1, 2, 3, 4, 5] rfl)
        · skip
          refine lv_iload hx hb dX9_want_27 (lv_at hl 5 rfl) ?_
          refine r_sipush hx hb dX9_want_29 (by decide) ?_
          refine r_icmp_gt (tgt := 39) hx hb dX9_want_32 (by decide) (by omega) (by omega) (fun c32 => ?_) (fun c32 => ?_)
          · skip
            refine r_iconst hx hb dX9_want_39 ?_
            exact J40 0 (by omega) _ _ _ w (lv_sub hl [0, 1, 2, 3, 4, 5] rfl)
          · skip
            refine r_iconst hx hb dX9_want_35 ?_
            refine lv_goto (tgt := 40) hx hb dX9_want_36 (by decide) ?_
            exact J40 1 (by omega) _ _ _ w (lv_sub hl [0, 1, 2, 3, 4, 5] rfl)

abbrev rm_X9_left : Room := { frames := 1, cells := 0, slots := 0, locals := 21 }
set_option maxHeartbeats 4000000 in
set_option maxRecDepth 100000 in
theorem ct_X9_left (l : Launch) (D : va_G) (cy : Nat → ClassId) (a : Nat → Nat) (z : Nat → Int) (g : Nat → Int → Int) (p0 : Int) (hz : xBz z) (hg : xBg g) (h0 : iR p0) : MI l yX9_left cX9_left 2 .int (rm_X9_left) D cy (xw cy a z g) [.ref (a 0), vI p0] (fun (v : Int) (u : Unit) => ((0 ≤ p0 ∧ p0 < 10) ∧ v = g 30 p0) ∨ (¬ (0 ≤ p0 ∧ p0 < 10) ∧ v = -1)) (fun _ => xw cy a z g) 0 0 := by
  refine go_i (by decide +kernel) (Nat.le_of_ble_eq_true rfl) (Or.inl rfl) ?_
  intro p e s m args below meth c Q A ls C hnm hA w hl hend
  have hx := C.1
  have hb := C.2.1
  replace hl : lv_has ls 2 [(0, .ref (a 0)), (1, vI p0)] := hl
  refine lv_iload_n hx hb dX9_left_0 rfl (lv_at hl 1 rfl) ?_
  refine r_bipush hx hb dX9_left_1 (by decide) ?_
  refine cSI C w hA (ct_X9_isBelow l D cy a z g p0 10 (by show iR p0; omega) (by show iR 10; omega)) ok_X9_isBelow km_X9_115 ⟨rfl, rfl⟩ ⟨by decide, by decide⟩ ⟨by decide, by decide⟩ rfl hl.1 rfl (Nat.le_of_ble_eq_true rfl) dX9_left_3 (fun rv_1 uv_1 H locs w hp_1 => ?_)
  replace hp_1 : (rv_1 = 1 ∧ 0 ≤ p0 ∧ p0 < 10) ∨ (rv_1 = 0 ∧ ¬ (0 ≤ p0 ∧ p0 < 10)) := hp_1
  replace w : wd D A s.heap (xw cy a z g) H locs := w
  refine r_if_eq (tgt := 21) hx hb dX9_left_6 (by decide) (by omega) (fun c6 => ?_) (fun c6 => ?_)
  · skip
    refine r_iconst hx hb dX9_left_21 ?_
    exact hend (-1) () _ _ _ _ dX9_left_22 w (by omega)
  · skip
    refine lv_aload_n hx hb dX9_left_9 rfl (lv_at hl 0 rfl) ?_
    refine r_get C w 0 (v := .ref (a 28)) rfl rfl 5 (by decide) inX9 kf_X9_49 rfl dX9_left_10 ?_
    refine r_getN C w 28 (v := .ref (a 30)) rfl rfl 1 (by decide) inX0 kt_X9_128 rfl dX9_left_13 ?_
    refine lv_iload_n hx hb dX9_left_16 rfl (lv_at hl 1 rfl) ?_
    refine r_iald C w 30 (f := (g 30)) rfl (by omega) (by omega) (by decide) dX9_left_17 ?_
    have qg1 := xB30 hg p0
    refine lv_goto (tgt := 22) hx hb dX9_left_18 (by decide) ?_
    exact hend ((g 30) p0) () _ _ _ _ dX9_left_22 w (by omega)

abbrev rm_X9_wanted : Room := { frames := 2, cells := 0, slots := 0, locals := 43 }
set_option maxHeartbeats 4000000 in
set_option maxRecDepth 100000 in
theorem ct_X9_wanted (l : Launch) (D : va_G) (cy : Nat → ClassId) (a : Nat → Nat) (z : Nat → Int) (g : Nat → Int → Int) (p0 p1 p2 : Int) (hz : xBz z) (hg : xBg g) (h0 : iR p0) (h1 : iR p1) (h2 : iR p2) : MI l yX9_wanted cX9_wanted 4 .int (rm_X9_wanted) D cy (xw cy a z g) [.ref (a 0), vI p0, vI p1, vI p2] (fun (v : Int) (u : Unit) => (((0 ≤ p0 ∧ p0 < 10) ∧ (0 ≤ p1 ∧ p1 < 4) ∧ (0 ≤ p2 ∧ p2 < 4)) ∧ v = g 31 ((p0 * 4 + p1) * 4 + p2)) ∨ (¬ ((0 ≤ p0 ∧ p0 < 10) ∧ (0 ≤ p1 ∧ p1 < 4) ∧ (0 ≤ p2 ∧ p2 < 4)) ∧ v = -1)) (fun _ => xw cy a z g) 0 0 := by
  refine go_i (by decide +kernel) (Nat.le_of_ble_eq_true rfl) (Or.inl rfl) ?_
  intro p e s m args below meth c Q A ls C hnm hA w hl hend
  have hx := C.1
  have hb := C.2.1
  replace hl : lv_has ls 4 [(0, .ref (a 0)), (1, vI p0), (2, vI p1), (3, vI p2)] := hl
  refine lv_iload_n hx hb dX9_wanted_0 rfl (lv_at hl 1 rfl) ?_
  refine lv_iload_n hx hb dX9_wanted_1 rfl (lv_at hl 2 rfl) ?_
  refine lv_iload_n hx hb dX9_wanted_2 rfl (lv_at hl 3 rfl) ?_
  refine cSI C w hA (ct_X9_isWantPlace l D cy a z g p0 p1 p2 (by show iR p0; omega) (by show iR p1; omega) (by show iR p2; omega)) ok_X9_isWantPlace km_X9_131 ⟨rfl, rfl⟩ ⟨by decide, by decide⟩ ⟨by decide, by decide⟩ rfl hl.1 rfl (Nat.le_of_ble_eq_true rfl) dX9_wanted_3 (fun rv_1 uv_1 H locs w hp_1 => ?_)
  replace hp_1 : (rv_1 = 1 ∧ (0 ≤ p0 ∧ p0 < 10) ∧ (0 ≤ p1 ∧ p1 < 4) ∧ (0 ≤ p2 ∧ p2 < 4)) ∨ (rv_1 = 0 ∧ ¬ ((0 ≤ p0 ∧ p0 < 10) ∧ (0 ≤ p1 ∧ p1 < 4) ∧ (0 ≤ p2 ∧ p2 < 4))) := hp_1
  replace w : wd D A s.heap (xw cy a z g) H locs := w
  refine r_if_ne (tgt := 11) hx hb dX9_wanted_6 (by decide) (by omega) (fun c6 => ?_) (fun c6 => ?_)
  · skip
    refine lv_aload_n hx hb dX9_wanted_11 rfl (lv_at hl 0 rfl) ?_
    refine r_get C w 0 (v := .ref (a 28)) rfl rfl 5 (by decide) inX9 kf_X9_49 rfl dX9_wanted_12 ?_
    refine r_getN C w 28 (v := .ref (a 31)) rfl rfl 2 (by decide) inX0 kt_X9_139 rfl dX9_wanted_15 ?_
    refine lv_iload_n hx hb dX9_wanted_18 rfl (lv_at hl 1 rfl) ?_
    refine lv_iload_n hx hb dX9_wanted_19 rfl (lv_at hl 2 rfl) ?_
    refine lv_iload_n hx hb dX9_wanted_20 rfl (lv_at hl 3 rfl) ?_
    refine cSI C w hA (ct_X0_wantPlace l D cy a z g p0 p1 p2 ) ok_X0_wantPlace km_X9_135 ⟨rfl, rfl⟩ ⟨by decide, by decide⟩ ⟨by decide, by decide⟩ rfl hl.1 rfl (Nat.le_of_ble_eq_true rfl) dX9_wanted_21 (fun rv_2 uv_2 H locs w hp_2 => ?_)
    replace hp_2 : rv_2 = (p0 * 4 + p1) * 4 + p2 := hp_2
    replace w : wd D A s.heap (xw cy a z g) H locs := w
    subst hp_2
    refine r_iald C w 31 (f := (g 31)) rfl (by omega) (by omega) (by decide) dX9_wanted_24 ?_
    have qg1 := xB31 hg ((p0 * 4 + p1) * 4 + p2)
    exact hend ((g 31) ((p0 * 4 + p1) * 4 + p2)) () _ _ _ _ dX9_wanted_25 w (by omega)
  · skip
    refine r_iconst hx hb dX9_wanted_9 ?_
    exact hend (-1) () _ _ _ _ dX9_wanted_10 w (by omega)

abbrev rm_X9_reject : Room := { frames := 1, cells := 0, slots := 0, locals := 21 }
set_option maxHeartbeats 4000000 in
set_option maxRecDepth 100000 in
theorem ct_X9_reject (l : Launch) (D : va_G) (cy : Nat → ClassId) (a : Nat → Nat) (z : Nat → Int) (g : Nat → Int → Int) (p0 : Int) (hz : xBz z) (hg : xBg g) (h0 : iR p0) : MI l yX9_reject cX9_reject 3 .boolean (rm_X9_reject) D cy (xw cy a z g) [.ref (a 0), vI p0] (fun (v : Int) (u : sX) => ((¬ (0 ≤ p0 ∧ p0 < z 17 ∧ g 26 p0 = -1 ∧ g 19 (g 21 p0) = p0) ∧ v = 0 ∧ u = (z, g)) ∨ ((0 ≤ p0 ∧ p0 < z 17 ∧ g 26 p0 = -1 ∧ g 19 (g 21 p0) = p0) ∧ v = 1 ∧ u = (z, uZ (uZ g 26 (uI (g 26) p0 (z 0))) 18 (uI (g 18) (g 21 p0) 0)))) ∧ xBz u.1 ∧ xBg u.2) (fun u => xw cy a u.1 u.2) 0 0 := by
  refine go_i (by decide +kernel) (Nat.le_of_ble_eq_true rfl) (Or.inr (fun v u h => nb01 (by omega))) ?_
  intro p e s m args below meth c Q A ls C hnm hA w hl hend
  have hx := C.1
  have hb := C.2.1
  replace hl : lv_has ls 3 [(0, .ref (a 0)), (1, vI p0)] := hl
  refine lv_iload_n hx hb dX9_reject_0 rfl (lv_at hl 1 rfl) ?_
  refine lv_aload_n hx hb dX9_reject_1 rfl (lv_at hl 0 rfl) ?_
  refine r_get C w 0 (v := .ref (a 20)) rfl rfl 4 (by decide) inX9 kf_X9_42 rfl dX9_reject_2 ?_
  refine r_getN C w 20 (v := vI (z 17)) rfl rfl 7 (by decide) inX7 kt_X9_145 rfl dX9_reject_5 ?_
  have qz1 := xZ17 hz
  refine cSI C w hA (ct_X9_isBelow l D cy a z g p0 (z 17) (by show iR p0; omega) (by show iR (z 17); omega)) ok_X9_isBelow km_X9_115 ⟨rfl, rfl⟩ ⟨by decide, by decide⟩ ⟨by decide, by decide⟩ rfl hl.1 rfl (Nat.le_of_ble_eq_true rfl) dX9_reject_8 (fun rv_1 uv_1 H locs w hp_1 => ?_)
  replace hp_1 : (rv_1 = 1 ∧ 0 ≤ p0 ∧ p0 < (z 17)) ∨ (rv_1 = 0 ∧ ¬ (0 ≤ p0 ∧ p0 < (z 17))) := hp_1
  replace w : wd D A s.heap (xw cy a z g) H locs := w
  refine r_if_eq (tgt := 27) hx hb dX9_reject_11 (by decide) (by omega) (fun c11 => ?_) (fun c11 => ?_)
  · skip
    refine r_iconst hx hb dX9_reject_27 ?_
    exact hend 0 (z, g) _ _ _ _ dX9_reject_28 w ⟨(by first | exact Or.inl ⟨by omega, rfl, rfl⟩ | exact Or.inr ⟨by omega, rfl, rfl⟩), hz, hg⟩
  · skip
    refine lv_aload_n hx hb dX9_reject_14 rfl (lv_at hl 0 rfl) ?_
    refine r_get C w 0 (v := .ref (a 20)) rfl rfl 4 (by decide) inX9 kf_X9_42 rfl dX9_reject_15 ?_
    refine r_getN C w 20 (v := .ref (a 26)) rfl rfl 5 (by decide) inX7 kt_X9_150 rfl dX9_reject_18 ?_
    refine lv_iload_n hx hb dX9_reject_21 rfl (lv_at hl 1 rfl) ?_
    refine r_iald C w 26 (f := (g 26)) rfl (by omega) (by omega) (by decide) dX9_reject_22 ?_
    have qg2 := xB26 hg p0
    refine r_iconst hx hb dX9_reject_23 ?_
    refine r_icmp_eq (tgt := 29) hx hb dX9_reject_24 (by decide) (by omega) (by omega) (fun c24 => ?_) (fun c24 => ?_)
    · skip
      refine lv_aload_n hx hb dX9_reject_29 rfl (lv_at hl 0 rfl) ?_
      refine r_get C w 0 (v := .ref (a 20)) rfl rfl 4 (by decide) inX9 kf_X9_42 rfl dX9_reject_30 ?_
      refine r_getN C w 20 (v := .ref (a 21)) rfl rfl 0 (by decide) inX7 kt_X9_153 rfl dX9_reject_33 ?_
      refine lv_iload_n hx hb dX9_reject_36 rfl (lv_at hl 1 rfl) ?_
      refine r_iald C w 21 (f := (g 21)) rfl (by omega) (by omega) (by decide) dX9_reject_37 ?_
      have qg3 := xB21 hg p0
      refine lv_istore_n (lv' := [(2, vI ((g 21) p0)), (0, .ref (a 0)), (1, vI p0)]) hx hb dX9_reject_38 rfl hl (by decide) rfl (fun ls hl => ?_)
      refine lv_aload_n hx hb dX9_reject_39 rfl (lv_at hl 1 rfl) ?_
      refine r_get C w 0 (v := .ref (a 12)) rfl rfl 3 (by decide) inX9 kf_X9_35 rfl dX9_reject_40 ?_
      refine r_getN C w 12 (v := .ref (a 19)) rfl rfl 6 (by decide) inX2 kt_X9_156 rfl dX9_reject_43 ?_
      refine lv_iload_n hx hb dX9_reject_46 rfl (lv_at hl 0 rfl) ?_
      refine r_iald C w 19 (f := (g 19)) rfl (by omega) (by omega) (by decide) dX9_reject_47 ?_
      have qg4 := xB19 hg ((g 21) p0)
      refine lv_iload_n hx hb dX9_reject_48 rfl (lv_at hl 2 rfl) ?_
      refine r_icmp_eq (tgt := 54) hx hb dX9_reject_49 (by decide) (by omega) (by omega) (fun c49 => ?_) (fun c49 => ?_)
      · skip
        refine lv_aload_n hx hb dX9_reject_54 rfl (lv_at hl 1 rfl) ?_
        refine r_get C w 0 (v := .ref (a 20)) rfl rfl 4 (by decide) inX9 kf_X9_42 rfl dX9_reject_55 ?_
        refine r_getN C w 20 (v := .ref (a 26)) rfl rfl 5 (by decide) inX7 kt_X9_150 rfl dX9_reject_58 ?_
        refine lv_iload_n hx hb dX9_reject_61 rfl (lv_at hl 2 rfl) ?_
        refine lv_aload_n hx hb dX9_reject_62 rfl (lv_at hl 1 rfl) ?_
        refine r_get C w 0 (v := vI (z 0)) rfl rfl 10 (by decide) inX9 kf_X9_82 rfl dX9_reject_63 ?_
        have qz5 := xZ0 hz
        refine r_iast C w 26 (f := (g 26)) rfl (by omega) (by omega) (by decide) (ws' := xw cy a z (uZ g 26 (uI (g 26) p0 (z 0)))) (xw_g26 cy a z g (uI (g 26) p0 (z 0))) dX9_reject_66 (fun H locs w => ?_)
        have bg6 : ∀ j : Int, (-1 : Int) ≤ (uI (g 26) p0 (z 0)) j ∧ (uI (g 26) p0 (z 0)) j ≤ 999 := uI_b (xB26 hg) (by omega)
        refine lv_aload_n hx hb dX9_reject_67 rfl (lv_at hl 1 rfl) ?_
        refine r_get C w 0 (v := .ref (a 12)) rfl rfl 3 (by decide) inX9 kf_X9_35 rfl dX9_reject_68 ?_
        refine r_getN C w 12 (v := .ref (a 18)) rfl rfl 5 (by decide) inX2 kt_X9_159 rfl dX9_reject_71 ?_
        refine lv_iload_n hx hb dX9_reject_74 rfl (lv_at hl 0 rfl) ?_
        refine r_iconst hx hb dX9_reject_75 ?_
        refine r_zast C w 18 (f := (g 18)) rfl (by omega) (by omega) (by decide) (vz01 (by omega)) (ws' := xw cy a z (uZ (uZ g 26 (uI (g 26) p0 (z 0))) 18 (uI (g 18) ((g 21) p0) 0))) (xw_g18 cy a z (uZ g 26 (uI (g 26) p0 (z 0))) (uI (g 18) ((g 21) p0) 0)) dX9_reject_76 (fun H locs w => ?_)
        have bg7 : ∀ j : Int, (0 : Int) ≤ (uI (g 18) ((g 21) p0) 0) j ∧ (uI (g 18) ((g 21) p0) 0) j ≤ 1 := uI_b (xB18 hg) (by omega)
        refine r_iconst hx hb dX9_reject_77 ?_
        exact hend 1 (z, (uZ (uZ g 26 (uI (g 26) p0 (z 0))) 18 (uI (g 18) ((g 21) p0) 0))) _ _ _ _ dX9_reject_78 w ⟨(by first | exact Or.inl ⟨by omega, rfl, rfl⟩ | exact Or.inr ⟨by omega, rfl, rfl⟩), hz, (xBg_u (xBg_u hg 26 bg6) 18 bg7)⟩
      · skip
        refine r_iconst hx hb dX9_reject_52 ?_
        exact hend 0 (z, g) _ _ _ _ dX9_reject_53 w ⟨(by first | exact Or.inl ⟨by omega, rfl, rfl⟩ | exact Or.inr ⟨by omega, rfl, rfl⟩), hz, hg⟩
    · skip
      refine r_iconst hx hb dX9_reject_27 ?_
      exact hend 0 (z, g) _ _ _ _ dX9_reject_28 w ⟨(by first | exact Or.inl ⟨by omega, rfl, rfl⟩ | exact Or.inr ⟨by omega, rfl, rfl⟩), hz, hg⟩

abbrev rm_X9_count : Room := { frames := 0, cells := 0, slots := 0, locals := 0 }
set_option maxHeartbeats 4000000 in
set_option maxRecDepth 100000 in
theorem ct_X9_count (l : Launch) (D : va_G) (cy : Nat → ClassId) (a : Nat → Nat) (z : Nat → Int) (g : Nat → Int → Int) (p0 : Int) (hz : xBz z) (hg : xBg g) (h0 : iR p0) : MI l yX9_count cX9_count 2 .int (rm_X9_count) D cy (xw cy a z g) [.ref (a 0), vI p0] (fun (v : Int) (u : Unit) => (p0 = 0 ∧ v = z 0) ∨ (p0 = 1 ∧ v = z 16) ∨ (p0 = 2 ∧ v = z 17) ∨ (p0 = 3 ∧ v = z 5) ∨ (p0 = 4 ∧ v = z 2) ∨ (¬ (0 ≤ p0 ∧ p0 ≤ 4) ∧ v = -1)) (fun _ => xw cy a z g) 0 0 := by
  refine go_i (by decide +kernel) (Nat.le_of_ble_eq_true rfl) (Or.inl rfl) ?_
  intro p e s m args below meth c Q A ls C hnm hA w hl hend
  have hx := C.1
  have hb := C.2.1
  replace hl : lv_has ls 2 [(0, .ref (a 0)), (1, vI p0)] := hl
  refine lv_iload_n hx hb dX9_count_0 rfl (lv_at hl 1 rfl) ?_
  by_cases c1_0 : p0 = 0
  · refine r_tsI (k := 0) (tgt := 36) hx hb dX9_count_1 (by omega) c1_0 (by decide) rfl (by decide) ?_
    refine lv_aload_n hx hb dX9_count_36 rfl (lv_at hl 0 rfl) ?_
    refine r_get C w 0 (v := vI (z 0)) rfl rfl 10 (by decide) inX9 kf_X9_82 rfl dX9_count_37 ?_
    have qz1 := xZ0 hz
    exact hend (z 0) () _ _ _ _ dX9_count_40 w (by omega)
  by_cases c1_1 : p0 = 1
  · refine r_tsI (k := 1) (tgt := 41) hx hb dX9_count_1 (by omega) c1_1 (by decide) rfl (by decide) ?_
    refine lv_aload_n hx hb dX9_count_41 rfl (lv_at hl 0 rfl) ?_
    refine r_get C w 0 (v := .ref (a 12)) rfl rfl 3 (by decide) inX9 kf_X9_35 rfl dX9_count_42 ?_
    refine r_getN C w 12 (v := vI (z 16)) rfl rfl 7 (by decide) inX2 kt_X9_119 rfl dX9_count_45 ?_
    have qz2 := xZ16 hz
    exact hend (z 16) () _ _ _ _ dX9_count_48 w (by omega)
  by_cases c1_2 : p0 = 2
  · refine r_tsI (k := 2) (tgt := 49) hx hb dX9_count_1 (by omega) c1_2 (by decide) rfl (by decide) ?_
    refine lv_aload_n hx hb dX9_count_49 rfl (lv_at hl 0 rfl) ?_
    refine r_get C w 0 (v := .ref (a 20)) rfl rfl 4 (by decide) inX9 kf_X9_42 rfl dX9_count_50 ?_
    refine r_getN C w 20 (v := vI (z 17)) rfl rfl 7 (by decide) inX7 kt_X9_145 rfl dX9_count_53 ?_
    have qz3 := xZ17 hz
    exact hend (z 17) () _ _ _ _ dX9_count_56 w (by omega)
  by_cases c1_3 : p0 = 3
  · refine r_tsI (k := 3) (tgt := 57) hx hb dX9_count_1 (by omega) c1_3 (by decide) rfl (by decide) ?_
    refine lv_aload_n hx hb dX9_count_57 rfl (lv_at hl 0 rfl) ?_
    refine r_get C w 0 (v := .ref (a 3)) rfl rfl 1 (by decide) inX9 kf_X9_19 rfl dX9_count_58 ?_
    refine r_getN C w 3 (v := vI (z 5)) rfl rfl 4 (by decide) inX6 kt_X9_112 rfl dX9_count_61 ?_
    have qz4 := xZ5 hz
    exact hend (z 5) () _ _ _ _ dX9_count_64 w (by omega)
  by_cases c1_4 : p0 = 4
  · refine r_tsI (k := 4) (tgt := 65) hx hb dX9_count_1 (by omega) c1_4 (by decide) rfl (by decide) ?_
    refine lv_aload_n hx hb dX9_count_65 rfl (lv_at hl 0 rfl) ?_
    refine r_get C w 0 (v := .ref (a 1)) rfl rfl 0 (by decide) inX9 kf_X9_10 rfl dX9_count_66 ?_
    refine r_getN C w 1 (v := vI (z 2)) rfl rfl 1 (by decide) inX8 kt_X9_89 rfl dX9_count_69 ?_
    have qz5 := xZ2 hz
    exact hend (z 2) () _ _ _ _ dX9_count_72 w (by omega)
  refine r_tsO (tgt := 73) hx hb dX9_count_1 (by omega) (by omega) (by decide) ?_
  refine r_iconst hx hb dX9_count_73 ?_
  exact hend (-1) () _ _ _ _ dX9_count_74 w (by omega)

abbrev rm_X9_sent : Room := { frames := 1, cells := 0, slots := 0, locals := 21 }
set_option maxHeartbeats 4000000 in
set_option maxRecDepth 100000 in
theorem ct_X9_sent (l : Launch) (D : va_G) (cy : Nat → ClassId) (a : Nat → Nat) (z : Nat → Int) (g : Nat → Int → Int) (p0 : Int) (hz : xBz z) (hg : xBg g) (h0 : iR p0) : MI l yX9_sent cX9_sent 2 .int (rm_X9_sent) D cy (xw cy a z g) [.ref (a 0), vI p0] (fun (v : Int) (u : Unit) => ((z 20 ≠ 0 ∧ 0 ≤ p0 ∧ p0 < 4) ∧ v = g 43 p0) ∨ (¬ (z 20 ≠ 0 ∧ 0 ≤ p0 ∧ p0 < 4) ∧ v = -1)) (fun _ => xw cy a z g) 0 0 := by
  refine go_i (by decide +kernel) (Nat.le_of_ble_eq_true rfl) (Or.inl rfl) ?_
  intro p e s m args below meth c Q A ls C hnm hA w hl hend
  have hx := C.1
  have hb := C.2.1
  replace hl : lv_has ls 2 [(0, .ref (a 0)), (1, vI p0)] := hl
  refine lv_aload_n hx hb dX9_sent_0 rfl (lv_at hl 0 rfl) ?_
  refine r_get C w 0 (v := .ref (a 40)) rfl rfl 8 (by decide) inX9 kf_X9_74 rfl dX9_sent_1 ?_
  refine r_getN C w 40 (v := vI (z 20)) rfl rfl 3 (by decide) inX1 kt_X9_255 rfl dX9_sent_4 ?_
  have qz1 := xZ20 hz
  refine r_if_eq (tgt := 30) hx hb dX9_sent_7 (by decide) (by omega) (fun c7 => ?_) (fun c7 => ?_)
  · skip
    refine r_iconst hx hb dX9_sent_30 ?_
    exact hend (-1) () _ _ _ _ dX9_sent_31 w (by omega)
  · skip
    refine lv_iload_n hx hb dX9_sent_10 rfl (lv_at hl 1 rfl) ?_
    refine r_iconst hx hb dX9_sent_11 ?_
    refine cSI C w hA (ct_X9_isBelow l D cy a z g p0 4 (by show iR p0; omega) (by show iR 4; omega)) ok_X9_isBelow km_X9_115 ⟨rfl, rfl⟩ ⟨by decide, by decide⟩ ⟨by decide, by decide⟩ rfl hl.1 rfl (Nat.le_of_ble_eq_true rfl) dX9_sent_12 (fun rv_1 uv_1 H locs w hp_1 => ?_)
    replace hp_1 : (rv_1 = 1 ∧ 0 ≤ p0 ∧ p0 < 4) ∨ (rv_1 = 0 ∧ ¬ (0 ≤ p0 ∧ p0 < 4)) := hp_1
    replace w : wd D A s.heap (xw cy a z g) H locs := w
    refine r_if_eq (tgt := 30) hx hb dX9_sent_15 (by decide) (by omega) (fun c15 => ?_) (fun c15 => ?_)
    · skip
      refine r_iconst hx hb dX9_sent_30 ?_
      exact hend (-1) () _ _ _ _ dX9_sent_31 w (by omega)
    · skip
      refine lv_aload_n hx hb dX9_sent_18 rfl (lv_at hl 0 rfl) ?_
      refine r_get C w 0 (v := .ref (a 40)) rfl rfl 8 (by decide) inX9 kf_X9_74 rfl dX9_sent_19 ?_
      refine r_getN C w 40 (v := .ref (a 43)) rfl rfl 2 (by decide) inX1 kt_X9_259 rfl dX9_sent_22 ?_
      refine lv_iload_n hx hb dX9_sent_25 rfl (lv_at hl 1 rfl) ?_
      refine r_iald C w 43 (f := (g 43)) rfl (by omega) (by omega) (by decide) dX9_sent_26 ?_
      have qg2 := xB43 hg p0
      refine lv_goto (tgt := 31) hx hb dX9_sent_27 (by decide) ?_
      exact hend ((g 43) p0) () _ _ _ _ dX9_sent_31 w (by omega)

def rotF (g : Nat → Int → Int) (n p : Int) : Int → Int := fun j => if 0 ≤ j ∧ j < n ∧ g 18 j = 0 then g 16 j - g 16 j * p / 100 else g 16 j
theorem rotF_b {x p : Int} (h : 0 ≤ x ∧ x ≤ 500) (hp : 0 ≤ p ∧ p ≤ 50) : 0 ≤ x * p ∧ x * p ≤ 25000 ∧ 0 ≤ x * p / 100 ∧ x * p / 100 ≤ x := by
  have h1 : 0 ≤ x * p := Int.mul_nonneg h.1 hp.1
  have h2 : x * p ≤ x * 50 := Int.mul_le_mul_of_nonneg_left hp.2 h.1
  omega
theorem rotF_st {g : Nat → Int → Int} {p i : Int} {f : Int → Int} (hf : ∀ j, f j = rotF g i p j) (h0 : 0 ≤ i) (hs : g 18 i = 0) : ∀ j, uI f i (f i - f i * p / 100) j = rotF g (i + 1) p j := by
  intro j
  by_cases e : j = i
  · subst e
    rw [uI_s, hf]
    unfold rotF
    rw [if_neg (by omega), if_pos (by omega)]
  · rw [uI_n _ _ e, hf]
    unfold rotF
    by_cases q : 0 ≤ j ∧ j < i ∧ g 18 j = 0
    · rw [if_pos q, if_pos (by omega)]
    · rw [if_neg q, if_neg (by omega)]
theorem rotF_kp {g : Nat → Int → Int} {p i : Int} {f : Int → Int} (hf : ∀ j, f j = rotF g i p j) (hs : g 18 i ≠ 0) : ∀ j, f j = rotF g (i + 1) p j := by
  intro j
  rw [hf]
  unfold rotF
  by_cases q : 0 ≤ j ∧ j < i ∧ g 18 j = 0
  · rw [if_pos q, if_pos (by omega)]
  · rw [if_neg q, if_neg]
    intro q2
    rcases (show j = i ∨ j < i by omega) with e | e
    · subst e
      exact hs q2.2.2
    · exact q ⟨q2.1, e, q2.2.2⟩
theorem cpF_st {u w f : Int → Int} {i : Int} (h0 : 0 ≤ i) (hf : ∀ j, f j = if 0 ≤ j ∧ j < i then u j else w j) : ∀ j, uI f i (u i) j = if 0 ≤ j ∧ j < i + 1 then u j else w j := by
  intro j
  by_cases e : j = i
  · subst e
    rw [uI_s, if_pos (by omega)]
  · rw [uI_n _ _ e, hf]
    by_cases q : 0 ≤ j ∧ j < i
    · rw [if_pos q, if_pos (by omega)]
    · rw [if_neg q, if_neg (by omega)]
abbrev rm_X2_rotWaiting : Room := { frames := 0, cells := 0, slots := 0, locals := 0 }
set_option maxHeartbeats 4000000 in
set_option maxRecDepth 100000 in
theorem ct_X2_rotWaiting (l : Launch) (D : va_G) (cy : Nat → ClassId) (a : Nat → Nat) (z : Nat → Int) (g : Nat → Int → Int) (p0 : Int) (hz : xBz z) (hg : xBg g) (h0 : 0 ≤ p0 ∧ p0 ≤ 50) : MV l yX2_rotWaiting cX2_rotWaiting 3 (rm_X2_rotWaiting) D cy (xw cy a z g) [.ref (a 12), vI p0] (fun (u : sX) => (u.1 = z ∧ u.2 = uZ g 16 (rotF g (z 16) p0)) ∧ xBz u.1 ∧ xBg u.2) (fun u => xw cy a u.1 u.2) 0 0 := by
  refine go_v (by decide +kernel) (Nat.le_of_ble_eq_true rfl) ?_
  intro p e s m args below meth c Q A ls C hnm hA w hl hend
  have hx := C.1
  have hb := C.2.1
  have b16 := xZ16 hz
  have J2 : ∀ N : Nat, ∀ (i : Int) (f : Int → Int), (∀ j : Int, (0 : Int) ≤ f j ∧ f j ≤ 500) → (0 ≤ i ∧ i ≤ z 16) → (∀ j, f j = rotF g i p0 j) → ((z 16 - i).toNat) < N → ∀ (H : Heap) (locs : List Loc) (ls : Array Slot), wd D A s.heap (xw cy a z (uZ g 16 f)) H locs → lv_has ls 3 [(0, .ref (a 12)), (1, vI p0), (2, vI i)] → W p l e (rm_X2_rotWaiting) s m args below meth c H locs 0 0 Q (F0 m 2 ls []) := by
    intro N
    induction N with
    | zero => intro i f bf hi hf hN9; exact absurd hN9 (Nat.not_lt_zero _)
    | succ N ih2 =>
      intro i f bf hi hf hN2 H locs ls w hl
      refine lv_iload_n hx hb dX2_rotWaiting_2 rfl (lv_at hl 2 rfl) ?_
      refine lv_aload_n hx hb dX2_rotWaiting_3 rfl (lv_at hl 0 rfl) ?_
      refine r_get C w 12 (v := vI (z 16)) rfl rfl 7 (by decide) inX2 kf_X2_34 rfl dX2_rotWaiting_4 ?_
      have qz1 := xZ16 hz
      refine r_icmp_ge (tgt := 45) hx hb dX2_rotWaiting_7 (by decide) (by omega) (by omega) (fun c7 => ?_) (fun c7 => ?_)
      · skip
        exact hend (z, (uZ g 16 f)) _ _ _ _ dX2_rotWaiting_45 w ⟨(by refine ⟨rfl, ?_⟩; rw [show z 16 = i by omega]; show _ = uZ g 16 (rotF g i p0); rw [show f = rotF g i p0 from funext hf]), hz, (xBg_u hg 16 bf)⟩
      · skip
        refine lv_aload_n hx hb dX2_rotWaiting_10 rfl (lv_at hl 0 rfl) ?_
        refine r_get C w 12 (v := .ref (a 18)) rfl rfl 5 (by decide) inX2 kf_X2_27 rfl dX2_rotWaiting_11 ?_
        refine lv_iload_n hx hb dX2_rotWaiting_14 rfl (lv_at hl 2 rfl) ?_
        refine r_zald C w 18 (f := (g 18)) rfl (by omega) (by omega) (by decide) dX2_rotWaiting_15 ?_
        have qg2 := xB18 hg i
        refine r_if_ne (tgt := 39) hx hb dX2_rotWaiting_16 (by decide) (by omega) (fun c16 => ?_) (fun c16 => ?_)
        · skip
          refine r_iinc (lv' := [(2, vI (i + 1)), (0, .ref (a 12)), (1, vI p0)]) hx hb dX2_rotWaiting_39 hl (k := 2) rfl (by decide) rfl (fun ls hl => ?_)
          refine lv_goto (tgt := 2) hx hb dX2_rotWaiting_42 (by decide) ?_
          exact ih2 (i + 1) f bf (by omega) (by first | exact rotF_st hf hi.1 (by omega) | exact rotF_kp hf (by omega)) (by omega) _ _ _ w (lv_sub hl [1, 2, 0] rfl)
        · skip
          refine lv_aload_n hx hb dX2_rotWaiting_19 rfl (lv_at hl 0 rfl) ?_
          refine r_get C w 12 (v := .ref (a 16)) rfl rfl 3 (by decide) inX2 kf_X2_21 rfl dX2_rotWaiting_20 ?_
          refine lv_iload_n hx hb dX2_rotWaiting_23 rfl (lv_at hl 2 rfl) ?_
          refine lv_dup2_11 hx hb dX2_rotWaiting_24 rfl rfl ?_
          refine r_iald C w 16 (f := f) rfl (by omega) (by omega) (by decide) dX2_rotWaiting_25 ?_
          have qg3 := bf i
          refine lv_aload_n hx hb dX2_rotWaiting_26 rfl (lv_at hl 0 rfl) ?_
          refine r_get C w 12 (v := .ref (a 16)) rfl rfl 3 (by decide) inX2 kf_X2_21 rfl dX2_rotWaiting_27 ?_
          refine lv_iload_n hx hb dX2_rotWaiting_30 rfl (lv_at hl 2 rfl) ?_
          refine r_iald C w 16 (f := f) rfl (by omega) (by omega) (by decide) dX2_rotWaiting_31 ?_
          have qg4 := bf i
          have e1 := rotF_b (bf i) h0
          refine lv_iload_n hx hb dX2_rotWaiting_32 rfl (lv_at hl 1 rfl) ?_
          refine r_imul hx hb dX2_rotWaiting_33 ?_
          refine r_bipush hx hb dX2_rotWaiting_34 (by decide) ?_
          refine r_idiv hx hb dX2_rotWaiting_36 (by omega) (by omega) ?_
          refine r_isub hx hb dX2_rotWaiting_37 ?_
          refine r_iast C w 16 (f := f) rfl (by omega) (by omega) (by decide) (ws' := xw cy a z (uZ g 16 (uI f i ((f i) - (((f i) * p0) / 100))))) rfl dX2_rotWaiting_38 (fun H locs w => ?_)
          have bg5 : ∀ j : Int, (0 : Int) ≤ (uI f i ((f i) - (((f i) * p0) / 100))) j ∧ (uI f i ((f i) - (((f i) * p0) / 100))) j ≤ 500 := uI_b bf (by omega)
          refine r_iinc (lv' := [(2, vI (i + 1)), (0, .ref (a 12)), (1, vI p0)]) hx hb dX2_rotWaiting_39 hl (k := 2) rfl (by decide) rfl (fun ls hl => ?_)
          refine lv_goto (tgt := 2) hx hb dX2_rotWaiting_42 (by decide) ?_
          exact ih2 (i + 1) (uI f i ((f i) - (((f i) * p0) / 100))) bg5 (by omega) (by first | exact rotF_st hf hi.1 (by omega) | exact rotF_kp hf (by omega)) (by omega) _ _ _ w (lv_sub hl [1, 2, 0] rfl)
  replace hl : lv_has ls 3 [(0, .ref (a 12)), (1, vI p0)] := hl
  refine r_iconst hx hb dX2_rotWaiting_0 ?_
  refine lv_istore_n (lv' := [(2, vI 0), (0, .ref (a 12)), (1, vI p0)]) hx hb dX2_rotWaiting_1 rfl hl (by decide) rfl (fun ls hl => ?_)
  exact J2 _ 0 (g 16) (xB16 hg) (by omega) (by intro j; unfold rotF; rw [if_neg (by omega)]) (Nat.lt_succ_self _) _ _ _ w (lv_sub hl [1, 2, 0] rfl)

abbrev rm_X0_restoreMoney : Room := { frames := 0, cells := 0, slots := 0, locals := 0 }
set_option maxHeartbeats 4000000 in
set_option maxRecDepth 100000 in
theorem ct_X0_restoreMoney (l : Launch) (D : va_G) (cy : Nat → ClassId) (a : Nat → Nat) (z : Nat → Int) (g : Nat → Int → Int)  (hz : xBz z) (hg : xBg g) : MV l yX0_restoreMoney cX0_restoreMoney 2 (rm_X0_restoreMoney) D cy (xw cy a z g) [.ref (a 28)] (fun (u : sX) => (u.1 = z ∧ u.2 = uZ g 30 (fun j => if 0 ≤ j ∧ j < 10 then g 29 j else g 30 j)) ∧ xBz u.1 ∧ xBg u.2) (fun u => xw cy a u.1 u.2) 0 0 := by
  refine go_v (by decide +kernel) (Nat.le_of_ble_eq_true rfl) ?_
  intro p e s m args below meth c Q A ls C hnm hA w hl hend
  have hx := C.1
  have hb := C.2.1
  have J2 : ∀ N : Nat, ∀ (i : Int) (f : Int → Int), (∀ j : Int, (0 : Int) ≤ f j ∧ f j ≤ 1000000) → (0 ≤ i ∧ i ≤ 10) → (∀ j, f j = if 0 ≤ j ∧ j < i then g 29 j else g 30 j) → ((10 - i).toNat) < N → ∀ (H : Heap) (locs : List Loc) (ls : Array Slot), wd D A s.heap (xw cy a z (uZ g 30 f)) H locs → lv_has ls 2 [(0, .ref (a 28)), (1, vI i)] → W p l e (rm_X0_restoreMoney) s m args below meth c H locs 0 0 Q (F0 m 2 ls []) := by
    intro N
    induction N with
    | zero => intro i f bf hi hf hN9; exact absurd hN9 (Nat.not_lt_zero _)
    | succ N ih2 =>
      intro i f bf hi hf hN2 H locs ls w hl
      refine lv_iload_n hx hb dX0_restoreMoney_2 rfl (lv_at hl 1 rfl) ?_
      refine r_bipush hx hb dX0_restoreMoney_3 (by decide) ?_
      refine r_icmp_ge (tgt := 26) hx hb dX0_restoreMoney_5 (by decide) (by omega) (by omega) (fun c5 => ?_) (fun c5 => ?_)
      · skip
        exact hend (z, (uZ g 30 f)) _ _ _ _ dX0_restoreMoney_26 w ⟨(by refine ⟨rfl, ?_⟩; show uZ g 30 f = _; congr 1; funext j; rw [hf, show i = 10 by omega]), hz, (xBg_u hg 30 bf)⟩
      · skip
        refine lv_aload_n hx hb dX0_restoreMoney_8 rfl (lv_at hl 0 rfl) ?_
        refine r_get C w 28 (v := .ref (a 30)) rfl rfl 1 (by decide) inX0 kf_X0_15 rfl dX0_restoreMoney_9 ?_
        refine lv_iload_n hx hb dX0_restoreMoney_12 rfl (lv_at hl 1 rfl) ?_
        refine lv_aload_n hx hb dX0_restoreMoney_13 rfl (lv_at hl 0 rfl) ?_
        refine r_get C w 28 (v := .ref (a 29)) rfl rfl 0 (by decide) inX0 kf_X0_9 rfl dX0_restoreMoney_14 ?_
        refine lv_iload_n hx hb dX0_restoreMoney_17 rfl (lv_at hl 1 rfl) ?_
        refine r_iald C w 29 (f := (g 29)) rfl (by omega) (by omega) (by decide) dX0_restoreMoney_18 ?_
        have qg1 := xB29 hg i
        refine r_iast C w 30 (f := f) rfl (by omega) (by omega) (by decide) (ws' := xw cy a z (uZ g 30 (uI f i ((g 29) i)))) rfl dX0_restoreMoney_19 (fun H locs w => ?_)
        have bg2 : ∀ j : Int, (0 : Int) ≤ (uI f i ((g 29) i)) j ∧ (uI f i ((g 29) i)) j ≤ 1000000 := uI_b bf (by omega)
        refine r_iinc (lv' := [(1, vI (i + 1)), (0, .ref (a 28))]) hx hb dX0_restoreMoney_20 hl (k := 1) rfl (by decide) rfl (fun ls hl => ?_)
        refine lv_goto (tgt := 2) hx hb dX0_restoreMoney_23 (by decide) ?_
        exact ih2 (i + 1) (uI f i ((g 29) i)) bg2 (by omega) (by exact cpF_st hi.1 hf) (by omega) _ _ _ w (lv_sub hl [1, 0] rfl)
  replace hl : lv_has ls 2 [(0, .ref (a 28))] := hl
  refine r_iconst hx hb dX0_restoreMoney_0 ?_
  refine lv_istore_n (lv' := [(1, vI 0), (0, .ref (a 28))]) hx hb dX0_restoreMoney_1 rfl hl (by decide) rfl (fun ls hl => ?_)
  exact J2 _ 0 (g 30) (xB30 hg) (by omega) (by intro j; rw [if_neg (by omega)]) (Nat.lt_succ_self _) _ _ _ w (lv_sub hl [1, 0] rfl)

abbrev rm_X9_next : Room := { frames := 1, cells := 0, slots := 0, locals := 22 }
set_option maxHeartbeats 4000000 in
set_option maxRecDepth 100000 in
theorem ct_X9_next (l : Launch) (D : va_G) (cy : Nat → ClassId) (a : Nat → Nat) (z : Nat → Int) (g : Nat → Int → Int)  (hz : xBz z) (hg : xBg g) : MI l yX9_next cX9_next 1 .int (rm_X9_next) D cy (xw cy a z g) [.ref (a 0)] (fun (v : Int) (u : sX) => ((¬ z 0 < 999 ∧ v = -1 ∧ u = (z, g)) ∨ (z 0 < 999 ∧ v = z 0 + 1 ∧ u = (uZ z 0 (z 0 + 1), uZ (uZ g 16 (rotF g (z 16) (z 3))) 30 (fun j => if 0 ≤ j ∧ j < 10 then g 29 j else g 30 j)))) ∧ xBz u.1 ∧ xBg u.2) (fun u => xw cy a u.1 u.2) 0 0 := by
  refine go_i (by decide +kernel) (Nat.le_of_ble_eq_true rfl) (Or.inl rfl) ?_
  intro p e s m args below meth c Q A ls C hnm hA w hl hend
  have hx := C.1
  have hb := C.2.1
  replace hl : lv_has ls 1 [(0, .ref (a 0))] := hl
  refine lv_aload_n hx hb dX9_next_0 rfl (lv_at hl 0 rfl) ?_
  refine r_get C w 0 (v := vI (z 0)) rfl rfl 10 (by decide) inX9 kf_X9_82 rfl dX9_next_1 ?_
  have qz1 := xZ0 hz
  refine r_sipush hx hb dX9_next_4 (by decide) ?_
  refine r_icmp_lt (tgt := 12) hx hb dX9_next_7 (by decide) (by omega) (by omega) (fun c7 => ?_) (fun c7 => ?_)
  · skip
    refine lv_aload_n hx hb dX9_next_12 rfl (lv_at hl 0 rfl) ?_
    refine r_get C w 0 (v := .ref (a 12)) rfl rfl 3 (by decide) inX9 kf_X9_35 rfl dX9_next_13 ?_
    refine lv_aload_n hx hb dX9_next_16 rfl (lv_at hl 0 rfl) ?_
    refine r_get C w 0 (v := .ref (a 3)) rfl rfl 1 (by decide) inX9 kf_X9_19 rfl dX9_next_17 ?_
    refine r_getN C w 3 (v := vI (z 3)) rfl rfl 2 (by decide) inX6 kt_X9_163 rfl dX9_next_20 ?_
    have qz2 := xZ3 hz
    refine cVV C w hA (ct_X2_rotWaiting l D cy a z g (z 3) hz hg (by show 0 ≤ (z 3) ∧ (z 3) ≤ 50; omega)) ok_X2_rotWaiting km_X9_166 ⟨rfl, rfl⟩ ⟨by decide, by decide⟩ ⟨by decide, by decide⟩ rfl 12 rfl rfl hl.1 rfl (Nat.le_of_ble_eq_true rfl) dX9_next_23 (fun uv_1 H locs w hp_1 => ?_)
    obtain ⟨zc_1, gc_1⟩ := uv_1
    obtain ⟨hp_1, hzc_1, hgc_1⟩ := hp_1
    replace w : wd D A s.heap (xw cy a zc_1 gc_1) H locs := w
    replace hzc_1 : xBz zc_1 := hzc_1
    replace hgc_1 : xBg gc_1 := hgc_1
    try dsimp only at hp_1
    have ea_ : zc_1 = z := hp_1.1
    have eb_ : zc_1 0 = z 0 := by rw [ea_]
    refine lv_aload_n hx hb dX9_next_26 rfl (lv_at hl 0 rfl) ?_
    refine r_get C w 0 (v := .ref (a 28)) rfl rfl 5 (by decide) inX9 kf_X9_49 rfl dX9_next_27 ?_
    refine cVV C w hA (ct_X0_restoreMoney l D cy a zc_1 gc_1  hzc_1 hgc_1) ok_X0_restoreMoney km_X9_169 ⟨rfl, rfl⟩ ⟨by decide, by decide⟩ ⟨by decide, by decide⟩ rfl 28 rfl rfl hl.1 rfl (Nat.le_of_ble_eq_true rfl) dX9_next_30 (fun uv_2 H locs w hp_2 => ?_)
    obtain ⟨zc_2, gc_2⟩ := uv_2
    obtain ⟨hp_2, hzc_2, hgc_2⟩ := hp_2
    replace w : wd D A s.heap (xw cy a zc_2 gc_2) H locs := w
    replace hzc_2 : xBz zc_2 := hzc_2
    replace hgc_2 : xBg gc_2 := hgc_2
    try dsimp only at hp_2
    have ec_ : zc_2 0 = z 0 := by rw [hp_2.1]; exact eb_
    refine lv_aload_n hx hb dX9_next_33 rfl (lv_at hl 0 rfl) ?_
    refine lv_dup hx hb dX9_next_34 rfl ?_
    refine r_get C w 0 (v := vI (zc_2 0)) rfl rfl 10 (by decide) inX9 kf_X9_82 rfl dX9_next_35 ?_
    have qz3 := xZ0 hzc_2
    refine r_iconst hx hb dX9_next_38 ?_
    refine r_iadd hx hb dX9_next_39 ?_
    refine r_put C w 0 tyX9 tyX9_ok nmX9 rfl rfl 10 (by decide) inX9 kf_X9_82 rfl rfl rfl (Nat.le_of_ble_eq_true rfl) (ws' := xw cy a (uZ zc_2 0 ((zc_2 0) + 1)) gc_2) (xw_z0 cy a zc_2 gc_2 ((zc_2 0) + 1)) dX9_next_40 (fun H locs w => ?_)
    have bz4 : (0 : Int) ≤ ((zc_2 0) + 1) ∧ (((zc_2 0) + 1) : Int) ≤ 999 := (by omega)
    refine lv_aload_n hx hb dX9_next_43 rfl (lv_at hl 0 rfl) ?_
    refine r_get C w 0 (v := vI ((zc_2 0) + 1)) rfl rfl 10 (by decide) inX9 kf_X9_82 rfl dX9_next_44 ?_
    exact hend ((zc_2 0) + 1) ((uZ zc_2 0 ((zc_2 0) + 1)), gc_2) _ _ _ _ dX9_next_47 w ⟨(by refine Or.inr ⟨by omega, by omega, ?_⟩; rw [hp_2.1, hp_2.2, hp_1.1, hp_1.2]; rfl), (xBz_u hzc_2 0 bz4), hgc_2⟩
  · skip
    refine r_iconst hx hb dX9_next_10 ?_
    exact hend (-1) (z, g) _ _ _ _ dX9_next_11 w ⟨(by exact Or.inl ⟨by omega, rfl, rfl⟩), hz, hg⟩
end
section
theorem bm_b (x : Int) : -128 ≤ Int.bmod x 256 ∧ Int.bmod x 256 ≤ 127 := by
  have h1 := Int.le_bmod (x := x) (m := 256) (by decide)
  have h2 := Int.bmod_lt (x := x) (m := 256) (by decide)
  constructor <;> omega
def rotG (s b : Int → Int) (n p : Int) : Int → Int := fun j => if 0 ≤ j ∧ j < n ∧ s j = 0 then b j - b j * p / 100 else b j
theorem rotG_st {s b f : Int → Int} {p i : Int} (hf : ∀ j, f j = rotG s b i p j) (h0 : 0 ≤ i) (hs : s i = 0) : ∀ j, uI f i (f i - f i * p / 100) j = rotG s b (i + 1) p j := by
  intro j
  by_cases e : j = i
  · subst e
    rw [uI_s, hf]
    unfold rotG
    rw [if_neg (by omega), if_pos (by omega)]
  · rw [uI_n _ _ e, hf]
    unfold rotG
    by_cases q : 0 ≤ j ∧ j < i ∧ s j = 0
    · rw [if_pos q, if_pos (by omega)]
    · rw [if_neg q, if_neg (by omega)]
theorem rotG_kp {s b f : Int → Int} {p i : Int} (hf : ∀ j, f j = rotG s b i p j) (hs : s i ≠ 0) : ∀ j, f j = rotG s b (i + 1) p j := by
  intro j
  rw [hf]
  unfold rotG
  by_cases q : 0 ≤ j ∧ j < i ∧ s j = 0
  · rw [if_pos q, if_pos (by omega)]
  · rw [if_neg q, if_neg]
    intro q2
    rcases (show j = i ∨ j < i by omega) with e | e
    · subst e
      exact hs q2.2.2
    · exact q ⟨q2.1, e, q2.2.2⟩
def tq4 (f : Int → Int) (n p : Int) : Int → Int := uI (uI (uI (uI f n (Int.bmod (p / 2 ^ 24) 256)) (n + 1) (Int.bmod (p / 2 ^ 16) 256)) (n + 1 + 1) (Int.bmod (p / 2 ^ 8) 256)) (n + 1 + 1 + 1) (Int.bmod (p / 2 ^ 0) 256)
abbrev rm_X10_isIn : Room := { frames := 0, cells := 0, slots := 0, locals := 0 }
set_option maxHeartbeats 4000000 in
set_option maxRecDepth 100000 in
theorem ct_X10_isIn (l : Launch) (D : va_G) (cy : Nat → ClassId) (a : Nat → Nat) (z : Nat → Int) (g : Nat → Int → Int) (p0 p1 p2 : Int) (h0 : iR p0) (h1 : iR p1) (h2 : iR p2) : MI l yX10_isIn cX10_isIn 3 .boolean (rm_X10_isIn) D cy (mw cy a z g) [vI p0, vI p1, vI p2] (fun (v : Int) (u : Unit) => (v = 1 ∧ p1 ≤ p0 ∧ p0 ≤ p2) ∨ (v = 0 ∧ ¬ (p1 ≤ p0 ∧ p0 ≤ p2))) (fun _ => mw cy a z g) 0 0 := by
  refine go_i (by decide +kernel) (Nat.le_of_ble_eq_true rfl) (Or.inr (fun v u h => nb01 (by omega))) ?_
  intro p e s m args below meth c Q A ls C hnm hA w hl hend
  have hx := C.1
  have hb := C.2.1
  replace hl : lv_has ls 3 [(0, vI p0), (1, vI p1), (2, vI p2)] := hl
  refine lv_iload_n hx hb dX10_isIn_0 rfl (lv_at hl 0 rfl) ?_
  refine lv_iload_n hx hb dX10_isIn_1 rfl (lv_at hl 1 rfl) ?_
  refine r_icmp_lt (tgt := 14) hx hb dX10_isIn_2 (by decide) (by omega) (by omega) (fun c2 => ?_) (fun c2 => ?_)
  · skip
    refine r_iconst hx hb dX10_isIn_14 ?_
    exact hend 0 () _ _ _ _ dX10_isIn_15 w (by omega)
  · skip
    refine lv_iload_n hx hb dX10_isIn_5 rfl (lv_at hl 0 rfl) ?_
    refine lv_iload_n hx hb dX10_isIn_6 rfl (lv_at hl 2 rfl) ?_
    refine r_icmp_gt (tgt := 14) hx hb dX10_isIn_7 (by decide) (by omega) (by omega) (fun c7 => ?_) (fun c7 => ?_)
    · skip
      refine r_iconst hx hb dX10_isIn_14 ?_
      exact hend 0 () _ _ _ _ dX10_isIn_15 w (by omega)
    · skip
      refine r_iconst hx hb dX10_isIn_10 ?_
      refine lv_goto (tgt := 15) hx hb dX10_isIn_11 (by decide) ?_
      exact hend 1 () _ _ _ _ dX10_isIn_15 w (by omega)

abbrev rm_X10_place : Room := { frames := 0, cells := 0, slots := 0, locals := 0 }
set_option maxHeartbeats 4000000 in
set_option maxRecDepth 100000 in
theorem ct_X10_place (l : Launch) (D : va_G) (cy : Nat → ClassId) (a : Nat → Nat) (z : Nat → Int) (g : Nat → Int → Int) (p0 p1 p2 : Int)  : MI l yX10_place cX10_place 3 .int (rm_X10_place) D cy (mw cy a z g) [vI p0, vI p1, vI p2] (fun (v : Int) (u : Unit) => v = 16 * p0 + 4 * p1 + p2) (fun _ => mw cy a z g) 0 0 := by
  refine go_i (by decide +kernel) (Nat.le_of_ble_eq_true rfl) (Or.inl rfl) ?_
  intro p e s m args below meth c Q A ls C hnm hA w hl hend
  have hx := C.1
  have hb := C.2.1
  replace hl : lv_has ls 3 [(0, vI p0), (1, vI p1), (2, vI p2)] := hl
  refine r_bipush hx hb dX10_place_0 (by decide) ?_
  refine lv_iload_n hx hb dX10_place_2 rfl (lv_at hl 0 rfl) ?_
  refine r_imul hx hb dX10_place_3 ?_
  refine r_iconst hx hb dX10_place_4 ?_
  refine lv_iload_n hx hb dX10_place_5 rfl (lv_at hl 1 rfl) ?_
  refine r_imul hx hb dX10_place_6 ?_
  refine r_iadd hx hb dX10_place_7 ?_
  refine lv_iload_n hx hb dX10_place_8 rfl (lv_at hl 2 rfl) ?_
  refine r_iadd hx hb dX10_place_9 ?_
  exact hend (((16 * p0) + (4 * p1)) + p2) () _ _ _ _ dX10_place_10 w (by rfl)

abbrev rm_X10_isSale : Room := { frames := 0, cells := 0, slots := 0, locals := 0 }
set_option maxHeartbeats 4000000 in
set_option maxRecDepth 100000 in
theorem ct_X10_isSale (l : Launch) (D : va_G) (cy : Nat → ClassId) (a : Nat → Nat) (z : Nat → Int) (g : Nat → Int → Int) (p0 : Int) (hz : mBz z) (hg : mBg g) (h0 : iR p0) : MI l yX10_isSale cX10_isSale 2 .boolean (rm_X10_isSale) D cy (mw cy a z g) [.ref (a 0), vI p0] (fun (v : Int) (u : Unit) => (v = 1 ∧ 0 ≤ p0 ∧ p0 < z 13) ∨ (v = 0 ∧ ¬ (0 ≤ p0 ∧ p0 < z 13))) (fun _ => mw cy a z g) 0 0 := by
  refine go_i (by decide +kernel) (Nat.le_of_ble_eq_true rfl) (Or.inr (fun v u h => nb01 (by omega))) ?_
  intro p e s m args below meth c Q A ls C hnm hA w hl hend
  have hx := C.1
  have hb := C.2.1
  replace hl : lv_has ls 2 [(0, .ref (a 0)), (1, vI p0)] := hl
  refine lv_iload_n hx hb dX10_isSale_0 rfl (lv_at hl 1 rfl) ?_
  refine r_if_lt (tgt := 16) hx hb dX10_isSale_1 (by decide) (by omega) (fun c1 => ?_) (fun c1 => ?_)
  · skip
    refine r_iconst hx hb dX10_isSale_16 ?_
    exact hend 0 () _ _ _ _ dX10_isSale_17 w (by omega)
  · skip
    refine lv_iload_n hx hb dX10_isSale_4 rfl (lv_at hl 1 rfl) ?_
    refine lv_aload_n hx hb dX10_isSale_5 rfl (lv_at hl 0 rfl) ?_
    refine r_get C w 0 (v := vI (z 13)) rfl rfl 34 (by decide) inX10 kf_X10_198 rfl dX10_isSale_6 ?_
    have qz1 := mZ13 hz
    refine r_icmp_ge (tgt := 16) hx hb dX10_isSale_9 (by decide) (by omega) (by omega) (fun c9 => ?_) (fun c9 => ?_)
    · skip
      refine r_iconst hx hb dX10_isSale_16 ?_
      exact hend 0 () _ _ _ _ dX10_isSale_17 w (by omega)
    · skip
      refine r_iconst hx hb dX10_isSale_12 ?_
      refine lv_goto (tgt := 17) hx hb dX10_isSale_13 (by decide) ?_
      exact hend 1 () _ _ _ _ dX10_isSale_17 w (by omega)

abbrev rm_X10_throwsIf : Room := { frames := 0, cells := 0, slots := 0, locals := 0 }
set_option maxHeartbeats 4000000 in
set_option maxRecDepth 100000 in
theorem ct_X10_throwsIf (l : Launch) (D : va_G) (cy : Nat → ClassId) (a : Nat → Nat) (z : Nat → Int) (g : Nat → Int → Int) (p0 : Int) (hz : mBz z) (hg : mBg g) (h0 : p0 = 0 ∨ p0 = 1) : MI l yX10_throwsIf cX10_throwsIf 2 .boolean (rm_X10_throwsIf) D cy (mw cy a z g) [.ref (a 0), vI p0] (fun (v : Int) (u : sX) => (v = p0 ∧ u = (uZ z 0 p0, g)) ∧ mBz u.1 ∧ mBg u.2) (fun u => mw cy a u.1 u.2) 0 0 := by
  refine go_i (by decide +kernel) (Nat.le_of_ble_eq_true rfl) (Or.inr (fun v u h => nb01 (by rw [h.1.1]; exact h0))) ?_
  intro p e s m args below meth c Q A ls C hnm hA w hl hend
  have hx := C.1
  have hb := C.2.1
  replace hl : lv_has ls 2 [(0, .ref (a 0)), (1, vI p0)] := hl
  refine lv_aload_n hx hb dX10_throwsIf_0 rfl (lv_at hl 0 rfl) ?_
  refine lv_iload_n hx hb dX10_throwsIf_1 rfl (lv_at hl 1 rfl) ?_
  refine r_if_eq (tgt := 9) hx hb dX10_throwsIf_2 (by decide) (by omega) (fun c2 => ?_) (fun c2 => ?_)
  · skip
    refine r_iconst hx hb dX10_throwsIf_9 ?_
    refine r_put C w 0 tyX10 tyX10_ok nmX10 rfl rfl 0 (by decide) inX10 kf_X10_97 rfl rfl rfl (Nat.le_of_ble_eq_true rfl) (ws' := mw cy a (uZ z 0 0) g) (mw_z0 cy a z g 0) dX10_throwsIf_10 (fun H locs w => ?_)
    have bz1 : (0 : Int) ≤ 0 ∧ (0 : Int) ≤ 1 := (by omega)
    refine lv_iload_n hx hb dX10_throwsIf_13 rfl (lv_at hl 1 rfl) ?_
    exact hend p0 ((uZ z 0 0), g) _ _ _ _ dX10_throwsIf_14 w ⟨(by refine ⟨rfl, ?_⟩; first | rfl | (rw [show p0 = 1 by omega]) | (rw [show p0 = 0 by omega])), (mBz_u hz 0 bz1), hg⟩
  · skip
    refine r_iconst hx hb dX10_throwsIf_5 ?_
    refine lv_goto (tgt := 10) hx hb dX10_throwsIf_6 (by decide) ?_
    refine r_put C w 0 tyX10 tyX10_ok nmX10 rfl rfl 0 (by decide) inX10 kf_X10_97 rfl rfl rfl (Nat.le_of_ble_eq_true rfl) (ws' := mw cy a (uZ z 0 1) g) (mw_z0 cy a z g 1) dX10_throwsIf_10 (fun H locs w => ?_)
    have bz2 : (0 : Int) ≤ 1 ∧ (1 : Int) ≤ 1 := (by omega)
    refine lv_iload_n hx hb dX10_throwsIf_13 rfl (lv_at hl 1 rfl) ?_
    exact hend p0 ((uZ z 0 1), g) _ _ _ _ dX10_throwsIf_14 w ⟨(by refine ⟨rfl, ?_⟩; first | rfl | (rw [show p0 = 1 by omega]) | (rw [show p0 = 0 by omega])), (mBz_u hz 0 bz2), hg⟩

abbrev rm_X10_four : Room := { frames := 0, cells := 0, slots := 0, locals := 0 }
set_option maxHeartbeats 4000000 in
set_option maxRecDepth 100000 in
theorem ct_X10_four (l : Launch) (D : va_G) (cy : Nat → ClassId) (a : Nat → Nat) (z : Nat → Int) (g : Nat → Int → Int) (p0 : Int) (hz : mBz z) (hg : mBg g) (h0 : iR p0) (h1 : z 1 + 4 ≤ 200) : MV l yX10_four cX10_four 3 (rm_X10_four) D cy (mw cy a z g) [.ref (a 0), vI p0] (fun (u : sX) => (u.1 = uZ z 1 (z 1 + 1 + 1 + 1 + 1) ∧ u.2 = uZ g 1 (tq4 (g 1) (z 1) p0)) ∧ mBz u.1 ∧ mBg u.2) (fun u => mw cy a u.1 u.2) 0 0 := by
  refine go_v (by decide +kernel) (Nat.le_of_ble_eq_true rfl) ?_
  intro p e s m args below meth c Q A ls C hnm hA w hl hend
  have hx := C.1
  have hb := C.2.1
  replace hl : lv_has ls 3 [(0, .ref (a 0)), (1, vI p0)] := hl
  refine r_bipush hx hb dX10_four_0 (by decide) ?_
  refine lv_istore_n (lv' := [(2, vI 24), (0, .ref (a 0)), (1, vI p0)]) hx hb dX10_four_2 rfl hl (by decide) rfl (fun ls hl => ?_)
  refine lv_iload_n hx hb dX10_four_3 rfl (lv_at hl 0 rfl) ?_
  refine r_if_lt (tgt := 36) hx hb dX10_four_4 (by decide) (by omega) (fun c4 => ?_) (fun c4 => ?_)
  · skip
    exact absurd c4 (by omega)
  · skip
    refine lv_aload_n hx hb dX10_four_7 rfl (lv_at hl 1 rfl) ?_
    refine r_get C w 0 (v := .ref (a 1)) rfl rfl 1 (by decide) inX10 kf_X10_7 rfl dX10_four_8 ?_
    refine lv_aload_n hx hb dX10_four_11 rfl (lv_at hl 1 rfl) ?_
    refine r_get C w 0 (v := vI (z 1)) rfl rfl 2 (by decide) inX10 kf_X10_101 rfl dX10_four_12 ?_
    have qz1 := mZ1 hz
    refine lv_iload_n hx hb dX10_four_15 rfl (lv_at hl 2 rfl) ?_
    refine lv_iload_n hx hb dX10_four_16 rfl (lv_at hl 0 rfl) ?_
    refine r_ishr hx hb 24 dX10_four_17 (by omega) (by decide) ?_
    refine r_i2b hx hb dX10_four_18 ?_
    refine r_bast C w 1 (f := (g 1)) rfl (by omega) (by omega) (by decide) (by exact iI_nb8 (bm_b _)) (ws' := mw cy a z (uZ g 1 (uI (g 1) (z 1) (Int.bmod (p0 / 2 ^ 24) 256)))) (mw_g1 cy a z g (uI (g 1) (z 1) (Int.bmod (p0 / 2 ^ 24) 256))) dX10_four_19 (fun H locs w => ?_)
    have bg2 : ∀ j : Int, (-128 : Int) ≤ (uI (g 1) (z 1) (Int.bmod (p0 / 2 ^ 24) 256)) j ∧ (uI (g 1) (z 1) (Int.bmod (p0 / 2 ^ 24) 256)) j ≤ 127 := uI_b (mB1 hg) (by exact bm_b _)
    refine lv_aload_n hx hb dX10_four_20 rfl (lv_at hl 1 rfl) ?_
    refine lv_dup hx hb dX10_four_21 rfl ?_
    refine r_get C w 0 (v := vI (z 1)) rfl rfl 2 (by decide) inX10 kf_X10_101 rfl dX10_four_22 ?_
    have qz3 := mZ1 hz
    refine r_iconst hx hb dX10_four_25 ?_
    refine r_iadd hx hb dX10_four_26 ?_
    refine r_put C w 0 tyX10 tyX10_ok nmX10 rfl rfl 2 (by decide) inX10 kf_X10_101 rfl rfl rfl (Nat.le_of_ble_eq_true rfl) (ws' := mw cy a (uZ z 1 ((z 1) + 1)) (uZ g 1 (uI (g 1) (z 1) (Int.bmod (p0 / 2 ^ 24) 256)))) (mw_z1 cy a z (uZ g 1 (uI (g 1) (z 1) (Int.bmod (p0 / 2 ^ 24) 256))) ((z 1) + 1)) dX10_four_27 (fun H locs w => ?_)
    have bz4 : (0 : Int) ≤ ((z 1) + 1) ∧ (((z 1) + 1) : Int) ≤ 200 := (by omega)
    refine r_iinc (lv' := [(2, vI (24 + (-8))), (0, .ref (a 0)), (1, vI p0)]) hx hb dX10_four_30 hl (k := 0) rfl (by decide) rfl (fun ls hl => ?_)
    refine lv_goto (tgt := 3) hx hb dX10_four_33 (by decide) ?_
    refine lv_iload_n hx hb dX10_four_3 rfl (lv_at hl 0 rfl) ?_
    refine r_if_lt (tgt := 36) hx hb dX10_four_4 (by decide) (by omega) (fun c4 => ?_) (fun c4 => ?_)
    · skip
      exact absurd c4 (by omega)
    · skip
      refine lv_aload_n hx hb dX10_four_7 rfl (lv_at hl 1 rfl) ?_
      refine r_get C w 0 (v := .ref (a 1)) rfl rfl 1 (by decide) inX10 kf_X10_7 rfl dX10_four_8 ?_
      refine lv_aload_n hx hb dX10_four_11 rfl (lv_at hl 1 rfl) ?_
      refine r_get C w 0 (v := vI ((z 1) + 1)) rfl rfl 2 (by decide) inX10 kf_X10_101 rfl dX10_four_12 ?_
      refine lv_iload_n hx hb dX10_four_15 rfl (lv_at hl 2 rfl) ?_
      refine lv_iload_n hx hb dX10_four_16 rfl (lv_at hl 0 rfl) ?_
      refine r_ishr hx hb 16 dX10_four_17 (by omega) (by decide) ?_
      refine r_i2b hx hb dX10_four_18 ?_
      refine r_bast C w 1 (f := (uI (g 1) (z 1) (Int.bmod (p0 / 2 ^ 24) 256))) rfl (by omega) (by omega) (by decide) (by exact iI_nb8 (bm_b _)) (ws' := mw cy a (uZ z 1 ((z 1) + 1)) (uZ g 1 (uI (uI (g 1) (z 1) (Int.bmod (p0 / 2 ^ 24) 256)) ((z 1) + 1) (Int.bmod (p0 / 2 ^ 16) 256)))) rfl dX10_four_19 (fun H locs w => ?_)
      have bg5 : ∀ j : Int, (-128 : Int) ≤ (uI (uI (g 1) (z 1) (Int.bmod (p0 / 2 ^ 24) 256)) ((z 1) + 1) (Int.bmod (p0 / 2 ^ 16) 256)) j ∧ (uI (uI (g 1) (z 1) (Int.bmod (p0 / 2 ^ 24) 256)) ((z 1) + 1) (Int.bmod (p0 / 2 ^ 16) 256)) j ≤ 127 := uI_b bg2 (by exact bm_b _)
      refine lv_aload_n hx hb dX10_four_20 rfl (lv_at hl 1 rfl) ?_
      refine lv_dup hx hb dX10_four_21 rfl ?_
      refine r_get C w 0 (v := vI ((z 1) + 1)) rfl rfl 2 (by decide) inX10 kf_X10_101 rfl dX10_four_22 ?_
      refine r_iconst hx hb dX10_four_25 ?_
      refine r_iadd hx hb dX10_four_26 ?_
      refine r_put C w 0 tyX10 tyX10_ok nmX10 rfl rfl 2 (by decide) inX10 kf_X10_101 rfl rfl rfl (Nat.le_of_ble_eq_true rfl) (ws' := mw cy a (uZ z 1 (((z 1) + 1) + 1)) (uZ g 1 (uI (uI (g 1) (z 1) (Int.bmod (p0 / 2 ^ 24) 256)) ((z 1) + 1) (Int.bmod (p0 / 2 ^ 16) 256)))) rfl dX10_four_27 (fun H locs w => ?_)
      have bz6 : (0 : Int) ≤ (((z 1) + 1) + 1) ∧ ((((z 1) + 1) + 1) : Int) ≤ 200 := (by omega)
      refine r_iinc (lv' := [(2, vI ((24 + (-8)) + (-8))), (0, .ref (a 0)), (1, vI p0)]) hx hb dX10_four_30 hl (k := 0) rfl (by decide) rfl (fun ls hl => ?_)
      refine lv_goto (tgt := 3) hx hb dX10_four_33 (by decide) ?_
      refine lv_iload_n hx hb dX10_four_3 rfl (lv_at hl 0 rfl) ?_
      refine r_if_lt (tgt := 36) hx hb dX10_four_4 (by decide) (by omega) (fun c4 => ?_) (fun c4 => ?_)
      · skip
        exact absurd c4 (by omega)
      · skip
        refine lv_aload_n hx hb dX10_four_7 rfl (lv_at hl 1 rfl) ?_
        refine r_get C w 0 (v := .ref (a 1)) rfl rfl 1 (by decide) inX10 kf_X10_7 rfl dX10_four_8 ?_
        refine lv_aload_n hx hb dX10_four_11 rfl (lv_at hl 1 rfl) ?_
        refine r_get C w 0 (v := vI (((z 1) + 1) + 1)) rfl rfl 2 (by decide) inX10 kf_X10_101 rfl dX10_four_12 ?_
        refine lv_iload_n hx hb dX10_four_15 rfl (lv_at hl 2 rfl) ?_
        refine lv_iload_n hx hb dX10_four_16 rfl (lv_at hl 0 rfl) ?_
        refine r_ishr hx hb 8 dX10_four_17 (by omega) (by decide) ?_
        refine r_i2b hx hb dX10_four_18 ?_
        refine r_bast C w 1 (f := (uI (uI (g 1) (z 1) (Int.bmod (p0 / 2 ^ 24) 256)) ((z 1) + 1) (Int.bmod (p0 / 2 ^ 16) 256))) rfl (by omega) (by omega) (by decide) (by exact iI_nb8 (bm_b _)) (ws' := mw cy a (uZ z 1 (((z 1) + 1) + 1)) (uZ g 1 (uI (uI (uI (g 1) (z 1) (Int.bmod (p0 / 2 ^ 24) 256)) ((z 1) + 1) (Int.bmod (p0 / 2 ^ 16) 256)) (((z 1) + 1) + 1) (Int.bmod (p0 / 2 ^ 8) 256)))) rfl dX10_four_19 (fun H locs w => ?_)
        have bg7 : ∀ j : Int, (-128 : Int) ≤ (uI (uI (uI (g 1) (z 1) (Int.bmod (p0 / 2 ^ 24) 256)) ((z 1) + 1) (Int.bmod (p0 / 2 ^ 16) 256)) (((z 1) + 1) + 1) (Int.bmod (p0 / 2 ^ 8) 256)) j ∧ (uI (uI (uI (g 1) (z 1) (Int.bmod (p0 / 2 ^ 24) 256)) ((z 1) + 1) (Int.bmod (p0 / 2 ^ 16) 256)) (((z 1) + 1) + 1) (Int.bmod (p0 / 2 ^ 8) 256)) j ≤ 127 := uI_b bg5 (by exact bm_b _)
        refine lv_aload_n hx hb dX10_four_20 rfl (lv_at hl 1 rfl) ?_
        refine lv_dup hx hb dX10_four_21 rfl ?_
        refine r_get C w 0 (v := vI (((z 1) + 1) + 1)) rfl rfl 2 (by decide) inX10 kf_X10_101 rfl dX10_four_22 ?_
        refine r_iconst hx hb dX10_four_25 ?_
        refine r_iadd hx hb dX10_four_26 ?_
        refine r_put C w 0 tyX10 tyX10_ok nmX10 rfl rfl 2 (by decide) inX10 kf_X10_101 rfl rfl rfl (Nat.le_of_ble_eq_true rfl) (ws' := mw cy a (uZ z 1 ((((z 1) + 1) + 1) + 1)) (uZ g 1 (uI (uI (uI (g 1) (z 1) (Int.bmod (p0 / 2 ^ 24) 256)) ((z 1) + 1) (Int.bmod (p0 / 2 ^ 16) 256)) (((z 1) + 1) + 1) (Int.bmod (p0 / 2 ^ 8) 256)))) rfl dX10_four_27 (fun H locs w => ?_)
        have bz8 : (0 : Int) ≤ ((((z 1) + 1) + 1) + 1) ∧ (((((z 1) + 1) + 1) + 1) : Int) ≤ 200 := (by omega)
        refine r_iinc (lv' := [(2, vI (((24 + (-8)) + (-8)) + (-8))), (0, .ref (a 0)), (1, vI p0)]) hx hb dX10_four_30 hl (k := 0) rfl (by decide) rfl (fun ls hl => ?_)
        refine lv_goto (tgt := 3) hx hb dX10_four_33 (by decide) ?_
        refine lv_iload_n hx hb dX10_four_3 rfl (lv_at hl 0 rfl) ?_
        refine r_if_lt (tgt := 36) hx hb dX10_four_4 (by decide) (by omega) (fun c4 => ?_) (fun c4 => ?_)
        · skip
          exact absurd c4 (by omega)
        · skip
          refine lv_aload_n hx hb dX10_four_7 rfl (lv_at hl 1 rfl) ?_
          refine r_get C w 0 (v := .ref (a 1)) rfl rfl 1 (by decide) inX10 kf_X10_7 rfl dX10_four_8 ?_
          refine lv_aload_n hx hb dX10_four_11 rfl (lv_at hl 1 rfl) ?_
          refine r_get C w 0 (v := vI ((((z 1) + 1) + 1) + 1)) rfl rfl 2 (by decide) inX10 kf_X10_101 rfl dX10_four_12 ?_
          refine lv_iload_n hx hb dX10_four_15 rfl (lv_at hl 2 rfl) ?_
          refine lv_iload_n hx hb dX10_four_16 rfl (lv_at hl 0 rfl) ?_
          refine r_ishr hx hb 0 dX10_four_17 (by omega) (by decide) ?_
          refine r_i2b hx hb dX10_four_18 ?_
          refine r_bast C w 1 (f := (uI (uI (uI (g 1) (z 1) (Int.bmod (p0 / 2 ^ 24) 256)) ((z 1) + 1) (Int.bmod (p0 / 2 ^ 16) 256)) (((z 1) + 1) + 1) (Int.bmod (p0 / 2 ^ 8) 256))) rfl (by omega) (by omega) (by decide) (by exact iI_nb8 (bm_b _)) (ws' := mw cy a (uZ z 1 ((((z 1) + 1) + 1) + 1)) (uZ g 1 (uI (uI (uI (uI (g 1) (z 1) (Int.bmod (p0 / 2 ^ 24) 256)) ((z 1) + 1) (Int.bmod (p0 / 2 ^ 16) 256)) (((z 1) + 1) + 1) (Int.bmod (p0 / 2 ^ 8) 256)) ((((z 1) + 1) + 1) + 1) (Int.bmod (p0 / 2 ^ 0) 256)))) rfl dX10_four_19 (fun H locs w => ?_)
          have bg9 : ∀ j : Int, (-128 : Int) ≤ (uI (uI (uI (uI (g 1) (z 1) (Int.bmod (p0 / 2 ^ 24) 256)) ((z 1) + 1) (Int.bmod (p0 / 2 ^ 16) 256)) (((z 1) + 1) + 1) (Int.bmod (p0 / 2 ^ 8) 256)) ((((z 1) + 1) + 1) + 1) (Int.bmod (p0 / 2 ^ 0) 256)) j ∧ (uI (uI (uI (uI (g 1) (z 1) (Int.bmod (p0 / 2 ^ 24) 256)) ((z 1) + 1) (Int.bmod (p0 / 2 ^ 16) 256)) (((z 1) + 1) + 1) (Int.bmod (p0 / 2 ^ 8) 256)) ((((z 1) + 1) + 1) + 1) (Int.bmod (p0 / 2 ^ 0) 256)) j ≤ 127 := uI_b bg7 (by exact bm_b _)
          refine lv_aload_n hx hb dX10_four_20 rfl (lv_at hl 1 rfl) ?_
          refine lv_dup hx hb dX10_four_21 rfl ?_
          refine r_get C w 0 (v := vI ((((z 1) + 1) + 1) + 1)) rfl rfl 2 (by decide) inX10 kf_X10_101 rfl dX10_four_22 ?_
          refine r_iconst hx hb dX10_four_25 ?_
          refine r_iadd hx hb dX10_four_26 ?_
          refine r_put C w 0 tyX10 tyX10_ok nmX10 rfl rfl 2 (by decide) inX10 kf_X10_101 rfl rfl rfl (Nat.le_of_ble_eq_true rfl) (ws' := mw cy a (uZ z 1 (((((z 1) + 1) + 1) + 1) + 1)) (uZ g 1 (uI (uI (uI (uI (g 1) (z 1) (Int.bmod (p0 / 2 ^ 24) 256)) ((z 1) + 1) (Int.bmod (p0 / 2 ^ 16) 256)) (((z 1) + 1) + 1) (Int.bmod (p0 / 2 ^ 8) 256)) ((((z 1) + 1) + 1) + 1) (Int.bmod (p0 / 2 ^ 0) 256)))) rfl dX10_four_27 (fun H locs w => ?_)
          have bz10 : (0 : Int) ≤ (((((z 1) + 1) + 1) + 1) + 1) ∧ ((((((z 1) + 1) + 1) + 1) + 1) : Int) ≤ 200 := (by omega)
          refine r_iinc (lv' := [(2, vI ((((24 + (-8)) + (-8)) + (-8)) + (-8))), (0, .ref (a 0)), (1, vI p0)]) hx hb dX10_four_30 hl (k := 0) rfl (by decide) rfl (fun ls hl => ?_)
          refine lv_goto (tgt := 3) hx hb dX10_four_33 (by decide) ?_
          refine lv_iload_n hx hb dX10_four_3 rfl (lv_at hl 0 rfl) ?_
          refine r_if_lt (tgt := 36) hx hb dX10_four_4 (by decide) (by omega) (fun c4 => ?_) (fun c4 => ?_)
          · skip
            exact hend ((uZ z 1 (((((z 1) + 1) + 1) + 1) + 1)), (uZ g 1 (uI (uI (uI (uI (g 1) (z 1) (Int.bmod (p0 / 2 ^ 24) 256)) ((z 1) + 1) (Int.bmod (p0 / 2 ^ 16) 256)) (((z 1) + 1) + 1) (Int.bmod (p0 / 2 ^ 8) 256)) ((((z 1) + 1) + 1) + 1) (Int.bmod (p0 / 2 ^ 0) 256)))) _ _ _ _ dX10_four_36 w ⟨(by exact ⟨rfl, rfl⟩), (mBz_u hz 1 bz10), (mBg_u hg 1 bg9)⟩
          · skip
            exact absurd c4 (by omega)

abbrev rm_X10_feed : Room := { frames := 1, cells := 0, slots := 0, locals := 22 }
set_option maxHeartbeats 4000000 in
set_option maxRecDepth 100000 in
theorem ct_X10_feed (l : Launch) (D : va_G) (cy : Nat → ClassId) (a : Nat → Nat) (z : Nat → Int) (g : Nat → Int → Int) (p0 p1 p2 p3 p4 : Int) (hz : mBz z) (hg : mBg g) (h0 : iR p0) (h1 : iR p1) (h2 : iR p2) (h3 : iR p3) (h4 : iR p4) : MI l yX10_feed cX10_feed 6 .int (rm_X10_feed) D cy (mw cy a z g) [.ref (a 0), vI p0, vI p1, vI p2, vI p3, vI p4] (fun (v : Int) (u : sX) => ((200 < z 1 + 20 ∧ v = -1 ∧ u = (uZ z 0 0, g)) ∨ (z 1 + 20 ≤ 200 ∧ v = z 1 + 20 ∧ u.1 = uZ (uZ z 0 0) 1 (z 1 + 20) ∧ u.2 = uZ g 1 (tq4 (tq4 (tq4 (tq4 (tq4 (g 1) (z 1) p0) (z 1 + 4) p1) (z 1 + 8) p2) (z 1 + 12) p3) (z 1 + 16) p4))) ∧ mBz u.1 ∧ mBg u.2) (fun u => mw cy a u.1 u.2) 0 0 := by
  refine go_i (by decide +kernel) (Nat.le_of_ble_eq_true rfl) (Or.inl rfl) ?_
  intro p e s m args below meth c Q A ls C hnm hA w hl hend
  have hx := C.1
  have hb := C.2.1
  replace hl : lv_has ls 6 [(0, .ref (a 0)), (1, vI p0), (2, vI p1), (3, vI p2), (4, vI p3), (5, vI p4)] := hl
  refine lv_aload_n hx hb dX10_feed_0 rfl (lv_at hl 0 rfl) ?_
  refine r_iconst hx hb dX10_feed_1 ?_
  refine r_put C w 0 tyX10 tyX10_ok nmX10 rfl rfl 0 (by decide) inX10 kf_X10_97 rfl rfl rfl (Nat.le_of_ble_eq_true rfl) (ws' := mw cy a (uZ z 0 0) g) (mw_z0 cy a z g 0) dX10_feed_2 (fun H locs w => ?_)
  have bz1 : (0 : Int) ≤ 0 ∧ (0 : Int) ≤ 1 := (by omega)
  refine lv_aload_n hx hb dX10_feed_5 rfl (lv_at hl 0 rfl) ?_
  refine r_get C w 0 (v := vI (z 1)) rfl rfl 2 (by decide) inX10 kf_X10_101 rfl dX10_feed_6 ?_
  have qz2 := mZ1 hz
  refine r_bipush hx hb dX10_feed_9 (by decide) ?_
  refine r_iadd hx hb dX10_feed_11 ?_
  refine r_sipush hx hb dX10_feed_12 (by decide) ?_
  refine r_icmp_le (tgt := 20) hx hb dX10_feed_15 (by decide) (by omega) (by omega) (fun c15 => ?_) (fun c15 => ?_)
  · skip
    refine lv_aload_n hx hb dX10_feed_20 rfl (lv_at hl 0 rfl) ?_
    refine lv_iload_n hx hb dX10_feed_21 rfl (lv_at hl 1 rfl) ?_
    refine cVV C w hA (ct_X10_four l D cy a (uZ z 0 0) g p0 (mBz_u hz 0 bz1) hg (by show iR p0; omega) (by show (z 1) + 4 ≤ 200; omega)) ok_X10_four km_X10_104 ⟨rfl, rfl⟩ ⟨by decide, by decide⟩ ⟨by decide, by decide⟩ rfl 0 rfl rfl hl.1 rfl (Nat.le_of_ble_eq_true rfl) dX10_feed_22 (fun uv_1 H locs w hp_1 => ?_)
    obtain ⟨zc_1, gc_1⟩ := uv_1
    obtain ⟨hp_1, hzc_1, hgc_1⟩ := hp_1
    replace w : wd D A s.heap (mw cy a zc_1 gc_1) H locs := w
    replace hzc_1 : mBz zc_1 := hzc_1
    replace hgc_1 : mBg gc_1 := hgc_1
    try dsimp only at hp_1
    have e_1 : zc_1 1 = (z 1) + 4 := by rw [hp_1.1, uZ_s]; show (z 1) + 1 + 1 + 1 + 1 = _; omega
    refine lv_aload_n hx hb dX10_feed_25 rfl (lv_at hl 0 rfl) ?_
    refine lv_iload_n hx hb dX10_feed_26 rfl (lv_at hl 2 rfl) ?_
    refine cVV C w hA (ct_X10_four l D cy a zc_1 gc_1 p1 hzc_1 hgc_1 (by show iR p1; omega) (by show (zc_1 1) + 4 ≤ 200; omega)) ok_X10_four km_X10_104 ⟨rfl, rfl⟩ ⟨by decide, by decide⟩ ⟨by decide, by decide⟩ rfl 0 rfl rfl hl.1 rfl (Nat.le_of_ble_eq_true rfl) dX10_feed_27 (fun uv_2 H locs w hp_2 => ?_)
    obtain ⟨zc_2, gc_2⟩ := uv_2
    obtain ⟨hp_2, hzc_2, hgc_2⟩ := hp_2
    replace w : wd D A s.heap (mw cy a zc_2 gc_2) H locs := w
    replace hzc_2 : mBz zc_2 := hzc_2
    replace hgc_2 : mBg gc_2 := hgc_2
    try dsimp only at hp_2
    have e_2 : zc_2 1 = (zc_1 1) + 4 := by rw [hp_2.1, uZ_s]; show (zc_1 1) + 1 + 1 + 1 + 1 = _; omega
    refine lv_aload_n hx hb dX10_feed_30 rfl (lv_at hl 0 rfl) ?_
    refine lv_iload_n hx hb dX10_feed_31 rfl (lv_at hl 3 rfl) ?_
    refine cVV C w hA (ct_X10_four l D cy a zc_2 gc_2 p2 hzc_2 hgc_2 (by show iR p2; omega) (by show (zc_2 1) + 4 ≤ 200; omega)) ok_X10_four km_X10_104 ⟨rfl, rfl⟩ ⟨by decide, by decide⟩ ⟨by decide, by decide⟩ rfl 0 rfl rfl hl.1 rfl (Nat.le_of_ble_eq_true rfl) dX10_feed_32 (fun uv_3 H locs w hp_3 => ?_)
    obtain ⟨zc_3, gc_3⟩ := uv_3
    obtain ⟨hp_3, hzc_3, hgc_3⟩ := hp_3
    replace w : wd D A s.heap (mw cy a zc_3 gc_3) H locs := w
    replace hzc_3 : mBz zc_3 := hzc_3
    replace hgc_3 : mBg gc_3 := hgc_3
    try dsimp only at hp_3
    have e_3 : zc_3 1 = (zc_2 1) + 4 := by rw [hp_3.1, uZ_s]; show (zc_2 1) + 1 + 1 + 1 + 1 = _; omega
    refine lv_aload_n hx hb dX10_feed_35 rfl (lv_at hl 0 rfl) ?_
    refine lv_iload hx hb dX10_feed_36 (lv_at hl 4 rfl) ?_
    refine cVV C w hA (ct_X10_four l D cy a zc_3 gc_3 p3 hzc_3 hgc_3 (by show iR p3; omega) (by show (zc_3 1) + 4 ≤ 200; omega)) ok_X10_four km_X10_104 ⟨rfl, rfl⟩ ⟨by decide, by decide⟩ ⟨by decide, by decide⟩ rfl 0 rfl rfl hl.1 rfl (Nat.le_of_ble_eq_true rfl) dX10_feed_38 (fun uv_4 H locs w hp_4 => ?_)
    obtain ⟨zc_4, gc_4⟩ := uv_4
    obtain ⟨hp_4, hzc_4, hgc_4⟩ := hp_4
    replace w : wd D A s.heap (mw cy a zc_4 gc_4) H locs := w
    replace hzc_4 : mBz zc_4 := hzc_4
    replace hgc_4 : mBg gc_4 := hgc_4
    try dsimp only at hp_4
    have e_4 : zc_4 1 = (zc_3 1) + 4 := by rw [hp_4.1, uZ_s]; show (zc_3 1) + 1 + 1 + 1 + 1 = _; omega
    refine lv_aload_n hx hb dX10_feed_41 rfl (lv_at hl 0 rfl) ?_
    refine lv_iload hx hb dX10_feed_42 (lv_at hl 5 rfl) ?_
    refine cVV C w hA (ct_X10_four l D cy a zc_4 gc_4 p4 hzc_4 hgc_4 (by show iR p4; omega) (by show (zc_4 1) + 4 ≤ 200; omega)) ok_X10_four km_X10_104 ⟨rfl, rfl⟩ ⟨by decide, by decide⟩ ⟨by decide, by decide⟩ rfl 0 rfl rfl hl.1 rfl (Nat.le_of_ble_eq_true rfl) dX10_feed_44 (fun uv_5 H locs w hp_5 => ?_)
    obtain ⟨zc_5, gc_5⟩ := uv_5
    obtain ⟨hp_5, hzc_5, hgc_5⟩ := hp_5
    replace w : wd D A s.heap (mw cy a zc_5 gc_5) H locs := w
    replace hzc_5 : mBz zc_5 := hzc_5
    replace hgc_5 : mBg gc_5 := hgc_5
    try dsimp only at hp_5
    have e_5 : zc_5 1 = (zc_4 1) + 4 := by rw [hp_5.1, uZ_s]; show (zc_4 1) + 1 + 1 + 1 + 1 = _; omega
    refine lv_aload_n hx hb dX10_feed_47 rfl (lv_at hl 0 rfl) ?_
    refine r_get C w 0 (v := vI (zc_5 1)) rfl rfl 2 (by decide) inX10 kf_X10_101 rfl dX10_feed_48 ?_
    have qz3 := mZ1 hzc_5
    exact hend (zc_5 1) (zc_5, gc_5) _ _ _ _ dX10_feed_51 w ⟨(by refine Or.inr ⟨by omega, by omega, ?_, ?_⟩ <;> simp only [hp_1, hp_2, hp_3, hp_4, hp_5, uZ_uZ, uZ_s, uZ_n _ _ (show (1 : Nat) ≠ 0 by decide), Int.add_assoc, Int.reduceAdd]), hzc_5, hgc_5⟩
  · skip
    refine r_iconst hx hb dX10_feed_18 ?_
    exact hend (-1) ((uZ z 0 0), g) _ _ _ _ dX10_feed_19 w ⟨(by exact Or.inl ⟨by omega, rfl, rfl⟩), (mBz_u hz 0 bz1), hg⟩

abbrev rm_X10_end : Room := { frames := 0, cells := 0, slots := 0, locals := 0 }
set_option maxHeartbeats 4000000 in
set_option maxRecDepth 100000 in
theorem ct_X10_end (l : Launch) (D : va_G) (cy : Nat → ClassId) (a : Nat → Nat) (z : Nat → Int) (g : Nat → Int → Int) (p0 : Int) (hz : mBz z) (hg : mBg g) (h0 : iR p0) : MI l yX10_end cX10_end 2 .boolean (rm_X10_end) D cy (mw cy a z g) [.ref (a 0), vI p0] (fun (v : Int) (u : sX) => ((¬ (0 ≤ p0 ∧ p0 ≤ z 1) ∧ v = 0 ∧ u = (uZ z 0 0, g)) ∨ ((0 ≤ p0 ∧ p0 ≤ z 1) ∧ v = 1 ∧ u = (uZ (uZ z 0 0) 1 p0, g))) ∧ mBz u.1 ∧ mBg u.2) (fun u => mw cy a u.1 u.2) 0 0 := by
  refine go_i (by decide +kernel) (Nat.le_of_ble_eq_true rfl) (Or.inr (fun v u h => nb01 (by omega))) ?_
  intro p e s m args below meth c Q A ls C hnm hA w hl hend
  have hx := C.1
  have hb := C.2.1
  replace hl : lv_has ls 2 [(0, .ref (a 0)), (1, vI p0)] := hl
  refine lv_aload_n hx hb dX10_end_0 rfl (lv_at hl 0 rfl) ?_
  refine r_iconst hx hb dX10_end_1 ?_
  refine r_put C w 0 tyX10 tyX10_ok nmX10 rfl rfl 0 (by decide) inX10 kf_X10_97 rfl rfl rfl (Nat.le_of_ble_eq_true rfl) (ws' := mw cy a (uZ z 0 0) g) (mw_z0 cy a z g 0) dX10_end_2 (fun H locs w => ?_)
  have bz1 : (0 : Int) ≤ 0 ∧ (0 : Int) ≤ 1 := (by omega)
  refine lv_iload_n hx hb dX10_end_5 rfl (lv_at hl 1 rfl) ?_
  refine r_if_lt (tgt := 17) hx hb dX10_end_6 (by decide) (by omega) (fun c6 => ?_) (fun c6 => ?_)
  · skip
    refine r_iconst hx hb dX10_end_17 ?_
    exact hend 0 ((uZ z 0 0), g) _ _ _ _ dX10_end_18 w ⟨(by first | exact Or.inl ⟨by omega, rfl, rfl⟩ | exact Or.inr ⟨by omega, rfl, rfl⟩), (mBz_u hz 0 bz1), hg⟩
  · skip
    refine lv_iload_n hx hb dX10_end_9 rfl (lv_at hl 1 rfl) ?_
    refine lv_aload_n hx hb dX10_end_10 rfl (lv_at hl 0 rfl) ?_
    refine r_get C w 0 (v := vI (z 1)) rfl rfl 2 (by decide) inX10 kf_X10_101 rfl dX10_end_11 ?_
    have qz2 := mZ1 hz
    refine r_icmp_le (tgt := 19) hx hb dX10_end_14 (by decide) (by omega) (by omega) (fun c14 => ?_) (fun c14 => ?_)
    · skip
      refine lv_aload_n hx hb dX10_end_19 rfl (lv_at hl 0 rfl) ?_
      refine lv_iload_n hx hb dX10_end_20 rfl (lv_at hl 1 rfl) ?_
      refine r_put C w 0 tyX10 tyX10_ok nmX10 rfl rfl 2 (by decide) inX10 kf_X10_101 rfl rfl rfl (Nat.le_of_ble_eq_true rfl) (ws' := mw cy a (uZ (uZ z 0 0) 1 p0) g) (mw_z1 cy a (uZ z 0 0) g p0) dX10_end_21 (fun H locs w => ?_)
      have bz3 : (0 : Int) ≤ p0 ∧ (p0 : Int) ≤ 200 := (by omega)
      refine r_iconst hx hb dX10_end_24 ?_
      exact hend 1 ((uZ (uZ z 0 0) 1 p0), g) _ _ _ _ dX10_end_25 w ⟨(by first | exact Or.inl ⟨by omega, rfl, rfl⟩ | exact Or.inr ⟨by omega, rfl, rfl⟩), (mBz_u (mBz_u hz 0 bz1) 1 bz3), hg⟩
    · skip
      refine r_iconst hx hb dX10_end_17 ?_
      exact hend 0 ((uZ z 0 0), g) _ _ _ _ dX10_end_18 w ⟨(by first | exact Or.inl ⟨by omega, rfl, rfl⟩ | exact Or.inr ⟨by omega, rfl, rfl⟩), (mBz_u hz 0 bz1), hg⟩

abbrev rm_X10_fault : Room := { frames := 0, cells := 0, slots := 0, locals := 0 }
set_option maxHeartbeats 4000000 in
set_option maxRecDepth 100000 in
theorem ct_X10_fault (l : Launch) (D : va_G) (cy : Nat → ClassId) (a : Nat → Nat) (z : Nat → Int) (g : Nat → Int → Int)  (hz : mBz z) (hg : mBg g) : MI l yX10_fault cX10_fault 1 .int (rm_X10_fault) D cy (mw cy a z g) [.ref (a 0)] (fun (v : Int) (u : sX) => (v = z 7 ∧ u = (uZ z 0 0, g)) ∧ mBz u.1 ∧ mBg u.2) (fun u => mw cy a u.1 u.2) 0 0 := by
  refine go_i (by decide +kernel) (Nat.le_of_ble_eq_true rfl) (Or.inl rfl) ?_
  intro p e s m args below meth c Q A ls C hnm hA w hl hend
  have hx := C.1
  have hb := C.2.1
  replace hl : lv_has ls 1 [(0, .ref (a 0))] := hl
  refine lv_aload_n hx hb dX10_fault_0 rfl (lv_at hl 0 rfl) ?_
  refine r_iconst hx hb dX10_fault_1 ?_
  refine r_put C w 0 tyX10 tyX10_ok nmX10 rfl rfl 0 (by decide) inX10 kf_X10_97 rfl rfl rfl (Nat.le_of_ble_eq_true rfl) (ws' := mw cy a (uZ z 0 0) g) (mw_z0 cy a z g 0) dX10_fault_2 (fun H locs w => ?_)
  have bz1 : (0 : Int) ≤ 0 ∧ (0 : Int) ≤ 1 := (by omega)
  refine lv_aload_n hx hb dX10_fault_5 rfl (lv_at hl 0 rfl) ?_
  refine r_get C w 0 (v := vI (z 7)) rfl rfl 11 (by decide) inX10 kf_X10_138 rfl dX10_fault_6 ?_
  have qz2 := mZ7 hz
  exact hend (z 7) ((uZ z 0 0), g) _ _ _ _ dX10_fault_9 w ⟨(by exact ⟨rfl, rfl⟩), (mBz_u hz 0 bz1), hg⟩

abbrev rm_X10_lot : Room := { frames := 1, cells := 0, slots := 0, locals := 22 }
set_option maxHeartbeats 4000000 in
set_option maxRecDepth 100000 in
theorem ct_X10_lot (l : Launch) (D : va_G) (cy : Nat → ClassId) (a : Nat → Nat) (z : Nat → Int) (g : Nat → Int → Int) (p0 p1 p2 p3 p4 : Int) (hz : mBz z) (hg : mBg g) (h0 : iR p0) (h1 : iR p1) (h2 : iR p2) (h3 : iR p3) (h4 : iR p4) : MI l yX10_lot cX10_lot 6 .int (rm_X10_lot) D cy (mw cy a z g) [.ref (a 0), vI p0, vI p1, vI p2, vI p3, vI p4] (fun (v : Int) (u : sX) => ((¬ (okLot p0 p1 p2 p3 p4 ∧ z 11 < 100) ∧ v = -1 ∧ u = (uZ z 0 0, g)) ∨ ((okLot p0 p1 p2 p3 p4 ∧ z 11 < 100) ∧ v = z 11 ∧ u = (uZ (uZ z 0 0) 11 (z 11 + 1), uZ (uZ (uZ (uZ (uZ (uZ g 5 (uI (g 5) (z 11) p0)) 6 (uI (g 6) (z 11) p1)) 7 (uI (g 7) (z 11) p2)) 8 (uI (g 8) (z 11) p3)) 9 (uI (g 9) (z 11) p4)) 10 (uI (g 10) (z 11) (-1))))) ∧ mBz u.1 ∧ mBg u.2) (fun u => mw cy a u.1 u.2) 0 0 := by
  refine go_i (by decide +kernel) (Nat.le_of_ble_eq_true rfl) (Or.inl rfl) ?_
  intro p e s m args below meth c Q A ls C hnm hA w hl hend
  have hx := C.1
  have hb := C.2.1
  replace hl : lv_has ls 6 [(0, .ref (a 0)), (1, vI p0), (2, vI p1), (3, vI p2), (4, vI p3), (5, vI p4)] := hl
  refine lv_aload_n hx hb dX10_lot_0 rfl (lv_at hl 0 rfl) ?_
  refine r_iconst hx hb dX10_lot_1 ?_
  refine r_put C w 0 tyX10 tyX10_ok nmX10 rfl rfl 0 (by decide) inX10 kf_X10_97 rfl rfl rfl (Nat.le_of_ble_eq_true rfl) (ws' := mw cy a (uZ z 0 0) g) (mw_z0 cy a z g 0) dX10_lot_2 (fun H locs w => ?_)
  have bz1 : (0 : Int) ≤ 0 ∧ (0 : Int) ≤ 1 := (by omega)
  refine lv_aload_n hx hb dX10_lot_5 rfl (lv_at hl 0 rfl) ?_
  refine r_get C w 0 (v := vI (z 11)) rfl rfl 22 (by decide) inX10 kf_X10_180 rfl dX10_lot_6 ?_
  have qz2 := mZ11 hz
  refine r_bipush hx hb dX10_lot_9 (by decide) ?_
  refine r_icmp_eq (tgt := 64) hx hb dX10_lot_11 (by decide) (by omega) (by omega) (fun c11 => ?_) (fun c11 => ?_)
  · skip
    refine r_iconst hx hb dX10_lot_64 ?_
    exact hend (-1) ((uZ z 0 0), g) _ _ _ _ dX10_lot_65 w ⟨(by exact Or.inl ⟨by unfold okLot; omega, rfl, rfl⟩), (mBz_u hz 0 bz1), hg⟩
  · skip
    refine lv_iload_n hx hb dX10_lot_14 rfl (lv_at hl 1 rfl) ?_
    refine r_iconst hx hb dX10_lot_15 ?_
    refine r_bipush hx hb dX10_lot_16 (by decide) ?_
    refine cSI C w hA (ct_X10_isIn l D cy a (uZ z 0 0) g p0 0 7 (by show iR p0; omega) (by show iR 0; omega) (by show iR 7; omega)) ok_X10_isIn km_X10_183 ⟨rfl, rfl⟩ ⟨by decide, by decide⟩ ⟨by decide, by decide⟩ rfl hl.1 rfl (Nat.le_of_ble_eq_true rfl) dX10_lot_18 (fun rv_1 uv_1 H locs w hp_1 => ?_)
    replace hp_1 : (rv_1 = 1 ∧ 0 ≤ p0 ∧ p0 ≤ 7) ∨ (rv_1 = 0 ∧ ¬ (0 ≤ p0 ∧ p0 ≤ 7)) := hp_1
    replace w : wd D A s.heap (mw cy a (uZ z 0 0) g) H locs := w
    refine r_if_eq (tgt := 64) hx hb dX10_lot_21 (by decide) (by omega) (fun c21 => ?_) (fun c21 => ?_)
    · skip
      refine r_iconst hx hb dX10_lot_64 ?_
      exact hend (-1) ((uZ z 0 0), g) _ _ _ _ dX10_lot_65 w ⟨(by exact Or.inl ⟨by unfold okLot; omega, rfl, rfl⟩), (mBz_u hz 0 bz1), hg⟩
    · skip
      refine lv_iload_n hx hb dX10_lot_24 rfl (lv_at hl 2 rfl) ?_
      refine r_iconst hx hb dX10_lot_25 ?_
      refine r_iconst hx hb dX10_lot_26 ?_
      refine cSI C w hA (ct_X10_isIn l D cy a (uZ z 0 0) g p1 0 5 (by show iR p1; omega) (by show iR 0; omega) (by show iR 5; omega)) ok_X10_isIn km_X10_183 ⟨rfl, rfl⟩ ⟨by decide, by decide⟩ ⟨by decide, by decide⟩ rfl hl.1 rfl (Nat.le_of_ble_eq_true rfl) dX10_lot_27 (fun rv_2 uv_2 H locs w hp_2 => ?_)
      replace hp_2 : (rv_2 = 1 ∧ 0 ≤ p1 ∧ p1 ≤ 5) ∨ (rv_2 = 0 ∧ ¬ (0 ≤ p1 ∧ p1 ≤ 5)) := hp_2
      replace w : wd D A s.heap (mw cy a (uZ z 0 0) g) H locs := w
      refine r_if_eq (tgt := 64) hx hb dX10_lot_30 (by decide) (by omega) (fun c30 => ?_) (fun c30 => ?_)
      · skip
        refine r_iconst hx hb dX10_lot_64 ?_
        exact hend (-1) ((uZ z 0 0), g) _ _ _ _ dX10_lot_65 w ⟨(by exact Or.inl ⟨by unfold okLot; omega, rfl, rfl⟩), (mBz_u hz 0 bz1), hg⟩
      · skip
        refine lv_iload_n hx hb dX10_lot_33 rfl (lv_at hl 3 rfl) ?_
        refine r_iconst hx hb dX10_lot_34 ?_
        refine r_iconst hx hb dX10_lot_35 ?_
        refine cSI C w hA (ct_X10_isIn l D cy a (uZ z 0 0) g p2 0 3 (by show iR p2; omega) (by show iR 0; omega) (by show iR 3; omega)) ok_X10_isIn km_X10_183 ⟨rfl, rfl⟩ ⟨by decide, by decide⟩ ⟨by decide, by decide⟩ rfl hl.1 rfl (Nat.le_of_ble_eq_true rfl) dX10_lot_36 (fun rv_3 uv_3 H locs w hp_3 => ?_)
        replace hp_3 : (rv_3 = 1 ∧ 0 ≤ p2 ∧ p2 ≤ 3) ∨ (rv_3 = 0 ∧ ¬ (0 ≤ p2 ∧ p2 ≤ 3)) := hp_3
        replace w : wd D A s.heap (mw cy a (uZ z 0 0) g) H locs := w
        refine r_if_eq (tgt := 64) hx hb dX10_lot_39 (by decide) (by omega) (fun c39 => ?_) (fun c39 => ?_)
        · skip
          refine r_iconst hx hb dX10_lot_64 ?_
          exact hend (-1) ((uZ z 0 0), g) _ _ _ _ dX10_lot_65 w ⟨(by exact Or.inl ⟨by unfold okLot; omega, rfl, rfl⟩), (mBz_u hz 0 bz1), hg⟩
        · skip
          refine lv_iload hx hb dX10_lot_42 (lv_at hl 4 rfl) ?_
          refine r_iconst hx hb dX10_lot_44 ?_
          refine r_sipush hx hb dX10_lot_45 (by decide) ?_
          refine cSI C w hA (ct_X10_isIn l D cy a (uZ z 0 0) g p3 1 500 (by show iR p3; omega) (by show iR 1; omega) (by show iR 500; omega)) ok_X10_isIn km_X10_183 ⟨rfl, rfl⟩ ⟨by decide, by decide⟩ ⟨by decide, by decide⟩ rfl hl.1 rfl (Nat.le_of_ble_eq_true rfl) dX10_lot_48 (fun rv_4 uv_4 H locs w hp_4 => ?_)
          replace hp_4 : (rv_4 = 1 ∧ 1 ≤ p3 ∧ p3 ≤ 500) ∨ (rv_4 = 0 ∧ ¬ (1 ≤ p3 ∧ p3 ≤ 500)) := hp_4
          replace w : wd D A s.heap (mw cy a (uZ z 0 0) g) H locs := w
          refine r_if_eq (tgt := 64) hx hb dX10_lot_51 (by decide) (by omega) (fun c51 => ?_) (fun c51 => ?_)
          · skip
            refine r_iconst hx hb dX10_lot_64 ?_
            exact hend (-1) ((uZ z 0 0), g) _ _ _ _ dX10_lot_65 w ⟨(by exact Or.inl ⟨by unfold okLot; omega, rfl, rfl⟩), (mBz_u hz 0 bz1), hg⟩
          · skip
            refine lv_iload hx hb dX10_lot_54 (lv_at hl 5 rfl) ?_
            refine r_iconst hx hb dX10_lot_56 ?_
            refine r_iconst hx hb dX10_lot_57 ?_
            refine cSI C w hA (ct_X10_isIn l D cy a (uZ z 0 0) g p4 0 3 (by show iR p4; omega) (by show iR 0; omega) (by show iR 3; omega)) ok_X10_isIn km_X10_183 ⟨rfl, rfl⟩ ⟨by decide, by decide⟩ ⟨by decide, by decide⟩ rfl hl.1 rfl (Nat.le_of_ble_eq_true rfl) dX10_lot_58 (fun rv_5 uv_5 H locs w hp_5 => ?_)
            replace hp_5 : (rv_5 = 1 ∧ 0 ≤ p4 ∧ p4 ≤ 3) ∨ (rv_5 = 0 ∧ ¬ (0 ≤ p4 ∧ p4 ≤ 3)) := hp_5
            replace w : wd D A s.heap (mw cy a (uZ z 0 0) g) H locs := w
            refine r_if_ne (tgt := 66) hx hb dX10_lot_61 (by decide) (by omega) (fun c61 => ?_) (fun c61 => ?_)
            · skip
              refine lv_aload_n hx hb dX10_lot_66 rfl (lv_at hl 0 rfl) ?_
              refine r_get C w 0 (v := .ref (a 5)) rfl rfl 15 (by decide) inX10 kf_X10_24 rfl dX10_lot_67 ?_
              refine lv_aload_n hx hb dX10_lot_70 rfl (lv_at hl 0 rfl) ?_
              refine r_get C w 0 (v := vI (z 11)) rfl rfl 22 (by decide) inX10 kf_X10_180 rfl dX10_lot_71 ?_
              have qz3 := mZ11 hz
              refine lv_iload_n hx hb dX10_lot_74 rfl (lv_at hl 1 rfl) ?_
              refine r_iast C w 5 (f := (g 5)) rfl (by omega) (by omega) (by decide) (ws' := mw cy a (uZ z 0 0) (uZ g 5 (uI (g 5) (z 11) p0))) (mw_g5 cy a (uZ z 0 0) g (uI (g 5) (z 11) p0)) dX10_lot_75 (fun H locs w => ?_)
              have bg4 : ∀ j : Int, (0 : Int) ≤ (uI (g 5) (z 11) p0) j ∧ (uI (g 5) (z 11) p0) j ≤ 7 := uI_b (mB5 hg) (by omega)
              refine lv_aload_n hx hb dX10_lot_76 rfl (lv_at hl 0 rfl) ?_
              refine r_get C w 0 (v := .ref (a 6)) rfl rfl 16 (by decide) inX10 kf_X10_27 rfl dX10_lot_77 ?_
              refine lv_aload_n hx hb dX10_lot_80 rfl (lv_at hl 0 rfl) ?_
              refine r_get C w 0 (v := vI (z 11)) rfl rfl 22 (by decide) inX10 kf_X10_180 rfl dX10_lot_81 ?_
              have qz5 := mZ11 hz
              refine lv_iload_n hx hb dX10_lot_84 rfl (lv_at hl 2 rfl) ?_
              refine r_iast C w 6 (f := (g 6)) rfl (by omega) (by omega) (by decide) (ws' := mw cy a (uZ z 0 0) (uZ (uZ g 5 (uI (g 5) (z 11) p0)) 6 (uI (g 6) (z 11) p1))) (mw_g6 cy a (uZ z 0 0) (uZ g 5 (uI (g 5) (z 11) p0)) (uI (g 6) (z 11) p1)) dX10_lot_85 (fun H locs w => ?_)
              have bg6 : ∀ j : Int, (0 : Int) ≤ (uI (g 6) (z 11) p1) j ∧ (uI (g 6) (z 11) p1) j ≤ 5 := uI_b (mB6 hg) (by omega)
              refine lv_aload_n hx hb dX10_lot_86 rfl (lv_at hl 0 rfl) ?_
              refine r_get C w 0 (v := .ref (a 7)) rfl rfl 17 (by decide) inX10 kf_X10_30 rfl dX10_lot_87 ?_
              refine lv_aload_n hx hb dX10_lot_90 rfl (lv_at hl 0 rfl) ?_
              refine r_get C w 0 (v := vI (z 11)) rfl rfl 22 (by decide) inX10 kf_X10_180 rfl dX10_lot_91 ?_
              have qz7 := mZ11 hz
              refine lv_iload_n hx hb dX10_lot_94 rfl (lv_at hl 3 rfl) ?_
              refine r_iast C w 7 (f := (g 7)) rfl (by omega) (by omega) (by decide) (ws' := mw cy a (uZ z 0 0) (uZ (uZ (uZ g 5 (uI (g 5) (z 11) p0)) 6 (uI (g 6) (z 11) p1)) 7 (uI (g 7) (z 11) p2))) (mw_g7 cy a (uZ z 0 0) (uZ (uZ g 5 (uI (g 5) (z 11) p0)) 6 (uI (g 6) (z 11) p1)) (uI (g 7) (z 11) p2)) dX10_lot_95 (fun H locs w => ?_)
              have bg8 : ∀ j : Int, (0 : Int) ≤ (uI (g 7) (z 11) p2) j ∧ (uI (g 7) (z 11) p2) j ≤ 3 := uI_b (mB7 hg) (by omega)
              refine lv_aload_n hx hb dX10_lot_96 rfl (lv_at hl 0 rfl) ?_
              refine r_get C w 0 (v := .ref (a 8)) rfl rfl 18 (by decide) inX10 kf_X10_33 rfl dX10_lot_97 ?_
              refine lv_aload_n hx hb dX10_lot_100 rfl (lv_at hl 0 rfl) ?_
              refine r_get C w 0 (v := vI (z 11)) rfl rfl 22 (by decide) inX10 kf_X10_180 rfl dX10_lot_101 ?_
              have qz9 := mZ11 hz
              refine lv_iload hx hb dX10_lot_104 (lv_at hl 4 rfl) ?_
              refine r_iast C w 8 (f := (g 8)) rfl (by omega) (by omega) (by decide) (ws' := mw cy a (uZ z 0 0) (uZ (uZ (uZ (uZ g 5 (uI (g 5) (z 11) p0)) 6 (uI (g 6) (z 11) p1)) 7 (uI (g 7) (z 11) p2)) 8 (uI (g 8) (z 11) p3))) (mw_g8 cy a (uZ z 0 0) (uZ (uZ (uZ g 5 (uI (g 5) (z 11) p0)) 6 (uI (g 6) (z 11) p1)) 7 (uI (g 7) (z 11) p2)) (uI (g 8) (z 11) p3)) dX10_lot_106 (fun H locs w => ?_)
              have bg10 : ∀ j : Int, (0 : Int) ≤ (uI (g 8) (z 11) p3) j ∧ (uI (g 8) (z 11) p3) j ≤ 500 := uI_b (mB8 hg) (by omega)
              refine lv_aload_n hx hb dX10_lot_107 rfl (lv_at hl 0 rfl) ?_
              refine r_get C w 0 (v := .ref (a 9)) rfl rfl 19 (by decide) inX10 kf_X10_36 rfl dX10_lot_108 ?_
              refine lv_aload_n hx hb dX10_lot_111 rfl (lv_at hl 0 rfl) ?_
              refine r_get C w 0 (v := vI (z 11)) rfl rfl 22 (by decide) inX10 kf_X10_180 rfl dX10_lot_112 ?_
              have qz11 := mZ11 hz
              refine lv_iload hx hb dX10_lot_115 (lv_at hl 5 rfl) ?_
              refine r_iast C w 9 (f := (g 9)) rfl (by omega) (by omega) (by decide) (ws' := mw cy a (uZ z 0 0) (uZ (uZ (uZ (uZ (uZ g 5 (uI (g 5) (z 11) p0)) 6 (uI (g 6) (z 11) p1)) 7 (uI (g 7) (z 11) p2)) 8 (uI (g 8) (z 11) p3)) 9 (uI (g 9) (z 11) p4))) (mw_g9 cy a (uZ z 0 0) (uZ (uZ (uZ (uZ g 5 (uI (g 5) (z 11) p0)) 6 (uI (g 6) (z 11) p1)) 7 (uI (g 7) (z 11) p2)) 8 (uI (g 8) (z 11) p3)) (uI (g 9) (z 11) p4)) dX10_lot_117 (fun H locs w => ?_)
              have bg12 : ∀ j : Int, (0 : Int) ≤ (uI (g 9) (z 11) p4) j ∧ (uI (g 9) (z 11) p4) j ≤ 3 := uI_b (mB9 hg) (by omega)
              refine lv_aload_n hx hb dX10_lot_118 rfl (lv_at hl 0 rfl) ?_
              refine r_get C w 0 (v := .ref (a 10)) rfl rfl 20 (by decide) inX10 kf_X10_39 rfl dX10_lot_119 ?_
              refine lv_aload_n hx hb dX10_lot_122 rfl (lv_at hl 0 rfl) ?_
              refine r_get C w 0 (v := vI (z 11)) rfl rfl 22 (by decide) inX10 kf_X10_180 rfl dX10_lot_123 ?_
              have qz13 := mZ11 hz
              refine r_iconst hx hb dX10_lot_126 ?_
              refine r_iast C w 10 (f := (g 10)) rfl (by omega) (by omega) (by decide) (ws' := mw cy a (uZ z 0 0) (uZ (uZ (uZ (uZ (uZ (uZ g 5 (uI (g 5) (z 11) p0)) 6 (uI (g 6) (z 11) p1)) 7 (uI (g 7) (z 11) p2)) 8 (uI (g 8) (z 11) p3)) 9 (uI (g 9) (z 11) p4)) 10 (uI (g 10) (z 11) (-1)))) (mw_g10 cy a (uZ z 0 0) (uZ (uZ (uZ (uZ (uZ g 5 (uI (g 5) (z 11) p0)) 6 (uI (g 6) (z 11) p1)) 7 (uI (g 7) (z 11) p2)) 8 (uI (g 8) (z 11) p3)) 9 (uI (g 9) (z 11) p4)) (uI (g 10) (z 11) (-1))) dX10_lot_127 (fun H locs w => ?_)
              have bg14 : ∀ j : Int, (-1 : Int) ≤ (uI (g 10) (z 11) (-1)) j ∧ (uI (g 10) (z 11) (-1)) j ≤ 399 := uI_b (mB10 hg) (by omega)
              refine lv_aload_n hx hb dX10_lot_128 rfl (lv_at hl 0 rfl) ?_
              refine lv_dup hx hb dX10_lot_129 rfl ?_
              refine r_get C w 0 (v := vI (z 11)) rfl rfl 22 (by decide) inX10 kf_X10_180 rfl dX10_lot_130 ?_
              have qz15 := mZ11 hz
              refine r_iconst hx hb dX10_lot_133 ?_
              refine r_iadd hx hb dX10_lot_134 ?_
              refine r_put C w 0 tyX10 tyX10_ok nmX10 rfl rfl 22 (by decide) inX10 kf_X10_180 rfl rfl rfl (Nat.le_of_ble_eq_true rfl) (ws' := mw cy a (uZ (uZ z 0 0) 11 ((z 11) + 1)) (uZ (uZ (uZ (uZ (uZ (uZ g 5 (uI (g 5) (z 11) p0)) 6 (uI (g 6) (z 11) p1)) 7 (uI (g 7) (z 11) p2)) 8 (uI (g 8) (z 11) p3)) 9 (uI (g 9) (z 11) p4)) 10 (uI (g 10) (z 11) (-1)))) (mw_z11 cy a (uZ z 0 0) (uZ (uZ (uZ (uZ (uZ (uZ g 5 (uI (g 5) (z 11) p0)) 6 (uI (g 6) (z 11) p1)) 7 (uI (g 7) (z 11) p2)) 8 (uI (g 8) (z 11) p3)) 9 (uI (g 9) (z 11) p4)) 10 (uI (g 10) (z 11) (-1))) ((z 11) + 1)) dX10_lot_135 (fun H locs w => ?_)
              have bz16 : (0 : Int) ≤ ((z 11) + 1) ∧ (((z 11) + 1) : Int) ≤ 100 := (by omega)
              refine lv_aload_n hx hb dX10_lot_138 rfl (lv_at hl 0 rfl) ?_
              refine r_get C w 0 (v := vI ((z 11) + 1)) rfl rfl 22 (by decide) inX10 kf_X10_180 rfl dX10_lot_139 ?_
              refine r_iconst hx hb dX10_lot_142 ?_
              refine r_isub hx hb dX10_lot_143 ?_
              exact hend (((z 11) + 1) - 1) ((uZ (uZ z 0 0) 11 ((z 11) + 1)), (uZ (uZ (uZ (uZ (uZ (uZ g 5 (uI (g 5) (z 11) p0)) 6 (uI (g 6) (z 11) p1)) 7 (uI (g 7) (z 11) p2)) 8 (uI (g 8) (z 11) p3)) 9 (uI (g 9) (z 11) p4)) 10 (uI (g 10) (z 11) (-1)))) _ _ _ _ dX10_lot_144 w ⟨(by exact Or.inr ⟨by unfold okLot; omega, by omega, rfl⟩), (mBz_u (mBz_u hz 0 bz1) 11 bz16), (mBg_u (mBg_u (mBg_u (mBg_u (mBg_u (mBg_u hg 5 bg4) 6 bg6) 7 bg8) 8 bg10) 9 bg12) 10 bg14)⟩
            · skip
              refine r_iconst hx hb dX10_lot_64 ?_
              exact hend (-1) ((uZ z 0 0), g) _ _ _ _ dX10_lot_65 w ⟨(by exact Or.inl ⟨by unfold okLot; omega, rfl, rfl⟩), (mBz_u hz 0 bz1), hg⟩

abbrev rm_X10_money : Room := { frames := 1, cells := 0, slots := 0, locals := 22 }
set_option maxHeartbeats 4000000 in
set_option maxRecDepth 100000 in
theorem ct_X10_money (l : Launch) (D : va_G) (cy : Nat → ClassId) (a : Nat → Nat) (z : Nat → Int) (g : Nat → Int → Int) (p0 p1 : Int) (hz : mBz z) (hg : mBg g) (h0 : iR p0) (h1 : iR p1) : MI l yX10_money cX10_money 3 .boolean (rm_X10_money) D cy (mw cy a z g) [.ref (a 0), vI p0, vI p1] (fun (v : Int) (u : sX) => ((¬ ((0 ≤ p0 ∧ p0 < 10) ∧ 0 ≤ p1 ∧ p1 ≤ 1000000) ∧ v = 0 ∧ u = (uZ z 0 0, g)) ∨ (((0 ≤ p0 ∧ p0 < 10) ∧ 0 ≤ p1 ∧ p1 ≤ 1000000) ∧ v = 1 ∧ u = (uZ z 0 0, uZ (uZ g 12 (uI (g 12) p0 p1)) 13 (uI (g 13) p0 p1)))) ∧ mBz u.1 ∧ mBg u.2) (fun u => mw cy a u.1 u.2) 0 0 := by
  refine go_i (by decide +kernel) (Nat.le_of_ble_eq_true rfl) (Or.inr (fun v u h => nb01 (by omega))) ?_
  intro p e s m args below meth c Q A ls C hnm hA w hl hend
  have hx := C.1
  have hb := C.2.1
  replace hl : lv_has ls 3 [(0, .ref (a 0)), (1, vI p0), (2, vI p1)] := hl
  refine lv_aload_n hx hb dX10_money_0 rfl (lv_at hl 0 rfl) ?_
  refine r_iconst hx hb dX10_money_1 ?_
  refine r_put C w 0 tyX10 tyX10_ok nmX10 rfl rfl 0 (by decide) inX10 kf_X10_97 rfl rfl rfl (Nat.le_of_ble_eq_true rfl) (ws' := mw cy a (uZ z 0 0) g) (mw_z0 cy a z g 0) dX10_money_2 (fun H locs w => ?_)
  have bz1 : (0 : Int) ≤ 0 ∧ (0 : Int) ≤ 1 := (by omega)
  refine lv_iload_n hx hb dX10_money_5 rfl (lv_at hl 1 rfl) ?_
  refine r_iconst hx hb dX10_money_6 ?_
  refine r_bipush hx hb dX10_money_7 (by decide) ?_
  refine cSI C w hA (ct_X10_isIn l D cy a (uZ z 0 0) g p0 0 9 (by show iR p0; omega) (by show iR 0; omega) (by show iR 9; omega)) ok_X10_isIn km_X10_183 ⟨rfl, rfl⟩ ⟨by decide, by decide⟩ ⟨by decide, by decide⟩ rfl hl.1 rfl (Nat.le_of_ble_eq_true rfl) dX10_money_9 (fun rv_1 uv_1 H locs w hp_1 => ?_)
  replace hp_1 : (rv_1 = 1 ∧ 0 ≤ p0 ∧ p0 ≤ 9) ∨ (rv_1 = 0 ∧ ¬ (0 ≤ p0 ∧ p0 ≤ 9)) := hp_1
  replace w : wd D A s.heap (mw cy a (uZ z 0 0) g) H locs := w
  refine r_if_eq (tgt := 25) hx hb dX10_money_12 (by decide) (by omega) (fun c12 => ?_) (fun c12 => ?_)
  · skip
    refine r_iconst hx hb dX10_money_25 ?_
    exact hend 0 ((uZ z 0 0), g) _ _ _ _ dX10_money_26 w ⟨(by first | exact Or.inl ⟨by omega, rfl, rfl⟩ | exact Or.inr ⟨by omega, rfl, rfl⟩), (mBz_u hz 0 bz1), hg⟩
  · skip
    refine lv_iload_n hx hb dX10_money_15 rfl (lv_at hl 2 rfl) ?_
    refine r_iconst hx hb dX10_money_16 ?_
    refine lv_ldc (v := iI 1000000) hx hb C.2.2.2.1 (C.2.2.2.2.1 _ kk_X10_187) dX10_money_17 ?_
    refine cSI C w hA (ct_X10_isIn l D cy a (uZ z 0 0) g p1 0 1000000 (by show iR p1; omega) (by show iR 0; omega) (by show iR 1000000; omega)) ok_X10_isIn km_X10_183 ⟨rfl, rfl⟩ ⟨by decide, by decide⟩ ⟨by decide, by decide⟩ rfl hl.1 rfl (Nat.le_of_ble_eq_true rfl) dX10_money_19 (fun rv_2 uv_2 H locs w hp_2 => ?_)
    replace hp_2 : (rv_2 = 1 ∧ 0 ≤ p1 ∧ p1 ≤ 1000000) ∨ (rv_2 = 0 ∧ ¬ (0 ≤ p1 ∧ p1 ≤ 1000000)) := hp_2
    replace w : wd D A s.heap (mw cy a (uZ z 0 0) g) H locs := w
    refine r_if_ne (tgt := 27) hx hb dX10_money_22 (by decide) (by omega) (fun c22 => ?_) (fun c22 => ?_)
    · skip
      refine lv_aload_n hx hb dX10_money_27 rfl (lv_at hl 0 rfl) ?_
      refine r_get C w 0 (v := .ref (a 12)) rfl rfl 24 (by decide) inX10 kf_X10_45 rfl dX10_money_28 ?_
      refine lv_iload_n hx hb dX10_money_31 rfl (lv_at hl 1 rfl) ?_
      refine lv_iload_n hx hb dX10_money_32 rfl (lv_at hl 2 rfl) ?_
      refine r_iast C w 12 (f := (g 12)) rfl (by omega) (by omega) (by decide) (ws' := mw cy a (uZ z 0 0) (uZ g 12 (uI (g 12) p0 p1))) (mw_g12 cy a (uZ z 0 0) g (uI (g 12) p0 p1)) dX10_money_33 (fun H locs w => ?_)
      have bg2 : ∀ j : Int, (0 : Int) ≤ (uI (g 12) p0 p1) j ∧ (uI (g 12) p0 p1) j ≤ 1000000 := uI_b (mB12 hg) (by omega)
      refine lv_aload_n hx hb dX10_money_34 rfl (lv_at hl 0 rfl) ?_
      refine r_get C w 0 (v := .ref (a 13)) rfl rfl 25 (by decide) inX10 kf_X10_48 rfl dX10_money_35 ?_
      refine lv_iload_n hx hb dX10_money_38 rfl (lv_at hl 1 rfl) ?_
      refine lv_iload_n hx hb dX10_money_39 rfl (lv_at hl 2 rfl) ?_
      refine r_iast C w 13 (f := (g 13)) rfl (by omega) (by omega) (by decide) (ws' := mw cy a (uZ z 0 0) (uZ (uZ g 12 (uI (g 12) p0 p1)) 13 (uI (g 13) p0 p1))) (mw_g13 cy a (uZ z 0 0) (uZ g 12 (uI (g 12) p0 p1)) (uI (g 13) p0 p1)) dX10_money_40 (fun H locs w => ?_)
      have bg3 : ∀ j : Int, (0 : Int) ≤ (uI (g 13) p0 p1) j ∧ (uI (g 13) p0 p1) j ≤ 1000000 := uI_b (mB13 hg) (by omega)
      refine r_iconst hx hb dX10_money_41 ?_
      exact hend 1 ((uZ z 0 0), (uZ (uZ g 12 (uI (g 12) p0 p1)) 13 (uI (g 13) p0 p1))) _ _ _ _ dX10_money_42 w ⟨(by first | exact Or.inl ⟨by omega, rfl, rfl⟩ | exact Or.inr ⟨by omega, rfl, rfl⟩), (mBz_u hz 0 bz1), (mBg_u (mBg_u hg 12 bg2) 13 bg3)⟩
    · skip
      refine r_iconst hx hb dX10_money_25 ?_
      exact hend 0 ((uZ z 0 0), g) _ _ _ _ dX10_money_26 w ⟨(by first | exact Or.inl ⟨by omega, rfl, rfl⟩ | exact Or.inr ⟨by omega, rfl, rfl⟩), (mBz_u hz 0 bz1), hg⟩

abbrev rm_X10_want : Room := { frames := 1, cells := 0, slots := 0, locals := 22 }
set_option maxHeartbeats 4000000 in
set_option maxRecDepth 100000 in
theorem ct_X10_want (l : Launch) (D : va_G) (cy : Nat → ClassId) (a : Nat → Nat) (z : Nat → Int) (g : Nat → Int → Int) (p0 p1 p2 p3 p4 : Int) (hz : mBz z) (hg : mBg g) (h0 : iR p0) (h1 : iR p1) (h2 : iR p2) (h3 : iR p3) (h4 : iR p4) : MI l yX10_want cX10_want 6 .boolean (rm_X10_want) D cy (mw cy a z g) [.ref (a 0), vI p0, vI p1, vI p2, vI p3, vI p4] (fun (v : Int) (u : sX) => ((¬ ((0 ≤ p0 ∧ p0 < 10) ∧ (0 ≤ p1 ∧ p1 < 4) ∧ (0 ≤ p2 ∧ p2 < 4) ∧ (0 ≤ p3 ∧ p3 ≤ 5000) ∧ (0 ≤ p4 ∧ p4 ≤ 9999)) ∧ v = 0 ∧ u = (uZ z 0 0, g)) ∨ (((0 ≤ p0 ∧ p0 < 10) ∧ (0 ≤ p1 ∧ p1 < 4) ∧ (0 ≤ p2 ∧ p2 < 4) ∧ (0 ≤ p3 ∧ p3 ≤ 5000) ∧ (0 ≤ p4 ∧ p4 ≤ 9999)) ∧ v = 1 ∧ u = (uZ z 0 0, uZ (uZ g 14 (uI (g 14) (16 * p0 + 4 * p1 + p2) p3)) 15 (uI (g 15) (16 * p0 + 4 * p1 + p2) p4)))) ∧ mBz u.1 ∧ mBg u.2) (fun u => mw cy a u.1 u.2) 0 0 := by
  refine go_i (by decide +kernel) (Nat.le_of_ble_eq_true rfl) (Or.inr (fun v u h => nb01 (by omega))) ?_
  intro p e s m args below meth c Q A ls C hnm hA w hl hend
  have hx := C.1
  have hb := C.2.1
  replace hl : lv_has ls 6 [(0, .ref (a 0)), (1, vI p0), (2, vI p1), (3, vI p2), (4, vI p3), (5, vI p4)] := hl
  refine lv_aload_n hx hb dX10_want_0 rfl (lv_at hl 0 rfl) ?_
  refine r_iconst hx hb dX10_want_1 ?_
  refine r_put C w 0 tyX10 tyX10_ok nmX10 rfl rfl 0 (by decide) inX10 kf_X10_97 rfl rfl rfl (Nat.le_of_ble_eq_true rfl) (ws' := mw cy a (uZ z 0 0) g) (mw_z0 cy a z g 0) dX10_want_2 (fun H locs w => ?_)
  have bz1 : (0 : Int) ≤ 0 ∧ (0 : Int) ≤ 1 := (by omega)
  refine lv_iload_n hx hb dX10_want_5 rfl (lv_at hl 1 rfl) ?_
  refine r_iconst hx hb dX10_want_6 ?_
  refine r_bipush hx hb dX10_want_7 (by decide) ?_
  refine cSI C w hA (ct_X10_isIn l D cy a (uZ z 0 0) g p0 0 9 (by show iR p0; omega) (by show iR 0; omega) (by show iR 9; omega)) ok_X10_isIn km_X10_183 ⟨rfl, rfl⟩ ⟨by decide, by decide⟩ ⟨by decide, by decide⟩ rfl hl.1 rfl (Nat.le_of_ble_eq_true rfl) dX10_want_9 (fun rv_1 uv_1 H locs w hp_1 => ?_)
  replace hp_1 : (rv_1 = 1 ∧ 0 ≤ p0 ∧ p0 ≤ 9) ∨ (rv_1 = 0 ∧ ¬ (0 ≤ p0 ∧ p0 ≤ 9)) := hp_1
  replace w : wd D A s.heap (mw cy a (uZ z 0 0) g) H locs := w
  refine r_if_eq (tgt := 57) hx hb dX10_want_12 (by decide) (by omega) (fun c12 => ?_) (fun c12 => ?_)
  · skip
    refine r_iconst hx hb dX10_want_57 ?_
    exact hend 0 ((uZ z 0 0), g) _ _ _ _ dX10_want_58 w ⟨(by first | exact Or.inl ⟨by omega, rfl, rfl⟩ | exact Or.inr ⟨by omega, rfl, rfl⟩), (mBz_u hz 0 bz1), hg⟩
  · skip
    refine lv_iload_n hx hb dX10_want_15 rfl (lv_at hl 2 rfl) ?_
    refine r_iconst hx hb dX10_want_16 ?_
    refine r_iconst hx hb dX10_want_17 ?_
    refine cSI C w hA (ct_X10_isIn l D cy a (uZ z 0 0) g p1 0 3 (by show iR p1; omega) (by show iR 0; omega) (by show iR 3; omega)) ok_X10_isIn km_X10_183 ⟨rfl, rfl⟩ ⟨by decide, by decide⟩ ⟨by decide, by decide⟩ rfl hl.1 rfl (Nat.le_of_ble_eq_true rfl) dX10_want_18 (fun rv_2 uv_2 H locs w hp_2 => ?_)
    replace hp_2 : (rv_2 = 1 ∧ 0 ≤ p1 ∧ p1 ≤ 3) ∨ (rv_2 = 0 ∧ ¬ (0 ≤ p1 ∧ p1 ≤ 3)) := hp_2
    replace w : wd D A s.heap (mw cy a (uZ z 0 0) g) H locs := w
    refine r_if_eq (tgt := 57) hx hb dX10_want_21 (by decide) (by omega) (fun c21 => ?_) (fun c21 => ?_)
    · skip
      refine r_iconst hx hb dX10_want_57 ?_
      exact hend 0 ((uZ z 0 0), g) _ _ _ _ dX10_want_58 w ⟨(by first | exact Or.inl ⟨by omega, rfl, rfl⟩ | exact Or.inr ⟨by omega, rfl, rfl⟩), (mBz_u hz 0 bz1), hg⟩
    · skip
      refine lv_iload_n hx hb dX10_want_24 rfl (lv_at hl 3 rfl) ?_
      refine r_iconst hx hb dX10_want_25 ?_
      refine r_iconst hx hb dX10_want_26 ?_
      refine cSI C w hA (ct_X10_isIn l D cy a (uZ z 0 0) g p2 0 3 (by show iR p2; omega) (by show iR 0; omega) (by show iR 3; omega)) ok_X10_isIn km_X10_183 ⟨rfl, rfl⟩ ⟨by decide, by decide⟩ ⟨by decide, by decide⟩ rfl hl.1 rfl (Nat.le_of_ble_eq_true rfl) dX10_want_27 (fun rv_3 uv_3 H locs w hp_3 => ?_)
      replace hp_3 : (rv_3 = 1 ∧ 0 ≤ p2 ∧ p2 ≤ 3) ∨ (rv_3 = 0 ∧ ¬ (0 ≤ p2 ∧ p2 ≤ 3)) := hp_3
      replace w : wd D A s.heap (mw cy a (uZ z 0 0) g) H locs := w
      refine r_if_eq (tgt := 57) hx hb dX10_want_30 (by decide) (by omega) (fun c30 => ?_) (fun c30 => ?_)
      · skip
        refine r_iconst hx hb dX10_want_57 ?_
        exact hend 0 ((uZ z 0 0), g) _ _ _ _ dX10_want_58 w ⟨(by first | exact Or.inl ⟨by omega, rfl, rfl⟩ | exact Or.inr ⟨by omega, rfl, rfl⟩), (mBz_u hz 0 bz1), hg⟩
      · skip
        refine lv_iload hx hb dX10_want_33 (lv_at hl 4 rfl) ?_
        refine r_iconst hx hb dX10_want_35 ?_
        refine r_sipush hx hb dX10_want_36 (by decide) ?_
        refine cSI C w hA (ct_X10_isIn l D cy a (uZ z 0 0) g p3 0 5000 (by show iR p3; omega) (by show iR 0; omega) (by show iR 5000; omega)) ok_X10_isIn km_X10_183 ⟨rfl, rfl⟩ ⟨by decide, by decide⟩ ⟨by decide, by decide⟩ rfl hl.1 rfl (Nat.le_of_ble_eq_true rfl) dX10_want_39 (fun rv_4 uv_4 H locs w hp_4 => ?_)
        replace hp_4 : (rv_4 = 1 ∧ 0 ≤ p3 ∧ p3 ≤ 5000) ∨ (rv_4 = 0 ∧ ¬ (0 ≤ p3 ∧ p3 ≤ 5000)) := hp_4
        replace w : wd D A s.heap (mw cy a (uZ z 0 0) g) H locs := w
        refine r_if_eq (tgt := 57) hx hb dX10_want_42 (by decide) (by omega) (fun c42 => ?_) (fun c42 => ?_)
        · skip
          refine r_iconst hx hb dX10_want_57 ?_
          exact hend 0 ((uZ z 0 0), g) _ _ _ _ dX10_want_58 w ⟨(by first | exact Or.inl ⟨by omega, rfl, rfl⟩ | exact Or.inr ⟨by omega, rfl, rfl⟩), (mBz_u hz 0 bz1), hg⟩
        · skip
          refine lv_iload hx hb dX10_want_45 (lv_at hl 5 rfl) ?_
          refine r_iconst hx hb dX10_want_47 ?_
          refine r_sipush hx hb dX10_want_48 (by decide) ?_
          refine cSI C w hA (ct_X10_isIn l D cy a (uZ z 0 0) g p4 0 9999 (by show iR p4; omega) (by show iR 0; omega) (by show iR 9999; omega)) ok_X10_isIn km_X10_183 ⟨rfl, rfl⟩ ⟨by decide, by decide⟩ ⟨by decide, by decide⟩ rfl hl.1 rfl (Nat.le_of_ble_eq_true rfl) dX10_want_51 (fun rv_5 uv_5 H locs w hp_5 => ?_)
          replace hp_5 : (rv_5 = 1 ∧ 0 ≤ p4 ∧ p4 ≤ 9999) ∨ (rv_5 = 0 ∧ ¬ (0 ≤ p4 ∧ p4 ≤ 9999)) := hp_5
          replace w : wd D A s.heap (mw cy a (uZ z 0 0) g) H locs := w
          refine r_if_ne (tgt := 59) hx hb dX10_want_54 (by decide) (by omega) (fun c54 => ?_) (fun c54 => ?_)
          · skip
            refine lv_aload_n hx hb dX10_want_59 rfl (lv_at hl 0 rfl) ?_
            refine r_get C w 0 (v := .ref (a 14)) rfl rfl 26 (by decide) inX10 kf_X10_51 rfl dX10_want_60 ?_
            refine lv_iload_n hx hb dX10_want_63 rfl (lv_at hl 1 rfl) ?_
            refine lv_iload_n hx hb dX10_want_64 rfl (lv_at hl 2 rfl) ?_
            refine lv_iload_n hx hb dX10_want_65 rfl (lv_at hl 3 rfl) ?_
            refine cSI C w hA (ct_X10_place l D cy a (uZ z 0 0) g p0 p1 p2 ) ok_X10_place km_X10_188 ⟨rfl, rfl⟩ ⟨by decide, by decide⟩ ⟨by decide, by decide⟩ rfl hl.1 rfl (Nat.le_of_ble_eq_true rfl) dX10_want_66 (fun rv_6 uv_6 H locs w hp_6 => ?_)
            replace hp_6 : rv_6 = 16 * p0 + 4 * p1 + p2 := hp_6
            replace w : wd D A s.heap (mw cy a (uZ z 0 0) g) H locs := w
            subst hp_6
            refine lv_iload hx hb dX10_want_69 (lv_at hl 4 rfl) ?_
            refine r_iast C w 14 (f := (g 14)) rfl (by omega) (by omega) (by decide) (ws' := mw cy a (uZ z 0 0) (uZ g 14 (uI (g 14) (16 * p0 + 4 * p1 + p2) p3))) (mw_g14 cy a (uZ z 0 0) g (uI (g 14) (16 * p0 + 4 * p1 + p2) p3)) dX10_want_71 (fun H locs w => ?_)
            have bg2 : ∀ j : Int, (0 : Int) ≤ (uI (g 14) (16 * p0 + 4 * p1 + p2) p3) j ∧ (uI (g 14) (16 * p0 + 4 * p1 + p2) p3) j ≤ 5000 := uI_b (mB14 hg) (by omega)
            refine lv_aload_n hx hb dX10_want_72 rfl (lv_at hl 0 rfl) ?_
            refine r_get C w 0 (v := .ref (a 15)) rfl rfl 27 (by decide) inX10 kf_X10_54 rfl dX10_want_73 ?_
            refine lv_iload_n hx hb dX10_want_76 rfl (lv_at hl 1 rfl) ?_
            refine lv_iload_n hx hb dX10_want_77 rfl (lv_at hl 2 rfl) ?_
            refine lv_iload_n hx hb dX10_want_78 rfl (lv_at hl 3 rfl) ?_
            refine cSI C w hA (ct_X10_place l D cy a (uZ z 0 0) (uZ g 14 (uI (g 14) (16 * p0 + 4 * p1 + p2) p3)) p0 p1 p2 ) ok_X10_place km_X10_188 ⟨rfl, rfl⟩ ⟨by decide, by decide⟩ ⟨by decide, by decide⟩ rfl hl.1 rfl (Nat.le_of_ble_eq_true rfl) dX10_want_79 (fun rv_7 uv_7 H locs w hp_7 => ?_)
            replace hp_7 : rv_7 = 16 * p0 + 4 * p1 + p2 := hp_7
            replace w : wd D A s.heap (mw cy a (uZ z 0 0) (uZ g 14 (uI (g 14) (16 * p0 + 4 * p1 + p2) p3))) H locs := w
            subst hp_7
            refine lv_iload hx hb dX10_want_82 (lv_at hl 5 rfl) ?_
            refine r_iast C w 15 (f := (g 15)) rfl (by omega) (by omega) (by decide) (ws' := mw cy a (uZ z 0 0) (uZ (uZ g 14 (uI (g 14) (16 * p0 + 4 * p1 + p2) p3)) 15 (uI (g 15) (16 * p0 + 4 * p1 + p2) p4))) (mw_g15 cy a (uZ z 0 0) (uZ g 14 (uI (g 14) (16 * p0 + 4 * p1 + p2) p3)) (uI (g 15) (16 * p0 + 4 * p1 + p2) p4)) dX10_want_84 (fun H locs w => ?_)
            have bg3 : ∀ j : Int, (0 : Int) ≤ (uI (g 15) (16 * p0 + 4 * p1 + p2) p4) j ∧ (uI (g 15) (16 * p0 + 4 * p1 + p2) p4) j ≤ 9999 := uI_b (mB15 hg) (by omega)
            refine r_iconst hx hb dX10_want_85 ?_
            exact hend 1 ((uZ z 0 0), (uZ (uZ g 14 (uI (g 14) (16 * p0 + 4 * p1 + p2) p3)) 15 (uI (g 15) (16 * p0 + 4 * p1 + p2) p4))) _ _ _ _ dX10_want_86 w ⟨(by first | exact Or.inl ⟨by omega, rfl, rfl⟩ | exact Or.inr ⟨by omega, rfl, rfl⟩), (mBz_u hz 0 bz1), (mBg_u (mBg_u hg 14 bg2) 15 bg3)⟩
          · skip
            refine r_iconst hx hb dX10_want_57 ?_
            exact hend 0 ((uZ z 0 0), g) _ _ _ _ dX10_want_58 w ⟨(by first | exact Or.inl ⟨by omega, rfl, rfl⟩ | exact Or.inr ⟨by omega, rfl, rfl⟩), (mBz_u hz 0 bz1), hg⟩

abbrev rm_X10_left : Room := { frames := 1, cells := 0, slots := 0, locals := 22 }
set_option maxHeartbeats 4000000 in
set_option maxRecDepth 100000 in
theorem ct_X10_left (l : Launch) (D : va_G) (cy : Nat → ClassId) (a : Nat → Nat) (z : Nat → Int) (g : Nat → Int → Int) (p0 : Int) (hz : mBz z) (hg : mBg g) (h0 : iR p0) : MI l yX10_left cX10_left 2 .int (rm_X10_left) D cy (mw cy a z g) [.ref (a 0), vI p0] (fun (v : Int) (u : sX) => ((((0 ≤ p0 ∧ p0 < 10) ∧ v = g 13 p0) ∨ (¬ (0 ≤ p0 ∧ p0 < 10) ∧ v = -1)) ∧ u = (uZ z 0 0, g)) ∧ mBz u.1 ∧ mBg u.2) (fun u => mw cy a u.1 u.2) 0 0 := by
  refine go_i (by decide +kernel) (Nat.le_of_ble_eq_true rfl) (Or.inl rfl) ?_
  intro p e s m args below meth c Q A ls C hnm hA w hl hend
  have hx := C.1
  have hb := C.2.1
  replace hl : lv_has ls 2 [(0, .ref (a 0)), (1, vI p0)] := hl
  refine lv_aload_n hx hb dX10_left_0 rfl (lv_at hl 0 rfl) ?_
  refine r_iconst hx hb dX10_left_1 ?_
  refine r_put C w 0 tyX10 tyX10_ok nmX10 rfl rfl 0 (by decide) inX10 kf_X10_97 rfl rfl rfl (Nat.le_of_ble_eq_true rfl) (ws' := mw cy a (uZ z 0 0) g) (mw_z0 cy a z g 0) dX10_left_2 (fun H locs w => ?_)
  have bz1 : (0 : Int) ≤ 0 ∧ (0 : Int) ≤ 1 := (by omega)
  refine lv_iload_n hx hb dX10_left_5 rfl (lv_at hl 1 rfl) ?_
  refine r_iconst hx hb dX10_left_6 ?_
  refine r_bipush hx hb dX10_left_7 (by decide) ?_
  refine cSI C w hA (ct_X10_isIn l D cy a (uZ z 0 0) g p0 0 9 (by show iR p0; omega) (by show iR 0; omega) (by show iR 9; omega)) ok_X10_isIn km_X10_183 ⟨rfl, rfl⟩ ⟨by decide, by decide⟩ ⟨by decide, by decide⟩ rfl hl.1 rfl (Nat.le_of_ble_eq_true rfl) dX10_left_9 (fun rv_1 uv_1 H locs w hp_1 => ?_)
  replace hp_1 : (rv_1 = 1 ∧ 0 ≤ p0 ∧ p0 ≤ 9) ∨ (rv_1 = 0 ∧ ¬ (0 ≤ p0 ∧ p0 ≤ 9)) := hp_1
  replace w : wd D A s.heap (mw cy a (uZ z 0 0) g) H locs := w
  refine r_if_eq (tgt := 24) hx hb dX10_left_12 (by decide) (by omega) (fun c12 => ?_) (fun c12 => ?_)
  · skip
    refine r_iconst hx hb dX10_left_24 ?_
    exact hend (-1) ((uZ z 0 0), g) _ _ _ _ dX10_left_25 w ⟨(by exact ⟨by omega, rfl⟩), (mBz_u hz 0 bz1), hg⟩
  · skip
    refine lv_aload_n hx hb dX10_left_15 rfl (lv_at hl 0 rfl) ?_
    refine r_get C w 0 (v := .ref (a 13)) rfl rfl 25 (by decide) inX10 kf_X10_48 rfl dX10_left_16 ?_
    refine lv_iload_n hx hb dX10_left_19 rfl (lv_at hl 1 rfl) ?_
    refine r_iald C w 13 (f := (g 13)) rfl (by omega) (by omega) (by decide) dX10_left_20 ?_
    have qg2 := mB13 hg p0
    refine lv_goto (tgt := 25) hx hb dX10_left_21 (by decide) ?_
    exact hend ((g 13) p0) ((uZ z 0 0), g) _ _ _ _ dX10_left_25 w ⟨(by exact ⟨by omega, rfl⟩), (mBz_u hz 0 bz1), hg⟩

abbrev rm_X10_wanted : Room := { frames := 1, cells := 0, slots := 0, locals := 22 }
set_option maxHeartbeats 4000000 in
set_option maxRecDepth 100000 in
theorem ct_X10_wanted (l : Launch) (D : va_G) (cy : Nat → ClassId) (a : Nat → Nat) (z : Nat → Int) (g : Nat → Int → Int) (p0 p1 p2 : Int) (hz : mBz z) (hg : mBg g) (h0 : iR p0) (h1 : iR p1) (h2 : iR p2) : MI l yX10_wanted cX10_wanted 4 .int (rm_X10_wanted) D cy (mw cy a z g) [.ref (a 0), vI p0, vI p1, vI p2] (fun (v : Int) (u : sX) => (((((0 ≤ p0 ∧ p0 < 10) ∧ (0 ≤ p1 ∧ p1 < 4) ∧ (0 ≤ p2 ∧ p2 < 4)) ∧ v = g 14 (16 * p0 + 4 * p1 + p2)) ∨ (¬ ((0 ≤ p0 ∧ p0 < 10) ∧ (0 ≤ p1 ∧ p1 < 4) ∧ (0 ≤ p2 ∧ p2 < 4)) ∧ v = -1)) ∧ u = (uZ z 0 0, g)) ∧ mBz u.1 ∧ mBg u.2) (fun u => mw cy a u.1 u.2) 0 0 := by
  refine go_i (by decide +kernel) (Nat.le_of_ble_eq_true rfl) (Or.inl rfl) ?_
  intro p e s m args below meth c Q A ls C hnm hA w hl hend
  have hx := C.1
  have hb := C.2.1
  replace hl : lv_has ls 4 [(0, .ref (a 0)), (1, vI p0), (2, vI p1), (3, vI p2)] := hl
  refine lv_aload_n hx hb dX10_wanted_0 rfl (lv_at hl 0 rfl) ?_
  refine r_iconst hx hb dX10_wanted_1 ?_
  refine r_put C w 0 tyX10 tyX10_ok nmX10 rfl rfl 0 (by decide) inX10 kf_X10_97 rfl rfl rfl (Nat.le_of_ble_eq_true rfl) (ws' := mw cy a (uZ z 0 0) g) (mw_z0 cy a z g 0) dX10_wanted_2 (fun H locs w => ?_)
  have bz1 : (0 : Int) ≤ 0 ∧ (0 : Int) ≤ 1 := (by omega)
  refine lv_iload_n hx hb dX10_wanted_5 rfl (lv_at hl 1 rfl) ?_
  refine r_iconst hx hb dX10_wanted_6 ?_
  refine r_bipush hx hb dX10_wanted_7 (by decide) ?_
  refine cSI C w hA (ct_X10_isIn l D cy a (uZ z 0 0) g p0 0 9 (by show iR p0; omega) (by show iR 0; omega) (by show iR 9; omega)) ok_X10_isIn km_X10_183 ⟨rfl, rfl⟩ ⟨by decide, by decide⟩ ⟨by decide, by decide⟩ rfl hl.1 rfl (Nat.le_of_ble_eq_true rfl) dX10_wanted_9 (fun rv_1 uv_1 H locs w hp_1 => ?_)
  replace hp_1 : (rv_1 = 1 ∧ 0 ≤ p0 ∧ p0 ≤ 9) ∨ (rv_1 = 0 ∧ ¬ (0 ≤ p0 ∧ p0 ≤ 9)) := hp_1
  replace w : wd D A s.heap (mw cy a (uZ z 0 0) g) H locs := w
  refine r_if_eq (tgt := 47) hx hb dX10_wanted_12 (by decide) (by omega) (fun c12 => ?_) (fun c12 => ?_)
  · skip
    refine r_iconst hx hb dX10_wanted_47 ?_
    exact hend (-1) ((uZ z 0 0), g) _ _ _ _ dX10_wanted_48 w ⟨(by exact ⟨by omega, rfl⟩), (mBz_u hz 0 bz1), hg⟩
  · skip
    refine lv_iload_n hx hb dX10_wanted_15 rfl (lv_at hl 2 rfl) ?_
    refine r_iconst hx hb dX10_wanted_16 ?_
    refine r_iconst hx hb dX10_wanted_17 ?_
    refine cSI C w hA (ct_X10_isIn l D cy a (uZ z 0 0) g p1 0 3 (by show iR p1; omega) (by show iR 0; omega) (by show iR 3; omega)) ok_X10_isIn km_X10_183 ⟨rfl, rfl⟩ ⟨by decide, by decide⟩ ⟨by decide, by decide⟩ rfl hl.1 rfl (Nat.le_of_ble_eq_true rfl) dX10_wanted_18 (fun rv_2 uv_2 H locs w hp_2 => ?_)
    replace hp_2 : (rv_2 = 1 ∧ 0 ≤ p1 ∧ p1 ≤ 3) ∨ (rv_2 = 0 ∧ ¬ (0 ≤ p1 ∧ p1 ≤ 3)) := hp_2
    replace w : wd D A s.heap (mw cy a (uZ z 0 0) g) H locs := w
    refine r_if_eq (tgt := 47) hx hb dX10_wanted_21 (by decide) (by omega) (fun c21 => ?_) (fun c21 => ?_)
    · skip
      refine r_iconst hx hb dX10_wanted_47 ?_
      exact hend (-1) ((uZ z 0 0), g) _ _ _ _ dX10_wanted_48 w ⟨(by exact ⟨by omega, rfl⟩), (mBz_u hz 0 bz1), hg⟩
    · skip
      refine lv_iload_n hx hb dX10_wanted_24 rfl (lv_at hl 3 rfl) ?_
      refine r_iconst hx hb dX10_wanted_25 ?_
      refine r_iconst hx hb dX10_wanted_26 ?_
      refine cSI C w hA (ct_X10_isIn l D cy a (uZ z 0 0) g p2 0 3 (by show iR p2; omega) (by show iR 0; omega) (by show iR 3; omega)) ok_X10_isIn km_X10_183 ⟨rfl, rfl⟩ ⟨by decide, by decide⟩ ⟨by decide, by decide⟩ rfl hl.1 rfl (Nat.le_of_ble_eq_true rfl) dX10_wanted_27 (fun rv_3 uv_3 H locs w hp_3 => ?_)
      replace hp_3 : (rv_3 = 1 ∧ 0 ≤ p2 ∧ p2 ≤ 3) ∨ (rv_3 = 0 ∧ ¬ (0 ≤ p2 ∧ p2 ≤ 3)) := hp_3
      replace w : wd D A s.heap (mw cy a (uZ z 0 0) g) H locs := w
      refine r_if_eq (tgt := 47) hx hb dX10_wanted_30 (by decide) (by omega) (fun c30 => ?_) (fun c30 => ?_)
      · skip
        refine r_iconst hx hb dX10_wanted_47 ?_
        exact hend (-1) ((uZ z 0 0), g) _ _ _ _ dX10_wanted_48 w ⟨(by exact ⟨by omega, rfl⟩), (mBz_u hz 0 bz1), hg⟩
      · skip
        refine lv_aload_n hx hb dX10_wanted_33 rfl (lv_at hl 0 rfl) ?_
        refine r_get C w 0 (v := .ref (a 14)) rfl rfl 26 (by decide) inX10 kf_X10_51 rfl dX10_wanted_34 ?_
        refine lv_iload_n hx hb dX10_wanted_37 rfl (lv_at hl 1 rfl) ?_
        refine lv_iload_n hx hb dX10_wanted_38 rfl (lv_at hl 2 rfl) ?_
        refine lv_iload_n hx hb dX10_wanted_39 rfl (lv_at hl 3 rfl) ?_
        refine cSI C w hA (ct_X10_place l D cy a (uZ z 0 0) g p0 p1 p2 ) ok_X10_place km_X10_188 ⟨rfl, rfl⟩ ⟨by decide, by decide⟩ ⟨by decide, by decide⟩ rfl hl.1 rfl (Nat.le_of_ble_eq_true rfl) dX10_wanted_40 (fun rv_4 uv_4 H locs w hp_4 => ?_)
        replace hp_4 : rv_4 = 16 * p0 + 4 * p1 + p2 := hp_4
        replace w : wd D A s.heap (mw cy a (uZ z 0 0) g) H locs := w
        subst hp_4
        refine r_iald C w 14 (f := (g 14)) rfl (by omega) (by omega) (by decide) dX10_wanted_43 ?_
        have qg2 := mB14 hg (16 * p0 + 4 * p1 + p2)
        refine lv_goto (tgt := 48) hx hb dX10_wanted_44 (by decide) ?_
        exact hend ((g 14) (16 * p0 + 4 * p1 + p2)) ((uZ z 0 0), g) _ _ _ _ dX10_wanted_48 w ⟨(by exact ⟨by omega, rfl⟩), (mBz_u hz 0 bz1), hg⟩

abbrev rm_X10_reject : Room := { frames := 1, cells := 0, slots := 0, locals := 21 }
set_option maxHeartbeats 4000000 in
set_option maxRecDepth 100000 in
theorem ct_X10_reject (l : Launch) (D : va_G) (cy : Nat → ClassId) (a : Nat → Nat) (z : Nat → Int) (g : Nat → Int → Int) (p0 : Int) (hz : mBz z) (hg : mBg g) (h0 : iR p0) : MI l yX10_reject cX10_reject 2 .boolean (rm_X10_reject) D cy (mw cy a z g) [.ref (a 0), vI p0] (fun (v : Int) (u : sX) => ((¬ (0 ≤ p0 ∧ p0 < z 13 ∧ g 21 p0 = -1 ∧ g 10 (g 16 p0) = p0) ∧ v = 0 ∧ u = (uZ z 0 0, g)) ∨ ((0 ≤ p0 ∧ p0 < z 13 ∧ g 21 p0 = -1 ∧ g 10 (g 16 p0) = p0) ∧ v = 1 ∧ u = (uZ z 0 0, uZ (uZ g 21 (uI (g 21) p0 (z 12))) 11 (uI (g 11) (g 16 p0) 0)))) ∧ mBz u.1 ∧ mBg u.2) (fun u => mw cy a u.1 u.2) 0 0 := by
  refine go_i (by decide +kernel) (Nat.le_of_ble_eq_true rfl) (Or.inr (fun v u h => nb01 (by omega))) ?_
  intro p e s m args below meth c Q A ls C hnm hA w hl hend
  have hx := C.1
  have hb := C.2.1
  have b13 := mZ13 hz
  replace hl : lv_has ls 2 [(0, .ref (a 0)), (1, vI p0)] := hl
  refine lv_aload_n hx hb dX10_reject_0 rfl (lv_at hl 0 rfl) ?_
  refine r_iconst hx hb dX10_reject_1 ?_
  refine r_put C w 0 tyX10 tyX10_ok nmX10 rfl rfl 0 (by decide) inX10 kf_X10_97 rfl rfl rfl (Nat.le_of_ble_eq_true rfl) (ws' := mw cy a (uZ z 0 0) g) (mw_z0 cy a z g 0) dX10_reject_2 (fun H locs w => ?_)
  have bz1 : (0 : Int) ≤ 0 ∧ (0 : Int) ≤ 1 := (by omega)
  refine lv_aload_n hx hb dX10_reject_5 rfl (lv_at hl 0 rfl) ?_
  refine lv_iload_n hx hb dX10_reject_6 rfl (lv_at hl 1 rfl) ?_
  refine cVI C w hA (ct_X10_isSale l D cy a (uZ z 0 0) g p0 (mBz_u hz 0 bz1) hg (by show iR p0; omega)) ok_X10_isSale km_X10_204 ⟨rfl, rfl⟩ ⟨by decide, by decide⟩ ⟨by decide, by decide⟩ rfl 0 rfl rfl hl.1 rfl (Nat.le_of_ble_eq_true rfl) dX10_reject_7 (fun rv_1 uv_1 H locs w hp_1 => ?_)
  replace hp_1 : (rv_1 = 1 ∧ 0 ≤ p0 ∧ p0 < (z 13)) ∨ (rv_1 = 0 ∧ ¬ (0 ≤ p0 ∧ p0 < (z 13))) := hp_1
  replace w : wd D A s.heap (mw cy a (uZ z 0 0) g) H locs := w
  refine r_if_eq (tgt := 38) hx hb dX10_reject_10 (by decide) (by omega) (fun c10 => ?_) (fun c10 => ?_)
  · skip
    refine r_iconst hx hb dX10_reject_38 ?_
    exact hend 0 ((uZ z 0 0), g) _ _ _ _ dX10_reject_39 w ⟨(by first | exact Or.inl ⟨by omega, rfl, rfl⟩ | exact Or.inr ⟨by omega, rfl, rfl⟩), (mBz_u hz 0 bz1), hg⟩
  · skip
    refine lv_aload_n hx hb dX10_reject_13 rfl (lv_at hl 0 rfl) ?_
    refine r_get C w 0 (v := .ref (a 21)) rfl rfl 33 (by decide) inX10 kf_X10_72 rfl dX10_reject_14 ?_
    refine lv_iload_n hx hb dX10_reject_17 rfl (lv_at hl 1 rfl) ?_
    refine r_iald C w 21 (f := (g 21)) rfl (by omega) (by omega) (by decide) dX10_reject_18 ?_
    have qg2 := mB21 hg p0
    refine r_iconst hx hb dX10_reject_19 ?_
    refine r_icmp_ne (tgt := 38) hx hb dX10_reject_20 (by decide) (by omega) (by omega) (fun c20 => ?_) (fun c20 => ?_)
    · skip
      refine r_iconst hx hb dX10_reject_38 ?_
      exact hend 0 ((uZ z 0 0), g) _ _ _ _ dX10_reject_39 w ⟨(by first | exact Or.inl ⟨by omega, rfl, rfl⟩ | exact Or.inr ⟨by omega, rfl, rfl⟩), (mBz_u hz 0 bz1), hg⟩
    · skip
      refine lv_aload_n hx hb dX10_reject_23 rfl (lv_at hl 0 rfl) ?_
      refine r_get C w 0 (v := .ref (a 10)) rfl rfl 20 (by decide) inX10 kf_X10_39 rfl dX10_reject_24 ?_
      refine lv_aload_n hx hb dX10_reject_27 rfl (lv_at hl 0 rfl) ?_
      refine r_get C w 0 (v := .ref (a 16)) rfl rfl 28 (by decide) inX10 kf_X10_57 rfl dX10_reject_28 ?_
      refine lv_iload_n hx hb dX10_reject_31 rfl (lv_at hl 1 rfl) ?_
      refine r_iald C w 16 (f := (g 16)) rfl (by omega) (by omega) (by decide) dX10_reject_32 ?_
      have qg3 := mB16 hg p0
      refine r_iald C w 10 (f := (g 10)) rfl (by omega) (by omega) (by decide) dX10_reject_33 ?_
      have qg4 := mB10 hg ((g 16) p0)
      refine lv_iload_n hx hb dX10_reject_34 rfl (lv_at hl 1 rfl) ?_
      refine r_icmp_eq (tgt := 40) hx hb dX10_reject_35 (by decide) (by omega) (by omega) (fun c35 => ?_) (fun c35 => ?_)
      · skip
        refine lv_aload_n hx hb dX10_reject_40 rfl (lv_at hl 0 rfl) ?_
        refine r_get C w 0 (v := .ref (a 21)) rfl rfl 33 (by decide) inX10 kf_X10_72 rfl dX10_reject_41 ?_
        refine lv_iload_n hx hb dX10_reject_44 rfl (lv_at hl 1 rfl) ?_
        refine lv_aload_n hx hb dX10_reject_45 rfl (lv_at hl 0 rfl) ?_
        refine r_get C w 0 (v := vI (z 12)) rfl rfl 23 (by decide) inX10 kf_X10_192 rfl dX10_reject_46 ?_
        have qz5 := mZ12 hz
        refine r_iast C w 21 (f := (g 21)) rfl (by omega) (by omega) (by decide) (ws' := mw cy a (uZ z 0 0) (uZ g 21 (uI (g 21) p0 (z 12)))) (mw_g21 cy a (uZ z 0 0) g (uI (g 21) p0 (z 12))) dX10_reject_49 (fun H locs w => ?_)
        have bg6 : ∀ j : Int, (-1 : Int) ≤ (uI (g 21) p0 (z 12)) j ∧ (uI (g 21) p0 (z 12)) j ≤ 999 := uI_b (mB21 hg) (by omega)
        refine lv_aload_n hx hb dX10_reject_50 rfl (lv_at hl 0 rfl) ?_
        refine r_get C w 0 (v := .ref (a 11)) rfl rfl 21 (by decide) inX10 kf_X10_42 rfl dX10_reject_51 ?_
        refine lv_aload_n hx hb dX10_reject_54 rfl (lv_at hl 0 rfl) ?_
        refine r_get C w 0 (v := .ref (a 16)) rfl rfl 28 (by decide) inX10 kf_X10_57 rfl dX10_reject_55 ?_
        refine lv_iload_n hx hb dX10_reject_58 rfl (lv_at hl 1 rfl) ?_
        refine r_iald C w 16 (f := (g 16)) rfl (by omega) (by omega) (by decide) dX10_reject_59 ?_
        have qg7 := mB16 hg p0
        refine r_iconst hx hb dX10_reject_60 ?_
        refine r_zast C w 11 (f := (g 11)) rfl (by omega) (by omega) (by decide) (vz01 (by omega)) (ws' := mw cy a (uZ z 0 0) (uZ (uZ g 21 (uI (g 21) p0 (z 12))) 11 (uI (g 11) ((g 16) p0) 0))) (mw_g11 cy a (uZ z 0 0) (uZ g 21 (uI (g 21) p0 (z 12))) (uI (g 11) ((g 16) p0) 0)) dX10_reject_61 (fun H locs w => ?_)
        have bg8 : ∀ j : Int, (0 : Int) ≤ (uI (g 11) ((g 16) p0) 0) j ∧ (uI (g 11) ((g 16) p0) 0) j ≤ 1 := uI_b (mB11 hg) (by omega)
        refine r_iconst hx hb dX10_reject_62 ?_
        exact hend 1 ((uZ z 0 0), (uZ (uZ g 21 (uI (g 21) p0 (z 12))) 11 (uI (g 11) ((g 16) p0) 0))) _ _ _ _ dX10_reject_63 w ⟨(by first | exact Or.inl ⟨by omega, rfl, rfl⟩ | exact Or.inr ⟨by omega, rfl, rfl⟩), (mBz_u hz 0 bz1), (mBg_u (mBg_u hg 21 bg6) 11 bg8)⟩
      · skip
        refine r_iconst hx hb dX10_reject_38 ?_
        exact hend 0 ((uZ z 0 0), g) _ _ _ _ dX10_reject_39 w ⟨(by first | exact Or.inl ⟨by omega, rfl, rfl⟩ | exact Or.inr ⟨by omega, rfl, rfl⟩), (mBz_u hz 0 bz1), hg⟩

abbrev rm_X10_counts : Room := { frames := 0, cells := 0, slots := 0, locals := 0 }
set_option maxHeartbeats 4000000 in
set_option maxRecDepth 100000 in
theorem ct_X10_counts (l : Launch) (D : va_G) (cy : Nat → ClassId) (a : Nat → Nat) (z : Nat → Int) (g : Nat → Int → Int) (p0 p1 : Int) (hz : mBz z) (hg : mBg g) (h0 : 0 ≤ p0 ∧ p0 < 400) (h1 : iR p1) : MI l yX10_counts cX10_counts 3 .boolean (rm_X10_counts) D cy (mw cy a z g) [.ref (a 0), vI p0, vI p1] (fun (v : Int) (u : Unit) => (v = 1 ∧ g 18 p0 ≤ p1 ∧ (g 21 p0 = -1 ∨ p1 < g 21 p0)) ∨ (v = 0 ∧ ¬ (g 18 p0 ≤ p1 ∧ (g 21 p0 = -1 ∨ p1 < g 21 p0)))) (fun _ => mw cy a z g) 0 0 := by
  refine go_i (by decide +kernel) (Nat.le_of_ble_eq_true rfl) (Or.inr (fun v u h => nb01 (by omega))) ?_
  intro p e s m args below meth c Q A ls C hnm hA w hl hend
  have hx := C.1
  have hb := C.2.1
  replace hl : lv_has ls 3 [(0, .ref (a 0)), (1, vI p0), (2, vI p1)] := hl
  refine lv_aload_n hx hb dX10_counts_0 rfl (lv_at hl 0 rfl) ?_
  refine r_get C w 0 (v := .ref (a 18)) rfl rfl 30 (by decide) inX10 kf_X10_63 rfl dX10_counts_1 ?_
  refine lv_iload_n hx hb dX10_counts_4 rfl (lv_at hl 1 rfl) ?_
  refine r_iald C w 18 (f := (g 18)) rfl (by omega) (by omega) (by decide) dX10_counts_5 ?_
  have qg1 := mB18 hg p0
  refine lv_iload_n hx hb dX10_counts_6 rfl (lv_at hl 2 rfl) ?_
  refine r_icmp_gt (tgt := 34) hx hb dX10_counts_7 (by decide) (by omega) (by omega) (fun c7 => ?_) (fun c7 => ?_)
  · skip
    refine r_iconst hx hb dX10_counts_34 ?_
    exact hend 0 () _ _ _ _ dX10_counts_35 w (by omega)
  · skip
    refine lv_aload_n hx hb dX10_counts_10 rfl (lv_at hl 0 rfl) ?_
    refine r_get C w 0 (v := .ref (a 21)) rfl rfl 33 (by decide) inX10 kf_X10_72 rfl dX10_counts_11 ?_
    refine lv_iload_n hx hb dX10_counts_14 rfl (lv_at hl 1 rfl) ?_
    refine r_iald C w 21 (f := (g 21)) rfl (by omega) (by omega) (by decide) dX10_counts_15 ?_
    have qg2 := mB21 hg p0
    refine r_iconst hx hb dX10_counts_16 ?_
    refine r_icmp_eq (tgt := 30) hx hb dX10_counts_17 (by decide) (by omega) (by omega) (fun c17 => ?_) (fun c17 => ?_)
    · skip
      refine r_iconst hx hb dX10_counts_30 ?_
      refine lv_goto (tgt := 35) hx hb dX10_counts_31 (by decide) ?_
      exact hend 1 () _ _ _ _ dX10_counts_35 w (by omega)
    · skip
      refine lv_aload_n hx hb dX10_counts_20 rfl (lv_at hl 0 rfl) ?_
      refine r_get C w 0 (v := .ref (a 21)) rfl rfl 33 (by decide) inX10 kf_X10_72 rfl dX10_counts_21 ?_
      refine lv_iload_n hx hb dX10_counts_24 rfl (lv_at hl 1 rfl) ?_
      refine r_iald C w 21 (f := (g 21)) rfl (by omega) (by omega) (by decide) dX10_counts_25 ?_
      have qg3 := mB21 hg p0
      refine lv_iload_n hx hb dX10_counts_26 rfl (lv_at hl 2 rfl) ?_
      refine r_icmp_le (tgt := 34) hx hb dX10_counts_27 (by decide) (by omega) (by omega) (fun c27 => ?_) (fun c27 => ?_)
      · skip
        refine r_iconst hx hb dX10_counts_34 ?_
        exact hend 0 () _ _ _ _ dX10_counts_35 w (by omega)
      · skip
        refine r_iconst hx hb dX10_counts_30 ?_
        refine lv_goto (tgt := 35) hx hb dX10_counts_31 (by decide) ?_
        exact hend 1 () _ _ _ _ dX10_counts_35 w (by omega)

abbrev rm_X10_count : Room := { frames := 0, cells := 0, slots := 0, locals := 0 }
set_option maxHeartbeats 4000000 in
set_option maxRecDepth 100000 in
theorem ct_X10_count (l : Launch) (D : va_G) (cy : Nat → ClassId) (a : Nat → Nat) (z : Nat → Int) (g : Nat → Int → Int) (p0 : Int) (hz : mBz z) (hg : mBg g) (h0 : iR p0) : MI l yX10_count cX10_count 2 .int (rm_X10_count) D cy (mw cy a z g) [.ref (a 0), vI p0] (fun (v : Int) (u : sX) => (((p0 = 0 ∧ v = z 12) ∨ (p0 = 1 ∧ v = z 11) ∨ (p0 = 2 ∧ v = z 13) ∨ (p0 = 3 ∧ v = z 9) ∨ (p0 = 4 ∧ v = z 1) ∨ (¬ (0 ≤ p0 ∧ p0 ≤ 4) ∧ v = -1)) ∧ u = (uZ z 0 0, g)) ∧ mBz u.1 ∧ mBg u.2) (fun u => mw cy a u.1 u.2) 0 0 := by
  refine go_i (by decide +kernel) (Nat.le_of_ble_eq_true rfl) (Or.inl rfl) ?_
  intro p e s m args below meth c Q A ls C hnm hA w hl hend
  have hx := C.1
  have hb := C.2.1
  replace hl : lv_has ls 2 [(0, .ref (a 0)), (1, vI p0)] := hl
  refine lv_aload_n hx hb dX10_count_0 rfl (lv_at hl 0 rfl) ?_
  refine r_iconst hx hb dX10_count_1 ?_
  refine r_put C w 0 tyX10 tyX10_ok nmX10 rfl rfl 0 (by decide) inX10 kf_X10_97 rfl rfl rfl (Nat.le_of_ble_eq_true rfl) (ws' := mw cy a (uZ z 0 0) g) (mw_z0 cy a z g 0) dX10_count_2 (fun H locs w => ?_)
  have bz1 : (0 : Int) ≤ 0 ∧ (0 : Int) ≤ 1 := (by omega)
  refine lv_iload_n hx hb dX10_count_5 rfl (lv_at hl 1 rfl) ?_
  by_cases c6_0 : p0 = 0
  · refine r_tsI (k := 0) (tgt := 40) hx hb dX10_count_6 (by omega) c6_0 (by decide) rfl (by decide) ?_
    refine lv_aload_n hx hb dX10_count_40 rfl (lv_at hl 0 rfl) ?_
    refine r_get C w 0 (v := vI (z 12)) rfl rfl 23 (by decide) inX10 kf_X10_192 rfl dX10_count_41 ?_
    have qz2 := mZ12 hz
    exact hend (z 12) ((uZ z 0 0), g) _ _ _ _ dX10_count_44 w ⟨(by exact ⟨by omega, rfl⟩), (mBz_u hz 0 bz1), hg⟩
  by_cases c6_1 : p0 = 1
  · refine r_tsI (k := 1) (tgt := 45) hx hb dX10_count_6 (by omega) c6_1 (by decide) rfl (by decide) ?_
    refine lv_aload_n hx hb dX10_count_45 rfl (lv_at hl 0 rfl) ?_
    refine r_get C w 0 (v := vI (z 11)) rfl rfl 22 (by decide) inX10 kf_X10_180 rfl dX10_count_46 ?_
    have qz3 := mZ11 hz
    exact hend (z 11) ((uZ z 0 0), g) _ _ _ _ dX10_count_49 w ⟨(by exact ⟨by omega, rfl⟩), (mBz_u hz 0 bz1), hg⟩
  by_cases c6_2 : p0 = 2
  · refine r_tsI (k := 2) (tgt := 50) hx hb dX10_count_6 (by omega) c6_2 (by decide) rfl (by decide) ?_
    refine lv_aload_n hx hb dX10_count_50 rfl (lv_at hl 0 rfl) ?_
    refine r_get C w 0 (v := vI (z 13)) rfl rfl 34 (by decide) inX10 kf_X10_198 rfl dX10_count_51 ?_
    have qz4 := mZ13 hz
    exact hend (z 13) ((uZ z 0 0), g) _ _ _ _ dX10_count_54 w ⟨(by exact ⟨by omega, rfl⟩), (mBz_u hz 0 bz1), hg⟩
  by_cases c6_3 : p0 = 3
  · refine r_tsI (k := 3) (tgt := 55) hx hb dX10_count_6 (by omega) c6_3 (by decide) rfl (by decide) ?_
    refine lv_aload_n hx hb dX10_count_55 rfl (lv_at hl 0 rfl) ?_
    refine r_get C w 0 (v := vI (z 9)) rfl rfl 13 (by decide) inX10 kf_X10_158 rfl dX10_count_56 ?_
    have qz5 := mZ9 hz
    exact hend (z 9) ((uZ z 0 0), g) _ _ _ _ dX10_count_59 w ⟨(by exact ⟨by omega, rfl⟩), (mBz_u hz 0 bz1), hg⟩
  by_cases c6_4 : p0 = 4
  · refine r_tsI (k := 4) (tgt := 60) hx hb dX10_count_6 (by omega) c6_4 (by decide) rfl (by decide) ?_
    refine lv_aload_n hx hb dX10_count_60 rfl (lv_at hl 0 rfl) ?_
    refine r_get C w 0 (v := vI (z 1)) rfl rfl 2 (by decide) inX10 kf_X10_101 rfl dX10_count_61 ?_
    have qz6 := mZ1 hz
    exact hend (z 1) ((uZ z 0 0), g) _ _ _ _ dX10_count_64 w ⟨(by exact ⟨by omega, rfl⟩), (mBz_u hz 0 bz1), hg⟩
  refine r_tsO (tgt := 65) hx hb dX10_count_6 (by omega) (by omega) (by decide) ?_
  refine r_iconst hx hb dX10_count_65 ?_
  exact hend (-1) ((uZ z 0 0), g) _ _ _ _ dX10_count_66 w ⟨(by exact ⟨by omega, rfl⟩), (mBz_u hz 0 bz1), hg⟩

abbrev rm_X10_sent : Room := { frames := 1, cells := 0, slots := 0, locals := 22 }
set_option maxHeartbeats 4000000 in
set_option maxRecDepth 100000 in
theorem ct_X10_sent (l : Launch) (D : va_G) (cy : Nat → ClassId) (a : Nat → Nat) (z : Nat → Int) (g : Nat → Int → Int) (p0 : Int) (hz : mBz z) (hg : mBg g) (h0 : iR p0) : MI l yX10_sent cX10_sent 2 .int (rm_X10_sent) D cy (mw cy a z g) [.ref (a 0), vI p0] (fun (v : Int) (u : sX) => ((((z 14 ≠ 0 ∧ 0 ≤ p0 ∧ p0 < 4) ∧ v = g 28 p0) ∨ (¬ (z 14 ≠ 0 ∧ 0 ≤ p0 ∧ p0 < 4) ∧ v = -1)) ∧ u = (uZ z 0 0, g)) ∧ mBz u.1 ∧ mBg u.2) (fun u => mw cy a u.1 u.2) 0 0 := by
  refine go_i (by decide +kernel) (Nat.le_of_ble_eq_true rfl) (Or.inl rfl) ?_
  intro p e s m args below meth c Q A ls C hnm hA w hl hend
  have hx := C.1
  have hb := C.2.1
  replace hl : lv_has ls 2 [(0, .ref (a 0)), (1, vI p0)] := hl
  refine lv_aload_n hx hb dX10_sent_0 rfl (lv_at hl 0 rfl) ?_
  refine r_iconst hx hb dX10_sent_1 ?_
  refine r_put C w 0 tyX10 tyX10_ok nmX10 rfl rfl 0 (by decide) inX10 kf_X10_97 rfl rfl rfl (Nat.le_of_ble_eq_true rfl) (ws' := mw cy a (uZ z 0 0) g) (mw_z0 cy a z g 0) dX10_sent_2 (fun H locs w => ?_)
  have bz1 : (0 : Int) ≤ 0 ∧ (0 : Int) ≤ 1 := (by omega)
  refine lv_aload_n hx hb dX10_sent_5 rfl (lv_at hl 0 rfl) ?_
  refine r_get C w 0 (v := vI (z 14)) rfl rfl 42 (by decide) inX10 kf_X10_231 rfl dX10_sent_6 ?_
  have qz2 := mZ14 hz
  refine r_if_eq (tgt := 30) hx hb dX10_sent_9 (by decide) (by omega) (fun c9 => ?_) (fun c9 => ?_)
  · skip
    refine r_iconst hx hb dX10_sent_30 ?_
    exact hend (-1) ((uZ z 0 0), g) _ _ _ _ dX10_sent_31 w ⟨(by exact ⟨by omega, rfl⟩), (mBz_u hz 0 bz1), hg⟩
  · skip
    refine lv_iload_n hx hb dX10_sent_12 rfl (lv_at hl 1 rfl) ?_
    refine r_iconst hx hb dX10_sent_13 ?_
    refine r_iconst hx hb dX10_sent_14 ?_
    refine cSI C w hA (ct_X10_isIn l D cy a (uZ z 0 0) g p0 0 3 (by show iR p0; omega) (by show iR 0; omega) (by show iR 3; omega)) ok_X10_isIn km_X10_183 ⟨rfl, rfl⟩ ⟨by decide, by decide⟩ ⟨by decide, by decide⟩ rfl hl.1 rfl (Nat.le_of_ble_eq_true rfl) dX10_sent_15 (fun rv_1 uv_1 H locs w hp_1 => ?_)
    replace hp_1 : (rv_1 = 1 ∧ 0 ≤ p0 ∧ p0 ≤ 3) ∨ (rv_1 = 0 ∧ ¬ (0 ≤ p0 ∧ p0 ≤ 3)) := hp_1
    replace w : wd D A s.heap (mw cy a (uZ z 0 0) g) H locs := w
    refine r_if_eq (tgt := 30) hx hb dX10_sent_18 (by decide) (by omega) (fun c18 => ?_) (fun c18 => ?_)
    · skip
      refine r_iconst hx hb dX10_sent_30 ?_
      exact hend (-1) ((uZ z 0 0), g) _ _ _ _ dX10_sent_31 w ⟨(by exact ⟨by omega, rfl⟩), (mBz_u hz 0 bz1), hg⟩
    · skip
      refine lv_aload_n hx hb dX10_sent_21 rfl (lv_at hl 0 rfl) ?_
      refine r_get C w 0 (v := .ref (a 28)) rfl rfl 41 (by decide) inX10 kf_X10_94 rfl dX10_sent_22 ?_
      refine lv_iload_n hx hb dX10_sent_25 rfl (lv_at hl 1 rfl) ?_
      refine r_iald C w 28 (f := (g 28)) rfl (by omega) (by omega) (by decide) dX10_sent_26 ?_
      have qg3 := mB28 hg p0
      refine lv_goto (tgt := 31) hx hb dX10_sent_27 (by decide) ?_
      exact hend ((g 28) p0) ((uZ z 0 0), g) _ _ _ _ dX10_sent_31 w ⟨(by exact ⟨by omega, rfl⟩), (mBz_u hz 0 bz1), hg⟩

abbrev rm_X10_thrown : Room := { frames := 0, cells := 0, slots := 0, locals := 0 }
set_option maxHeartbeats 4000000 in
set_option maxRecDepth 100000 in
theorem ct_X10_thrown (l : Launch) (D : va_G) (cy : Nat → ClassId) (a : Nat → Nat) (z : Nat → Int) (g : Nat → Int → Int)  (hz : mBz z) (hg : mBg g) : MI l yX10_thrown cX10_thrown 1 .int (rm_X10_thrown) D cy (mw cy a z g) [.ref (a 0)] (fun (v : Int) (u : Unit) => v = z 0) (fun _ => mw cy a z g) 0 0 := by
  refine go_i (by decide +kernel) (Nat.le_of_ble_eq_true rfl) (Or.inl rfl) ?_
  intro p e s m args below meth c Q A ls C hnm hA w hl hend
  have hx := C.1
  have hb := C.2.1
  replace hl : lv_has ls 1 [(0, .ref (a 0))] := hl
  refine lv_aload_n hx hb dX10_thrown_0 rfl (lv_at hl 0 rfl) ?_
  refine r_get C w 0 (v := vI (z 0)) rfl rfl 0 (by decide) inX10 kf_X10_97 rfl dX10_thrown_1 ?_
  have qz1 := mZ0 hz
  exact hend (z 0) () _ _ _ _ dX10_thrown_4 w (by rfl)

abbrev rm_X10_next : Room := { frames := 0, cells := 0, slots := 0, locals := 0 }
set_option maxHeartbeats 4000000 in
set_option maxRecDepth 100000 in
theorem ct_X10_next (l : Launch) (D : va_G) (cy : Nat → ClassId) (a : Nat → Nat) (z : Nat → Int) (g : Nat → Int → Int)  (hz : mBz z) (hg : mBg g) (h8 : 0 ≤ g 2 8 ∧ g 2 8 ≤ 50) : MI l yX10_next cX10_next 2 .int (rm_X10_next) D cy (mw cy a z g) [.ref (a 0)] (fun (v : Int) (u : sX) => ((¬ z 12 < 999 ∧ v = -1 ∧ u = (uZ z 0 0, g)) ∨ (z 12 < 999 ∧ v = z 12 + 1 ∧ u = (uZ (uZ z 0 0) 12 (z 12 + 1), uZ (uZ g 8 (rotG (g 11) (g 8) (z 11) (g 2 8))) 13 (fun j => if 0 ≤ j ∧ j < 10 then g 12 j else g 13 j)))) ∧ mBz u.1 ∧ mBg u.2) (fun u => mw cy a u.1 u.2) 0 0 := by
  refine go_i (by decide +kernel) (Nat.le_of_ble_eq_true rfl) (Or.inl rfl) ?_
  intro p e s m args below meth c Q A ls C hnm hA w hl hend
  have hx := C.1
  have hb := C.2.1
  have bz0 : (0 : Int) ≤ 0 ∧ (0 : Int) ≤ 1 := by omega
  have b11 := mZ11 hz
  have b12 := mZ12 hz
  have J70 : ∀ N : Nat, ∀ (i : Int) (f : Int → Int) (f2 : Int → Int), (∀ j : Int, (0 : Int) ≤ f j ∧ f j ≤ 500) → (∀ j : Int, (0 : Int) ≤ f2 j ∧ f2 j ≤ 1000000) → (0 ≤ i ∧ i ≤ 10) → (z 12 < 999) → (∀ j, f j = rotG (g 11) (g 8) (z 11) (g 2 8) j) → (∀ j, f2 j = if 0 ≤ j ∧ j < i then g 12 j else g 13 j) → ((10 - i).toNat) < N → ∀ (H : Heap) (locs : List Loc) (ls : Array Slot), wd D A s.heap (mw cy a (uZ z 0 0) (uZ (uZ g 8 f) 13 f2)) H locs → lv_has ls 2 [(0, .ref (a 0)), (1, vI i)] → W p l e (rm_X10_next) s m args below meth c H locs 0 0 Q (F0 m 70 ls []) := by
    intro N
    induction N with
    | zero => intro i f f2 bf bf2 hi hday hf hf2 hN9; exact absurd hN9 (Nat.not_lt_zero _)
    | succ N ih70 =>
      intro i f f2 bf bf2 hi hday hf hf2 hN70 H locs ls w hl
      refine lv_iload_n hx hb dX10_next_70 rfl (lv_at hl 1 rfl) ?_
      refine r_bipush hx hb dX10_next_71 (by decide) ?_
      refine r_icmp_ge (tgt := 94) hx hb dX10_next_73 (by decide) (by omega) (by omega) (fun c73 => ?_) (fun c73 => ?_)
      · skip
        refine lv_aload_n hx hb dX10_next_94 rfl (lv_at hl 0 rfl) ?_
        refine lv_dup hx hb dX10_next_95 rfl ?_
        refine r_get C w 0 (v := vI (z 12)) rfl rfl 23 (by decide) inX10 kf_X10_192 rfl dX10_next_96 ?_
        have qz1 := mZ12 hz
        refine r_iconst hx hb dX10_next_99 ?_
        refine r_iadd hx hb dX10_next_100 ?_
        refine r_put C w 0 tyX10 tyX10_ok nmX10 rfl rfl 23 (by decide) inX10 kf_X10_192 rfl rfl rfl (Nat.le_of_ble_eq_true rfl) (ws' := mw cy a (uZ (uZ z 0 0) 12 ((z 12) + 1)) (uZ (uZ g 8 f) 13 f2)) (mw_z12 cy a (uZ z 0 0) (uZ (uZ g 8 f) 13 f2) ((z 12) + 1)) dX10_next_101 (fun H locs w => ?_)
        have bz2 : (0 : Int) ≤ ((z 12) + 1) ∧ (((z 12) + 1) : Int) ≤ 999 := (by omega)
        refine lv_aload_n hx hb dX10_next_104 rfl (lv_at hl 0 rfl) ?_
        refine r_get C w 0 (v := vI ((z 12) + 1)) rfl rfl 23 (by decide) inX10 kf_X10_192 rfl dX10_next_105 ?_
        exact hend ((z 12) + 1) ((uZ (uZ z 0 0) 12 ((z 12) + 1)), (uZ (uZ g 8 f) 13 f2)) _ _ _ _ dX10_next_108 w ⟨(by refine Or.inr ⟨by omega, rfl, ?_⟩; rw [show f = rotG (g 11) (g 8) (z 11) (g 2 8) from funext hf, show f2 = (fun j => if 0 ≤ j ∧ j < 10 then g 12 j else g 13 j) from funext (fun j => by rw [hf2, show i = 10 by omega])]), (mBz_u (mBz_u hz 0 bz0) 12 bz2), (mBg_u (mBg_u hg 8 bf) 13 bf2)⟩
      · skip
        refine lv_aload_n hx hb dX10_next_76 rfl (lv_at hl 0 rfl) ?_
        refine r_get C w 0 (v := .ref (a 13)) rfl rfl 25 (by decide) inX10 kf_X10_48 rfl dX10_next_77 ?_
        refine lv_iload_n hx hb dX10_next_80 rfl (lv_at hl 1 rfl) ?_
        refine lv_aload_n hx hb dX10_next_81 rfl (lv_at hl 0 rfl) ?_
        refine r_get C w 0 (v := .ref (a 12)) rfl rfl 24 (by decide) inX10 kf_X10_45 rfl dX10_next_82 ?_
        refine lv_iload_n hx hb dX10_next_85 rfl (lv_at hl 1 rfl) ?_
        refine r_iald C w 12 (f := (g 12)) rfl (by omega) (by omega) (by decide) dX10_next_86 ?_
        have qg3 := mB12 hg i
        refine r_iast C w 13 (f := f2) rfl (by omega) (by omega) (by decide) (ws' := mw cy a (uZ z 0 0) (uZ (uZ g 8 f) 13 (uI f2 i ((g 12) i)))) rfl dX10_next_87 (fun H locs w => ?_)
        have bg4 : ∀ j : Int, (0 : Int) ≤ (uI f2 i ((g 12) i)) j ∧ (uI f2 i ((g 12) i)) j ≤ 1000000 := uI_b bf2 (by omega)
        refine r_iinc (lv' := [(1, vI (i + 1)), (0, .ref (a 0))]) hx hb dX10_next_88 hl (k := 1) rfl (by decide) rfl (fun ls hl => ?_)
        refine lv_goto (tgt := 70) hx hb dX10_next_91 (by decide) ?_
        exact ih70 (i + 1) f (uI f2 i ((g 12) i)) bf bg4 (by omega) (by omega) (by exact hf) (by exact cpF_st hi.1 hf2) (by omega) _ _ _ w (lv_sub hl [1, 0] rfl)
  have J19 : ∀ N : Nat, ∀ (i : Int) (f : Int → Int), (∀ j : Int, (0 : Int) ≤ f j ∧ f j ≤ 500) → (0 ≤ i ∧ i ≤ z 11) → (z 12 < 999) → (∀ j, f j = rotG (g 11) (g 8) i (g 2 8) j) → ((z 11 - i).toNat) < N → ∀ (H : Heap) (locs : List Loc) (ls : Array Slot), wd D A s.heap (mw cy a (uZ z 0 0) (uZ g 8 f)) H locs → lv_has ls 2 [(0, .ref (a 0)), (1, vI i)] → W p l e (rm_X10_next) s m args below meth c H locs 0 0 Q (F0 m 19 ls []) := by
    intro N
    induction N with
    | zero => intro i f bf hi hday hf hN9; exact absurd hN9 (Nat.not_lt_zero _)
    | succ N ih19 =>
      intro i f bf hi hday hf hN19 H locs ls w hl
      refine lv_iload_n hx hb dX10_next_19 rfl (lv_at hl 1 rfl) ?_
      refine lv_aload_n hx hb dX10_next_20 rfl (lv_at hl 0 rfl) ?_
      refine r_get C w 0 (v := vI (z 11)) rfl rfl 22 (by decide) inX10 kf_X10_180 rfl dX10_next_21 ?_
      have qz5 := mZ11 hz
      refine r_icmp_ge (tgt := 68) hx hb dX10_next_24 (by decide) (by omega) (by omega) (fun c24 => ?_) (fun c24 => ?_)
      · skip
        refine r_iconst hx hb dX10_next_68 ?_
        refine lv_istore_n (lv' := [(1, vI 0), (0, .ref (a 0))]) hx hb dX10_next_69 rfl hl (by decide) rfl (fun ls hl => ?_)
        exact J70 _ 0 f (g 13) bf (mB13 hg) (by omega) (by omega) (by intro j; rw [hf, show i = z 11 by omega]) (by intro j; rw [if_neg (by omega)]) (Nat.lt_succ_self _) _ _ _ w (lv_sub hl [1, 0] rfl)
      · skip
        refine lv_aload_n hx hb dX10_next_27 rfl (lv_at hl 0 rfl) ?_
        refine r_get C w 0 (v := .ref (a 11)) rfl rfl 21 (by decide) inX10 kf_X10_42 rfl dX10_next_28 ?_
        refine lv_iload_n hx hb dX10_next_31 rfl (lv_at hl 1 rfl) ?_
        refine r_zald C w 11 (f := (g 11)) rfl (by omega) (by omega) (by decide) dX10_next_32 ?_
        have qg6 := mB11 hg i
        refine r_if_ne (tgt := 62) hx hb dX10_next_33 (by decide) (by omega) (fun c33 => ?_) (fun c33 => ?_)
        · skip
          refine r_iinc (lv' := [(1, vI (i + 1)), (0, .ref (a 0))]) hx hb dX10_next_62 hl (k := 1) rfl (by decide) rfl (fun ls hl => ?_)
          refine lv_goto (tgt := 19) hx hb dX10_next_65 (by decide) ?_
          exact ih19 (i + 1) f bf (by omega) (by omega) (by first | exact rotG_st hf hi.1 (by omega) | exact rotG_kp hf (by omega)) (by omega) _ _ _ w (lv_sub hl [1, 0] rfl)
        · skip
          refine lv_aload_n hx hb dX10_next_36 rfl (lv_at hl 0 rfl) ?_
          refine r_get C w 0 (v := .ref (a 8)) rfl rfl 18 (by decide) inX10 kf_X10_33 rfl dX10_next_37 ?_
          refine lv_iload_n hx hb dX10_next_40 rfl (lv_at hl 1 rfl) ?_
          refine lv_dup2_11 hx hb dX10_next_41 rfl rfl ?_
          refine r_iald C w 8 (f := f) rfl (by omega) (by omega) (by decide) dX10_next_42 ?_
          have qg7 := bf i
          refine lv_aload_n hx hb dX10_next_43 rfl (lv_at hl 0 rfl) ?_
          refine r_get C w 0 (v := .ref (a 8)) rfl rfl 18 (by decide) inX10 kf_X10_33 rfl dX10_next_44 ?_
          refine lv_iload_n hx hb dX10_next_47 rfl (lv_at hl 1 rfl) ?_
          refine r_iald C w 8 (f := f) rfl (by omega) (by omega) (by decide) dX10_next_48 ?_
          have qg8 := bf i
          have e1_ := rotF_b (bf i) h8
          refine lv_aload_n hx hb dX10_next_49 rfl (lv_at hl 0 rfl) ?_
          refine r_get C w 0 (v := .ref (a 2)) rfl rfl 5 (by decide) inX10 kf_X10_13 rfl dX10_next_50 ?_
          refine r_bipush hx hb dX10_next_53 (by decide) ?_
          refine r_iald C w 2 (f := (g 2)) rfl (by omega) (by omega) (by decide) dX10_next_55 ?_
          have qg9 := mB2 hg 8
          refine r_imul hx hb dX10_next_56 ?_
          refine r_bipush hx hb dX10_next_57 (by decide) ?_
          refine r_idiv hx hb dX10_next_59 (by omega) (by omega) ?_
          refine r_isub hx hb dX10_next_60 ?_
          refine r_iast C w 8 (f := f) rfl (by omega) (by omega) (by decide) (ws' := mw cy a (uZ z 0 0) (uZ g 8 (uI f i ((f i) - (((f i) * ((g 2) 8)) / 100))))) rfl dX10_next_61 (fun H locs w => ?_)
          have bg10 : ∀ j : Int, (0 : Int) ≤ (uI f i ((f i) - (((f i) * ((g 2) 8)) / 100))) j ∧ (uI f i ((f i) - (((f i) * ((g 2) 8)) / 100))) j ≤ 500 := uI_b bf (by omega)
          refine r_iinc (lv' := [(1, vI (i + 1)), (0, .ref (a 0))]) hx hb dX10_next_62 hl (k := 1) rfl (by decide) rfl (fun ls hl => ?_)
          refine lv_goto (tgt := 19) hx hb dX10_next_65 (by decide) ?_
          exact ih19 (i + 1) (uI f i ((f i) - (((f i) * ((g 2) 8)) / 100))) bg10 (by omega) (by omega) (by first | exact rotG_st hf hi.1 (by omega) | exact rotG_kp hf (by omega)) (by omega) _ _ _ w (lv_sub hl [1, 0] rfl)
  replace hl : lv_has ls 2 [(0, .ref (a 0))] := hl
  refine lv_aload_n hx hb dX10_next_0 rfl (lv_at hl 0 rfl) ?_
  refine r_iconst hx hb dX10_next_1 ?_
  refine r_put C w 0 tyX10 tyX10_ok nmX10 rfl rfl 0 (by decide) inX10 kf_X10_97 rfl rfl rfl (Nat.le_of_ble_eq_true rfl) (ws' := mw cy a (uZ z 0 0) g) (mw_z0 cy a z g 0) dX10_next_2 (fun H locs w => ?_)
  have bz11 : (0 : Int) ≤ 0 ∧ (0 : Int) ≤ 1 := (by omega)
  refine lv_aload_n hx hb dX10_next_5 rfl (lv_at hl 0 rfl) ?_
  refine r_get C w 0 (v := vI (z 12)) rfl rfl 23 (by decide) inX10 kf_X10_192 rfl dX10_next_6 ?_
  have qz12 := mZ12 hz
  refine r_sipush hx hb dX10_next_9 (by decide) ?_
  refine r_icmp_ne (tgt := 17) hx hb dX10_next_12 (by decide) (by omega) (by omega) (fun c12 => ?_) (fun c12 => ?_)
  · skip
    refine r_iconst hx hb dX10_next_17 ?_
    refine lv_istore_n (lv' := [(1, vI 0), (0, .ref (a 0))]) hx hb dX10_next_18 rfl hl (by decide) rfl (fun ls hl => ?_)
    exact J19 _ 0 (g 8) (mB8 hg) (by omega) (by omega) (by intro j; unfold rotG; rw [if_neg (by omega)]) (Nat.lt_succ_self _) _ _ _ w (lv_sub hl [1, 0] rfl)
  · skip
    refine r_iconst hx hb dX10_next_15 ?_
    exact hend (-1) ((uZ z 0 0), g) _ _ _ _ dX10_next_16 w ⟨(by exact Or.inl ⟨by omega, rfl, rfl⟩), (mBz_u hz 0 bz11), hg⟩
end
