/-! the nest words by their places; booleans -/
set_option maxRecDepth 20000 in
theorem kt_X3_30 : tables_1[195]? = some (Cond.fieldLinkNest "FruitHalls$Payout" 30 "FruitHalls$Sales" "soldAgainBy" "[I" "FruitHalls") := rfl
set_option maxRecDepth 20000 in
theorem kt_X3_36 : tables_1[64]? = some (Cond.fieldLinkNest "FruitHalls$Payout" 36 "FruitHalls$Rules" "lossOnBuyer" "Z" "FruitHalls") := rfl
set_option maxRecDepth 20000 in
theorem kt_X3_42 : tables_1[189]? = some (Cond.fieldLinkNest "FruitHalls$Payout" 42 "FruitHalls$Sales" "price" "[I" "FruitHalls") := rfl
set_option maxRecDepth 20000 in
theorem kt_X3_51 : tables_1[186]? = some (Cond.fieldLinkNest "FruitHalls$Payout" 51 "FruitHalls$Sales" "boxes" "[I" "FruitHalls") := rfl
set_option maxRecDepth 20000 in
theorem kt_X3_54 : tables_1[198]? = some (Cond.fieldLinkNest "FruitHalls$Payout" 54 "FruitHalls$Sales" "size" "I" "FruitHalls") := rfl
set_option maxRecDepth 20000 in
theorem kt_X3_62 : tables_1[183]? = some (Cond.fieldLinkNest "FruitHalls$Payout" 62 "FruitHalls$Sales" "day" "[I" "FruitHalls") := rfl
set_option maxRecDepth 20000 in
theorem kt_X3_79 : tables_1[178]? = some (Cond.fieldLinkNest "FruitHalls$Payout" 79 "FruitHalls$Sales" "ofLot" "[I" "FruitHalls") := rfl
set_option maxRecDepth 20000 in
theorem kt_X3_82 : tables_1[60]? = some (Cond.fieldLinkNest "FruitHalls$Payout" 82 "FruitHalls$Rules" "part" "[I" "FruitHalls") := rfl
set_option maxRecDepth 20000 in
theorem kt_X3_85 : tables_1[141]? = some (Cond.fieldLinkNest "FruitHalls$Payout" 85 "FruitHalls$Lots" "grade" "[I" "FruitHalls") := rfl
set_option maxRecDepth 20000 in
theorem kt_X3_90 : tables_1[134]? = some (Cond.fieldLinkNest "FruitHalls$Payout" 90 "FruitHalls$Lots" "grower" "[I" "FruitHalls") := rfl
set_option maxRecDepth 20000 in
theorem kt_X4_49 : tables_1[199]? = some (Cond.fieldLinkNest "FruitHalls$Premium" 49 "FruitHalls$Sales" "size" "I" "FruitHalls") := rfl
set_option maxRecDepth 20000 in
theorem kt_X4_59 : tables_1[177]? = some (Cond.fieldLinkNest "FruitHalls$Premium" 59 "FruitHalls$Sales" "ofLot" "[I" "FruitHalls") := rfl
set_option maxRecDepth 20000 in
theorem kt_X4_63 : tables_1[140]? = some (Cond.fieldLinkNest "FruitHalls$Premium" 63 "FruitHalls$Lots" "grade" "[I" "FruitHalls") := rfl
set_option maxRecDepth 20000 in
theorem kt_X4_68 : tables_1[190]? = some (Cond.fieldLinkNest "FruitHalls$Premium" 68 "FruitHalls$Sales" "price" "[I" "FruitHalls") := rfl
set_option maxRecDepth 20000 in
theorem kt_X4_71 : tables_1[137]? = some (Cond.fieldLinkNest "FruitHalls$Premium" 71 "FruitHalls$Lots" "mark" "[I" "FruitHalls") := rfl
set_option maxRecDepth 20000 in
theorem kt_X5_67 : tables_1[56]? = some (Cond.fieldLinkNest "FruitHalls$RuleReader" 67 "FruitHalls$Rules" "reserve" "[I" "FruitHalls") := rfl
set_option maxRecDepth 20000 in
theorem kt_X5_76 : tables_1[59]? = some (Cond.fieldLinkNest "FruitHalls$RuleReader" 76 "FruitHalls$Rules" "part" "[I" "FruitHalls") := rfl
set_option maxRecDepth 20000 in
theorem kt_X5_102 : tables_1[62]? = some (Cond.fieldLinkNest "FruitHalls$RuleReader" 102 "FruitHalls$Rules" "rot" "I" "FruitHalls") := rfl
set_option maxRecDepth 20000 in
theorem kt_X5_108 : tables_1[66]? = some (Cond.fieldLinkNest "FruitHalls$RuleReader" 108 "FruitHalls$Rules" "lossOnBuyer" "Z" "FruitHalls") := rfl
set_option maxRecDepth 20000 in
theorem kt_X5_111 : tables_1[69]? = some (Cond.fieldLinkNest "FruitHalls$RuleReader" 111 "FruitHalls$Rules" "told" "I" "FruitHalls") := rfl
set_option maxRecDepth 20000 in
theorem kt_X5_122 : tables_1[38]? = some (Cond.fieldLinkNest "FruitHalls$RuleReader" 122 "FruitHalls$Tape" "size" "I" "FruitHalls") := rfl
set_option maxRecDepth 20000 in
theorem kt_X9_9 : tables_1[31]? = some (Cond.methodLinkNest "FruitHalls" 9 ⟨"FruitHalls$Tape", "<init>", "()V"⟩ "FruitHalls") := rfl
set_option maxRecDepth 20000 in
theorem kt_X9_34 : tables_1[129]? = some (Cond.methodLinkNest "FruitHalls" 34 ⟨"FruitHalls$Lots", "<init>", "()V"⟩ "FruitHalls") := rfl
set_option maxRecDepth 20000 in
theorem kt_X9_41 : tables_1[172]? = some (Cond.methodLinkNest "FruitHalls" 41 ⟨"FruitHalls$Sales", "<init>", "()V"⟩ "FruitHalls") := rfl
set_option maxRecDepth 20000 in
theorem kt_X9_48 : tables_1[220]? = some (Cond.methodLinkNest "FruitHalls" 48 ⟨"FruitHalls$Buyers", "<init>", "()V"⟩ "FruitHalls") := rfl
set_option maxRecDepth 20000 in
theorem kt_X9_73 : tables_1[296]? = some (Cond.methodLinkNest "FruitHalls" 73 ⟨"FruitHalls$Freight", "<init>", "()V"⟩ "FruitHalls") := rfl
set_option maxRecDepth 20000 in
theorem kt_X9_89 : tables_1[37]? = some (Cond.fieldLinkNest "FruitHalls" 89 "FruitHalls$Tape" "size" "I" "FruitHalls") := rfl
set_option maxRecDepth 20000 in
theorem kt_X9_99 : tables_1[100]? = some (Cond.fieldLinkNest "FruitHalls" 99 "FruitHalls$RuleReader" "faultKind" "I" "FruitHalls") := rfl
set_option maxRecDepth 20000 in
theorem kt_X9_102 : tables_1[102]? = some (Cond.fieldLinkNest "FruitHalls" 102 "FruitHalls$RuleReader" "faultPlace" "I" "FruitHalls") := rfl
set_option maxRecDepth 20000 in
theorem kt_X9_105 : tables_1[91]? = some (Cond.fieldLinkNest "FruitHalls" 105 "FruitHalls$RuleReader" "draft" "LFruitHalls$Rules;" "FruitHalls") := rfl
set_option maxRecDepth 20000 in
theorem kt_X9_112 : tables_1[68]? = some (Cond.fieldLinkNest "FruitHalls" 112 "FruitHalls$Rules" "told" "I" "FruitHalls") := rfl
set_option maxRecDepth 20000 in
theorem kt_X9_119 : tables_1[152]? = some (Cond.fieldLinkNest "FruitHalls" 119 "FruitHalls$Lots" "size" "I" "FruitHalls") := rfl
set_option maxRecDepth 20000 in
theorem kt_X9_125 : tables_1[225]? = some (Cond.fieldLinkNest "FruitHalls" 125 "FruitHalls$Buyers" "purse" "[I" "FruitHalls") := rfl
set_option maxRecDepth 20000 in
theorem kt_X9_128 : tables_1[227]? = some (Cond.fieldLinkNest "FruitHalls" 128 "FruitHalls$Buyers" "unspent" "[I" "FruitHalls") := rfl
set_option maxRecDepth 20000 in
theorem kt_X9_139 : tables_1[229]? = some (Cond.fieldLinkNest "FruitHalls" 139 "FruitHalls$Buyers" "wantBoxes" "[I" "FruitHalls") := rfl
set_option maxRecDepth 20000 in
theorem kt_X9_142 : tables_1[231]? = some (Cond.fieldLinkNest "FruitHalls" 142 "FruitHalls$Buyers" "wantLimit" "[I" "FruitHalls") := rfl
set_option maxRecDepth 20000 in
theorem kt_X9_145 : tables_1[200]? = some (Cond.fieldLinkNest "FruitHalls" 145 "FruitHalls$Sales" "size" "I" "FruitHalls") := rfl
set_option maxRecDepth 20000 in
theorem kt_X9_150 : tables_1[193]? = some (Cond.fieldLinkNest "FruitHalls" 150 "FruitHalls$Sales" "rejectedOn" "[I" "FruitHalls") := rfl
set_option maxRecDepth 20000 in
theorem kt_X9_153 : tables_1[179]? = some (Cond.fieldLinkNest "FruitHalls" 153 "FruitHalls$Sales" "ofLot" "[I" "FruitHalls") := rfl
set_option maxRecDepth 20000 in
theorem kt_X9_156 : tables_1[150]? = some (Cond.fieldLinkNest "FruitHalls" 156 "FruitHalls$Lots" "lastSale" "[I" "FruitHalls") := rfl
set_option maxRecDepth 20000 in
theorem kt_X9_159 : tables_1[148]? = some (Cond.fieldLinkNest "FruitHalls" 159 "FruitHalls$Lots" "sold" "[Z" "FruitHalls") := rfl
set_option maxRecDepth 20000 in
theorem kt_X9_163 : tables_1[63]? = some (Cond.fieldLinkNest "FruitHalls" 163 "FruitHalls$Rules" "rot" "I" "FruitHalls") := rfl
set_option maxRecDepth 20000 in
theorem kt_X9_179 : tables_1[135]? = some (Cond.fieldLinkNest "FruitHalls" 179 "FruitHalls$Lots" "grower" "[I" "FruitHalls") := rfl
set_option maxRecDepth 20000 in
theorem kt_X9_182 : tables_1[138]? = some (Cond.fieldLinkNest "FruitHalls" 182 "FruitHalls$Lots" "mark" "[I" "FruitHalls") := rfl
set_option maxRecDepth 20000 in
theorem kt_X9_185 : tables_1[142]? = some (Cond.fieldLinkNest "FruitHalls" 185 "FruitHalls$Lots" "grade" "[I" "FruitHalls") := rfl
set_option maxRecDepth 20000 in
theorem kt_X9_188 : tables_1[144]? = some (Cond.fieldLinkNest "FruitHalls" 188 "FruitHalls$Lots" "boxes" "[I" "FruitHalls") := rfl
set_option maxRecDepth 20000 in
theorem kt_X9_191 : tables_1[146]? = some (Cond.fieldLinkNest "FruitHalls" 191 "FruitHalls$Lots" "hall" "[I" "FruitHalls") := rfl
set_option maxRecDepth 20000 in
theorem kt_X9_198 : tables_1[181]? = some (Cond.fieldLinkNest "FruitHalls" 198 "FruitHalls$Sales" "buyer" "[I" "FruitHalls") := rfl
set_option maxRecDepth 20000 in
theorem kt_X9_201 : tables_1[184]? = some (Cond.fieldLinkNest "FruitHalls" 201 "FruitHalls$Sales" "day" "[I" "FruitHalls") := rfl
set_option maxRecDepth 20000 in
theorem kt_X9_204 : tables_1[187]? = some (Cond.fieldLinkNest "FruitHalls" 204 "FruitHalls$Sales" "boxes" "[I" "FruitHalls") := rfl
set_option maxRecDepth 20000 in
theorem kt_X9_205 : tables_1[191]? = some (Cond.fieldLinkNest "FruitHalls" 205 "FruitHalls$Sales" "price" "[I" "FruitHalls") := rfl
set_option maxRecDepth 20000 in
theorem kt_X9_231 : tables_1[276]? = some (Cond.fieldLinkNest "FruitHalls" 231 "FruitHalls$Premium" "upper" "J" "FruitHalls") := rfl
set_option maxRecDepth 20000 in
theorem kt_X9_235 : tables_1[278]? = some (Cond.fieldLinkNest "FruitHalls" 235 "FruitHalls$Premium" "lower" "J" "FruitHalls") := rfl
set_option maxRecDepth 20000 in
theorem kt_X9_255 : tables_1[305]? = some (Cond.fieldLinkNest "FruitHalls" 255 "FruitHalls$Freight" "dispatched" "Z" "FruitHalls") := rfl
set_option maxRecDepth 20000 in
theorem kt_X9_259 : tables_1[303]? = some (Cond.fieldLinkNest "FruitHalls" 259 "FruitHalls$Freight" "carsTo" "[I" "FruitHalls") := rfl
set_option maxRecDepth 20000 in
theorem kt_X9_268 : tables_1[57]? = some (Cond.fieldLinkNest "FruitHalls" 268 "FruitHalls$Rules" "reserve" "[I" "FruitHalls") := rfl
set_option maxRecDepth 20000 in
theorem kt_X9_283 : tables_1[196]? = some (Cond.fieldLinkNest "FruitHalls" 283 "FruitHalls$Sales" "soldAgainBy" "[I" "FruitHalls") := rfl
theorem uI_b {f : Int → Int} {lo hi i v : Int} (h : ∀ j : Int, lo ≤ f j ∧ f j ≤ hi) (hv : lo ≤ v ∧ v ≤ hi) : ∀ j : Int, lo ≤ uI f i v j ∧ uI f i v j ≤ hi := by
  intro j
  unfold uI
  by_cases e : j = i
  · rw [if_pos e]; exact hv
  · rw [if_neg e]; exact h j
theorem uZ_uZ {α : Type} (f : Nat → α) (k : Nat) (v w : α) : uZ (uZ f k v) k w = uZ f k w := by
  funext j
  unfold uZ
  cases Nat.beq j k <;> rfl
theorem nb01 {v : Int} (h : v = 0 ∨ v = 1) : narrow .boolean (vI v) = vI v := by rcases h with rfl | rfl <;> rfl
theorem fb01 {v : Int} (h : v = 0 ∨ v = 1) : fits .boolean (vI v) = true := by rcases h with rfl | rfl <;> rfl
theorem vz01 {v : Int} (h : v = 0 ∨ v = 1) : vp_nar .boolean (iI v) = iI v := by rcases h with rfl | rfl <;> rfl
