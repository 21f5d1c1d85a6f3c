/-! the tables words that the walks use, by name -/
set_option maxRecDepth 20000 in
theorem kf_X8_9 : Cond.fieldLink "FruitHalls$Tape" 9 "FruitHalls$Tape" "bytes" "[I" ∈ wAll := wAll_t (i := 35) rfl rfl
set_option maxRecDepth 20000 in
theorem kf_X8_15 : Cond.fieldLink "FruitHalls$Tape" 15 "FruitHalls$Tape" "size" "I" ∈ wAll := wAll_t (i := 36) rfl rfl
set_option maxRecDepth 20000 in
theorem kf_X6_9 : Cond.fieldLink "FruitHalls$Rules" 9 "FruitHalls$Rules" "reserve" "[I" ∈ wAll := wAll_t (i := 55) rfl rfl
set_option maxRecDepth 20000 in
theorem kf_X6_15 : Cond.fieldLink "FruitHalls$Rules" 15 "FruitHalls$Rules" "part" "[I" ∈ wAll := wAll_t (i := 58) rfl rfl
set_option maxRecDepth 20000 in
theorem kf_X6_21 : Cond.fieldLink "FruitHalls$Rules" 21 "FruitHalls$Rules" "rot" "I" ∈ wAll := wAll_t (i := 61) rfl rfl
set_option maxRecDepth 20000 in
theorem kf_X6_25 : Cond.fieldLink "FruitHalls$Rules" 25 "FruitHalls$Rules" "lossOnBuyer" "Z" ∈ wAll := wAll_t (i := 65) rfl rfl
set_option maxRecDepth 20000 in
theorem kf_X6_29 : Cond.fieldLink "FruitHalls$Rules" 29 "FruitHalls$Rules" "told" "I" ∈ wAll := wAll_t (i := 67) rfl rfl
set_option maxRecDepth 20000 in
theorem kf_X5_25 : Cond.fieldLink "FruitHalls$RuleReader" 25 "FruitHalls$RuleReader" "text" "LFruitHalls$Tape;" ∈ wAll := wAll_t (i := 89) rfl rfl
set_option maxRecDepth 20000 in
theorem kf_X5_12 : Cond.fieldLink "FruitHalls$RuleReader" 12 "FruitHalls$RuleReader" "draft" "LFruitHalls$Rules;" ∈ wAll := wAll_t (i := 90) rfl rfl
set_option maxRecDepth 20000 in
theorem kf_X5_18 : Cond.fieldLink "FruitHalls$RuleReader" 18 "FruitHalls$RuleReader" "reserveTold" "[Z" ∈ wAll := wAll_t (i := 92) rfl rfl
set_option maxRecDepth 20000 in
theorem kf_X5_22 : Cond.fieldLink "FruitHalls$RuleReader" 22 "FruitHalls$RuleReader" "partTold" "[Z" ∈ wAll := wAll_t (i := 93) rfl rfl
set_option maxRecDepth 20000 in
theorem kf_X5_48 : Cond.fieldLink "FruitHalls$RuleReader" 48 "FruitHalls$RuleReader" "rotTold" "Z" ∈ wAll := wAll_t (i := 94) rfl rfl
set_option maxRecDepth 20000 in
theorem kf_X5_52 : Cond.fieldLink "FruitHalls$RuleReader" 52 "FruitHalls$RuleReader" "lossTold" "Z" ∈ wAll := wAll_t (i := 95) rfl rfl
set_option maxRecDepth 20000 in
theorem kf_X5_35 : Cond.fieldLink "FruitHalls$RuleReader" 35 "FruitHalls$RuleReader" "kind" "I" ∈ wAll := wAll_t (i := 96) rfl rfl
set_option maxRecDepth 20000 in
theorem kf_X5_114 : Cond.fieldLink "FruitHalls$RuleReader" 114 "FruitHalls$RuleReader" "start" "I" ∈ wAll := wAll_t (i := 97) rfl rfl
set_option maxRecDepth 20000 in
theorem kf_X5_55 : Cond.fieldLink "FruitHalls$RuleReader" 55 "FruitHalls$RuleReader" "behind" "I" ∈ wAll := wAll_t (i := 98) rfl rfl
set_option maxRecDepth 20000 in
theorem kf_X5_39 : Cond.fieldLink "FruitHalls$RuleReader" 39 "FruitHalls$RuleReader" "faultKind" "I" ∈ wAll := wAll_t (i := 99) rfl rfl
set_option maxRecDepth 20000 in
theorem kf_X5_58 : Cond.fieldLink "FruitHalls$RuleReader" 58 "FruitHalls$RuleReader" "faultPlace" "I" ∈ wAll := wAll_t (i := 101) rfl rfl
set_option maxRecDepth 20000 in
theorem kf_X2_9 : Cond.fieldLink "FruitHalls$Lots" 9 "FruitHalls$Lots" "grower" "[I" ∈ wAll := wAll_t (i := 133) rfl rfl
set_option maxRecDepth 20000 in
theorem kf_X2_15 : Cond.fieldLink "FruitHalls$Lots" 15 "FruitHalls$Lots" "mark" "[I" ∈ wAll := wAll_t (i := 136) rfl rfl
set_option maxRecDepth 20000 in
theorem kf_X2_18 : Cond.fieldLink "FruitHalls$Lots" 18 "FruitHalls$Lots" "grade" "[I" ∈ wAll := wAll_t (i := 139) rfl rfl
set_option maxRecDepth 20000 in
theorem kf_X2_21 : Cond.fieldLink "FruitHalls$Lots" 21 "FruitHalls$Lots" "boxes" "[I" ∈ wAll := wAll_t (i := 143) rfl rfl
set_option maxRecDepth 20000 in
theorem kf_X2_24 : Cond.fieldLink "FruitHalls$Lots" 24 "FruitHalls$Lots" "hall" "[I" ∈ wAll := wAll_t (i := 145) rfl rfl
set_option maxRecDepth 20000 in
theorem kf_X2_27 : Cond.fieldLink "FruitHalls$Lots" 27 "FruitHalls$Lots" "sold" "[Z" ∈ wAll := wAll_t (i := 147) rfl rfl
set_option maxRecDepth 20000 in
theorem kf_X2_31 : Cond.fieldLink "FruitHalls$Lots" 31 "FruitHalls$Lots" "lastSale" "[I" ∈ wAll := wAll_t (i := 149) rfl rfl
set_option maxRecDepth 20000 in
theorem kf_X2_34 : Cond.fieldLink "FruitHalls$Lots" 34 "FruitHalls$Lots" "size" "I" ∈ wAll := wAll_t (i := 151) rfl rfl
set_option maxRecDepth 20000 in
theorem kf_X7_9 : Cond.fieldLink "FruitHalls$Sales" 9 "FruitHalls$Sales" "ofLot" "[I" ∈ wAll := wAll_t (i := 176) rfl rfl
set_option maxRecDepth 20000 in
theorem kf_X7_15 : Cond.fieldLink "FruitHalls$Sales" 15 "FruitHalls$Sales" "buyer" "[I" ∈ wAll := wAll_t (i := 180) rfl rfl
set_option maxRecDepth 20000 in
theorem kf_X7_18 : Cond.fieldLink "FruitHalls$Sales" 18 "FruitHalls$Sales" "day" "[I" ∈ wAll := wAll_t (i := 182) rfl rfl
set_option maxRecDepth 20000 in
theorem kf_X7_21 : Cond.fieldLink "FruitHalls$Sales" 21 "FruitHalls$Sales" "boxes" "[I" ∈ wAll := wAll_t (i := 185) rfl rfl
set_option maxRecDepth 20000 in
theorem kf_X7_24 : Cond.fieldLink "FruitHalls$Sales" 24 "FruitHalls$Sales" "price" "[I" ∈ wAll := wAll_t (i := 188) rfl rfl
set_option maxRecDepth 20000 in
theorem kf_X7_27 : Cond.fieldLink "FruitHalls$Sales" 27 "FruitHalls$Sales" "rejectedOn" "[I" ∈ wAll := wAll_t (i := 192) rfl rfl
set_option maxRecDepth 20000 in
theorem kf_X7_30 : Cond.fieldLink "FruitHalls$Sales" 30 "FruitHalls$Sales" "soldAgainBy" "[I" ∈ wAll := wAll_t (i := 194) rfl rfl
set_option maxRecDepth 20000 in
theorem kf_X7_33 : Cond.fieldLink "FruitHalls$Sales" 33 "FruitHalls$Sales" "size" "I" ∈ wAll := wAll_t (i := 197) rfl rfl
set_option maxRecDepth 20000 in
theorem kf_X0_9 : Cond.fieldLink "FruitHalls$Buyers" 9 "FruitHalls$Buyers" "purse" "[I" ∈ wAll := wAll_t (i := 224) rfl rfl
set_option maxRecDepth 20000 in
theorem kf_X0_15 : Cond.fieldLink "FruitHalls$Buyers" 15 "FruitHalls$Buyers" "unspent" "[I" ∈ wAll := wAll_t (i := 226) rfl rfl
set_option maxRecDepth 20000 in
theorem kf_X0_18 : Cond.fieldLink "FruitHalls$Buyers" 18 "FruitHalls$Buyers" "wantBoxes" "[I" ∈ wAll := wAll_t (i := 228) rfl rfl
set_option maxRecDepth 20000 in
theorem kf_X0_21 : Cond.fieldLink "FruitHalls$Buyers" 21 "FruitHalls$Buyers" "wantLimit" "[I" ∈ wAll := wAll_t (i := 230) rfl rfl
set_option maxRecDepth 20000 in
theorem kf_X3_18 : Cond.fieldLink "FruitHalls$Payout" 18 "FruitHalls$Payout" "lots" "LFruitHalls$Lots;" ∈ wAll := wAll_t (i := 247) rfl rfl
set_option maxRecDepth 20000 in
theorem kf_X3_22 : Cond.fieldLink "FruitHalls$Payout" 22 "FruitHalls$Payout" "sales" "LFruitHalls$Sales;" ∈ wAll := wAll_t (i := 248) rfl rfl
set_option maxRecDepth 20000 in
theorem kf_X3_26 : Cond.fieldLink "FruitHalls$Payout" 26 "FruitHalls$Payout" "ruling" "LFruitHalls$Rules;" ∈ wAll := wAll_t (i := 249) rfl rfl
set_option maxRecDepth 20000 in
theorem kf_X3_9 : Cond.fieldLink "FruitHalls$Payout" 9 "FruitHalls$Payout" "weights" "[J" ∈ wAll := wAll_t (i := 250) rfl rfl
set_option maxRecDepth 20000 in
theorem kf_X3_15 : Cond.fieldLink "FruitHalls$Payout" 15 "FruitHalls$Payout" "rests" "[J" ∈ wAll := wAll_t (i := 251) rfl rfl
set_option maxRecDepth 20000 in
theorem kf_X4_21 : Cond.fieldLink "FruitHalls$Premium" 21 "FruitHalls$Premium" "lots" "LFruitHalls$Lots;" ∈ wAll := wAll_t (i := 270) rfl rfl
set_option maxRecDepth 20000 in
theorem kf_X4_25 : Cond.fieldLink "FruitHalls$Premium" 25 "FruitHalls$Premium" "sales" "LFruitHalls$Sales;" ∈ wAll := wAll_t (i := 271) rfl rfl
set_option maxRecDepth 20000 in
theorem kf_X4_9 : Cond.fieldLink "FruitHalls$Premium" 9 "FruitHalls$Premium" "gradeSales" "[J" ∈ wAll := wAll_t (i := 272) rfl rfl
set_option maxRecDepth 20000 in
theorem kf_X4_15 : Cond.fieldLink "FruitHalls$Premium" 15 "FruitHalls$Premium" "gradePrices" "[J" ∈ wAll := wAll_t (i := 273) rfl rfl
set_option maxRecDepth 20000 in
theorem kf_X4_18 : Cond.fieldLink "FruitHalls$Premium" 18 "FruitHalls$Premium" "markSales" "[J" ∈ wAll := wAll_t (i := 274) rfl rfl
set_option maxRecDepth 20000 in
theorem kf_X4_39 : Cond.fieldLink "FruitHalls$Premium" 39 "FruitHalls$Premium" "upper" "J" ∈ wAll := wAll_t (i := 275) rfl rfl
set_option maxRecDepth 20000 in
theorem kf_X4_43 : Cond.fieldLink "FruitHalls$Premium" 43 "FruitHalls$Premium" "lower" "J" ∈ wAll := wAll_t (i := 277) rfl rfl
set_option maxRecDepth 20000 in
theorem kf_X1_9 : Cond.fieldLink "FruitHalls$Freight" 9 "FruitHalls$Freight" "worthOfNext" "[I" ∈ wAll := wAll_t (i := 300) rfl rfl
set_option maxRecDepth 20000 in
theorem kf_X1_15 : Cond.fieldLink "FruitHalls$Freight" 15 "FruitHalls$Freight" "fall" "[I" ∈ wAll := wAll_t (i := 301) rfl rfl
set_option maxRecDepth 20000 in
theorem kf_X1_18 : Cond.fieldLink "FruitHalls$Freight" 18 "FruitHalls$Freight" "carsTo" "[I" ∈ wAll := wAll_t (i := 302) rfl rfl
set_option maxRecDepth 20000 in
theorem kf_X1_21 : Cond.fieldLink "FruitHalls$Freight" 21 "FruitHalls$Freight" "dispatched" "Z" ∈ wAll := wAll_t (i := 304) rfl rfl
set_option maxRecDepth 20000 in
theorem kf_X9_10 : Cond.fieldLink "FruitHalls" 10 "FruitHalls" "tape" "LFruitHalls$Tape;" ∈ wAll := wAll_t (i := 315) rfl rfl
set_option maxRecDepth 20000 in
theorem kf_X9_19 : Cond.fieldLink "FruitHalls" 19 "FruitHalls" "ruling" "LFruitHalls$Rules;" ∈ wAll := wAll_t (i := 316) rfl rfl
set_option maxRecDepth 20000 in
theorem kf_X9_28 : Cond.fieldLink "FruitHalls" 28 "FruitHalls" "reader" "LFruitHalls$RuleReader;" ∈ wAll := wAll_t (i := 317) rfl rfl
set_option maxRecDepth 20000 in
theorem kf_X9_35 : Cond.fieldLink "FruitHalls" 35 "FruitHalls" "lots" "LFruitHalls$Lots;" ∈ wAll := wAll_t (i := 318) rfl rfl
set_option maxRecDepth 20000 in
theorem kf_X9_42 : Cond.fieldLink "FruitHalls" 42 "FruitHalls" "sales" "LFruitHalls$Sales;" ∈ wAll := wAll_t (i := 319) rfl rfl
set_option maxRecDepth 20000 in
theorem kf_X9_49 : Cond.fieldLink "FruitHalls" 49 "FruitHalls" "buyers" "LFruitHalls$Buyers;" ∈ wAll := wAll_t (i := 320) rfl rfl
set_option maxRecDepth 20000 in
theorem kf_X9_58 : Cond.fieldLink "FruitHalls" 58 "FruitHalls" "payout" "LFruitHalls$Payout;" ∈ wAll := wAll_t (i := 321) rfl rfl
set_option maxRecDepth 20000 in
theorem kf_X9_67 : Cond.fieldLink "FruitHalls" 67 "FruitHalls" "premium" "LFruitHalls$Premium;" ∈ wAll := wAll_t (i := 322) rfl rfl
set_option maxRecDepth 20000 in
theorem kf_X9_74 : Cond.fieldLink "FruitHalls" 74 "FruitHalls" "freight" "LFruitHalls$Freight;" ∈ wAll := wAll_t (i := 323) rfl rfl
set_option maxRecDepth 20000 in
theorem kf_X9_78 : Cond.fieldLink "FruitHalls" 78 "FruitHalls" "offeredUpTo" "[I" ∈ wAll := wAll_t (i := 324) rfl rfl
set_option maxRecDepth 20000 in
theorem kf_X9_82 : Cond.fieldLink "FruitHalls" 82 "FruitHalls" "today" "I" ∈ wAll := wAll_t (i := 325) rfl rfl
set_option maxRecDepth 20000 in
theorem kf_X9_86 : Cond.fieldLink "FruitHalls" 86 "FruitHalls" "latestFault" "I" ∈ wAll := wAll_t (i := 326) rfl rfl
set_option maxRecDepth 20000 in
theorem kf_X10_97 : Cond.fieldLink "FruitHallsModel" 97 "FruitHallsModel" "thrown" "I" ∈ wAll := wAll_t (i := 776) rfl rfl
set_option maxRecDepth 20000 in
theorem kf_X10_7 : Cond.fieldLink "FruitHallsModel" 7 "FruitHallsModel" "tape" "[B" ∈ wAll := wAll_t (i := 777) rfl rfl
set_option maxRecDepth 20000 in
theorem kf_X10_101 : Cond.fieldLink "FruitHallsModel" 101 "FruitHallsModel" "length" "I" ∈ wAll := wAll_t (i := 778) rfl rfl
set_option maxRecDepth 20000 in
theorem kf_X10_108 : Cond.fieldLink "FruitHallsModel" 108 "FruitHallsModel" "size" "I" ∈ wAll := wAll_t (i := 779) rfl rfl
set_option maxRecDepth 20000 in
theorem kf_X10_111 : Cond.fieldLink "FruitHallsModel" 111 "FruitHallsModel" "p" "I" ∈ wAll := wAll_t (i := 780) rfl rfl
set_option maxRecDepth 20000 in
theorem kf_X10_13 : Cond.fieldLink "FruitHallsModel" 13 "FruitHallsModel" "law" "[I" ∈ wAll := wAll_t (i := 781) rfl rfl
set_option maxRecDepth 20000 in
theorem kf_X10_17 : Cond.fieldLink "FruitHallsModel" 17 "FruitHallsModel" "fresh" "[I" ∈ wAll := wAll_t (i := 782) rfl rfl
set_option maxRecDepth 20000 in
theorem kf_X10_20 : Cond.fieldLink "FruitHallsModel" 20 "FruitHallsModel" "isTold" "[Z" ∈ wAll := wAll_t (i := 783) rfl rfl
set_option maxRecDepth 20000 in
theorem kf_X10_121 : Cond.fieldLink "FruitHallsModel" 121 "FruitHallsModel" "token" "I" ∈ wAll := wAll_t (i := 784) rfl rfl
set_option maxRecDepth 20000 in
theorem kf_X10_118 : Cond.fieldLink "FruitHallsModel" 118 "FruitHallsModel" "at" "I" ∈ wAll := wAll_t (i := 785) rfl rfl
set_option maxRecDepth 20000 in
theorem kf_X10_135 : Cond.fieldLink "FruitHallsModel" 135 "FruitHallsModel" "number" "I" ∈ wAll := wAll_t (i := 786) rfl rfl
set_option maxRecDepth 20000 in
theorem kf_X10_138 : Cond.fieldLink "FruitHallsModel" 138 "FruitHallsModel" "fault" "I" ∈ wAll := wAll_t (i := 787) rfl rfl
set_option maxRecDepth 20000 in
theorem kf_X10_141 : Cond.fieldLink "FruitHallsModel" 141 "FruitHallsModel" "faultAt" "I" ∈ wAll := wAll_t (i := 788) rfl rfl
set_option maxRecDepth 20000 in
theorem kf_X10_158 : Cond.fieldLink "FruitHallsModel" 158 "FruitHallsModel" "ruleMany" "I" ∈ wAll := wAll_t (i := 789) rfl rfl
set_option maxRecDepth 20000 in
theorem kf_X10_131 : Cond.fieldLink "FruitHallsModel" 131 "FruitHallsModel" "word" "J" ∈ wAll := wAll_t (i := 790) rfl rfl
set_option maxRecDepth 20000 in
theorem kf_X10_24 : Cond.fieldLink "FruitHallsModel" 24 "FruitHallsModel" "growerOf" "[I" ∈ wAll := wAll_t (i := 791) rfl rfl
set_option maxRecDepth 20000 in
theorem kf_X10_27 : Cond.fieldLink "FruitHallsModel" 27 "FruitHallsModel" "markOf" "[I" ∈ wAll := wAll_t (i := 792) rfl rfl
set_option maxRecDepth 20000 in
theorem kf_X10_30 : Cond.fieldLink "FruitHallsModel" 30 "FruitHallsModel" "gradeOf" "[I" ∈ wAll := wAll_t (i := 793) rfl rfl
set_option maxRecDepth 20000 in
theorem kf_X10_33 : Cond.fieldLink "FruitHallsModel" 33 "FruitHallsModel" "boxes" "[I" ∈ wAll := wAll_t (i := 794) rfl rfl
set_option maxRecDepth 20000 in
theorem kf_X10_36 : Cond.fieldLink "FruitHallsModel" 36 "FruitHallsModel" "hallOf" "[I" ∈ wAll := wAll_t (i := 795) rfl rfl
set_option maxRecDepth 20000 in
theorem kf_X10_39 : Cond.fieldLink "FruitHallsModel" 39 "FruitHallsModel" "lastSale" "[I" ∈ wAll := wAll_t (i := 796) rfl rfl
set_option maxRecDepth 20000 in
theorem kf_X10_42 : Cond.fieldLink "FruitHallsModel" 42 "FruitHallsModel" "isSold" "[Z" ∈ wAll := wAll_t (i := 797) rfl rfl
set_option maxRecDepth 20000 in
theorem kf_X10_180 : Cond.fieldLink "FruitHallsModel" 180 "FruitHallsModel" "lots" "I" ∈ wAll := wAll_t (i := 798) rfl rfl
set_option maxRecDepth 20000 in
theorem kf_X10_192 : Cond.fieldLink "FruitHallsModel" 192 "FruitHallsModel" "day" "I" ∈ wAll := wAll_t (i := 799) rfl rfl
set_option maxRecDepth 20000 in
theorem kf_X10_45 : Cond.fieldLink "FruitHallsModel" 45 "FruitHallsModel" "money" "[I" ∈ wAll := wAll_t (i := 800) rfl rfl
set_option maxRecDepth 20000 in
theorem kf_X10_48 : Cond.fieldLink "FruitHallsModel" 48 "FruitHallsModel" "left" "[I" ∈ wAll := wAll_t (i := 801) rfl rfl
set_option maxRecDepth 20000 in
theorem kf_X10_51 : Cond.fieldLink "FruitHallsModel" 51 "FruitHallsModel" "wants" "[I" ∈ wAll := wAll_t (i := 802) rfl rfl
set_option maxRecDepth 20000 in
theorem kf_X10_54 : Cond.fieldLink "FruitHallsModel" 54 "FruitHallsModel" "limits" "[I" ∈ wAll := wAll_t (i := 803) rfl rfl
set_option maxRecDepth 20000 in
theorem kf_X10_57 : Cond.fieldLink "FruitHallsModel" 57 "FruitHallsModel" "sLot" "[I" ∈ wAll := wAll_t (i := 804) rfl rfl
set_option maxRecDepth 20000 in
theorem kf_X10_60 : Cond.fieldLink "FruitHallsModel" 60 "FruitHallsModel" "sBuyer" "[I" ∈ wAll := wAll_t (i := 805) rfl rfl
set_option maxRecDepth 20000 in
theorem kf_X10_63 : Cond.fieldLink "FruitHallsModel" 63 "FruitHallsModel" "sDay" "[I" ∈ wAll := wAll_t (i := 806) rfl rfl
set_option maxRecDepth 20000 in
theorem kf_X10_66 : Cond.fieldLink "FruitHallsModel" 66 "FruitHallsModel" "sBoxes" "[I" ∈ wAll := wAll_t (i := 807) rfl rfl
set_option maxRecDepth 20000 in
theorem kf_X10_69 : Cond.fieldLink "FruitHallsModel" 69 "FruitHallsModel" "sPrice" "[I" ∈ wAll := wAll_t (i := 808) rfl rfl
set_option maxRecDepth 20000 in
theorem kf_X10_72 : Cond.fieldLink "FruitHallsModel" 72 "FruitHallsModel" "sRejected" "[I" ∈ wAll := wAll_t (i := 809) rfl rfl
set_option maxRecDepth 20000 in
theorem kf_X10_198 : Cond.fieldLink "FruitHallsModel" 198 "FruitHallsModel" "sales" "I" ∈ wAll := wAll_t (i := 810) rfl rfl
set_option maxRecDepth 20000 in
theorem kf_X10_75 : Cond.fieldLink "FruitHallsModel" 75 "FruitHallsModel" "offered" "[I" ∈ wAll := wAll_t (i := 811) rfl rfl
set_option maxRecDepth 20000 in
theorem kf_X10_78 : Cond.fieldLink "FruitHallsModel" 78 "FruitHallsModel" "turn" "[I" ∈ wAll := wAll_t (i := 812) rfl rfl
set_option maxRecDepth 20000 in
theorem kf_X10_81 : Cond.fieldLink "FruitHallsModel" 81 "FruitHallsModel" "weight" "[J" ∈ wAll := wAll_t (i := 813) rfl rfl
set_option maxRecDepth 20000 in
theorem kf_X10_85 : Cond.fieldLink "FruitHallsModel" 85 "FruitHallsModel" "rest" "[J" ∈ wAll := wAll_t (i := 814) rfl rfl
set_option maxRecDepth 20000 in
theorem kf_X10_88 : Cond.fieldLink "FruitHallsModel" 88 "FruitHallsModel" "paid" "[J" ∈ wAll := wAll_t (i := 815) rfl rfl
set_option maxRecDepth 20000 in
theorem kf_X10_91 : Cond.fieldLink "FruitHallsModel" 91 "FruitHallsModel" "worths" "[I" ∈ wAll := wAll_t (i := 816) rfl rfl
set_option maxRecDepth 20000 in
theorem kf_X10_94 : Cond.fieldLink "FruitHallsModel" 94 "FruitHallsModel" "sent" "[I" ∈ wAll := wAll_t (i := 817) rfl rfl
set_option maxRecDepth 20000 in
theorem kf_X10_231 : Cond.fieldLink "FruitHallsModel" 231 "FruitHallsModel" "isSent" "Z" ∈ wAll := wAll_t (i := 818) rfl rfl
set_option maxRecDepth 20000 in
theorem km_L_22 : Cond.methodLink "FruitHallsLaw" 22 ⟨"FruitHalls", "<init>", "()V"⟩ ∈ wAll := wAll_t (i := 23) rfl rfl
set_option maxRecDepth 20000 in
theorem km_X9_1 : Cond.methodLink "FruitHalls" 1 ⟨"java/lang/Object", "<init>", "()V"⟩ ∈ wAll := wAll_t (i := 26) rfl rfl
set_option maxRecDepth 20000 in
theorem km_X8_3 : Cond.methodLink "FruitHalls$Tape" 3 ⟨"java/lang/Object", "<init>", "()V"⟩ ∈ wAll := wAll_t (i := 34) rfl rfl
set_option maxRecDepth 20000 in
theorem km_X9_18 : Cond.methodLink "FruitHalls" 18 ⟨"FruitHalls$Rules", "<init>", "()V"⟩ ∈ wAll := wAll_t (i := 47) rfl rfl
set_option maxRecDepth 20000 in
theorem km_X6_3 : Cond.methodLink "FruitHalls$Rules" 3 ⟨"java/lang/Object", "<init>", "()V"⟩ ∈ wAll := wAll_t (i := 50) rfl rfl
set_option maxRecDepth 20000 in
theorem km_X6_18 : Cond.methodLink "FruitHalls$Rules" 18 ⟨"FruitHalls$Rules", "clear", "()V"⟩ ∈ wAll := wAll_t (i := 51) rfl rfl
set_option maxRecDepth 20000 in
theorem km_X9_25 : Cond.methodLink "FruitHalls" 25 ⟨"FruitHalls$RuleReader", "<init>", "(LFruitHalls$Tape;)V"⟩ ∈ wAll := wAll_t (i := 83) rfl rfl
set_option maxRecDepth 20000 in
theorem km_X5_3 : Cond.methodLink "FruitHalls$RuleReader" 3 ⟨"java/lang/Object", "<init>", "()V"⟩ ∈ wAll := wAll_t (i := 86) rfl rfl
set_option maxRecDepth 20000 in
theorem km_X5_11 : Cond.methodLink "FruitHalls$RuleReader" 11 ⟨"FruitHalls$Rules", "<init>", "()V"⟩ ∈ wAll := wAll_t (i := 88) rfl rfl
set_option maxRecDepth 20000 in
theorem km_X2_3 : Cond.methodLink "FruitHalls$Lots" 3 ⟨"java/lang/Object", "<init>", "()V"⟩ ∈ wAll := wAll_t (i := 132) rfl rfl
set_option maxRecDepth 20000 in
theorem km_X7_3 : Cond.methodLink "FruitHalls$Sales" 3 ⟨"java/lang/Object", "<init>", "()V"⟩ ∈ wAll := wAll_t (i := 175) rfl rfl
set_option maxRecDepth 20000 in
theorem km_X0_3 : Cond.methodLink "FruitHalls$Buyers" 3 ⟨"java/lang/Object", "<init>", "()V"⟩ ∈ wAll := wAll_t (i := 223) rfl rfl
set_option maxRecDepth 20000 in
theorem km_X9_55 : Cond.methodLink "FruitHalls" 55 ⟨"FruitHalls$Payout", "<init>", "(LFruitHalls$Lots;LFruitHalls$Sales;LFruitHalls$Rules;)V"⟩ ∈ wAll := wAll_t (i := 243) rfl rfl
set_option maxRecDepth 20000 in
theorem km_X3_3 : Cond.methodLink "FruitHalls$Payout" 3 ⟨"java/lang/Object", "<init>", "()V"⟩ ∈ wAll := wAll_t (i := 246) rfl rfl
set_option maxRecDepth 20000 in
theorem km_X9_64 : Cond.methodLink "FruitHalls" 64 ⟨"FruitHalls$Premium", "<init>", "(LFruitHalls$Lots;LFruitHalls$Sales;)V"⟩ ∈ wAll := wAll_t (i := 266) rfl rfl
set_option maxRecDepth 20000 in
theorem km_X4_3 : Cond.methodLink "FruitHalls$Premium" 3 ⟨"java/lang/Object", "<init>", "()V"⟩ ∈ wAll := wAll_t (i := 269) rfl rfl
set_option maxRecDepth 20000 in
theorem km_X1_3 : Cond.methodLink "FruitHalls$Freight" 3 ⟨"java/lang/Object", "<init>", "()V"⟩ ∈ wAll := wAll_t (i := 299) rfl rfl
set_option maxRecDepth 20000 in
theorem km_L_26 : Cond.methodLink "FruitHallsLaw" 26 ⟨"FruitHalls", "feed", "(IIIII)I"⟩ ∈ wAll := wAll_t (i := 352) rfl rfl
set_option maxRecDepth 20000 in
theorem km_X9_92 : Cond.methodLink "FruitHalls" 92 ⟨"FruitHalls$Tape", "append", "(I)V"⟩ ∈ wAll := wAll_t (i := 356) rfl rfl
set_option maxRecDepth 20000 in
theorem km_L_31 : Cond.methodLink "FruitHallsLaw" 31 ⟨"FruitHalls", "end", "(I)Z"⟩ ∈ wAll := wAll_t (i := 360) rfl rfl
set_option maxRecDepth 20000 in
theorem km_L_36 : Cond.methodLink "FruitHallsLaw" 36 ⟨"FruitHalls", "rules", "()I"⟩ ∈ wAll := wAll_t (i := 364) rfl rfl
set_option maxRecDepth 20000 in
theorem km_X9_96 : Cond.methodLink "FruitHalls" 96 ⟨"FruitHalls$RuleReader", "read", "()V"⟩ ∈ wAll := wAll_t (i := 368) rfl rfl
set_option maxRecDepth 20000 in
theorem km_X5_29 : Cond.methodLink "FruitHalls$RuleReader" 29 ⟨"FruitHalls$RuleReader", "forget", "()V"⟩ ∈ wAll := wAll_t (i := 372) rfl rfl
set_option maxRecDepth 20000 in
theorem km_X5_45 : Cond.methodLink "FruitHalls$RuleReader" 45 ⟨"FruitHalls$Rules", "clear", "()V"⟩ ∈ wAll := wAll_t (i := 376) rfl rfl
set_option maxRecDepth 20000 in
theorem km_X5_32 : Cond.methodLink "FruitHalls$RuleReader" 32 ⟨"FruitHalls$RuleReader", "step", "()V"⟩ ∈ wAll := wAll_t (i := 377) rfl rfl
set_option maxRecDepth 20000 in
theorem km_X5_117 : Cond.methodLink "FruitHalls$RuleReader" 117 ⟨"FruitHalls$Tape", "byteAt", "(I)I"⟩ ∈ wAll := wAll_t (i := 381) rfl rfl
set_option maxRecDepth 20000 in
theorem km_X5_125 : Cond.methodLink "FruitHalls$RuleReader" 125 ⟨"FruitHalls$RuleReader", "isBlank", "(I)Z"⟩ ∈ wAll := wAll_t (i := 385) rfl rfl
set_option maxRecDepth 20000 in
theorem km_X5_129 : Cond.methodLink "FruitHalls$RuleReader" 129 ⟨"FruitHalls$RuleReader", "isLetter", "(I)Z"⟩ ∈ wAll := wAll_t (i := 388) rfl rfl
set_option maxRecDepth 20000 in
theorem km_X5_132 : Cond.methodLink "FruitHalls$RuleReader" 132 ⟨"FruitHalls$RuleReader", "isDigit", "(I)Z"⟩ ∈ wAll := wAll_t (i := 391) rfl rfl
set_option maxRecDepth 20000 in
theorem km_X5_135 : Cond.methodLink "FruitHalls$RuleReader" 135 ⟨"FruitHalls$RuleReader", "stepOverRun", "()V"⟩ ∈ wAll := wAll_t (i := 394) rfl rfl
set_option maxRecDepth 20000 in
theorem km_X5_42 : Cond.methodLink "FruitHalls$RuleReader" 42 ⟨"FruitHalls$RuleReader", "readRule", "()V"⟩ ∈ wAll := wAll_t (i := 398) rfl rfl
set_option maxRecDepth 20000 in
theorem km_X5_63 : Cond.methodLink "FruitHalls$RuleReader" 63 ⟨"FruitHalls$RuleReader", "isWord", "(Ljava/lang/String;)Z"⟩ ∈ wAll := wAll_t (i := 403) rfl rfl
set_option maxRecDepth 20000 in
theorem km_X5_138 : Cond.methodLink "FruitHalls$RuleReader" 138 ⟨"java/lang/String", "length", "()I"⟩ ∈ wAll := wAll_t (i := 407) rfl rfl
set_option maxRecDepth 20000 in
theorem km_X5_144 : Cond.methodLink "FruitHalls$RuleReader" 144 ⟨"java/lang/String", "charAt", "(I)C"⟩ ∈ wAll := wAll_t (i := 417) rfl rfl
set_option maxRecDepth 20000 in
theorem km_X5_70 : Cond.methodLink "FruitHalls$RuleReader" 70 ⟨"FruitHalls$RuleReader", "readByGrade", "([I[ZI)V"⟩ ∈ wAll := wAll_t (i := 455) rfl rfl
set_option maxRecDepth 20000 in
theorem km_X5_91 : Cond.methodLink "FruitHalls$RuleReader" 91 ⟨"FruitHalls$RuleReader", "takeNumber", "(I)I"⟩ ∈ wAll := wAll_t (i := 459) rfl rfl
set_option maxRecDepth 20000 in
theorem km_X5_88 : Cond.methodLink "FruitHalls$RuleReader" 88 ⟨"FruitHalls$RuleReader", "refuseToken", "()V"⟩ ∈ wAll := wAll_t (i := 463) rfl rfl
set_option maxRecDepth 20000 in
theorem km_X5_95 : Cond.methodLink "FruitHalls$RuleReader" 95 ⟨"FruitHalls$RuleReader", "refuse", "(I)V"⟩ ∈ wAll := wAll_t (i := 467) rfl rfl
set_option maxRecDepth 20000 in
theorem km_X5_99 : Cond.methodLink "FruitHalls$RuleReader" 99 ⟨"FruitHalls$RuleReader", "finishRule", "()V"⟩ ∈ wAll := wAll_t (i := 471) rfl rfl
set_option maxRecDepth 20000 in
theorem km_X5_80 : Cond.methodLink "FruitHalls$RuleReader" 80 ⟨"FruitHalls$RuleReader", "readRot", "()V"⟩ ∈ wAll := wAll_t (i := 477) rfl rfl
set_option maxRecDepth 20000 in
theorem km_X5_85 : Cond.methodLink "FruitHalls$RuleReader" 85 ⟨"FruitHalls$RuleReader", "readLoss", "()V"⟩ ∈ wAll := wAll_t (i := 482) rfl rfl
set_option maxRecDepth 20000 in
theorem km_X9_108 : Cond.methodLink "FruitHalls" 108 ⟨"FruitHalls$Rules", "copy", "(LFruitHalls$Rules;)V"⟩ ∈ wAll := wAll_t (i := 488) rfl rfl
set_option maxRecDepth 20000 in
theorem km_L_41 : Cond.methodLink "FruitHallsLaw" 41 ⟨"FruitHalls", "fault", "()I"⟩ ∈ wAll := wAll_t (i := 493) rfl rfl
set_option maxRecDepth 20000 in
theorem km_L_45 : Cond.methodLink "FruitHallsLaw" 45 ⟨"FruitHalls", "lot", "(IIIII)I"⟩ ∈ wAll := wAll_t (i := 497) rfl rfl
set_option maxRecDepth 20000 in
theorem km_X9_115 : Cond.methodLink "FruitHalls" 115 ⟨"FruitHalls", "isBelow", "(II)Z"⟩ ∈ wAll := wAll_t (i := 501) rfl rfl
set_option maxRecDepth 20000 in
theorem km_X9_120 : Cond.methodLink "FruitHalls" 120 ⟨"FruitHalls$Lots", "add", "(IIIII)I"⟩ ∈ wAll := wAll_t (i := 504) rfl rfl
set_option maxRecDepth 20000 in
theorem km_L_49 : Cond.methodLink "FruitHallsLaw" 49 ⟨"FruitHalls", "money", "(II)Z"⟩ ∈ wAll := wAll_t (i := 508) rfl rfl
set_option maxRecDepth 20000 in
theorem km_L_54 : Cond.methodLink "FruitHallsLaw" 54 ⟨"FruitHalls", "want", "(IIIII)Z"⟩ ∈ wAll := wAll_t (i := 513) rfl rfl
set_option maxRecDepth 20000 in
theorem km_X9_131 : Cond.methodLink "FruitHalls" 131 ⟨"FruitHalls", "isWantPlace", "(III)Z"⟩ ∈ wAll := wAll_t (i := 517) rfl rfl
set_option maxRecDepth 20000 in
theorem km_X9_135 : Cond.methodLink "FruitHalls" 135 ⟨"FruitHalls$Buyers", "wantPlace", "(III)I"⟩ ∈ wAll := wAll_t (i := 520) rfl rfl
set_option maxRecDepth 20000 in
theorem km_L_59 : Cond.methodLink "FruitHallsLaw" 59 ⟨"FruitHalls", "auction", "(I)I"⟩ ∈ wAll := wAll_t (i := 523) rfl rfl
set_option maxRecDepth 20000 in
theorem km_X9_146 : Cond.methodLink "FruitHalls" 146 ⟨"FruitHalls", "offerRound", "(I)Z"⟩ ∈ wAll := wAll_t (i := 527) rfl rfl
set_option maxRecDepth 20000 in
theorem km_X9_262 : Cond.methodLink "FruitHalls" 262 ⟨"FruitHalls$Lots", "nextOffered", "(III)I"⟩ ∈ wAll := wAll_t (i := 531) rfl rfl
set_option maxRecDepth 20000 in
theorem km_X2_38 : Cond.methodLink "FruitHalls$Lots" 38 ⟨"java/lang/Math", "max", "(II)I"⟩ ∈ wAll := wAll_t (i := 535) rfl rfl
set_option maxRecDepth 20000 in
theorem km_X2_44 : Cond.methodLink "FruitHalls$Lots" 44 ⟨"java/lang/Math", "min", "(II)I"⟩ ∈ wAll := wAll_t (i := 538) rfl rfl
set_option maxRecDepth 20000 in
theorem km_X9_265 : Cond.methodLink "FruitHalls" 265 ⟨"FruitHalls", "offerLot", "(I)V"⟩ ∈ wAll := wAll_t (i := 541) rfl rfl
set_option maxRecDepth 20000 in
theorem km_X9_271 : Cond.methodLink "FruitHalls" 271 ⟨"FruitHalls$Buyers", "bidOf", "(IIIII)I"⟩ ∈ wAll := wAll_t (i := 545) rfl rfl
set_option maxRecDepth 20000 in
theorem km_X0_24 : Cond.methodLink "FruitHalls$Buyers" 24 ⟨"FruitHalls$Buyers", "wantPlace", "(III)I"⟩ ∈ wAll := wAll_t (i := 549) rfl rfl
set_option maxRecDepth 20000 in
theorem km_X9_248 : Cond.methodLink "FruitHalls" 248 ⟨"java/lang/Math", "max", "(II)I"⟩ ∈ wAll := wAll_t (i := 550) rfl rfl
set_option maxRecDepth 20000 in
theorem km_X9_274 : Cond.methodLink "FruitHalls" 274 ⟨"FruitHalls", "sell", "(III)V"⟩ ∈ wAll := wAll_t (i := 551) rfl rfl
set_option maxRecDepth 20000 in
theorem km_X9_278 : Cond.methodLink "FruitHalls" 278 ⟨"FruitHalls$Buyers", "take", "(IIII)V"⟩ ∈ wAll := wAll_t (i := 555) rfl rfl
set_option maxRecDepth 20000 in
theorem km_X9_282 : Cond.methodLink "FruitHalls" 282 ⟨"FruitHalls$Sales", "add", "(IIIII)I"⟩ ∈ wAll := wAll_t (i := 559) rfl rfl
set_option maxRecDepth 20000 in
theorem km_L_64 : Cond.methodLink "FruitHallsLaw" 64 ⟨"FruitHalls", "reject", "(I)Z"⟩ ∈ wAll := wAll_t (i := 563) rfl rfl
set_option maxRecDepth 20000 in
theorem km_L_68 : Cond.methodLink "FruitHallsLaw" 68 ⟨"FruitHalls", "next", "()I"⟩ ∈ wAll := wAll_t (i := 567) rfl rfl
set_option maxRecDepth 20000 in
theorem km_X9_166 : Cond.methodLink "FruitHalls" 166 ⟨"FruitHalls$Lots", "rotWaiting", "(I)V"⟩ ∈ wAll := wAll_t (i := 571) rfl rfl
set_option maxRecDepth 20000 in
theorem km_X9_169 : Cond.methodLink "FruitHalls" 169 ⟨"FruitHalls$Buyers", "restoreMoney", "()V"⟩ ∈ wAll := wAll_t (i := 575) rfl rfl
set_option maxRecDepth 20000 in
theorem km_L_84 : Cond.methodLink "FruitHallsLaw" 84 ⟨"FruitHalls", "left", "(I)I"⟩ ∈ wAll := wAll_t (i := 579) rfl rfl
set_option maxRecDepth 20000 in
theorem km_L_88 : Cond.methodLink "FruitHallsLaw" 88 ⟨"FruitHalls", "wanted", "(III)I"⟩ ∈ wAll := wAll_t (i := 583) rfl rfl
set_option maxRecDepth 20000 in
theorem km_L_93 : Cond.methodLink "FruitHallsLaw" 93 ⟨"FruitHalls", "pool", "(I)I"⟩ ∈ wAll := wAll_t (i := 587) rfl rfl
set_option maxRecDepth 20000 in
theorem km_X9_214 : Cond.methodLink "FruitHalls" 214 ⟨"FruitHalls$Payout", "poolAsOf", "(I)J"⟩ ∈ wAll := wAll_t (i := 591) rfl rfl
set_option maxRecDepth 20000 in
theorem km_X3_58 : Cond.methodLink "FruitHalls$Payout" 58 ⟨"FruitHalls$Sales", "countsAsOf", "(II)Z"⟩ ∈ wAll := wAll_t (i := 595) rfl rfl
set_option maxRecDepth 20000 in
theorem km_X3_65 : Cond.methodLink "FruitHalls$Payout" 65 ⟨"FruitHalls$Payout", "claimOf", "(I)I"⟩ ∈ wAll := wAll_t (i := 599) rfl rfl
set_option maxRecDepth 20000 in
theorem km_X3_45 : Cond.methodLink "FruitHalls$Payout" 45 ⟨"java/lang/Math", "max", "(II)I"⟩ ∈ wAll := wAll_t (i := 603) rfl rfl
set_option maxRecDepth 20000 in
theorem km_L_97 : Cond.methodLink "FruitHallsLaw" 97 ⟨"FruitHalls", "pay", "(II)I"⟩ ∈ wAll := wAll_t (i := 604) rfl rfl
set_option maxRecDepth 20000 in
theorem km_X9_218 : Cond.methodLink "FruitHalls" 218 ⟨"FruitHalls$Payout", "shareOf", "(II)J"⟩ ∈ wAll := wAll_t (i := 608) rfl rfl
set_option maxRecDepth 20000 in
theorem km_X3_69 : Cond.methodLink "FruitHalls$Payout" 69 ⟨"FruitHalls$Payout", "weigh", "(I)J"⟩ ∈ wAll := wAll_t (i := 612) rfl rfl
set_option maxRecDepth 20000 in
theorem km_X3_73 : Cond.methodLink "FruitHalls$Payout" 73 ⟨"FruitHalls$Payout", "poolAsOf", "(I)J"⟩ ∈ wAll := wAll_t (i := 616) rfl rfl
set_option maxRecDepth 20000 in
theorem km_X3_76 : Cond.methodLink "FruitHalls$Payout" 76 ⟨"FruitHalls$Payout", "placeByRest", "(I)I"⟩ ∈ wAll := wAll_t (i := 617) rfl rfl
set_option maxRecDepth 20000 in
theorem km_L_105 : Cond.methodLink "FruitHallsLaw" 105 ⟨"FruitHalls", "wire", "(IIII)I"⟩ ∈ wAll := wAll_t (i := 621) rfl rfl
set_option maxRecDepth 20000 in
theorem km_X9_238 : Cond.methodLink "FruitHalls" 238 ⟨"FruitHalls", "isWired", "(IIII)Z"⟩ ∈ wAll := wAll_t (i := 625) rfl rfl
set_option maxRecDepth 20000 in
theorem km_X9_286 : Cond.methodLink "FruitHalls" 286 ⟨"FruitHalls$Sales", "countsAsOf", "(II)Z"⟩ ∈ wAll := wAll_t (i := 629) rfl rfl
set_option maxRecDepth 20000 in
theorem km_X9_242 : Cond.methodLink "FruitHalls" 242 ⟨"java/lang/Math", "min", "(II)I"⟩ ∈ wAll := wAll_t (i := 630) rfl rfl
set_option maxRecDepth 20000 in
theorem km_L_110 : Cond.methodLink "FruitHallsLaw" 110 ⟨"FruitHalls", "cars", "(I)I"⟩ ∈ wAll := wAll_t (i := 631) rfl rfl
set_option maxRecDepth 20000 in
theorem km_X9_251 : Cond.methodLink "FruitHalls" 251 ⟨"FruitHalls$Freight", "dispatch", "(LFruitHalls$Tape;I)I"⟩ ∈ wAll := wAll_t (i := 635) rfl rfl
set_option maxRecDepth 20000 in
theorem km_X1_25 : Cond.methodLink "FruitHalls$Freight" 25 ⟨"FruitHalls$Tape", "pairAt", "(I)I"⟩ ∈ wAll := wAll_t (i := 639) rfl rfl
set_option maxRecDepth 20000 in
theorem km_X8_19 : Cond.methodLink "FruitHalls$Tape" 19 ⟨"FruitHalls$Tape", "byteAt", "(I)I"⟩ ∈ wAll := wAll_t (i := 643) rfl rfl
set_option maxRecDepth 20000 in
theorem km_X1_31 : Cond.methodLink "FruitHalls$Freight" 31 ⟨"FruitHalls$Freight", "bestHall", "()I"⟩ ∈ wAll := wAll_t (i := 644) rfl rfl
set_option maxRecDepth 20000 in
theorem km_X1_35 : Cond.methodLink "FruitHalls$Freight" 35 ⟨"java/lang/Math", "max", "(II)I"⟩ ∈ wAll := wAll_t (i := 648) rfl rfl
set_option maxRecDepth 20000 in
theorem km_L_114 : Cond.methodLink "FruitHallsLaw" 114 ⟨"FruitHalls", "sent", "(I)I"⟩ ∈ wAll := wAll_t (i := 649) rfl rfl
set_option maxRecDepth 20000 in
theorem km_L_118 : Cond.methodLink "FruitHallsLaw" 118 ⟨"FruitHalls", "count", "(I)I"⟩ ∈ wAll := wAll_t (i := 653) rfl rfl
set_option maxRecDepth 20000 in
theorem km_L_72 : Cond.methodLink "FruitHallsLaw" 72 ⟨"FruitHallsLaw", "about", "(LFruitHalls;II[J)I"⟩ ∈ wAll := wAll_t (i := 657) rfl rfl
set_option maxRecDepth 20000 in
theorem km_L_7 : Cond.methodLink "FruitHallsLaw" 7 ⟨"FruitHalls", "about", "(II)I"⟩ ∈ wAll := wAll_t (i := 661) rfl rfl
set_option maxRecDepth 20000 in
theorem km_X9_176 : Cond.methodLink "FruitHalls" 176 ⟨"java/util/NoSuchElementException", "<init>", "(Ljava/lang/String;)V"⟩ ∈ wAll := wAll_t (i := 705) rfl rfl
set_option maxRecDepth 20000 in
theorem km_L_81 : Cond.methodLink "FruitHallsLaw" 81 ⟨"FruitHallsLaw", "sale", "(LFruitHalls;II[J)I"⟩ ∈ wAll := wAll_t (i := 731) rfl rfl
set_option maxRecDepth 20000 in
theorem km_L_15 : Cond.methodLink "FruitHallsLaw" 15 ⟨"FruitHalls", "sale", "(II)I"⟩ ∈ wAll := wAll_t (i := 734) rfl rfl
set_option maxRecDepth 20000 in
theorem km_X9_208 : Cond.methodLink "FruitHalls" 208 ⟨"FruitHalls$Payout", "claimOf", "(I)I"⟩ ∈ wAll := wAll_t (i := 739) rfl rfl
set_option maxRecDepth 20000 in
theorem km_L_101 : Cond.methodLink "FruitHallsLaw" 101 ⟨"FruitHallsLaw", "worth", "(LFruitHalls;III[J)I"⟩ ∈ wAll := wAll_t (i := 741) rfl rfl
set_option maxRecDepth 20000 in
theorem km_L_18 : Cond.methodLink "FruitHallsLaw" 18 ⟨"FruitHalls", "worth", "(III)J"⟩ ∈ wAll := wAll_t (i := 744) rfl rfl
set_option maxRecDepth 20000 in
theorem km_X9_226 : Cond.methodLink "FruitHalls" 226 ⟨"FruitHalls$Premium", "reckon", "(II)Z"⟩ ∈ wAll := wAll_t (i := 750) rfl rfl
set_option maxRecDepth 20000 in
theorem km_X4_29 : Cond.methodLink "FruitHalls$Premium" 29 ⟨"FruitHalls$Premium", "gather", "(II)J"⟩ ∈ wAll := wAll_t (i := 754) rfl rfl
set_option maxRecDepth 20000 in
theorem km_X4_55 : Cond.methodLink "FruitHalls$Premium" 55 ⟨"FruitHalls$Sales", "countsAsOf", "(II)Z"⟩ ∈ wAll := wAll_t (i := 758) rfl rfl
set_option maxRecDepth 20000 in
theorem km_X4_33 : Cond.methodLink "FruitHalls$Premium" 33 ⟨"java/lang/Math", "max", "(JJ)J"⟩ ∈ wAll := wAll_t (i := 759) rfl rfl
set_option maxRecDepth 20000 in
theorem km_X4_46 : Cond.methodLink "FruitHalls$Premium" 46 ⟨"FruitHalls$Premium", "reduce", "()V"⟩ ∈ wAll := wAll_t (i := 762) rfl rfl
set_option maxRecDepth 20000 in
theorem km_X4_74 : Cond.methodLink "FruitHalls$Premium" 74 ⟨"java/lang/Math", "abs", "(J)J"⟩ ∈ wAll := wAll_t (i := 766) rfl rfl
set_option maxRecDepth 20000 in
theorem km_L_25 : Cond.methodLink "FruitHallsLaw" 25 ⟨"FruitHallsModel", "<init>", "()V"⟩ ∈ wAll := wAll_t (i := 772) rfl rfl
set_option maxRecDepth 20000 in
theorem km_X10_1 : Cond.methodLink "FruitHallsModel" 1 ⟨"java/lang/Object", "<init>", "()V"⟩ ∈ wAll := wAll_t (i := 775) rfl rfl
set_option maxRecDepth 20000 in
theorem km_L_78 : Cond.methodLink "FruitHallsLaw" 78 ⟨"FruitHallsModel", "thrown", "()I"⟩ ∈ wAll := wAll_t (i := 906) rfl rfl
set_option maxRecDepth 20000 in
theorem km_L_30 : Cond.methodLink "FruitHallsLaw" 30 ⟨"FruitHallsModel", "feed", "(IIIII)I"⟩ ∈ wAll := wAll_t (i := 910) rfl rfl
set_option maxRecDepth 20000 in
theorem km_X10_104 : Cond.methodLink "FruitHallsModel" 104 ⟨"FruitHallsModel", "four", "(I)V"⟩ ∈ wAll := wAll_t (i := 914) rfl rfl
set_option maxRecDepth 20000 in
theorem km_L_35 : Cond.methodLink "FruitHallsLaw" 35 ⟨"FruitHallsModel", "end", "(I)Z"⟩ ∈ wAll := wAll_t (i := 918) rfl rfl
set_option maxRecDepth 20000 in
theorem km_L_40 : Cond.methodLink "FruitHallsLaw" 40 ⟨"FruitHallsModel", "rules", "()I"⟩ ∈ wAll := wAll_t (i := 922) rfl rfl
set_option maxRecDepth 20000 in
theorem km_X10_148 : Cond.methodLink "FruitHallsModel" 148 ⟨"FruitHallsModel", "taken", "()V"⟩ ∈ wAll := wAll_t (i := 926) rfl rfl
set_option maxRecDepth 20000 in
theorem km_X10_151 : Cond.methodLink "FruitHallsModel" 151 ⟨"FruitHallsModel", "next0", "()V"⟩ ∈ wAll := wAll_t (i := 930) rfl rfl
set_option maxRecDepth 20000 in
theorem km_X10_114 : Cond.methodLink "FruitHallsModel" 114 ⟨"FruitHallsModel", "peek", "()I"⟩ ∈ wAll := wAll_t (i := 934) rfl rfl
set_option maxRecDepth 20000 in
theorem km_X10_124 : Cond.methodLink "FruitHallsModel" 124 ⟨"FruitHallsModel", "isSmall", "(I)Z"⟩ ∈ wAll := wAll_t (i := 938) rfl rfl
set_option maxRecDepth 20000 in
theorem km_X10_128 : Cond.methodLink "FruitHallsModel" 128 ⟨"FruitHallsModel", "isDigit", "(I)Z"⟩ ∈ wAll := wAll_t (i := 941) rfl rfl
set_option maxRecDepth 20000 in
theorem km_X10_154 : Cond.methodLink "FruitHallsModel" 154 ⟨"FruitHallsModel", "rule", "()Z"⟩ ∈ wAll := wAll_t (i := 944) rfl rfl
set_option maxRecDepth 20000 in
theorem km_X10_163 : Cond.methodLink "FruitHallsModel" 163 ⟨"FruitHallsModel", "isWord", "(J)Z"⟩ ∈ wAll := wAll_t (i := 949) rfl rfl
set_option maxRecDepth 20000 in
theorem km_X10_173 : Cond.methodLink "FruitHallsModel" 173 ⟨"FruitHallsModel", "cant", "()Z"⟩ ∈ wAll := wAll_t (i := 956) rfl rfl
set_option maxRecDepth 20000 in
theorem km_X10_144 : Cond.methodLink "FruitHallsModel" 144 ⟨"FruitHallsModel", "wrong", "(II)Z"⟩ ∈ wAll := wAll_t (i := 960) rfl rfl
set_option maxRecDepth 20000 in
theorem km_L_44 : Cond.methodLink "FruitHallsLaw" 44 ⟨"FruitHallsModel", "fault", "()I"⟩ ∈ wAll := wAll_t (i := 966) rfl rfl
set_option maxRecDepth 20000 in
theorem km_L_48 : Cond.methodLink "FruitHallsLaw" 48 ⟨"FruitHallsModel", "lot", "(IIIII)I"⟩ ∈ wAll := wAll_t (i := 970) rfl rfl
set_option maxRecDepth 20000 in
theorem km_X10_183 : Cond.methodLink "FruitHallsModel" 183 ⟨"FruitHallsModel", "isIn", "(III)Z"⟩ ∈ wAll := wAll_t (i := 974) rfl rfl
set_option maxRecDepth 20000 in
theorem km_L_53 : Cond.methodLink "FruitHallsLaw" 53 ⟨"FruitHallsModel", "money", "(II)Z"⟩ ∈ wAll := wAll_t (i := 977) rfl rfl
set_option maxRecDepth 20000 in
theorem km_L_58 : Cond.methodLink "FruitHallsLaw" 58 ⟨"FruitHallsModel", "want", "(IIIII)Z"⟩ ∈ wAll := wAll_t (i := 982) rfl rfl
set_option maxRecDepth 20000 in
theorem km_X10_188 : Cond.methodLink "FruitHallsModel" 188 ⟨"FruitHallsModel", "place", "(III)I"⟩ ∈ wAll := wAll_t (i := 986) rfl rfl
set_option maxRecDepth 20000 in
theorem km_L_63 : Cond.methodLink "FruitHallsLaw" 63 ⟨"FruitHallsModel", "auction", "(I)I"⟩ ∈ wAll := wAll_t (i := 989) rfl rfl
set_option maxRecDepth 20000 in
theorem km_X10_195 : Cond.methodLink "FruitHallsModel" 195 ⟨"FruitHallsModel", "offer", "(I)Z"⟩ ∈ wAll := wAll_t (i := 993) rfl rfl
set_option maxRecDepth 20000 in
theorem km_X10_201 : Cond.methodLink "FruitHallsModel" 201 ⟨"FruitHallsModel", "bids", "(II)Z"⟩ ∈ wAll := wAll_t (i := 997) rfl rfl
set_option maxRecDepth 20000 in
theorem km_L_67 : Cond.methodLink "FruitHallsLaw" 67 ⟨"FruitHallsModel", "reject", "(I)Z"⟩ ∈ wAll := wAll_t (i := 1001) rfl rfl
set_option maxRecDepth 20000 in
theorem km_X10_204 : Cond.methodLink "FruitHallsModel" 204 ⟨"FruitHallsModel", "isSale", "(I)Z"⟩ ∈ wAll := wAll_t (i := 1005) rfl rfl
set_option maxRecDepth 20000 in
theorem km_L_71 : Cond.methodLink "FruitHallsLaw" 71 ⟨"FruitHallsModel", "next", "()I"⟩ ∈ wAll := wAll_t (i := 1009) rfl rfl
set_option maxRecDepth 20000 in
theorem km_L_77 : Cond.methodLink "FruitHallsLaw" 77 ⟨"FruitHallsModel", "about", "(II)I"⟩ ∈ wAll := wAll_t (i := 1013) rfl rfl
set_option maxRecDepth 20000 in
theorem km_X10_207 : Cond.methodLink "FruitHallsModel" 207 ⟨"FruitHallsModel", "throwsIf", "(Z)Z"⟩ ∈ wAll := wAll_t (i := 1017) rfl rfl
set_option maxRecDepth 20000 in
theorem km_L_83 : Cond.methodLink "FruitHallsLaw" 83 ⟨"FruitHallsModel", "sale", "(II)I"⟩ ∈ wAll := wAll_t (i := 1021) rfl rfl
set_option maxRecDepth 20000 in
theorem km_X10_215 : Cond.methodLink "FruitHallsModel" 215 ⟨"FruitHallsModel", "claimOf", "(I)I"⟩ ∈ wAll := wAll_t (i := 1025) rfl rfl
set_option maxRecDepth 20000 in
theorem km_X10_211 : Cond.methodLink "FruitHallsModel" 211 ⟨"FruitHallsModel", "nextOf", "(I)I"⟩ ∈ wAll := wAll_t (i := 1029) rfl rfl
set_option maxRecDepth 20000 in
theorem km_L_87 : Cond.methodLink "FruitHallsLaw" 87 ⟨"FruitHallsModel", "left", "(I)I"⟩ ∈ wAll := wAll_t (i := 1033) rfl rfl
set_option maxRecDepth 20000 in
theorem km_L_92 : Cond.methodLink "FruitHallsLaw" 92 ⟨"FruitHallsModel", "wanted", "(III)I"⟩ ∈ wAll := wAll_t (i := 1037) rfl rfl
set_option maxRecDepth 20000 in
theorem km_L_96 : Cond.methodLink "FruitHallsLaw" 96 ⟨"FruitHallsModel", "pool", "(I)I"⟩ ∈ wAll := wAll_t (i := 1041) rfl rfl
set_option maxRecDepth 20000 in
theorem km_X10_221 : Cond.methodLink "FruitHallsModel" 221 ⟨"FruitHallsModel", "poolOf", "(I)J"⟩ ∈ wAll := wAll_t (i := 1045) rfl rfl
set_option maxRecDepth 20000 in
theorem km_X10_218 : Cond.methodLink "FruitHallsModel" 218 ⟨"FruitHallsModel", "counts", "(II)Z"⟩ ∈ wAll := wAll_t (i := 1049) rfl rfl
set_option maxRecDepth 20000 in
theorem km_L_100 : Cond.methodLink "FruitHallsLaw" 100 ⟨"FruitHallsModel", "pay", "(II)I"⟩ ∈ wAll := wAll_t (i := 1053) rfl rfl
set_option maxRecDepth 20000 in
theorem km_L_104 : Cond.methodLink "FruitHallsLaw" 104 ⟨"FruitHallsModel", "worth", "(III)J"⟩ ∈ wAll := wAll_t (i := 1058) rfl rfl
set_option maxRecDepth 20000 in
theorem km_X10_227 : Cond.methodLink "FruitHallsModel" 227 ⟨"FruitHallsModel", "common", "(JJ)J"⟩ ∈ wAll := wAll_t (i := 1062) rfl rfl
set_option maxRecDepth 20000 in
theorem km_L_109 : Cond.methodLink "FruitHallsLaw" 109 ⟨"FruitHallsModel", "wire", "(IIII)I"⟩ ∈ wAll := wAll_t (i := 1065) rfl rfl
set_option maxRecDepth 20000 in
theorem km_L_113 : Cond.methodLink "FruitHallsLaw" 113 ⟨"FruitHallsModel", "cars", "(I)I"⟩ ∈ wAll := wAll_t (i := 1069) rfl rfl
set_option maxRecDepth 20000 in
theorem km_L_117 : Cond.methodLink "FruitHallsLaw" 117 ⟨"FruitHallsModel", "sent", "(I)I"⟩ ∈ wAll := wAll_t (i := 1073) rfl rfl
set_option maxRecDepth 20000 in
theorem km_L_121 : Cond.methodLink "FruitHallsLaw" 121 ⟨"FruitHallsModel", "count", "(I)I"⟩ ∈ wAll := wAll_t (i := 1077) rfl rfl
set_option maxRecDepth 20000 in
theorem kc_L_8 : Cond.classLink "FruitHallsLaw" 8 "FruitHalls" ∈ wAll := wAll_t (i := 21) rfl rfl
set_option maxRecDepth 20000 in
theorem kc_X9_7 : Cond.classLink "FruitHalls" 7 "FruitHalls$Tape" ∈ wAll := wAll_t (i := 29) rfl rfl
set_option maxRecDepth 20000 in
theorem kc_X9_16 : Cond.classLink "FruitHalls" 16 "FruitHalls$Rules" ∈ wAll := wAll_t (i := 45) rfl rfl
set_option maxRecDepth 20000 in
theorem kc_X9_23 : Cond.classLink "FruitHalls" 23 "FruitHalls$RuleReader" ∈ wAll := wAll_t (i := 81) rfl rfl
set_option maxRecDepth 20000 in
theorem kc_X5_9 : Cond.classLink "FruitHalls$RuleReader" 9 "FruitHalls$Rules" ∈ wAll := wAll_t (i := 87) rfl rfl
set_option maxRecDepth 20000 in
theorem kc_X9_32 : Cond.classLink "FruitHalls" 32 "FruitHalls$Lots" ∈ wAll := wAll_t (i := 127) rfl rfl
set_option maxRecDepth 20000 in
theorem kc_X9_39 : Cond.classLink "FruitHalls" 39 "FruitHalls$Sales" ∈ wAll := wAll_t (i := 170) rfl rfl
set_option maxRecDepth 20000 in
theorem kc_X9_46 : Cond.classLink "FruitHalls" 46 "FruitHalls$Buyers" ∈ wAll := wAll_t (i := 218) rfl rfl
set_option maxRecDepth 20000 in
theorem kc_X9_53 : Cond.classLink "FruitHalls" 53 "FruitHalls$Payout" ∈ wAll := wAll_t (i := 241) rfl rfl
set_option maxRecDepth 20000 in
theorem kc_X9_62 : Cond.classLink "FruitHalls" 62 "FruitHalls$Premium" ∈ wAll := wAll_t (i := 264) rfl rfl
set_option maxRecDepth 20000 in
theorem kc_X9_71 : Cond.classLink "FruitHalls" 71 "FruitHalls$Freight" ∈ wAll := wAll_t (i := 294) rfl rfl
set_option maxRecDepth 20000 in
theorem kc_L_13 : Cond.classLink "FruitHallsLaw" 13 "java/util/NoSuchElementException" ∈ wAll := wAll_t (i := 660) rfl rfl
set_option maxRecDepth 20000 in
theorem kc_X9_172 : Cond.classLink "FruitHalls" 172 "java/util/NoSuchElementException" ∈ wAll := wAll_t (i := 665) rfl rfl
set_option maxRecDepth 20000 in
theorem kc_L_23 : Cond.classLink "FruitHallsLaw" 23 "FruitHallsModel" ∈ wAll := wAll_t (i := 770) rfl rfl
set_option maxRecDepth 20000 in
theorem kn_X9 : Cond.instantiable "FruitHalls" 12 ∈ wAll := wAll_t (i := 22) rfl rfl
set_option maxRecDepth 20000 in
theorem kn_X8 : Cond.instantiable "FruitHalls$Tape" 2 ∈ wAll := wAll_t (i := 30) rfl rfl
set_option maxRecDepth 20000 in
theorem kn_X6 : Cond.instantiable "FruitHalls$Rules" 5 ∈ wAll := wAll_t (i := 46) rfl rfl
set_option maxRecDepth 20000 in
theorem kn_X5 : Cond.instantiable "FruitHalls$RuleReader" 11 ∈ wAll := wAll_t (i := 82) rfl rfl
set_option maxRecDepth 20000 in
theorem kn_X2 : Cond.instantiable "FruitHalls$Lots" 8 ∈ wAll := wAll_t (i := 128) rfl rfl
set_option maxRecDepth 20000 in
theorem kn_X7 : Cond.instantiable "FruitHalls$Sales" 8 ∈ wAll := wAll_t (i := 171) rfl rfl
set_option maxRecDepth 20000 in
theorem kn_X0 : Cond.instantiable "FruitHalls$Buyers" 4 ∈ wAll := wAll_t (i := 219) rfl rfl
set_option maxRecDepth 20000 in
theorem kn_X3 : Cond.instantiable "FruitHalls$Payout" 5 ∈ wAll := wAll_t (i := 242) rfl rfl
set_option maxRecDepth 20000 in
theorem kn_X4 : Cond.instantiable "FruitHalls$Premium" 7 ∈ wAll := wAll_t (i := 265) rfl rfl
set_option maxRecDepth 20000 in
theorem kn_X1 : Cond.instantiable "FruitHalls$Freight" 4 ∈ wAll := wAll_t (i := 295) rfl rfl
set_option maxRecDepth 20000 in
theorem kn_X10 : Cond.instantiable "FruitHallsModel" 43 ∈ wAll := wAll_t (i := 771) rfl rfl
set_option maxRecDepth 20000 in
theorem ki_L : Cond.initialized "FruitHallsLaw" ∈ wAll := wAll_t (i := 0) rfl rfl
set_option maxRecDepth 20000 in
theorem ki_X9 : Cond.initialized "FruitHalls" ∈ wAll := wAll_t (i := 1) rfl rfl
set_option maxRecDepth 20000 in
theorem ki_X8 : Cond.initialized "FruitHalls$Tape" ∈ wAll := wAll_t (i := 2) rfl rfl
set_option maxRecDepth 20000 in
theorem ki_X6 : Cond.initialized "FruitHalls$Rules" ∈ wAll := wAll_t (i := 3) rfl rfl
set_option maxRecDepth 20000 in
theorem ki_X5 : Cond.initialized "FruitHalls$RuleReader" ∈ wAll := wAll_t (i := 4) rfl rfl
set_option maxRecDepth 20000 in
theorem ki_X2 : Cond.initialized "FruitHalls$Lots" ∈ wAll := wAll_t (i := 5) rfl rfl
set_option maxRecDepth 20000 in
theorem ki_X7 : Cond.initialized "FruitHalls$Sales" ∈ wAll := wAll_t (i := 6) rfl rfl
set_option maxRecDepth 20000 in
theorem ki_X0 : Cond.initialized "FruitHalls$Buyers" ∈ wAll := wAll_t (i := 7) rfl rfl
set_option maxRecDepth 20000 in
theorem ki_X3 : Cond.initialized "FruitHalls$Payout" ∈ wAll := wAll_t (i := 8) rfl rfl
set_option maxRecDepth 20000 in
theorem ki_X4 : Cond.initialized "FruitHalls$Premium" ∈ wAll := wAll_t (i := 9) rfl rfl
set_option maxRecDepth 20000 in
theorem ki_X1 : Cond.initialized "FruitHalls$Freight" ∈ wAll := wAll_t (i := 10) rfl rfl
set_option maxRecDepth 20000 in
theorem ki_X10 : Cond.initialized "FruitHallsModel" ∈ wAll := wAll_t (i := 11) rfl rfl
set_option maxRecDepth 20000 in
theorem kk_X9_124 : Cond.constant "FruitHalls" 124 (1000000 : Int32) ∈ wAll := wAll_t (i := 512) rfl rfl
set_option maxRecDepth 20000 in
theorem kk_X10_187 : Cond.constant "FruitHallsModel" 187 (1000000 : Int32) ∈ wAll := wAll_t (i := 981) rfl rfl
set_option maxRecDepth 20000 in
theorem kk_X10_161 : Cond.constantLong "FruitHallsModel" 161 (32199693642659429 : Int64) ∈ wAll := wAll_t (i := 948) rfl rfl
set_option maxRecDepth 20000 in
theorem kk_X10_167 : Cond.constantLong "FruitHallsModel" 167 (1885434484 : Int64) ∈ wAll := wAll_t (i := 953) rfl rfl
set_option maxRecDepth 20000 in
theorem kk_X10_169 : Cond.constantLong "FruitHallsModel" 169 (7499636 : Int64) ∈ wAll := wAll_t (i := 954) rfl rfl
set_option maxRecDepth 20000 in
theorem kk_X10_171 : Cond.constantLong "FruitHallsModel" 171 (1819243379 : Int64) ∈ wAll := wAll_t (i := 955) rfl rfl
set_option maxRecDepth 20000 in
theorem kk_X10_176 : Cond.constantLong "FruitHallsModel" 176 (422877685106 : Int64) ∈ wAll := wAll_t (i := 964) rfl rfl
set_option maxRecDepth 20000 in
theorem kk_X10_178 : Cond.constantLong "FruitHallsModel" 178 (1886351212 : Int64) ∈ wAll := wAll_t (i := 965) rfl rfl
set_option maxRecDepth 20000 in
theorem kk_X10_225 : Cond.constantLong "FruitHallsModel" 225 (-1 : Int64) ∈ wAll := wAll_t (i := 1057) rfl rfl
set_option maxRecDepth 20000 in
theorem inX0 : ∀ w ∈ u_ws RX0 TX0 4, w ∈ wAll := by
  intro w hw
  obtain ⟨k, hk, rfl⟩ := List.mem_map.mp hw
  have hk := List.mem_range.mp hk
  match k, hk with
  | 0, _ => exact wAll_t (i := 232) rfl rfl
  | 1, _ => exact wAll_t (i := 234) rfl rfl
  | 2, _ => exact wAll_t (i := 236) rfl rfl
  | 3, _ => exact wAll_t (i := 238) rfl rfl
  | k + 4, h => exact absurd h (by omega)
set_option maxRecDepth 20000 in
theorem inX1 : ∀ w ∈ u_ws RX1 TX1 4, w ∈ wAll := by
  intro w hw
  obtain ⟨k, hk, rfl⟩ := List.mem_map.mp hw
  have hk := List.mem_range.mp hk
  match k, hk with
  | 0, _ => exact wAll_t (i := 306) rfl rfl
  | 1, _ => exact wAll_t (i := 308) rfl rfl
  | 2, _ => exact wAll_t (i := 310) rfl rfl
  | 3, _ => exact wAll_t (i := 312) rfl rfl
  | k + 4, h => exact absurd h (by omega)
set_option maxRecDepth 20000 in
theorem inX2 : ∀ w ∈ u_ws RX2 TX2 8, w ∈ wAll := by
  intro w hw
  obtain ⟨k, hk, rfl⟩ := List.mem_map.mp hw
  have hk := List.mem_range.mp hk
  match k, hk with
  | 0, _ => exact wAll_t (i := 153) rfl rfl
  | 1, _ => exact wAll_t (i := 155) rfl rfl
  | 2, _ => exact wAll_t (i := 157) rfl rfl
  | 3, _ => exact wAll_t (i := 159) rfl rfl
  | 4, _ => exact wAll_t (i := 161) rfl rfl
  | 5, _ => exact wAll_t (i := 163) rfl rfl
  | 6, _ => exact wAll_t (i := 165) rfl rfl
  | 7, _ => exact wAll_t (i := 167) rfl rfl
  | k + 8, h => exact absurd h (by omega)
set_option maxRecDepth 20000 in
theorem inX3 : ∀ w ∈ u_ws RX3 TX3 5, w ∈ wAll := by
  intro w hw
  obtain ⟨k, hk, rfl⟩ := List.mem_map.mp hw
  have hk := List.mem_range.mp hk
  match k, hk with
  | 0, _ => exact wAll_t (i := 252) rfl rfl
  | 1, _ => exact wAll_t (i := 254) rfl rfl
  | 2, _ => exact wAll_t (i := 256) rfl rfl
  | 3, _ => exact wAll_t (i := 258) rfl rfl
  | 4, _ => exact wAll_t (i := 260) rfl rfl
  | k + 5, h => exact absurd h (by omega)
set_option maxRecDepth 20000 in
theorem inX4 : ∀ w ∈ u_ws RX4 TX4 7, w ∈ wAll := by
  intro w hw
  obtain ⟨k, hk, rfl⟩ := List.mem_map.mp hw
  have hk := List.mem_range.mp hk
  match k, hk with
  | 0, _ => exact wAll_t (i := 279) rfl rfl
  | 1, _ => exact wAll_t (i := 281) rfl rfl
  | 2, _ => exact wAll_t (i := 283) rfl rfl
  | 3, _ => exact wAll_t (i := 285) rfl rfl
  | 4, _ => exact wAll_t (i := 287) rfl rfl
  | 5, _ => exact wAll_t (i := 289) rfl rfl
  | 6, _ => exact wAll_t (i := 291) rfl rfl
  | k + 7, h => exact absurd h (by omega)
set_option maxRecDepth 20000 in
theorem inX5 : ∀ w ∈ u_ws RX5 TX5 11, w ∈ wAll := by
  intro w hw
  obtain ⟨k, hk, rfl⟩ := List.mem_map.mp hw
  have hk := List.mem_range.mp hk
  match k, hk with
  | 0, _ => exact wAll_t (i := 103) rfl rfl
  | 1, _ => exact wAll_t (i := 105) rfl rfl
  | 2, _ => exact wAll_t (i := 107) rfl rfl
  | 3, _ => exact wAll_t (i := 109) rfl rfl
  | 4, _ => exact wAll_t (i := 111) rfl rfl
  | 5, _ => exact wAll_t (i := 113) rfl rfl
  | 6, _ => exact wAll_t (i := 115) rfl rfl
  | 7, _ => exact wAll_t (i := 117) rfl rfl
  | 8, _ => exact wAll_t (i := 119) rfl rfl
  | 9, _ => exact wAll_t (i := 121) rfl rfl
  | 10, _ => exact wAll_t (i := 123) rfl rfl
  | k + 11, h => exact absurd h (by omega)
set_option maxRecDepth 20000 in
theorem inX6 : ∀ w ∈ u_ws RX6 TX6 5, w ∈ wAll := by
  intro w hw
  obtain ⟨k, hk, rfl⟩ := List.mem_map.mp hw
  have hk := List.mem_range.mp hk
  match k, hk with
  | 0, _ => exact wAll_t (i := 70) rfl rfl
  | 1, _ => exact wAll_t (i := 72) rfl rfl
  | 2, _ => exact wAll_t (i := 74) rfl rfl
  | 3, _ => exact wAll_t (i := 76) rfl rfl
  | 4, _ => exact wAll_t (i := 78) rfl rfl
  | k + 5, h => exact absurd h (by omega)
set_option maxRecDepth 20000 in
theorem inX7 : ∀ w ∈ u_ws RX7 TX7 8, w ∈ wAll := by
  intro w hw
  obtain ⟨k, hk, rfl⟩ := List.mem_map.mp hw
  have hk := List.mem_range.mp hk
  match k, hk with
  | 0, _ => exact wAll_t (i := 201) rfl rfl
  | 1, _ => exact wAll_t (i := 203) rfl rfl
  | 2, _ => exact wAll_t (i := 205) rfl rfl
  | 3, _ => exact wAll_t (i := 207) rfl rfl
  | 4, _ => exact wAll_t (i := 209) rfl rfl
  | 5, _ => exact wAll_t (i := 211) rfl rfl
  | 6, _ => exact wAll_t (i := 213) rfl rfl
  | 7, _ => exact wAll_t (i := 215) rfl rfl
  | k + 8, h => exact absurd h (by omega)
set_option maxRecDepth 20000 in
theorem inX8 : ∀ w ∈ u_ws RX8 TX8 2, w ∈ wAll := by
  intro w hw
  obtain ⟨k, hk, rfl⟩ := List.mem_map.mp hw
  have hk := List.mem_range.mp hk
  match k, hk with
  | 0, _ => exact wAll_t (i := 39) rfl rfl
  | 1, _ => exact wAll_t (i := 41) rfl rfl
  | k + 2, h => exact absurd h (by omega)
set_option maxRecDepth 20000 in
theorem inX9 : ∀ w ∈ u_ws RX9 TX9 12, w ∈ wAll := by
  intro w hw
  obtain ⟨k, hk, rfl⟩ := List.mem_map.mp hw
  have hk := List.mem_range.mp hk
  match k, hk with
  | 0, _ => exact wAll_t (i := 327) rfl rfl
  | 1, _ => exact wAll_t (i := 329) rfl rfl
  | 2, _ => exact wAll_t (i := 331) rfl rfl
  | 3, _ => exact wAll_t (i := 333) rfl rfl
  | 4, _ => exact wAll_t (i := 335) rfl rfl
  | 5, _ => exact wAll_t (i := 337) rfl rfl
  | 6, _ => exact wAll_t (i := 339) rfl rfl
  | 7, _ => exact wAll_t (i := 341) rfl rfl
  | 8, _ => exact wAll_t (i := 343) rfl rfl
  | 9, _ => exact wAll_t (i := 345) rfl rfl
  | 10, _ => exact wAll_t (i := 347) rfl rfl
  | 11, _ => exact wAll_t (i := 349) rfl rfl
  | k + 12, h => exact absurd h (by omega)
set_option maxRecDepth 20000 in
theorem inX10 : ∀ w ∈ u_ws RX10 TX10 43, w ∈ wAll := by
  intro w hw
  obtain ⟨k, hk, rfl⟩ := List.mem_map.mp hw
  have hk := List.mem_range.mp hk
  match k, hk with
  | 0, _ => exact wAll_t (i := 819) rfl rfl
  | 1, _ => exact wAll_t (i := 821) rfl rfl
  | 2, _ => exact wAll_t (i := 823) rfl rfl
  | 3, _ => exact wAll_t (i := 825) rfl rfl
  | 4, _ => exact wAll_t (i := 827) rfl rfl
  | 5, _ => exact wAll_t (i := 829) rfl rfl
  | 6, _ => exact wAll_t (i := 831) rfl rfl
  | 7, _ => exact wAll_t (i := 833) rfl rfl
  | 8, _ => exact wAll_t (i := 835) rfl rfl
  | 9, _ => exact wAll_t (i := 837) rfl rfl
  | 10, _ => exact wAll_t (i := 839) rfl rfl
  | 11, _ => exact wAll_t (i := 841) rfl rfl
  | 12, _ => exact wAll_t (i := 843) rfl rfl
  | 13, _ => exact wAll_t (i := 845) rfl rfl
  | 14, _ => exact wAll_t (i := 847) rfl rfl
  | 15, _ => exact wAll_t (i := 849) rfl rfl
  | 16, _ => exact wAll_t (i := 851) rfl rfl
  | 17, _ => exact wAll_t (i := 853) rfl rfl
  | 18, _ => exact wAll_t (i := 855) rfl rfl
  | 19, _ => exact wAll_t (i := 857) rfl rfl
  | 20, _ => exact wAll_t (i := 859) rfl rfl
  | 21, _ => exact wAll_t (i := 861) rfl rfl
  | 22, _ => exact wAll_t (i := 863) rfl rfl
  | 23, _ => exact wAll_t (i := 865) rfl rfl
  | 24, _ => exact wAll_t (i := 867) rfl rfl
  | 25, _ => exact wAll_t (i := 869) rfl rfl
  | 26, _ => exact wAll_t (i := 871) rfl rfl
  | 27, _ => exact wAll_t (i := 873) rfl rfl
  | 28, _ => exact wAll_t (i := 875) rfl rfl
  | 29, _ => exact wAll_t (i := 877) rfl rfl
  | 30, _ => exact wAll_t (i := 879) rfl rfl
  | 31, _ => exact wAll_t (i := 881) rfl rfl
  | 32, _ => exact wAll_t (i := 883) rfl rfl
  | 33, _ => exact wAll_t (i := 885) rfl rfl
  | 34, _ => exact wAll_t (i := 887) rfl rfl
  | 35, _ => exact wAll_t (i := 889) rfl rfl
  | 36, _ => exact wAll_t (i := 891) rfl rfl
  | 37, _ => exact wAll_t (i := 893) rfl rfl
  | 38, _ => exact wAll_t (i := 895) rfl rfl
  | 39, _ => exact wAll_t (i := 897) rfl rfl
  | 40, _ => exact wAll_t (i := 899) rfl rfl
  | 41, _ => exact wAll_t (i := 901) rfl rfl
  | 42, _ => exact wAll_t (i := 903) rfl rfl
  | k + 43, h => exact absurd h (by omega)
set_option maxRecDepth 20000 in
theorem ok_X0_init : okI yX0_init cX0_init 1 0 := ⟨⟨ki_X0, wAll_t (i := 222) rfl rfl, by decide +kernel, by decide +kernel, by decide +kernel⟩, wAll_t (i := 221) rfl rfl, rfl⟩
set_option maxRecDepth 20000 in
theorem ok_X0_wantPlace : okS yX0_wantPlace cX0_wantPlace 3 (some .int) 3 := ⟨⟨ki_X0, wAll_t (i := 522) rfl rfl, by decide +kernel, by decide +kernel, by decide +kernel⟩, wAll_t (i := 521) rfl rfl⟩
set_option maxRecDepth 20000 in
theorem ok_X0_bidOf : okV yX0_bidOf cX0_bidOf 9 (some .int) 5 := ⟨⟨ki_X0, wAll_t (i := 548) rfl rfl, by decide +kernel, by decide +kernel, by decide +kernel⟩, wAll_t (i := 546) rfl rfl, wAll_t (i := 547) rfl rfl⟩
set_option maxRecDepth 20000 in
theorem ok_X0_take : okV yX0_take cX0_take 5 none 4 := ⟨⟨ki_X0, wAll_t (i := 558) rfl rfl, by decide +kernel, by decide +kernel, by decide +kernel⟩, wAll_t (i := 556) rfl rfl, wAll_t (i := 557) rfl rfl⟩
set_option maxRecDepth 20000 in
theorem ok_X0_restoreMoney : okV yX0_restoreMoney cX0_restoreMoney 2 none 0 := ⟨⟨ki_X0, wAll_t (i := 578) rfl rfl, by decide +kernel, by decide +kernel, by decide +kernel⟩, wAll_t (i := 576) rfl rfl, wAll_t (i := 577) rfl rfl⟩
set_option maxRecDepth 20000 in
theorem ok_X1_init : okI yX1_init cX1_init 1 0 := ⟨⟨ki_X1, wAll_t (i := 298) rfl rfl, by decide +kernel, by decide +kernel, by decide +kernel⟩, wAll_t (i := 297) rfl rfl, rfl⟩
set_option maxRecDepth 20000 in
theorem ok_X1_dispatch : okV yX1_dispatch cX1_dispatch 6 (some .int) 2 := ⟨⟨ki_X1, wAll_t (i := 638) rfl rfl, by decide +kernel, by decide +kernel, by decide +kernel⟩, wAll_t (i := 636) rfl rfl, wAll_t (i := 637) rfl rfl⟩
set_option maxRecDepth 20000 in
theorem ok_X1_bestHall : okV yX1_bestHall cX1_bestHall 3 (some .int) 0 := ⟨⟨ki_X1, wAll_t (i := 647) rfl rfl, by decide +kernel, by decide +kernel, by decide +kernel⟩, wAll_t (i := 646) rfl rfl, wAll_s (i := 18) rfl rfl⟩
set_option maxRecDepth 20000 in
theorem ok_X2_init : okI yX2_init cX2_init 1 0 := ⟨⟨ki_X2, wAll_t (i := 131) rfl rfl, by decide +kernel, by decide +kernel, by decide +kernel⟩, wAll_t (i := 130) rfl rfl, rfl⟩
set_option maxRecDepth 20000 in
theorem ok_X2_add : okV yX2_add cX2_add 6 (some .int) 5 := ⟨⟨ki_X2, wAll_t (i := 507) rfl rfl, by decide +kernel, by decide +kernel, by decide +kernel⟩, wAll_t (i := 505) rfl rfl, wAll_t (i := 506) rfl rfl⟩
set_option maxRecDepth 20000 in
theorem ok_X2_rotWaiting : okV yX2_rotWaiting cX2_rotWaiting 3 none 1 := ⟨⟨ki_X2, wAll_t (i := 574) rfl rfl, by decide +kernel, by decide +kernel, by decide +kernel⟩, wAll_t (i := 572) rfl rfl, wAll_t (i := 573) rfl rfl⟩
set_option maxRecDepth 20000 in
theorem ok_X2_nextOffered : okV yX2_nextOffered cX2_nextOffered 5 (some .int) 3 := ⟨⟨ki_X2, wAll_t (i := 534) rfl rfl, by decide +kernel, by decide +kernel, by decide +kernel⟩, wAll_t (i := 532) rfl rfl, wAll_t (i := 533) rfl rfl⟩
set_option maxRecDepth 20000 in
theorem ok_X3_init : okI yX3_init cX3_init 4 3 := ⟨⟨ki_X3, wAll_t (i := 245) rfl rfl, by decide +kernel, by decide +kernel, by decide +kernel⟩, wAll_t (i := 244) rfl rfl, rfl⟩
set_option maxRecDepth 20000 in
theorem ok_X3_claimOf : okV yX3_claimOf cX3_claimOf 3 (some .int) 1 := ⟨⟨ki_X3, wAll_t (i := 602) rfl rfl, by decide +kernel, by decide +kernel, by decide +kernel⟩, wAll_t (i := 600) rfl rfl, wAll_t (i := 601) rfl rfl⟩
set_option maxRecDepth 20000 in
theorem ok_X3_poolAsOf : okV yX3_poolAsOf cX3_poolAsOf 6 (some .long) 1 := ⟨⟨ki_X3, wAll_t (i := 594) rfl rfl, by decide +kernel, by decide +kernel, by decide +kernel⟩, wAll_t (i := 592) rfl rfl, wAll_t (i := 593) rfl rfl⟩
set_option maxRecDepth 20000 in
theorem ok_X3_shareOf : okV yX3_shareOf cX3_shareOf 11 (some .long) 2 := ⟨⟨ki_X3, wAll_t (i := 611) rfl rfl, by decide +kernel, by decide +kernel, by decide +kernel⟩, wAll_t (i := 609) rfl rfl, wAll_t (i := 610) rfl rfl⟩
set_option maxRecDepth 20000 in
theorem ok_X3_weigh : okV yX3_weigh cX3_weigh 8 (some .long) 1 := ⟨⟨ki_X3, wAll_t (i := 615) rfl rfl, by decide +kernel, by decide +kernel, by decide +kernel⟩, wAll_t (i := 614) rfl rfl, wAll_s (i := 15) rfl rfl⟩
set_option maxRecDepth 20000 in
theorem ok_X3_placeByRest : okV yX3_placeByRest cX3_placeByRest 4 (some .int) 1 := ⟨⟨ki_X3, wAll_t (i := 620) rfl rfl, by decide +kernel, by decide +kernel, by decide +kernel⟩, wAll_t (i := 619) rfl rfl, wAll_s (i := 16) rfl rfl⟩
set_option maxRecDepth 20000 in
theorem ok_X4_init : okI yX4_init cX4_init 3 2 := ⟨⟨ki_X4, wAll_t (i := 268) rfl rfl, by decide +kernel, by decide +kernel, by decide +kernel⟩, wAll_t (i := 267) rfl rfl, rfl⟩
set_option maxRecDepth 20000 in
theorem ok_X4_reckon : okV yX4_reckon cX4_reckon 10 (some .boolean) 2 := ⟨⟨ki_X4, wAll_t (i := 753) rfl rfl, by decide +kernel, by decide +kernel, by decide +kernel⟩, wAll_t (i := 751) rfl rfl, wAll_t (i := 752) rfl rfl⟩
set_option maxRecDepth 20000 in
theorem ok_X4_gather : okV yX4_gather cX4_gather 8 (some .long) 2 := ⟨⟨ki_X4, wAll_t (i := 757) rfl rfl, by decide +kernel, by decide +kernel, by decide +kernel⟩, wAll_t (i := 756) rfl rfl, wAll_s (i := 20) rfl rfl⟩
set_option maxRecDepth 20000 in
theorem ok_X4_reduce : okV yX4_reduce cX4_reduce 8 none 0 := ⟨⟨ki_X4, wAll_t (i := 765) rfl rfl, by decide +kernel, by decide +kernel, by decide +kernel⟩, wAll_t (i := 764) rfl rfl, wAll_s (i := 21) rfl rfl⟩
set_option maxRecDepth 20000 in
theorem ok_X5_init : okI yX5_init cX5_init 2 1 := ⟨⟨ki_X5, wAll_t (i := 85) rfl rfl, by decide +kernel, by decide +kernel, by decide +kernel⟩, wAll_t (i := 84) rfl rfl, rfl⟩
set_option maxRecDepth 20000 in
theorem ok_X5_read : okV yX5_read cX5_read 2 none 0 := ⟨⟨ki_X5, wAll_t (i := 371) rfl rfl, by decide +kernel, by decide +kernel, by decide +kernel⟩, wAll_t (i := 369) rfl rfl, wAll_t (i := 370) rfl rfl⟩
set_option maxRecDepth 20000 in
theorem ok_X5_forget : okV yX5_forget cX5_forget 2 none 0 := ⟨⟨ki_X5, wAll_t (i := 375) rfl rfl, by decide +kernel, by decide +kernel, by decide +kernel⟩, wAll_t (i := 374) rfl rfl, wAll_s (i := 0) rfl rfl⟩
set_option maxRecDepth 20000 in
theorem ok_X5_readRule : okV yX5_readRule cX5_readRule 1 none 0 := ⟨⟨ki_X5, wAll_t (i := 401) rfl rfl, by decide +kernel, by decide +kernel, by decide +kernel⟩, wAll_t (i := 400) rfl rfl, wAll_s (i := 3) rfl rfl⟩
set_option maxRecDepth 20000 in
theorem ok_X5_readByGrade : okV yX5_readByGrade cX5_readByGrade 6 none 3 := ⟨⟨ki_X5, wAll_t (i := 458) rfl rfl, by decide +kernel, by decide +kernel, by decide +kernel⟩, wAll_t (i := 457) rfl rfl, wAll_s (i := 5) rfl rfl⟩
set_option maxRecDepth 20000 in
theorem ok_X5_readRot : okV yX5_readRot cX5_readRot 2 none 0 := ⟨⟨ki_X5, wAll_t (i := 480) rfl rfl, by decide +kernel, by decide +kernel, by decide +kernel⟩, wAll_t (i := 479) rfl rfl, wAll_s (i := 10) rfl rfl⟩
set_option maxRecDepth 20000 in
theorem ok_X5_readLoss : okV yX5_readLoss cX5_readLoss 2 none 0 := ⟨⟨ki_X5, wAll_t (i := 485) rfl rfl, by decide +kernel, by decide +kernel, by decide +kernel⟩, wAll_t (i := 484) rfl rfl, wAll_s (i := 11) rfl rfl⟩
set_option maxRecDepth 20000 in
theorem ok_X5_finishRule : okV yX5_finishRule cX5_finishRule 1 none 0 := ⟨⟨ki_X5, wAll_t (i := 474) rfl rfl, by decide +kernel, by decide +kernel, by decide +kernel⟩, wAll_t (i := 473) rfl rfl, wAll_s (i := 9) rfl rfl⟩
set_option maxRecDepth 20000 in
theorem ok_X5_takeNumber : okV yX5_takeNumber cX5_takeNumber 4 (some .int) 1 := ⟨⟨ki_X5, wAll_t (i := 462) rfl rfl, by decide +kernel, by decide +kernel, by decide +kernel⟩, wAll_t (i := 461) rfl rfl, wAll_s (i := 6) rfl rfl⟩
set_option maxRecDepth 20000 in
theorem ok_X5_refuseToken : okV yX5_refuseToken cX5_refuseToken 1 none 0 := ⟨⟨ki_X5, wAll_t (i := 466) rfl rfl, by decide +kernel, by decide +kernel, by decide +kernel⟩, wAll_t (i := 465) rfl rfl, wAll_s (i := 7) rfl rfl⟩
set_option maxRecDepth 20000 in
theorem ok_X5_refuse : okV yX5_refuse cX5_refuse 2 none 1 := ⟨⟨ki_X5, wAll_t (i := 470) rfl rfl, by decide +kernel, by decide +kernel, by decide +kernel⟩, wAll_t (i := 469) rfl rfl, wAll_s (i := 8) rfl rfl⟩
set_option maxRecDepth 20000 in
theorem ok_X5_step : okV yX5_step cX5_step 2 none 0 := ⟨⟨ki_X5, wAll_t (i := 380) rfl rfl, by decide +kernel, by decide +kernel, by decide +kernel⟩, wAll_t (i := 379) rfl rfl, wAll_s (i := 1) rfl rfl⟩
set_option maxRecDepth 20000 in
theorem ok_X5_stepOverRun : okV yX5_stepOverRun cX5_stepOverRun 3 none 0 := ⟨⟨ki_X5, wAll_t (i := 397) rfl rfl, by decide +kernel, by decide +kernel, by decide +kernel⟩, wAll_t (i := 396) rfl rfl, wAll_s (i := 2) rfl rfl⟩
set_option maxRecDepth 20000 in
theorem ok_X5_isWord : okV yX5_isWord cX5_isWord 3 (some .boolean) 1 := ⟨⟨ki_X5, wAll_t (i := 406) rfl rfl, by decide +kernel, by decide +kernel, by decide +kernel⟩, wAll_t (i := 405) rfl rfl, wAll_s (i := 4) rfl rfl⟩
set_option maxRecDepth 20000 in
theorem ok_X5_isBlank : okS yX5_isBlank cX5_isBlank 1 (some .boolean) 1 := ⟨⟨ki_X5, wAll_t (i := 387) rfl rfl, by decide +kernel, by decide +kernel, by decide +kernel⟩, wAll_t (i := 386) rfl rfl⟩
set_option maxRecDepth 20000 in
theorem ok_X5_isLetter : okS yX5_isLetter cX5_isLetter 1 (some .boolean) 1 := ⟨⟨ki_X5, wAll_t (i := 390) rfl rfl, by decide +kernel, by decide +kernel, by decide +kernel⟩, wAll_t (i := 389) rfl rfl⟩
set_option maxRecDepth 20000 in
theorem ok_X5_isDigit : okS yX5_isDigit cX5_isDigit 1 (some .boolean) 1 := ⟨⟨ki_X5, wAll_t (i := 393) rfl rfl, by decide +kernel, by decide +kernel, by decide +kernel⟩, wAll_t (i := 392) rfl rfl⟩
set_option maxRecDepth 20000 in
theorem ok_X6_init : okI yX6_init cX6_init 1 0 := ⟨⟨ki_X6, wAll_t (i := 49) rfl rfl, by decide +kernel, by decide +kernel, by decide +kernel⟩, wAll_t (i := 48) rfl rfl, rfl⟩
set_option maxRecDepth 20000 in
theorem ok_X6_clear : okV yX6_clear cX6_clear 2 none 0 := ⟨⟨ki_X6, wAll_t (i := 54) rfl rfl, by decide +kernel, by decide +kernel, by decide +kernel⟩, wAll_t (i := 52) rfl rfl, wAll_t (i := 53) rfl rfl⟩
set_option maxRecDepth 20000 in
theorem ok_X6_copy : okV yX6_copy cX6_copy 3 none 1 := ⟨⟨ki_X6, wAll_t (i := 491) rfl rfl, by decide +kernel, by decide +kernel, by decide +kernel⟩, wAll_t (i := 489) rfl rfl, wAll_t (i := 490) rfl rfl⟩
set_option maxRecDepth 20000 in
theorem ok_X7_init : okI yX7_init cX7_init 1 0 := ⟨⟨ki_X7, wAll_t (i := 174) rfl rfl, by decide +kernel, by decide +kernel, by decide +kernel⟩, wAll_t (i := 173) rfl rfl, rfl⟩
set_option maxRecDepth 20000 in
theorem ok_X7_add : okV yX7_add cX7_add 6 (some .int) 5 := ⟨⟨ki_X7, wAll_t (i := 562) rfl rfl, by decide +kernel, by decide +kernel, by decide +kernel⟩, wAll_t (i := 560) rfl rfl, wAll_t (i := 561) rfl rfl⟩
set_option maxRecDepth 20000 in
theorem ok_X7_countsAsOf : okV yX7_countsAsOf cX7_countsAsOf 3 (some .boolean) 2 := ⟨⟨ki_X7, wAll_t (i := 598) rfl rfl, by decide +kernel, by decide +kernel, by decide +kernel⟩, wAll_t (i := 596) rfl rfl, wAll_t (i := 597) rfl rfl⟩
set_option maxRecDepth 20000 in
theorem ok_X8_init : okI yX8_init cX8_init 1 0 := ⟨⟨ki_X8, wAll_t (i := 33) rfl rfl, by decide +kernel, by decide +kernel, by decide +kernel⟩, wAll_t (i := 32) rfl rfl, rfl⟩
set_option maxRecDepth 20000 in
theorem ok_X8_append : okV yX8_append cX8_append 2 none 1 := ⟨⟨ki_X8, wAll_t (i := 359) rfl rfl, by decide +kernel, by decide +kernel, by decide +kernel⟩, wAll_t (i := 357) rfl rfl, wAll_t (i := 358) rfl rfl⟩
set_option maxRecDepth 20000 in
theorem ok_X8_byteAt : okV yX8_byteAt cX8_byteAt 2 (some .int) 1 := ⟨⟨ki_X8, wAll_t (i := 384) rfl rfl, by decide +kernel, by decide +kernel, by decide +kernel⟩, wAll_t (i := 382) rfl rfl, wAll_t (i := 383) rfl rfl⟩
set_option maxRecDepth 20000 in
theorem ok_X8_pairAt : okV yX8_pairAt cX8_pairAt 2 (some .int) 1 := ⟨⟨ki_X8, wAll_t (i := 642) rfl rfl, by decide +kernel, by decide +kernel, by decide +kernel⟩, wAll_t (i := 640) rfl rfl, wAll_t (i := 641) rfl rfl⟩
set_option maxRecDepth 20000 in
theorem ok_X9_init : okI yX9_init cX9_init 1 0 := ⟨⟨ki_X9, wAll_t (i := 25) rfl rfl, by decide +kernel, by decide +kernel, by decide +kernel⟩, wAll_t (i := 24) rfl rfl, rfl⟩
set_option maxRecDepth 20000 in
theorem ok_X9_feed : okV yX9_feed cX9_feed 6 (some .int) 5 := ⟨⟨ki_X9, wAll_t (i := 355) rfl rfl, by decide +kernel, by decide +kernel, by decide +kernel⟩, wAll_t (i := 353) rfl rfl, wAll_t (i := 354) rfl rfl⟩
set_option maxRecDepth 20000 in
theorem ok_X9_end : okV yX9_end cX9_end 2 (some .boolean) 1 := ⟨⟨ki_X9, wAll_t (i := 363) rfl rfl, by decide +kernel, by decide +kernel, by decide +kernel⟩, wAll_t (i := 361) rfl rfl, wAll_t (i := 362) rfl rfl⟩
set_option maxRecDepth 20000 in
theorem ok_X9_rules : okV yX9_rules cX9_rules 1 (some .int) 0 := ⟨⟨ki_X9, wAll_t (i := 367) rfl rfl, by decide +kernel, by decide +kernel, by decide +kernel⟩, wAll_t (i := 365) rfl rfl, wAll_t (i := 366) rfl rfl⟩
set_option maxRecDepth 20000 in
theorem ok_X9_fault : okV yX9_fault cX9_fault 1 (some .int) 0 := ⟨⟨ki_X9, wAll_t (i := 496) rfl rfl, by decide +kernel, by decide +kernel, by decide +kernel⟩, wAll_t (i := 494) rfl rfl, wAll_t (i := 495) rfl rfl⟩
set_option maxRecDepth 20000 in
theorem ok_X9_lot : okV yX9_lot cX9_lot 7 (some .int) 5 := ⟨⟨ki_X9, wAll_t (i := 500) rfl rfl, by decide +kernel, by decide +kernel, by decide +kernel⟩, wAll_t (i := 498) rfl rfl, wAll_t (i := 499) rfl rfl⟩
set_option maxRecDepth 20000 in
theorem ok_X9_money : okV yX9_money cX9_money 3 (some .boolean) 2 := ⟨⟨ki_X9, wAll_t (i := 511) rfl rfl, by decide +kernel, by decide +kernel, by decide +kernel⟩, wAll_t (i := 509) rfl rfl, wAll_t (i := 510) rfl rfl⟩
set_option maxRecDepth 20000 in
theorem ok_X9_want : okV yX9_want cX9_want 8 (some .boolean) 5 := ⟨⟨ki_X9, wAll_t (i := 516) rfl rfl, by decide +kernel, by decide +kernel, by decide +kernel⟩, wAll_t (i := 514) rfl rfl, wAll_t (i := 515) rfl rfl⟩
set_option maxRecDepth 20000 in
theorem ok_X9_auction : okV yX9_auction cX9_auction 5 (some .int) 1 := ⟨⟨ki_X9, wAll_t (i := 526) rfl rfl, by decide +kernel, by decide +kernel, by decide +kernel⟩, wAll_t (i := 524) rfl rfl, wAll_t (i := 525) rfl rfl⟩
set_option maxRecDepth 20000 in
theorem ok_X9_reject : okV yX9_reject cX9_reject 3 (some .boolean) 1 := ⟨⟨ki_X9, wAll_t (i := 566) rfl rfl, by decide +kernel, by decide +kernel, by decide +kernel⟩, wAll_t (i := 564) rfl rfl, wAll_t (i := 565) rfl rfl⟩
set_option maxRecDepth 20000 in
theorem ok_X9_next : okV yX9_next cX9_next 1 (some .int) 0 := ⟨⟨ki_X9, wAll_t (i := 570) rfl rfl, by decide +kernel, by decide +kernel, by decide +kernel⟩, wAll_t (i := 568) rfl rfl, wAll_t (i := 569) rfl rfl⟩
set_option maxRecDepth 20000 in
theorem ok_X9_about : okV yX9_about cX9_about 3 (some .int) 2 := ⟨⟨ki_X9, wAll_t (i := 664) rfl rfl, by decide +kernel, by decide +kernel, by decide +kernel⟩, wAll_t (i := 662) rfl rfl, wAll_t (i := 663) rfl rfl⟩
set_option maxRecDepth 20000 in
theorem ok_X9_sale : okV yX9_sale cX9_sale 3 (some .int) 2 := ⟨⟨ki_X9, wAll_t (i := 737) rfl rfl, by decide +kernel, by decide +kernel, by decide +kernel⟩, wAll_t (i := 735) rfl rfl, wAll_t (i := 736) rfl rfl⟩
set_option maxRecDepth 20000 in
theorem ok_X9_left : okV yX9_left cX9_left 2 (some .int) 1 := ⟨⟨ki_X9, wAll_t (i := 582) rfl rfl, by decide +kernel, by decide +kernel, by decide +kernel⟩, wAll_t (i := 580) rfl rfl, wAll_t (i := 581) rfl rfl⟩
set_option maxRecDepth 20000 in
theorem ok_X9_wanted : okV yX9_wanted cX9_wanted 4 (some .int) 3 := ⟨⟨ki_X9, wAll_t (i := 586) rfl rfl, by decide +kernel, by decide +kernel, by decide +kernel⟩, wAll_t (i := 584) rfl rfl, wAll_t (i := 585) rfl rfl⟩
set_option maxRecDepth 20000 in
theorem ok_X9_pool : okV yX9_pool cX9_pool 2 (some .int) 1 := ⟨⟨ki_X9, wAll_t (i := 590) rfl rfl, by decide +kernel, by decide +kernel, by decide +kernel⟩, wAll_t (i := 588) rfl rfl, wAll_t (i := 589) rfl rfl⟩
set_option maxRecDepth 20000 in
theorem ok_X9_pay : okV yX9_pay cX9_pay 3 (some .int) 2 := ⟨⟨ki_X9, wAll_t (i := 607) rfl rfl, by decide +kernel, by decide +kernel, by decide +kernel⟩, wAll_t (i := 605) rfl rfl, wAll_t (i := 606) rfl rfl⟩
set_option maxRecDepth 20000 in
theorem ok_X9_worth : okV yX9_worth cX9_worth 4 (some .long) 3 := ⟨⟨ki_X9, wAll_t (i := 747) rfl rfl, by decide +kernel, by decide +kernel, by decide +kernel⟩, wAll_t (i := 745) rfl rfl, wAll_t (i := 746) rfl rfl⟩
set_option maxRecDepth 20000 in
theorem ok_X9_wire : okV yX9_wire cX9_wire 12 (some .int) 4 := ⟨⟨ki_X9, wAll_t (i := 624) rfl rfl, by decide +kernel, by decide +kernel, by decide +kernel⟩, wAll_t (i := 622) rfl rfl, wAll_t (i := 623) rfl rfl⟩
set_option maxRecDepth 20000 in
theorem ok_X9_cars : okV yX9_cars cX9_cars 4 (some .int) 1 := ⟨⟨ki_X9, wAll_t (i := 634) rfl rfl, by decide +kernel, by decide +kernel, by decide +kernel⟩, wAll_t (i := 632) rfl rfl, wAll_t (i := 633) rfl rfl⟩
set_option maxRecDepth 20000 in
theorem ok_X9_sent : okV yX9_sent cX9_sent 2 (some .int) 1 := ⟨⟨ki_X9, wAll_t (i := 652) rfl rfl, by decide +kernel, by decide +kernel, by decide +kernel⟩, wAll_t (i := 650) rfl rfl, wAll_t (i := 651) rfl rfl⟩
set_option maxRecDepth 20000 in
theorem ok_X9_count : okV yX9_count cX9_count 2 (some .int) 1 := ⟨⟨ki_X9, wAll_t (i := 656) rfl rfl, by decide +kernel, by decide +kernel, by decide +kernel⟩, wAll_t (i := 654) rfl rfl, wAll_t (i := 655) rfl rfl⟩
set_option maxRecDepth 20000 in
theorem ok_X9_isBelow : okS yX9_isBelow cX9_isBelow 2 (some .boolean) 2 := ⟨⟨ki_X9, wAll_t (i := 503) rfl rfl, by decide +kernel, by decide +kernel, by decide +kernel⟩, wAll_t (i := 502) rfl rfl⟩
set_option maxRecDepth 20000 in
theorem ok_X9_isWantPlace : okS yX9_isWantPlace cX9_isWantPlace 3 (some .boolean) 3 := ⟨⟨ki_X9, wAll_t (i := 519) rfl rfl, by decide +kernel, by decide +kernel, by decide +kernel⟩, wAll_t (i := 518) rfl rfl⟩
set_option maxRecDepth 20000 in
theorem ok_X9_offerRound : okV yX9_offerRound cX9_offerRound 6 (some .boolean) 1 := ⟨⟨ki_X9, wAll_t (i := 530) rfl rfl, by decide +kernel, by decide +kernel, by decide +kernel⟩, wAll_t (i := 529) rfl rfl, wAll_s (i := 12) rfl rfl⟩
set_option maxRecDepth 20000 in
theorem ok_X9_offerLot : okV yX9_offerLot cX9_offerLot 9 none 1 := ⟨⟨ki_X9, wAll_t (i := 544) rfl rfl, by decide +kernel, by decide +kernel, by decide +kernel⟩, wAll_t (i := 543) rfl rfl, wAll_s (i := 13) rfl rfl⟩
set_option maxRecDepth 20000 in
theorem ok_X9_sell : okV yX9_sell cX9_sell 7 none 3 := ⟨⟨ki_X9, wAll_t (i := 554) rfl rfl, by decide +kernel, by decide +kernel, by decide +kernel⟩, wAll_t (i := 553) rfl rfl, wAll_s (i := 14) rfl rfl⟩
set_option maxRecDepth 20000 in
theorem ok_X9_isWired : okV yX9_isWired cX9_isWired 6 (some .boolean) 4 := ⟨⟨ki_X9, wAll_t (i := 628) rfl rfl, by decide +kernel, by decide +kernel, by decide +kernel⟩, wAll_t (i := 627) rfl rfl, wAll_s (i := 17) rfl rfl⟩
set_option maxRecDepth 20000 in
theorem ok_X10_init : okI yX10_init cX10_init 1 0 := ⟨⟨ki_X10, wAll_t (i := 774) rfl rfl, by decide +kernel, by decide +kernel, by decide +kernel⟩, wAll_t (i := 773) rfl rfl, rfl⟩
set_option maxRecDepth 20000 in
theorem ok_X10_thrown : okV yX10_thrown cX10_thrown 1 (some .int) 0 := ⟨⟨ki_X10, wAll_t (i := 909) rfl rfl, by decide +kernel, by decide +kernel, by decide +kernel⟩, wAll_t (i := 907) rfl rfl, wAll_t (i := 908) rfl rfl⟩
set_option maxRecDepth 20000 in
theorem ok_X10_throwsIf : okV yX10_throwsIf cX10_throwsIf 2 (some .boolean) 1 := ⟨⟨ki_X10, wAll_t (i := 1020) rfl rfl, by decide +kernel, by decide +kernel, by decide +kernel⟩, wAll_t (i := 1019) rfl rfl, wAll_s (i := 33) rfl rfl⟩
set_option maxRecDepth 20000 in
theorem ok_X10_feed : okV yX10_feed cX10_feed 6 (some .int) 5 := ⟨⟨ki_X10, wAll_t (i := 913) rfl rfl, by decide +kernel, by decide +kernel, by decide +kernel⟩, wAll_t (i := 911) rfl rfl, wAll_t (i := 912) rfl rfl⟩
set_option maxRecDepth 20000 in
theorem ok_X10_four : okV yX10_four cX10_four 3 none 1 := ⟨⟨ki_X10, wAll_t (i := 917) rfl rfl, by decide +kernel, by decide +kernel, by decide +kernel⟩, wAll_t (i := 916) rfl rfl, wAll_s (i := 22) rfl rfl⟩
set_option maxRecDepth 20000 in
theorem ok_X10_end : okV yX10_end cX10_end 2 (some .boolean) 1 := ⟨⟨ki_X10, wAll_t (i := 921) rfl rfl, by decide +kernel, by decide +kernel, by decide +kernel⟩, wAll_t (i := 919) rfl rfl, wAll_t (i := 920) rfl rfl⟩
set_option maxRecDepth 20000 in
theorem ok_X10_taken : okV yX10_taken cX10_taken 1 none 0 := ⟨⟨ki_X10, wAll_t (i := 929) rfl rfl, by decide +kernel, by decide +kernel, by decide +kernel⟩, wAll_t (i := 928) rfl rfl, wAll_s (i := 23) rfl rfl⟩
set_option maxRecDepth 20000 in
theorem ok_X10_peek : okV yX10_peek cX10_peek 1 (some .int) 0 := ⟨⟨ki_X10, wAll_t (i := 937) rfl rfl, by decide +kernel, by decide +kernel, by decide +kernel⟩, wAll_t (i := 936) rfl rfl, wAll_s (i := 25) rfl rfl⟩
set_option maxRecDepth 20000 in
theorem ok_X10_isSmall : okS yX10_isSmall cX10_isSmall 1 (some .boolean) 1 := ⟨⟨ki_X10, wAll_t (i := 940) rfl rfl, by decide +kernel, by decide +kernel, by decide +kernel⟩, wAll_t (i := 939) rfl rfl⟩
set_option maxRecDepth 20000 in
theorem ok_X10_isDigit : okS yX10_isDigit cX10_isDigit 1 (some .boolean) 1 := ⟨⟨ki_X10, wAll_t (i := 943) rfl rfl, by decide +kernel, by decide +kernel, by decide +kernel⟩, wAll_t (i := 942) rfl rfl⟩
set_option maxRecDepth 20000 in
theorem ok_X10_next0 : okV yX10_next0 cX10_next0 5 none 0 := ⟨⟨ki_X10, wAll_t (i := 933) rfl rfl, by decide +kernel, by decide +kernel, by decide +kernel⟩, wAll_t (i := 932) rfl rfl, wAll_s (i := 24) rfl rfl⟩
set_option maxRecDepth 20000 in
theorem ok_X10_wrong : okV yX10_wrong cX10_wrong 3 (some .boolean) 2 := ⟨⟨ki_X10, wAll_t (i := 963) rfl rfl, by decide +kernel, by decide +kernel, by decide +kernel⟩, wAll_t (i := 962) rfl rfl, wAll_s (i := 29) rfl rfl⟩
set_option maxRecDepth 20000 in
theorem ok_X10_cant : okV yX10_cant cX10_cant 1 (some .boolean) 0 := ⟨⟨ki_X10, wAll_t (i := 959) rfl rfl, by decide +kernel, by decide +kernel, by decide +kernel⟩, wAll_t (i := 958) rfl rfl, wAll_s (i := 28) rfl rfl⟩
set_option maxRecDepth 20000 in
theorem ok_X10_isWord : okV yX10_isWord cX10_isWord 3 (some .boolean) 1 := ⟨⟨ki_X10, wAll_t (i := 952) rfl rfl, by decide +kernel, by decide +kernel, by decide +kernel⟩, wAll_t (i := 951) rfl rfl, wAll_s (i := 27) rfl rfl⟩
set_option maxRecDepth 20000 in
theorem ok_X10_rules : okV yX10_rules cX10_rules 3 (some .int) 0 := ⟨⟨ki_X10, wAll_t (i := 925) rfl rfl, by decide +kernel, by decide +kernel, by decide +kernel⟩, wAll_t (i := 923) rfl rfl, wAll_t (i := 924) rfl rfl⟩
set_option maxRecDepth 20000 in
theorem ok_X10_rule : okV yX10_rule cX10_rule 4 (some .boolean) 0 := ⟨⟨ki_X10, wAll_t (i := 947) rfl rfl, by decide +kernel, by decide +kernel, by decide +kernel⟩, wAll_t (i := 946) rfl rfl, wAll_s (i := 26) rfl rfl⟩
set_option maxRecDepth 20000 in
theorem ok_X10_fault : okV yX10_fault cX10_fault 1 (some .int) 0 := ⟨⟨ki_X10, wAll_t (i := 969) rfl rfl, by decide +kernel, by decide +kernel, by decide +kernel⟩, wAll_t (i := 967) rfl rfl, wAll_t (i := 968) rfl rfl⟩
set_option maxRecDepth 20000 in
theorem ok_X10_isIn : okS yX10_isIn cX10_isIn 3 (some .boolean) 3 := ⟨⟨ki_X10, wAll_t (i := 976) rfl rfl, by decide +kernel, by decide +kernel, by decide +kernel⟩, wAll_t (i := 975) rfl rfl⟩
set_option maxRecDepth 20000 in
theorem ok_X10_lot : okV yX10_lot cX10_lot 6 (some .int) 5 := ⟨⟨ki_X10, wAll_t (i := 973) rfl rfl, by decide +kernel, by decide +kernel, by decide +kernel⟩, wAll_t (i := 971) rfl rfl, wAll_t (i := 972) rfl rfl⟩
set_option maxRecDepth 20000 in
theorem ok_X10_money : okV yX10_money cX10_money 3 (some .boolean) 2 := ⟨⟨ki_X10, wAll_t (i := 980) rfl rfl, by decide +kernel, by decide +kernel, by decide +kernel⟩, wAll_t (i := 978) rfl rfl, wAll_t (i := 979) rfl rfl⟩
set_option maxRecDepth 20000 in
theorem ok_X10_place : okS yX10_place cX10_place 3 (some .int) 3 := ⟨⟨ki_X10, wAll_t (i := 988) rfl rfl, by decide +kernel, by decide +kernel, by decide +kernel⟩, wAll_t (i := 987) rfl rfl⟩
set_option maxRecDepth 20000 in
theorem ok_X10_want : okV yX10_want cX10_want 6 (some .boolean) 5 := ⟨⟨ki_X10, wAll_t (i := 985) rfl rfl, by decide +kernel, by decide +kernel, by decide +kernel⟩, wAll_t (i := 983) rfl rfl, wAll_t (i := 984) rfl rfl⟩
set_option maxRecDepth 20000 in
theorem ok_X10_auction : okV yX10_auction cX10_auction 9 (some .int) 1 := ⟨⟨ki_X10, wAll_t (i := 992) rfl rfl, by decide +kernel, by decide +kernel, by decide +kernel⟩, wAll_t (i := 990) rfl rfl, wAll_t (i := 991) rfl rfl⟩
set_option maxRecDepth 20000 in
theorem ok_X10_bids : okV yX10_bids cX10_bids 4 (some .boolean) 2 := ⟨⟨ki_X10, wAll_t (i := 1000) rfl rfl, by decide +kernel, by decide +kernel, by decide +kernel⟩, wAll_t (i := 999) rfl rfl, wAll_s (i := 31) rfl rfl⟩
set_option maxRecDepth 20000 in
theorem ok_X10_offer : okV yX10_offer cX10_offer 6 (some .boolean) 1 := ⟨⟨ki_X10, wAll_t (i := 996) rfl rfl, by decide +kernel, by decide +kernel, by decide +kernel⟩, wAll_t (i := 995) rfl rfl, wAll_s (i := 30) rfl rfl⟩
set_option maxRecDepth 20000 in
theorem ok_X10_isSale : okV yX10_isSale cX10_isSale 2 (some .boolean) 1 := ⟨⟨ki_X10, wAll_t (i := 1008) rfl rfl, by decide +kernel, by decide +kernel, by decide +kernel⟩, wAll_t (i := 1007) rfl rfl, wAll_s (i := 32) rfl rfl⟩
set_option maxRecDepth 20000 in
theorem ok_X10_reject : okV yX10_reject cX10_reject 2 (some .boolean) 1 := ⟨⟨ki_X10, wAll_t (i := 1004) rfl rfl, by decide +kernel, by decide +kernel, by decide +kernel⟩, wAll_t (i := 1002) rfl rfl, wAll_t (i := 1003) rfl rfl⟩
set_option maxRecDepth 20000 in
theorem ok_X10_next : okV yX10_next cX10_next 2 (some .int) 0 := ⟨⟨ki_X10, wAll_t (i := 1012) rfl rfl, by decide +kernel, by decide +kernel, by decide +kernel⟩, wAll_t (i := 1010) rfl rfl, wAll_t (i := 1011) rfl rfl⟩
set_option maxRecDepth 20000 in
theorem ok_X10_about : okV yX10_about cX10_about 3 (some .int) 2 := ⟨⟨ki_X10, wAll_t (i := 1016) rfl rfl, by decide +kernel, by decide +kernel, by decide +kernel⟩, wAll_t (i := 1014) rfl rfl, wAll_t (i := 1015) rfl rfl⟩
set_option maxRecDepth 20000 in
theorem ok_X10_nextOf : okV yX10_nextOf cX10_nextOf 3 (some .int) 1 := ⟨⟨ki_X10, wAll_t (i := 1032) rfl rfl, by decide +kernel, by decide +kernel, by decide +kernel⟩, wAll_t (i := 1031) rfl rfl, wAll_s (i := 35) rfl rfl⟩
set_option maxRecDepth 20000 in
theorem ok_X10_claimOf : okV yX10_claimOf cX10_claimOf 3 (some .int) 1 := ⟨⟨ki_X10, wAll_t (i := 1028) rfl rfl, by decide +kernel, by decide +kernel, by decide +kernel⟩, wAll_t (i := 1027) rfl rfl, wAll_s (i := 34) rfl rfl⟩
set_option maxRecDepth 20000 in
theorem ok_X10_sale : okV yX10_sale cX10_sale 3 (some .int) 2 := ⟨⟨ki_X10, wAll_t (i := 1024) rfl rfl, by decide +kernel, by decide +kernel, by decide +kernel⟩, wAll_t (i := 1022) rfl rfl, wAll_t (i := 1023) rfl rfl⟩
set_option maxRecDepth 20000 in
theorem ok_X10_left : okV yX10_left cX10_left 2 (some .int) 1 := ⟨⟨ki_X10, wAll_t (i := 1036) rfl rfl, by decide +kernel, by decide +kernel, by decide +kernel⟩, wAll_t (i := 1034) rfl rfl, wAll_t (i := 1035) rfl rfl⟩
set_option maxRecDepth 20000 in
theorem ok_X10_wanted : okV yX10_wanted cX10_wanted 4 (some .int) 3 := ⟨⟨ki_X10, wAll_t (i := 1040) rfl rfl, by decide +kernel, by decide +kernel, by decide +kernel⟩, wAll_t (i := 1038) rfl rfl, wAll_t (i := 1039) rfl rfl⟩
set_option maxRecDepth 20000 in
theorem ok_X10_counts : okV yX10_counts cX10_counts 3 (some .boolean) 2 := ⟨⟨ki_X10, wAll_t (i := 1052) rfl rfl, by decide +kernel, by decide +kernel, by decide +kernel⟩, wAll_t (i := 1051) rfl rfl, wAll_s (i := 37) rfl rfl⟩
set_option maxRecDepth 20000 in
theorem ok_X10_poolOf : okV yX10_poolOf cX10_poolOf 6 (some .long) 1 := ⟨⟨ki_X10, wAll_t (i := 1048) rfl rfl, by decide +kernel, by decide +kernel, by decide +kernel⟩, wAll_t (i := 1047) rfl rfl, wAll_s (i := 36) rfl rfl⟩
set_option maxRecDepth 20000 in
theorem ok_X10_pool : okV yX10_pool cX10_pool 2 (some .int) 1 := ⟨⟨ki_X10, wAll_t (i := 1044) rfl rfl, by decide +kernel, by decide +kernel, by decide +kernel⟩, wAll_t (i := 1042) rfl rfl, wAll_t (i := 1043) rfl rfl⟩
set_option maxRecDepth 20000 in
theorem ok_X10_pay : okV yX10_pay cX10_pay 11 (some .int) 2 := ⟨⟨ki_X10, wAll_t (i := 1056) rfl rfl, by decide +kernel, by decide +kernel, by decide +kernel⟩, wAll_t (i := 1054) rfl rfl, wAll_t (i := 1055) rfl rfl⟩
set_option maxRecDepth 20000 in
theorem ok_X10_common : okS yX10_common cX10_common 10 (some .long) 2 := ⟨⟨ki_X10, wAll_t (i := 1064) rfl rfl, by decide +kernel, by decide +kernel, by decide +kernel⟩, wAll_t (i := 1063) rfl rfl⟩
set_option maxRecDepth 20000 in
theorem ok_X10_worth : okV yX10_worth cX10_worth 22 (some .long) 3 := ⟨⟨ki_X10, wAll_t (i := 1061) rfl rfl, by decide +kernel, by decide +kernel, by decide +kernel⟩, wAll_t (i := 1059) rfl rfl, wAll_t (i := 1060) rfl rfl⟩
set_option maxRecDepth 20000 in
theorem ok_X10_wire : okV yX10_wire cX10_wire 10 (some .int) 4 := ⟨⟨ki_X10, wAll_t (i := 1068) rfl rfl, by decide +kernel, by decide +kernel, by decide +kernel⟩, wAll_t (i := 1066) rfl rfl, wAll_t (i := 1067) rfl rfl⟩
set_option maxRecDepth 20000 in
theorem ok_X10_cars : okV yX10_cars cX10_cars 7 (some .int) 1 := ⟨⟨ki_X10, wAll_t (i := 1072) rfl rfl, by decide +kernel, by decide +kernel, by decide +kernel⟩, wAll_t (i := 1070) rfl rfl, wAll_t (i := 1071) rfl rfl⟩
set_option maxRecDepth 20000 in
theorem ok_X10_sent : okV yX10_sent cX10_sent 2 (some .int) 1 := ⟨⟨ki_X10, wAll_t (i := 1076) rfl rfl, by decide +kernel, by decide +kernel, by decide +kernel⟩, wAll_t (i := 1074) rfl rfl, wAll_t (i := 1075) rfl rfl⟩
set_option maxRecDepth 20000 in
theorem ok_X10_count : okV yX10_count cX10_count 2 (some .int) 1 := ⟨⟨ki_X10, wAll_t (i := 1080) rfl rfl, by decide +kernel, by decide +kernel, by decide +kernel⟩, wAll_t (i := 1078) rfl rfl, wAll_t (i := 1079) rfl rfl⟩
