/-! ===== BEGIN words of one list among another's, by their places ===== -/
theorem goodIn_r {big : List Cond} (ws : List Cond) (ps : List Nat) (hp : ws = ps.filterMap (fun i => big[i]?)) (h : ws.all goodWord = true) : GoodIn big ws := by
  intro w hw
  have h1 := List.all_eq_true.mp h w hw
  rw [hp] at hw
  obtain ⟨i, -, hi⟩ := List.mem_filterMap.mp hw
  have hm : w ∈ big := by first | exact List.mem_of_getElem? hi | exact List.getElem?_mem hi
  exact ⟨hm, good_of_word h1⟩
theorem goodIn_app {big a b : List Cond} (ha : GoodIn big a) (hb : GoodIn big b) : GoodIn big (a ++ b) := fun w h => (List.mem_append.mp h).elim (ha w) (hb w)
theorem goodIn_ca {big a b : List Cond} {c : Cond} (ha : GoodIn big (c :: a)) (hb : GoodIn big b) : GoodIn big (c :: (a ++ b)) := fun w h => (List.mem_cons.mp h).elim (fun e => ha w (List.mem_cons.mpr (Or.inl e))) (fun h => (List.mem_append.mp h).elim (fun h => ha w (List.mem_cons.mpr (Or.inr h))) (hb w))
theorem goodIn_sub {big ws : List Cond} (hm : ∀ w ∈ ws, w ∈ big) (h : ws.all goodWord = true) : GoodIn big ws := fun w hw => ⟨hm w hw, good_of_word (List.all_eq_true.mp h w hw)⟩
/-! ===== END ===== -/

/-! ===== BEGIN printed: names, fields, word lists, decode rows ===== -/
def RX0 : String := "ExactDesk$Wide"
def TX0 : u_T := fun k => match k with
  | 0 => ("ExactDesk$Wide", "high", "J", false)
  | _ => ("ExactDesk$Wide", "low", "J", false)
def tyX0 : Nat → FieldType := fun k => match k with
  | 0 => .long
  | _ => .long
abbrev wsX00 : List Cond := u_ws RX0 TX0 2
theorem nmX0 : ∀ a, a < 2 → ∀ b, b < 2 → a ≠ b → (TX0 a).2.1 ≠ (TX0 b).2.1 := by decide +kernel
theorem tyX0_ok : ∀ k, k < 2 → parseFieldDescriptor (TX0 k).2.2.1 = some (tyX0 k) := by decide +kernel
abbrev cX0_init : ByteArray := prog_2_method_1_code
def yX0_init : MethodName := ⟨RX0, "<init>", "()V"⟩
abbrev cX0_become : ByteArray := prog_2_method_2_code
def yX0_become : MethodName := ⟨RX0, "become", "(J)V"⟩
abbrev cX0_become_ : ByteArray := prog_2_method_3_code
def yX0_become_ : MethodName := ⟨RX0, "become", "(LExactDesk$Wide;)V"⟩
abbrev cX0_becomeProduct : ByteArray := prog_2_method_4_code
def yX0_becomeProduct : MethodName := ⟨RX0, "becomeProduct", "(JJ)V"⟩
abbrev cX0_increase : ByteArray := prog_2_method_5_code
def yX0_increase : MethodName := ⟨RX0, "increase", "(J)V"⟩
abbrev cX0_increase_ : ByteArray := prog_2_method_6_code
def yX0_increase_ : MethodName := ⟨RX0, "increase", "(LExactDesk$Wide;)V"⟩
abbrev cX0_addWords : ByteArray := prog_2_method_7_code
def yX0_addWords : MethodName := ⟨RX0, "addWords", "(JJ)V"⟩
abbrev cX0_negate : ByteArray := prog_2_method_8_code
def yX0_negate : MethodName := ⟨RX0, "negate", "()V"⟩
abbrev cX0_dropSign : ByteArray := prog_2_method_9_code
def yX0_dropSign : MethodName := ⟨RX0, "dropSign", "()V"⟩
abbrev cX0_divideBy : ByteArray := prog_2_method_10_code
def yX0_divideBy : MethodName := ⟨RX0, "divideBy", "(J)J"⟩
abbrev cX0_orderTo : ByteArray := prog_2_method_11_code
def yX0_orderTo : MethodName := ⟨RX0, "orderTo", "(LExactDesk$Wide;)I"⟩
abbrev cX0_isNegative : ByteArray := prog_2_method_12_code
def yX0_isNegative : MethodName := ⟨RX0, "isNegative", "()Z"⟩
abbrev cX0_fitsLong : ByteArray := prog_2_method_13_code
def yX0_fitsLong : MethodName := ⟨RX0, "fitsLong", "()Z"⟩
abbrev cX0_lowWord : ByteArray := prog_2_method_14_code
def yX0_lowWord : MethodName := ⟨RX0, "lowWord", "()J"⟩
abbrev cX0_unsignedLess : ByteArray := prog_2_method_15_code
def yX0_unsignedLess : MethodName := ⟨RX0, "unsignedLess", "(JJ)Z"⟩
def RX1 : String := "ExactDesk"
def TX1 : u_T := fun k => match k with
  | 0 => ("ExactDesk", "registers", "[J", true)
  | 1 => ("ExactDesk", "tallies", "[LExactDesk$Wide;", true)
  | 2 => ("ExactDesk", "tallyCeiling", "LExactDesk$Wide;", true)
  | 3 => ("ExactDesk", "tallyFloor", "LExactDesk$Wide;", true)
  | _ => ("ExactDesk", "outcome", "LExactDesk$Wide;", true)
def tyX1 : Nat → FieldType := fun k => match k with
  | 0 => .array .long
  | 1 => .array (.object "ExactDesk$Wide")
  | 2 => .object "ExactDesk$Wide"
  | 3 => .object "ExactDesk$Wide"
  | _ => .object "ExactDesk$Wide"
abbrev wsX10 : List Cond := u_ws RX1 TX1 5
theorem nmX1 : ∀ a, a < 5 → ∀ b, b < 5 → a ≠ b → (TX1 a).2.1 ≠ (TX1 b).2.1 := by decide +kernel
theorem tyX1_ok : ∀ k, k < 5 → parseFieldDescriptor (TX1 k).2.2.1 = some (tyX1 k) := by decide +kernel
abbrev cX1_init : ByteArray := prog_1_method_1_code
def yX1_init : MethodName := ⟨RX1, "<init>", "()V"⟩
abbrev cX1_set : ByteArray := prog_1_method_2_code
def yX1_set : MethodName := ⟨RX1, "set", "(IJ)Z"⟩
abbrev cX1_get : ByteArray := prog_1_method_3_code
def yX1_get : MethodName := ⟨RX1, "get", "(I)J"⟩
abbrev cX1_add : ByteArray := prog_1_method_4_code
def yX1_add : MethodName := ⟨RX1, "add", "(IJ)I"⟩
abbrev cX1_subtract : ByteArray := prog_1_method_5_code
def yX1_subtract : MethodName := ⟨RX1, "subtract", "(IJ)I"⟩
abbrev cX1_times : ByteArray := prog_1_method_6_code
def yX1_times : MethodName := ⟨RX1, "times", "(IJ)I"⟩
abbrev cX1_share : ByteArray := prog_1_method_7_code
def yX1_share : MethodName := ⟨RX1, "share", "(IJJI)I"⟩
abbrev cX1_enter : ByteArray := prog_1_method_8_code
def yX1_enter : MethodName := ⟨RX1, "enter", "(IIJ)I"⟩
abbrev cX1_merge : ByteArray := prog_1_method_9_code
def yX1_merge : MethodName := ⟨RX1, "merge", "(II)I"⟩
abbrev cX1_split : ByteArray := prog_1_method_10_code
def yX1_split : MethodName := ⟨RX1, "split", "(IJI)I"⟩
abbrev cX1_take : ByteArray := prog_1_method_11_code
def yX1_take : MethodName := ⟨RX1, "take", "(II)I"⟩
abbrev cX1_clear : ByteArray := prog_1_method_12_code
def yX1_clear : MethodName := ⟨RX1, "clear", "(I)Z"⟩
abbrev cX1_compare : ByteArray := prog_1_method_13_code
def yX1_compare : MethodName := ⟨RX1, "compare", "(II)I"⟩
abbrev cX1_digits : ByteArray := prog_1_method_14_code
def yX1_digits : MethodName := ⟨RX1, "digits", "(I)I"⟩
abbrev cX1_digit : ByteArray := prog_1_method_15_code
def yX1_digit : MethodName := ⟨RX1, "digit", "(II)I"⟩
abbrev cX1_isRegister : ByteArray := prog_1_method_16_code
def yX1_isRegister : MethodName := ⟨RX1, "isRegister", "(I)Z"⟩
abbrev cX1_isTally : ByteArray := prog_1_method_17_code
def yX1_isTally : MethodName := ⟨RX1, "isTally", "(I)Z"⟩
abbrev cX1_isWay : ByteArray := prog_1_method_18_code
def yX1_isWay : MethodName := ⟨RX1, "isWay", "(I)Z"⟩
abbrev cX1_keepInRegister : ByteArray := prog_1_method_19_code
def yX1_keepInRegister : MethodName := ⟨RX1, "keepInRegister", "(I)I"⟩
abbrev cX1_keepInTally : ByteArray := prog_1_method_20_code
def yX1_keepInTally : MethodName := ⟨RX1, "keepInTally", "(I)I"⟩
abbrev cX1_divideOutcome : ByteArray := prog_1_method_21_code
def yX1_divideOutcome : MethodName := ⟨RX1, "divideOutcome", "(JI)V"⟩
abbrev cX1_roundsAwayFromZero : ByteArray := prog_1_method_22_code
def yX1_roundsAwayFromZero : MethodName := ⟨RX1, "roundsAwayFromZero", "(JJZI)Z"⟩
abbrev cX1_lowerHalf : ByteArray := prog_1_method_23_code
def yX1_lowerHalf : MethodName := ⟨RX1, "lowerHalf", "(LExactDesk$Wide;)J"⟩
abbrev cX1_upperHalf : ByteArray := prog_1_method_24_code
def yX1_upperHalf : MethodName := ⟨RX1, "upperHalf", "(LExactDesk$Wide;)J"⟩
abbrev cX1_decimalLength : ByteArray := prog_1_method_25_code
def yX1_decimalLength : MethodName := ⟨RX1, "decimalLength", "(J)I"⟩
abbrev cX1_decimalDigit : ByteArray := prog_1_method_26_code
def yX1_decimalDigit : MethodName := ⟨RX1, "decimalDigit", "(JI)I"⟩
def RX2 : String := "ExactDeskModel"
def TX2 : u_T := fun k => match k with
  | 0 => ("ExactDeskModel", "registers", "[J", true)
  | 1 => ("ExactDeskModel", "tallies", "[I", true)
  | 2 => ("ExactDeskModel", "below", "[Z", true)
  | 3 => ("ExactDeskModel", "a", "[I", true)
  | 4 => ("ExactDeskModel", "b", "[I", true)
  | 5 => ("ExactDeskModel", "c", "[I", true)
  | 6 => ("ExactDeskModel", "rest", "[I", true)
  | _ => ("ExactDeskModel", "negative", "Z", false)
def tyX2 : Nat → FieldType := fun k => match k with
  | 0 => .array .long
  | 1 => .array .int
  | 2 => .array .boolean
  | 3 => .array .int
  | 4 => .array .int
  | 5 => .array .int
  | 6 => .array .int
  | _ => .boolean
abbrev wsX20 : List Cond := u_ws RX2 TX2 8
theorem nmX2 : ∀ a, a < 8 → ∀ b, b < 8 → a ≠ b → (TX2 a).2.1 ≠ (TX2 b).2.1 := by decide +kernel
theorem tyX2_ok : ∀ k, k < 8 → parseFieldDescriptor (TX2 k).2.2.1 = some (tyX2 k) := by decide +kernel
abbrev cX2_init : ByteArray := prog_4_method_1_code
def yX2_init : MethodName := ⟨RX2, "<init>", "()V"⟩
abbrev cX2_isRegister : ByteArray := prog_4_method_2_code
def yX2_isRegister : MethodName := ⟨RX2, "isRegister", "(I)Z"⟩
abbrev cX2_set : ByteArray := prog_4_method_4_code
def yX2_set : MethodName := ⟨RX2, "set", "(IJ)Z"⟩
def RL : String := "ExactDeskLaw"
abbrev cL_law : ByteArray := code
def yL_law : MethodName := ⟨RL, "law", "([I)Z"⟩
def wsX0_init : List Cond := .code yX0_init cX0_init 1 none :: ([.methodLink RX0 3 objectInit, .instanceMethod objectInit, .code objectInit ⟨#[0xb1]⟩ 1 none])
def wsX0_become : List Cond := .code yX0_become cX0_become 3 none :: ([.fieldLink RX0 9 "ExactDesk$Wide" "high" "J", .fieldLink RX0 13 "ExactDesk$Wide" "low" "J"] ++ wsX00)
def wsX0_become_ : List Cond := .code yX0_become_ cX0_become_ 2 none :: ([.fieldLink RX0 9 "ExactDesk$Wide" "high" "J", .fieldLink RX0 13 "ExactDesk$Wide" "low" "J"] ++ wsX00)
def wsX0_becomeProduct : List Cond := .code yX0_becomeProduct cX0_becomeProduct 17 none :: ([.constantLong RX0 16 (4294967295), .fieldLink RX0 9 "ExactDesk$Wide" "high" "J", .fieldLink RX0 13 "ExactDesk$Wide" "low" "J"] ++ wsX00)
def wsX0_unsignedLess : List Cond := .code yX0_unsignedLess cX0_unsignedLess 4 (some .boolean) :: ([.constantLong RX0 35 (-9223372036854775808)])
def wsX0_addWords : List Cond := .code yX0_addWords cX0_addWords 9 none :: ([.fieldLink RX0 13 "ExactDesk$Wide" "low" "J", .fieldLink RX0 9 "ExactDesk$Wide" "high" "J", .methodLink RX0 22 yX0_unsignedLess, .static yX0_unsignedLess, .initialized RX0, .code yX0_unsignedLess cX0_unsignedLess 4 (some .boolean), .constantLong RX0 35 (-9223372036854775808)] ++ wsX00)
def wsX0_increase : List Cond := .code yX0_increase cX0_increase 3 none :: ([.methodLink RX0 18 yX0_addWords, .instanceMethod yX0_addWords, .selects RX0 yX0_addWords yX0_addWords, .initialized RX0, .code yX0_addWords cX0_addWords 9 none, .fieldLink RX0 13 "ExactDesk$Wide" "low" "J", .fieldLink RX0 9 "ExactDesk$Wide" "high" "J", .methodLink RX0 22 yX0_unsignedLess, .static yX0_unsignedLess, .code yX0_unsignedLess cX0_unsignedLess 4 (some .boolean), .constantLong RX0 35 (-9223372036854775808)] ++ wsX00)
def wsX0_increase_ : List Cond := .code yX0_increase_ cX0_increase_ 2 none :: ([.fieldLink RX0 9 "ExactDesk$Wide" "high" "J", .fieldLink RX0 13 "ExactDesk$Wide" "low" "J", .methodLink RX0 18 yX0_addWords, .instanceMethod yX0_addWords, .selects RX0 yX0_addWords yX0_addWords, .initialized RX0, .code yX0_addWords cX0_addWords 9 none, .methodLink RX0 22 yX0_unsignedLess, .static yX0_unsignedLess, .code yX0_unsignedLess cX0_unsignedLess 4 (some .boolean), .constantLong RX0 35 (-9223372036854775808)] ++ wsX00)
def wsX0_negate : List Cond := .code yX0_negate cX0_negate 1 none :: ([.fieldLink RX0 13 "ExactDesk$Wide" "low" "J", .fieldLink RX0 9 "ExactDesk$Wide" "high" "J", .constantLong RX0 26 (-1)] ++ wsX00)
def wsX0_isNegative : List Cond := .code yX0_isNegative cX0_isNegative 1 (some .boolean) :: ([.fieldLink RX0 9 "ExactDesk$Wide" "high" "J"] ++ wsX00)
def wsX0_dropSign : List Cond := .code yX0_dropSign cX0_dropSign 1 none :: ([.methodLink RX0 28 yX0_isNegative, .instanceMethod yX0_isNegative, .selects RX0 yX0_isNegative yX0_isNegative, .initialized RX0, .code yX0_isNegative cX0_isNegative 1 (some .boolean), .fieldLink RX0 9 "ExactDesk$Wide" "high" "J", .methodLink RX0 32 yX0_negate, .instanceMethod yX0_negate, .selects RX0 yX0_negate yX0_negate, .code yX0_negate cX0_negate 1 none, .fieldLink RX0 13 "ExactDesk$Wide" "low" "J", .constantLong RX0 26 (-1)] ++ wsX00)
def wsX0_divideBy : List Cond := .code yX0_divideBy cX0_divideBy 6 (some .long) :: ([.fieldLink RX0 9 "ExactDesk$Wide" "high" "J", .fieldLink RX0 13 "ExactDesk$Wide" "low" "J", .methodLink RX0 22 yX0_unsignedLess, .static yX0_unsignedLess, .initialized RX0, .code yX0_unsignedLess cX0_unsignedLess 4 (some .boolean), .constantLong RX0 35 (-9223372036854775808)] ++ wsX00)
def wsX0_orderTo : List Cond := .code yX0_orderTo cX0_orderTo 2 (some .int) :: ([.fieldLink RX0 9 "ExactDesk$Wide" "high" "J", .fieldLink RX0 13 "ExactDesk$Wide" "low" "J", .methodLink RX0 22 yX0_unsignedLess, .static yX0_unsignedLess, .initialized RX0, .code yX0_unsignedLess cX0_unsignedLess 4 (some .boolean), .constantLong RX0 35 (-9223372036854775808)] ++ wsX00)
def wsX0_fitsLong : List Cond := .code yX0_fitsLong cX0_fitsLong 1 (some .boolean) :: ([.fieldLink RX0 9 "ExactDesk$Wide" "high" "J", .fieldLink RX0 13 "ExactDesk$Wide" "low" "J"] ++ wsX00)
def wsX0_lowWord : List Cond := .code yX0_lowWord cX0_lowWord 1 (some .long) :: ([.fieldLink RX0 13 "ExactDesk$Wide" "low" "J"] ++ wsX00)
def wsX1_init : List Cond := .code yX1_init cX1_init 2 none :: ([.methodLink RX1 3 objectInit, .instanceMethod objectInit, .code objectInit ⟨#[0xb1]⟩ 1 none, .arrayClass .long, .fieldLink RX1 9 "ExactDesk" "registers" "[J", .classLink RX1 13 RX0, .fieldLink RX1 15 "ExactDesk" "tallies" "[LExactDesk$Wide;", .instantiable RX0 2, .initialized RX0, .fieldLink RX1 20 "ExactDesk" "tallyCeiling" "LExactDesk$Wide;", .constantLong RX1 24 (1000000000000000000), .fieldLink RX1 30 "ExactDesk" "tallyFloor" "LExactDesk$Wide;", .constantLong RX1 33 (-1000000000000000000), .fieldLink RX1 35 "ExactDesk" "outcome" "LExactDesk$Wide;", .instanceMethod yX0_init, .code yX0_init cX0_init 1 none, .methodLink RX0 3 objectInit, .methodLink RX1 26 yX0_becomeProduct, .instanceMethod yX0_becomeProduct, .selects RX0 yX0_becomeProduct yX0_becomeProduct, .code yX0_becomeProduct cX0_becomeProduct 17 none, .constantLong RX0 16 (4294967295), .fieldLink RX0 9 "ExactDesk$Wide" "high" "J", .fieldLink RX0 13 "ExactDesk$Wide" "low" "J"] ++ wsX10 ++ wsX00)
def wsX1_isRegister : List Cond := .code yX1_isRegister cX1_isRegister 1 (some .boolean) :: ([])
def wsX1_set : List Cond := .code yX1_set cX1_set 4 (some .boolean) :: ([.fieldLink RX1 9 "ExactDesk" "registers" "[J", .methodLink RX1 38 yX1_isRegister, .static yX1_isRegister, .initialized RX1, .code yX1_isRegister cX1_isRegister 1 (some .boolean)] ++ wsX10)
def wsX1_get : List Cond := .code yX1_get cX1_get 2 (some .long) :: ([.fieldLink RX1 9 "ExactDesk" "registers" "[J", .methodLink RX1 38 yX1_isRegister, .static yX1_isRegister, .initialized RX1, .code yX1_isRegister cX1_isRegister 1 (some .boolean)] ++ wsX10)
def wsX1_keepInRegister : List Cond := .code yX1_keepInRegister cX1_keepInRegister 2 (some .int) :: ([.fieldLink RX1 35 "ExactDesk" "outcome" "LExactDesk$Wide;", .fieldLink RX1 9 "ExactDesk" "registers" "[J", .methodLink RX1 104 yX0_fitsLong, .instanceMethod yX0_fitsLong, .selects RX0 yX0_fitsLong yX0_fitsLong, .initialized RX0, .code yX0_fitsLong cX0_fitsLong 1 (some .boolean), .fieldLink RX0 9 "ExactDesk$Wide" "high" "J", .fieldLink RX0 13 "ExactDesk$Wide" "low" "J", .methodLink RX1 74 yX0_isNegative, .instanceMethod yX0_isNegative, .selects RX0 yX0_isNegative yX0_isNegative, .code yX0_isNegative cX0_isNegative 1 (some .boolean), .methodLink RX1 107 yX0_lowWord, .instanceMethod yX0_lowWord, .selects RX0 yX0_lowWord yX0_lowWord, .code yX0_lowWord cX0_lowWord 1 (some .long)] ++ wsX10 ++ wsX00)
def wsX1_add_r1 : List Cond := [Cond.fieldLink RX1 35 "ExactDesk" "outcome" "LExactDesk$Wide;", Cond.fieldLink RX1 9 "ExactDesk" "registers" "[J", Cond.methodLink RX1 38 yX1_isRegister, Cond.static yX1_isRegister, Cond.initialized RX1, Cond.code yX1_isRegister cX1_isRegister 1 (some .boolean), Cond.methodLink RX1 42 yX0_become, Cond.instanceMethod yX0_become, Cond.selects RX0 yX0_become yX0_become, Cond.initialized RX0, Cond.code yX0_become cX0_become 3 none, Cond.fieldLink RX0 9 "ExactDesk$Wide" "high" "J", Cond.fieldLink RX0 13 "ExactDesk$Wide" "low" "J", Cond.methodLink RX1 46 yX0_increase, Cond.instanceMethod yX0_increase, Cond.selects RX0 yX0_increase yX0_increase, Cond.code yX0_increase cX0_increase 3 none, Cond.methodLink RX0 18 yX0_addWords, Cond.instanceMethod yX0_addWords, Cond.selects RX0 yX0_addWords yX0_addWords, Cond.code yX0_addWords cX0_addWords 9 none, Cond.methodLink RX0 22 yX0_unsignedLess, Cond.static yX0_unsignedLess, Cond.code yX0_unsignedLess cX0_unsignedLess 4 (some .boolean)]
def wsX1_add_r2 : List Cond := [Cond.constantLong RX0 35 (-9223372036854775808), Cond.methodLink RX1 49 yX1_keepInRegister, Cond.instanceMethod yX1_keepInRegister, Cond.selects RX1 yX1_keepInRegister yX1_keepInRegister, Cond.code yX1_keepInRegister cX1_keepInRegister 2 (some .int), Cond.methodLink RX1 104 yX0_fitsLong, Cond.instanceMethod yX0_fitsLong, Cond.selects RX0 yX0_fitsLong yX0_fitsLong, Cond.code yX0_fitsLong cX0_fitsLong 1 (some .boolean), Cond.methodLink RX1 74 yX0_isNegative, Cond.instanceMethod yX0_isNegative, Cond.selects RX0 yX0_isNegative yX0_isNegative, Cond.code yX0_isNegative cX0_isNegative 1 (some .boolean), Cond.methodLink RX1 107 yX0_lowWord, Cond.instanceMethod yX0_lowWord, Cond.selects RX0 yX0_lowWord yX0_lowWord, Cond.code yX0_lowWord cX0_lowWord 1 (some .long)]
def wsX1_add : List Cond := .code yX1_add cX1_add 4 (some .int) :: ((wsX1_add_r1 ++ wsX1_add_r2) ++ wsX10 ++ wsX00)
def wsX1_subtract_r1 : List Cond := [Cond.fieldLink RX1 35 "ExactDesk" "outcome" "LExactDesk$Wide;", Cond.fieldLink RX1 9 "ExactDesk" "registers" "[J", Cond.methodLink RX1 38 yX1_isRegister, Cond.static yX1_isRegister, Cond.initialized RX1, Cond.code yX1_isRegister cX1_isRegister 1 (some .boolean), Cond.methodLink RX1 42 yX0_become, Cond.instanceMethod yX0_become, Cond.selects RX0 yX0_become yX0_become, Cond.initialized RX0, Cond.code yX0_become cX0_become 3 none, Cond.fieldLink RX0 9 "ExactDesk$Wide" "high" "J", Cond.fieldLink RX0 13 "ExactDesk$Wide" "low" "J", Cond.methodLink RX1 53 yX0_negate, Cond.instanceMethod yX0_negate, Cond.selects RX0 yX0_negate yX0_negate, Cond.code yX0_negate cX0_negate 1 none, Cond.constantLong RX0 26 (-1), Cond.methodLink RX1 46 yX0_increase, Cond.instanceMethod yX0_increase, Cond.selects RX0 yX0_increase yX0_increase, Cond.code yX0_increase cX0_increase 3 none, Cond.methodLink RX0 18 yX0_addWords, Cond.instanceMethod yX0_addWords]
def wsX1_subtract_r2 : List Cond := [Cond.selects RX0 yX0_addWords yX0_addWords, Cond.code yX0_addWords cX0_addWords 9 none, Cond.methodLink RX0 22 yX0_unsignedLess, Cond.static yX0_unsignedLess, Cond.code yX0_unsignedLess cX0_unsignedLess 4 (some .boolean), Cond.constantLong RX0 35 (-9223372036854775808), Cond.methodLink RX1 49 yX1_keepInRegister, Cond.instanceMethod yX1_keepInRegister, Cond.selects RX1 yX1_keepInRegister yX1_keepInRegister, Cond.code yX1_keepInRegister cX1_keepInRegister 2 (some .int), Cond.methodLink RX1 104 yX0_fitsLong, Cond.instanceMethod yX0_fitsLong, Cond.selects RX0 yX0_fitsLong yX0_fitsLong, Cond.code yX0_fitsLong cX0_fitsLong 1 (some .boolean), Cond.methodLink RX1 74 yX0_isNegative, Cond.instanceMethod yX0_isNegative, Cond.selects RX0 yX0_isNegative yX0_isNegative, Cond.code yX0_isNegative cX0_isNegative 1 (some .boolean), Cond.methodLink RX1 107 yX0_lowWord, Cond.instanceMethod yX0_lowWord, Cond.selects RX0 yX0_lowWord yX0_lowWord, Cond.code yX0_lowWord cX0_lowWord 1 (some .long)]
def wsX1_subtract : List Cond := .code yX1_subtract cX1_subtract 4 (some .int) :: ((wsX1_subtract_r1 ++ wsX1_subtract_r2) ++ wsX10 ++ wsX00)
def wsX1_times_r1 : List Cond := [Cond.fieldLink RX1 35 "ExactDesk" "outcome" "LExactDesk$Wide;", Cond.fieldLink RX1 9 "ExactDesk" "registers" "[J", Cond.methodLink RX1 38 yX1_isRegister, Cond.static yX1_isRegister, Cond.initialized RX1, Cond.code yX1_isRegister cX1_isRegister 1 (some .boolean), Cond.methodLink RX1 26 yX0_becomeProduct, Cond.instanceMethod yX0_becomeProduct, Cond.selects RX0 yX0_becomeProduct yX0_becomeProduct, Cond.initialized RX0, Cond.code yX0_becomeProduct cX0_becomeProduct 17 none, Cond.constantLong RX0 16 (4294967295), Cond.fieldLink RX0 9 "ExactDesk$Wide" "high" "J", Cond.fieldLink RX0 13 "ExactDesk$Wide" "low" "J", Cond.methodLink RX1 49 yX1_keepInRegister, Cond.instanceMethod yX1_keepInRegister, Cond.selects RX1 yX1_keepInRegister yX1_keepInRegister, Cond.code yX1_keepInRegister cX1_keepInRegister 2 (some .int), Cond.methodLink RX1 104 yX0_fitsLong, Cond.instanceMethod yX0_fitsLong, Cond.selects RX0 yX0_fitsLong yX0_fitsLong, Cond.code yX0_fitsLong cX0_fitsLong 1 (some .boolean), Cond.methodLink RX1 74 yX0_isNegative, Cond.instanceMethod yX0_isNegative]
def wsX1_times_r2 : List Cond := [Cond.selects RX0 yX0_isNegative yX0_isNegative, Cond.code yX0_isNegative cX0_isNegative 1 (some .boolean), Cond.methodLink RX1 107 yX0_lowWord, Cond.instanceMethod yX0_lowWord, Cond.selects RX0 yX0_lowWord yX0_lowWord, Cond.code yX0_lowWord cX0_lowWord 1 (some .long)]
def wsX1_times : List Cond := .code yX1_times cX1_times 4 (some .int) :: ((wsX1_times_r1 ++ wsX1_times_r2) ++ wsX10 ++ wsX00)
def wsX1_isWay : List Cond := .code yX1_isWay cX1_isWay 1 (some .boolean) :: ([])
def wsX1_roundsAwayFromZero : List Cond := .code yX1_roundsAwayFromZero cX1_roundsAwayFromZero 6 (some .boolean) :: ([])
def wsX1_divideOutcome_r1 : List Cond := [Cond.fieldLink RX1 35 "ExactDesk" "outcome" "LExactDesk$Wide;", Cond.methodLink RX1 74 yX0_isNegative, Cond.instanceMethod yX0_isNegative, Cond.selects RX0 yX0_isNegative yX0_isNegative, Cond.initialized RX0, Cond.code yX0_isNegative cX0_isNegative 1 (some .boolean), Cond.fieldLink RX0 9 "ExactDesk$Wide" "high" "J", Cond.methodLink RX1 78 yX0_dropSign, Cond.instanceMethod yX0_dropSign, Cond.selects RX0 yX0_dropSign yX0_dropSign, Cond.code yX0_dropSign cX0_dropSign 1 none, Cond.methodLink RX0 28 yX0_isNegative, Cond.methodLink RX0 32 yX0_negate, Cond.instanceMethod yX0_negate, Cond.selects RX0 yX0_negate yX0_negate, Cond.code yX0_negate cX0_negate 1 none, Cond.fieldLink RX0 13 "ExactDesk$Wide" "low" "J", Cond.constantLong RX0 26 (-1), Cond.methodLink RX1 81 yX0_divideBy, Cond.instanceMethod yX0_divideBy, Cond.selects RX0 yX0_divideBy yX0_divideBy, Cond.code yX0_divideBy cX0_divideBy 6 (some .long), Cond.methodLink RX0 22 yX0_unsignedLess, Cond.static yX0_unsignedLess]
def wsX1_divideOutcome_r2 : List Cond := [Cond.code yX0_unsignedLess cX0_unsignedLess 4 (some .boolean), Cond.constantLong RX0 35 (-9223372036854775808), Cond.methodLink RX1 111 yX1_roundsAwayFromZero, Cond.static yX1_roundsAwayFromZero, Cond.initialized RX1, Cond.code yX1_roundsAwayFromZero cX1_roundsAwayFromZero 6 (some .boolean), Cond.methodLink RX1 46 yX0_increase, Cond.instanceMethod yX0_increase, Cond.selects RX0 yX0_increase yX0_increase, Cond.code yX0_increase cX0_increase 3 none, Cond.methodLink RX0 18 yX0_addWords, Cond.instanceMethod yX0_addWords, Cond.selects RX0 yX0_addWords yX0_addWords, Cond.code yX0_addWords cX0_addWords 9 none, Cond.methodLink RX1 53 yX0_negate]
def wsX1_divideOutcome : List Cond := .code yX1_divideOutcome cX1_divideOutcome 9 none :: ((wsX1_divideOutcome_r1 ++ wsX1_divideOutcome_r2) ++ wsX10 ++ wsX00)
def wsX1_share_r1 : List Cond := [Cond.fieldLink RX1 35 "ExactDesk" "outcome" "LExactDesk$Wide;", Cond.fieldLink RX1 9 "ExactDesk" "registers" "[J", Cond.methodLink RX1 38 yX1_isRegister, Cond.static yX1_isRegister, Cond.initialized RX1, Cond.code yX1_isRegister cX1_isRegister 1 (some .boolean), Cond.methodLink RX1 56 yX1_isWay, Cond.static yX1_isWay, Cond.code yX1_isWay cX1_isWay 1 (some .boolean), Cond.methodLink RX1 26 yX0_becomeProduct, Cond.instanceMethod yX0_becomeProduct, Cond.selects RX0 yX0_becomeProduct yX0_becomeProduct, Cond.initialized RX0, Cond.code yX0_becomeProduct cX0_becomeProduct 17 none, Cond.constantLong RX0 16 (4294967295), Cond.fieldLink RX0 9 "ExactDesk$Wide" "high" "J", Cond.fieldLink RX0 13 "ExactDesk$Wide" "low" "J", Cond.methodLink RX1 59 yX1_divideOutcome, Cond.instanceMethod yX1_divideOutcome, Cond.selects RX1 yX1_divideOutcome yX1_divideOutcome, Cond.code yX1_divideOutcome cX1_divideOutcome 9 none, Cond.methodLink RX1 74 yX0_isNegative, Cond.instanceMethod yX0_isNegative, Cond.selects RX0 yX0_isNegative yX0_isNegative]
def wsX1_share_r2 : List Cond := [Cond.code yX0_isNegative cX0_isNegative 1 (some .boolean), Cond.methodLink RX1 78 yX0_dropSign, Cond.instanceMethod yX0_dropSign, Cond.selects RX0 yX0_dropSign yX0_dropSign, Cond.code yX0_dropSign cX0_dropSign 1 none, Cond.methodLink RX0 28 yX0_isNegative, Cond.methodLink RX0 32 yX0_negate, Cond.instanceMethod yX0_negate, Cond.selects RX0 yX0_negate yX0_negate, Cond.code yX0_negate cX0_negate 1 none, Cond.constantLong RX0 26 (-1), Cond.methodLink RX1 81 yX0_divideBy, Cond.instanceMethod yX0_divideBy, Cond.selects RX0 yX0_divideBy yX0_divideBy, Cond.code yX0_divideBy cX0_divideBy 6 (some .long), Cond.methodLink RX0 22 yX0_unsignedLess, Cond.static yX0_unsignedLess, Cond.code yX0_unsignedLess cX0_unsignedLess 4 (some .boolean), Cond.constantLong RX0 35 (-9223372036854775808), Cond.methodLink RX1 111 yX1_roundsAwayFromZero, Cond.static yX1_roundsAwayFromZero, Cond.code yX1_roundsAwayFromZero cX1_roundsAwayFromZero 6 (some .boolean), Cond.methodLink RX1 46 yX0_increase, Cond.instanceMethod yX0_increase]
def wsX1_share_r3 : List Cond := [Cond.selects RX0 yX0_increase yX0_increase, Cond.code yX0_increase cX0_increase 3 none, Cond.methodLink RX0 18 yX0_addWords, Cond.instanceMethod yX0_addWords, Cond.selects RX0 yX0_addWords yX0_addWords, Cond.code yX0_addWords cX0_addWords 9 none, Cond.methodLink RX1 53 yX0_negate, Cond.methodLink RX1 49 yX1_keepInRegister, Cond.instanceMethod yX1_keepInRegister, Cond.selects RX1 yX1_keepInRegister yX1_keepInRegister, Cond.code yX1_keepInRegister cX1_keepInRegister 2 (some .int), Cond.methodLink RX1 104 yX0_fitsLong, Cond.instanceMethod yX0_fitsLong, Cond.selects RX0 yX0_fitsLong yX0_fitsLong, Cond.code yX0_fitsLong cX0_fitsLong 1 (some .boolean), Cond.methodLink RX1 107 yX0_lowWord, Cond.instanceMethod yX0_lowWord, Cond.selects RX0 yX0_lowWord yX0_lowWord, Cond.code yX0_lowWord cX0_lowWord 1 (some .long)]
def wsX1_share : List Cond := .code yX1_share cX1_share 7 (some .int) :: ((wsX1_share_r1 ++ (wsX1_share_r2 ++ wsX1_share_r3)) ++ wsX10 ++ wsX00)
def wsX1_isTally : List Cond := .code yX1_isTally cX1_isTally 1 (some .boolean) :: ([])
def wsX1_keepInTally : List Cond := .code yX1_keepInTally cX1_keepInTally 2 (some .int) :: ([.fieldLink RX1 35 "ExactDesk" "outcome" "LExactDesk$Wide;", .fieldLink RX1 20 "ExactDesk" "tallyCeiling" "LExactDesk$Wide;", .fieldLink RX1 30 "ExactDesk" "tallyFloor" "LExactDesk$Wide;", .fieldLink RX1 15 "ExactDesk" "tallies" "[LExactDesk$Wide;", .methodLink RX1 85 yX0_orderTo, .instanceMethod yX0_orderTo, .selects RX0 yX0_orderTo yX0_orderTo, .initialized RX0, .code yX0_orderTo cX0_orderTo 2 (some .int), .fieldLink RX0 9 "ExactDesk$Wide" "high" "J", .fieldLink RX0 13 "ExactDesk$Wide" "low" "J", .methodLink RX0 22 yX0_unsignedLess, .static yX0_unsignedLess, .code yX0_unsignedLess cX0_unsignedLess 4 (some .boolean), .constantLong RX0 35 (-9223372036854775808), .methodLink RX1 72 yX0_become_, .instanceMethod yX0_become_, .selects RX0 yX0_become_ yX0_become_, .code yX0_become_ cX0_become_ 2 none] ++ wsX10 ++ wsX00)
def wsX1_enter_r1 : List Cond := [Cond.fieldLink RX1 35 "ExactDesk" "outcome" "LExactDesk$Wide;", Cond.fieldLink RX1 9 "ExactDesk" "registers" "[J", Cond.fieldLink RX1 15 "ExactDesk" "tallies" "[LExactDesk$Wide;", Cond.methodLink RX1 63 yX1_isTally, Cond.static yX1_isTally, Cond.initialized RX1, Cond.code yX1_isTally cX1_isTally 1 (some .boolean), Cond.methodLink RX1 38 yX1_isRegister, Cond.static yX1_isRegister, Cond.code yX1_isRegister cX1_isRegister 1 (some .boolean), Cond.methodLink RX1 26 yX0_becomeProduct, Cond.instanceMethod yX0_becomeProduct, Cond.selects RX0 yX0_becomeProduct yX0_becomeProduct, Cond.initialized RX0, Cond.code yX0_becomeProduct cX0_becomeProduct 17 none, Cond.constantLong RX0 16 (4294967295), Cond.fieldLink RX0 9 "ExactDesk$Wide" "high" "J", Cond.fieldLink RX0 13 "ExactDesk$Wide" "low" "J", Cond.methodLink RX1 66 yX0_increase_, Cond.instanceMethod yX0_increase_, Cond.selects RX0 yX0_increase_ yX0_increase_, Cond.code yX0_increase_ cX0_increase_ 2 none, Cond.methodLink RX0 18 yX0_addWords, Cond.instanceMethod yX0_addWords]
def wsX1_enter_r2 : List Cond := [Cond.selects RX0 yX0_addWords yX0_addWords, Cond.code yX0_addWords cX0_addWords 9 none, Cond.methodLink RX0 22 yX0_unsignedLess, Cond.static yX0_unsignedLess, Cond.code yX0_unsignedLess cX0_unsignedLess 4 (some .boolean), Cond.constantLong RX0 35 (-9223372036854775808), Cond.methodLink RX1 69 yX1_keepInTally, Cond.instanceMethod yX1_keepInTally, Cond.selects RX1 yX1_keepInTally yX1_keepInTally, Cond.code yX1_keepInTally cX1_keepInTally 2 (some .int), Cond.fieldLink RX1 20 "ExactDesk" "tallyCeiling" "LExactDesk$Wide;", Cond.fieldLink RX1 30 "ExactDesk" "tallyFloor" "LExactDesk$Wide;", Cond.methodLink RX1 85 yX0_orderTo, Cond.instanceMethod yX0_orderTo, Cond.selects RX0 yX0_orderTo yX0_orderTo, Cond.code yX0_orderTo cX0_orderTo 2 (some .int), Cond.methodLink RX1 72 yX0_become_, Cond.instanceMethod yX0_become_, Cond.selects RX0 yX0_become_ yX0_become_, Cond.code yX0_become_ cX0_become_ 2 none]
def wsX1_enter : List Cond := .code yX1_enter cX1_enter 5 (some .int) :: ((wsX1_enter_r1 ++ wsX1_enter_r2) ++ wsX10 ++ wsX00)
def wsX1_merge_r1 : List Cond := [Cond.fieldLink RX1 35 "ExactDesk" "outcome" "LExactDesk$Wide;", Cond.fieldLink RX1 15 "ExactDesk" "tallies" "[LExactDesk$Wide;", Cond.methodLink RX1 63 yX1_isTally, Cond.static yX1_isTally, Cond.initialized RX1, Cond.code yX1_isTally cX1_isTally 1 (some .boolean), Cond.methodLink RX1 72 yX0_become_, Cond.instanceMethod yX0_become_, Cond.selects RX0 yX0_become_ yX0_become_, Cond.initialized RX0, Cond.code yX0_become_ cX0_become_ 2 none, Cond.fieldLink RX0 9 "ExactDesk$Wide" "high" "J", Cond.fieldLink RX0 13 "ExactDesk$Wide" "low" "J", Cond.methodLink RX1 66 yX0_increase_, Cond.instanceMethod yX0_increase_, Cond.selects RX0 yX0_increase_ yX0_increase_, Cond.code yX0_increase_ cX0_increase_ 2 none, Cond.methodLink RX0 18 yX0_addWords, Cond.instanceMethod yX0_addWords, Cond.selects RX0 yX0_addWords yX0_addWords, Cond.code yX0_addWords cX0_addWords 9 none, Cond.methodLink RX0 22 yX0_unsignedLess, Cond.static yX0_unsignedLess, Cond.code yX0_unsignedLess cX0_unsignedLess 4 (some .boolean)]
def wsX1_merge_r2 : List Cond := [Cond.constantLong RX0 35 (-9223372036854775808), Cond.methodLink RX1 69 yX1_keepInTally, Cond.instanceMethod yX1_keepInTally, Cond.selects RX1 yX1_keepInTally yX1_keepInTally, Cond.code yX1_keepInTally cX1_keepInTally 2 (some .int), Cond.fieldLink RX1 20 "ExactDesk" "tallyCeiling" "LExactDesk$Wide;", Cond.fieldLink RX1 30 "ExactDesk" "tallyFloor" "LExactDesk$Wide;", Cond.methodLink RX1 85 yX0_orderTo, Cond.instanceMethod yX0_orderTo, Cond.selects RX0 yX0_orderTo yX0_orderTo, Cond.code yX0_orderTo cX0_orderTo 2 (some .int)]
def wsX1_merge : List Cond := .code yX1_merge cX1_merge 3 (some .int) :: ((wsX1_merge_r1 ++ wsX1_merge_r2) ++ wsX10 ++ wsX00)
def wsX1_split_r1 : List Cond := [Cond.constantLong RX1 24 (1000000000000000000), Cond.fieldLink RX1 15 "ExactDesk" "tallies" "[LExactDesk$Wide;", Cond.fieldLink RX1 9 "ExactDesk" "registers" "[J", Cond.methodLink RX1 63 yX1_isTally, Cond.static yX1_isTally, Cond.initialized RX1, Cond.code yX1_isTally cX1_isTally 1 (some .boolean), Cond.methodLink RX1 38 yX1_isRegister, Cond.static yX1_isRegister, Cond.code yX1_isRegister cX1_isRegister 1 (some .boolean), Cond.methodLink RX1 74 yX0_isNegative, Cond.instanceMethod yX0_isNegative, Cond.selects RX0 yX0_isNegative yX0_isNegative, Cond.initialized RX0, Cond.code yX0_isNegative cX0_isNegative 1 (some .boolean), Cond.fieldLink RX0 9 "ExactDesk$Wide" "high" "J", Cond.methodLink RX1 78 yX0_dropSign, Cond.instanceMethod yX0_dropSign, Cond.selects RX0 yX0_dropSign yX0_dropSign, Cond.code yX0_dropSign cX0_dropSign 1 none, Cond.methodLink RX0 28 yX0_isNegative, Cond.methodLink RX0 32 yX0_negate, Cond.instanceMethod yX0_negate, Cond.selects RX0 yX0_negate yX0_negate]
def wsX1_split_r2 : List Cond := [Cond.code yX0_negate cX0_negate 1 none, Cond.fieldLink RX0 13 "ExactDesk$Wide" "low" "J", Cond.constantLong RX0 26 (-1), Cond.methodLink RX1 81 yX0_divideBy, Cond.instanceMethod yX0_divideBy, Cond.selects RX0 yX0_divideBy yX0_divideBy, Cond.code yX0_divideBy cX0_divideBy 6 (some .long), Cond.methodLink RX0 22 yX0_unsignedLess, Cond.static yX0_unsignedLess, Cond.code yX0_unsignedLess cX0_unsignedLess 4 (some .boolean), Cond.constantLong RX0 35 (-9223372036854775808), Cond.methodLink RX1 53 yX0_negate]
def wsX1_split : List Cond := .code yX1_split cX1_split 9 (some .int) :: ((wsX1_split_r1 ++ wsX1_split_r2) ++ wsX10 ++ wsX00)
def wsX1_take_r1 : List Cond := [Cond.fieldLink RX1 35 "ExactDesk" "outcome" "LExactDesk$Wide;", Cond.fieldLink RX1 15 "ExactDesk" "tallies" "[LExactDesk$Wide;", Cond.methodLink RX1 63 yX1_isTally, Cond.static yX1_isTally, Cond.initialized RX1, Cond.code yX1_isTally cX1_isTally 1 (some .boolean), Cond.methodLink RX1 38 yX1_isRegister, Cond.static yX1_isRegister, Cond.code yX1_isRegister cX1_isRegister 1 (some .boolean), Cond.methodLink RX1 72 yX0_become_, Cond.instanceMethod yX0_become_, Cond.selects RX0 yX0_become_ yX0_become_, Cond.initialized RX0, Cond.code yX0_become_ cX0_become_ 2 none, Cond.fieldLink RX0 9 "ExactDesk$Wide" "high" "J", Cond.fieldLink RX0 13 "ExactDesk$Wide" "low" "J", Cond.methodLink RX1 49 yX1_keepInRegister, Cond.instanceMethod yX1_keepInRegister, Cond.selects RX1 yX1_keepInRegister yX1_keepInRegister, Cond.code yX1_keepInRegister cX1_keepInRegister 2 (some .int), Cond.fieldLink RX1 9 "ExactDesk" "registers" "[J", Cond.methodLink RX1 104 yX0_fitsLong, Cond.instanceMethod yX0_fitsLong, Cond.selects RX0 yX0_fitsLong yX0_fitsLong]
def wsX1_take_r2 : List Cond := [Cond.code yX0_fitsLong cX0_fitsLong 1 (some .boolean), Cond.methodLink RX1 74 yX0_isNegative, Cond.instanceMethod yX0_isNegative, Cond.selects RX0 yX0_isNegative yX0_isNegative, Cond.code yX0_isNegative cX0_isNegative 1 (some .boolean), Cond.methodLink RX1 107 yX0_lowWord, Cond.instanceMethod yX0_lowWord, Cond.selects RX0 yX0_lowWord yX0_lowWord, Cond.code yX0_lowWord cX0_lowWord 1 (some .long)]
def wsX1_take : List Cond := .code yX1_take cX1_take 3 (some .int) :: ((wsX1_take_r1 ++ wsX1_take_r2) ++ wsX10 ++ wsX00)
def wsX1_clear : List Cond := .code yX1_clear cX1_clear 2 (some .boolean) :: ([.fieldLink RX1 15 "ExactDesk" "tallies" "[LExactDesk$Wide;", .methodLink RX1 63 yX1_isTally, .static yX1_isTally, .initialized RX1, .code yX1_isTally cX1_isTally 1 (some .boolean), .methodLink RX1 42 yX0_become, .instanceMethod yX0_become, .selects RX0 yX0_become yX0_become, .initialized RX0, .code yX0_become cX0_become 3 none, .fieldLink RX0 9 "ExactDesk$Wide" "high" "J", .fieldLink RX0 13 "ExactDesk$Wide" "low" "J"] ++ wsX10 ++ wsX00)
def wsX1_compare : List Cond := .code yX1_compare cX1_compare 3 (some .int) :: ([.fieldLink RX1 15 "ExactDesk" "tallies" "[LExactDesk$Wide;", .methodLink RX1 63 yX1_isTally, .static yX1_isTally, .initialized RX1, .code yX1_isTally cX1_isTally 1 (some .boolean), .methodLink RX1 85 yX0_orderTo, .instanceMethod yX0_orderTo, .selects RX0 yX0_orderTo yX0_orderTo, .initialized RX0, .code yX0_orderTo cX0_orderTo 2 (some .int), .fieldLink RX0 9 "ExactDesk$Wide" "high" "J", .fieldLink RX0 13 "ExactDesk$Wide" "low" "J", .methodLink RX0 22 yX0_unsignedLess, .static yX0_unsignedLess, .code yX0_unsignedLess cX0_unsignedLess 4 (some .boolean), .constantLong RX0 35 (-9223372036854775808)] ++ wsX10 ++ wsX00)
def wsX1_upperHalf_r1 : List Cond := [Cond.fieldLink RX1 35 "ExactDesk" "outcome" "LExactDesk$Wide;", Cond.constantLong RX1 24 (1000000000000000000), Cond.methodLink RX1 72 yX0_become_, Cond.instanceMethod yX0_become_, Cond.selects RX0 yX0_become_ yX0_become_, Cond.initialized RX0, Cond.code yX0_become_ cX0_become_ 2 none, Cond.fieldLink RX0 9 "ExactDesk$Wide" "high" "J", Cond.fieldLink RX0 13 "ExactDesk$Wide" "low" "J", Cond.methodLink RX1 78 yX0_dropSign, Cond.instanceMethod yX0_dropSign, Cond.selects RX0 yX0_dropSign yX0_dropSign, Cond.code yX0_dropSign cX0_dropSign 1 none, Cond.methodLink RX0 28 yX0_isNegative, Cond.instanceMethod yX0_isNegative, Cond.selects RX0 yX0_isNegative yX0_isNegative, Cond.code yX0_isNegative cX0_isNegative 1 (some .boolean), Cond.methodLink RX0 32 yX0_negate, Cond.instanceMethod yX0_negate, Cond.selects RX0 yX0_negate yX0_negate, Cond.code yX0_negate cX0_negate 1 none, Cond.constantLong RX0 26 (-1), Cond.methodLink RX1 81 yX0_divideBy, Cond.instanceMethod yX0_divideBy]
def wsX1_upperHalf_r2 : List Cond := [Cond.selects RX0 yX0_divideBy yX0_divideBy, Cond.code yX0_divideBy cX0_divideBy 6 (some .long), Cond.methodLink RX0 22 yX0_unsignedLess, Cond.static yX0_unsignedLess, Cond.code yX0_unsignedLess cX0_unsignedLess 4 (some .boolean), Cond.constantLong RX0 35 (-9223372036854775808), Cond.methodLink RX1 107 yX0_lowWord, Cond.instanceMethod yX0_lowWord, Cond.selects RX0 yX0_lowWord yX0_lowWord, Cond.code yX0_lowWord cX0_lowWord 1 (some .long)]
def wsX1_upperHalf : List Cond := .code yX1_upperHalf cX1_upperHalf 2 (some .long) :: ((wsX1_upperHalf_r1 ++ wsX1_upperHalf_r2) ++ wsX10 ++ wsX00)
def wsX1_decimalLength : List Cond := .code yX1_decimalLength cX1_decimalLength 5 (some .int) :: ([.constantLong RX1 115 (10)])
def wsX1_lowerHalf_r1 : List Cond := [Cond.fieldLink RX1 35 "ExactDesk" "outcome" "LExactDesk$Wide;", Cond.constantLong RX1 24 (1000000000000000000), Cond.methodLink RX1 72 yX0_become_, Cond.instanceMethod yX0_become_, Cond.selects RX0 yX0_become_ yX0_become_, Cond.initialized RX0, Cond.code yX0_become_ cX0_become_ 2 none, Cond.fieldLink RX0 9 "ExactDesk$Wide" "high" "J", Cond.fieldLink RX0 13 "ExactDesk$Wide" "low" "J", Cond.methodLink RX1 78 yX0_dropSign, Cond.instanceMethod yX0_dropSign, Cond.selects RX0 yX0_dropSign yX0_dropSign, Cond.code yX0_dropSign cX0_dropSign 1 none, Cond.methodLink RX0 28 yX0_isNegative, Cond.instanceMethod yX0_isNegative, Cond.selects RX0 yX0_isNegative yX0_isNegative, Cond.code yX0_isNegative cX0_isNegative 1 (some .boolean), Cond.methodLink RX0 32 yX0_negate, Cond.instanceMethod yX0_negate, Cond.selects RX0 yX0_negate yX0_negate, Cond.code yX0_negate cX0_negate 1 none, Cond.constantLong RX0 26 (-1), Cond.methodLink RX1 81 yX0_divideBy, Cond.instanceMethod yX0_divideBy]
def wsX1_lowerHalf_r2 : List Cond := [Cond.selects RX0 yX0_divideBy yX0_divideBy, Cond.code yX0_divideBy cX0_divideBy 6 (some .long), Cond.methodLink RX0 22 yX0_unsignedLess, Cond.static yX0_unsignedLess, Cond.code yX0_unsignedLess cX0_unsignedLess 4 (some .boolean), Cond.constantLong RX0 35 (-9223372036854775808)]
def wsX1_lowerHalf : List Cond := .code yX1_lowerHalf cX1_lowerHalf 2 (some .long) :: ((wsX1_lowerHalf_r1 ++ wsX1_lowerHalf_r2) ++ wsX10 ++ wsX00)
def wsX1_digits_r1 : List Cond := [Cond.fieldLink RX1 15 "ExactDesk" "tallies" "[LExactDesk$Wide;", Cond.methodLink RX1 63 yX1_isTally, Cond.static yX1_isTally, Cond.initialized RX1, Cond.code yX1_isTally cX1_isTally 1 (some .boolean), Cond.methodLink RX1 89 yX1_upperHalf, Cond.instanceMethod yX1_upperHalf, Cond.selects RX1 yX1_upperHalf yX1_upperHalf, Cond.code yX1_upperHalf cX1_upperHalf 2 (some .long), Cond.fieldLink RX1 35 "ExactDesk" "outcome" "LExactDesk$Wide;", Cond.constantLong RX1 24 (1000000000000000000), Cond.methodLink RX1 72 yX0_become_, Cond.instanceMethod yX0_become_, Cond.selects RX0 yX0_become_ yX0_become_, Cond.initialized RX0, Cond.code yX0_become_ cX0_become_ 2 none, Cond.fieldLink RX0 9 "ExactDesk$Wide" "high" "J", Cond.fieldLink RX0 13 "ExactDesk$Wide" "low" "J", Cond.methodLink RX1 78 yX0_dropSign, Cond.instanceMethod yX0_dropSign, Cond.selects RX0 yX0_dropSign yX0_dropSign, Cond.code yX0_dropSign cX0_dropSign 1 none, Cond.methodLink RX0 28 yX0_isNegative, Cond.instanceMethod yX0_isNegative]
def wsX1_digits_r2 : List Cond := [Cond.selects RX0 yX0_isNegative yX0_isNegative, Cond.code yX0_isNegative cX0_isNegative 1 (some .boolean), Cond.methodLink RX0 32 yX0_negate, Cond.instanceMethod yX0_negate, Cond.selects RX0 yX0_negate yX0_negate, Cond.code yX0_negate cX0_negate 1 none, Cond.constantLong RX0 26 (-1), Cond.methodLink RX1 81 yX0_divideBy, Cond.instanceMethod yX0_divideBy, Cond.selects RX0 yX0_divideBy yX0_divideBy, Cond.code yX0_divideBy cX0_divideBy 6 (some .long), Cond.methodLink RX0 22 yX0_unsignedLess, Cond.static yX0_unsignedLess, Cond.code yX0_unsignedLess cX0_unsignedLess 4 (some .boolean), Cond.constantLong RX0 35 (-9223372036854775808), Cond.methodLink RX1 107 yX0_lowWord, Cond.instanceMethod yX0_lowWord, Cond.selects RX0 yX0_lowWord yX0_lowWord, Cond.code yX0_lowWord cX0_lowWord 1 (some .long), Cond.methodLink RX1 93 yX1_decimalLength, Cond.static yX1_decimalLength, Cond.code yX1_decimalLength cX1_decimalLength 5 (some .int), Cond.constantLong RX1 115 (10), Cond.methodLink RX1 97 yX1_lowerHalf]
def wsX1_digits_r3 : List Cond := [Cond.instanceMethod yX1_lowerHalf, Cond.selects RX1 yX1_lowerHalf yX1_lowerHalf, Cond.code yX1_lowerHalf cX1_lowerHalf 2 (some .long), Cond.methodLink RX1 74 yX0_isNegative]
def wsX1_digits : List Cond := .code yX1_digits cX1_digits 5 (some .int) :: ((wsX1_digits_r1 ++ (wsX1_digits_r2 ++ wsX1_digits_r3)) ++ wsX10 ++ wsX00)
def wsX1_decimalDigit : List Cond := .code yX1_decimalDigit cX1_decimalDigit 6 (some .int) :: ([.constantLong RX1 115 (10)])
def wsX1_digit_r1 : List Cond := [Cond.fieldLink RX1 15 "ExactDesk" "tallies" "[LExactDesk$Wide;", Cond.methodLink RX1 63 yX1_isTally, Cond.static yX1_isTally, Cond.initialized RX1, Cond.code yX1_isTally cX1_isTally 1 (some .boolean), Cond.methodLink RX1 97 yX1_lowerHalf, Cond.instanceMethod yX1_lowerHalf, Cond.selects RX1 yX1_lowerHalf yX1_lowerHalf, Cond.code yX1_lowerHalf cX1_lowerHalf 2 (some .long), Cond.fieldLink RX1 35 "ExactDesk" "outcome" "LExactDesk$Wide;", Cond.constantLong RX1 24 (1000000000000000000), Cond.methodLink RX1 72 yX0_become_, Cond.instanceMethod yX0_become_, Cond.selects RX0 yX0_become_ yX0_become_, Cond.initialized RX0, Cond.code yX0_become_ cX0_become_ 2 none, Cond.fieldLink RX0 9 "ExactDesk$Wide" "high" "J", Cond.fieldLink RX0 13 "ExactDesk$Wide" "low" "J", Cond.methodLink RX1 78 yX0_dropSign, Cond.instanceMethod yX0_dropSign, Cond.selects RX0 yX0_dropSign yX0_dropSign, Cond.code yX0_dropSign cX0_dropSign 1 none, Cond.methodLink RX0 28 yX0_isNegative, Cond.instanceMethod yX0_isNegative]
def wsX1_digit_r2 : List Cond := [Cond.selects RX0 yX0_isNegative yX0_isNegative, Cond.code yX0_isNegative cX0_isNegative 1 (some .boolean), Cond.methodLink RX0 32 yX0_negate, Cond.instanceMethod yX0_negate, Cond.selects RX0 yX0_negate yX0_negate, Cond.code yX0_negate cX0_negate 1 none, Cond.constantLong RX0 26 (-1), Cond.methodLink RX1 81 yX0_divideBy, Cond.instanceMethod yX0_divideBy, Cond.selects RX0 yX0_divideBy yX0_divideBy, Cond.code yX0_divideBy cX0_divideBy 6 (some .long), Cond.methodLink RX0 22 yX0_unsignedLess, Cond.static yX0_unsignedLess, Cond.code yX0_unsignedLess cX0_unsignedLess 4 (some .boolean), Cond.constantLong RX0 35 (-9223372036854775808), Cond.methodLink RX1 100 yX1_decimalDigit, Cond.static yX1_decimalDigit, Cond.code yX1_decimalDigit cX1_decimalDigit 6 (some .int), Cond.constantLong RX1 115 (10), Cond.methodLink RX1 89 yX1_upperHalf, Cond.instanceMethod yX1_upperHalf, Cond.selects RX1 yX1_upperHalf yX1_upperHalf, Cond.code yX1_upperHalf cX1_upperHalf 2 (some .long), Cond.methodLink RX1 107 yX0_lowWord]
def wsX1_digit_r3 : List Cond := [Cond.instanceMethod yX0_lowWord, Cond.selects RX0 yX0_lowWord yX0_lowWord, Cond.code yX0_lowWord cX0_lowWord 1 (some .long)]
def wsX1_digit : List Cond := .code yX1_digit cX1_digit 3 (some .int) :: ((wsX1_digit_r1 ++ (wsX1_digit_r2 ++ wsX1_digit_r3)) ++ wsX10 ++ wsX00)
def wsX2_init : List Cond := .code yX2_init cX2_init 1 none :: ([.methodLink RX2 1 objectInit, .instanceMethod objectInit, .code objectInit ⟨#[0xb1]⟩ 1 none, .arrayClass .long, .fieldLink RX2 7 "ExactDeskModel" "registers" "[J", .arrayClass .int, .fieldLink RX2 13 "ExactDeskModel" "tallies" "[I", .arrayClass .boolean, .fieldLink RX2 17 "ExactDeskModel" "below" "[Z", .fieldLink RX2 21 "ExactDeskModel" "a" "[I", .fieldLink RX2 24 "ExactDeskModel" "b" "[I", .fieldLink RX2 27 "ExactDeskModel" "c" "[I", .fieldLink RX2 30 "ExactDeskModel" "rest" "[I"] ++ wsX20)
def wsX2_isRegister : List Cond := .code yX2_isRegister cX2_isRegister 1 (some .boolean) :: ([])
def wsX2_set : List Cond := .code yX2_set cX2_set 4 (some .boolean) :: ([.fieldLink RX2 7 "ExactDeskModel" "registers" "[J", .methodLink RX2 33 yX2_isRegister, .static yX2_isRegister, .initialized RX2, .code yX2_isRegister cX2_isRegister 1 (some .boolean)] ++ wsX20)
def wsL_law_r1 : List Cond := [Cond.classLink RL 7 RX1, Cond.instantiable RX1 5, Cond.initialized RX1, Cond.classLink RL 10 RX2, Cond.instantiable RX2 8, Cond.initialized RX2, Cond.methodLink RL 9 yX1_init, Cond.instanceMethod yX1_init, Cond.code yX1_init cX1_init 2 none, Cond.methodLink RX1 3 objectInit, Cond.instanceMethod objectInit, Cond.code objectInit ⟨#[0xb1]⟩ 1 none, Cond.arrayClass .long, Cond.fieldLink RX1 9 "ExactDesk" "registers" "[J", Cond.classLink RX1 13 RX0, Cond.fieldLink RX1 15 "ExactDesk" "tallies" "[LExactDesk$Wide;", Cond.instantiable RX0 2, Cond.initialized RX0, Cond.fieldLink RX1 20 "ExactDesk" "tallyCeiling" "LExactDesk$Wide;", Cond.constantLong RX1 24 (1000000000000000000), Cond.fieldLink RX1 30 "ExactDesk" "tallyFloor" "LExactDesk$Wide;", Cond.constantLong RX1 33 (-1000000000000000000), Cond.fieldLink RX1 35 "ExactDesk" "outcome" "LExactDesk$Wide;", Cond.instanceMethod yX0_init]
def wsL_law_r2 : List Cond := [Cond.code yX0_init cX0_init 1 none, Cond.methodLink RX0 3 objectInit, Cond.methodLink RX1 26 yX0_becomeProduct, Cond.instanceMethod yX0_becomeProduct, Cond.selects RX0 yX0_becomeProduct yX0_becomeProduct, Cond.code yX0_becomeProduct cX0_becomeProduct 17 none, Cond.constantLong RX0 16 (4294967295), Cond.fieldLink RX0 9 "ExactDesk$Wide" "high" "J", Cond.fieldLink RX0 13 "ExactDesk$Wide" "low" "J", Cond.methodLink RL 12 yX2_init, Cond.instanceMethod yX2_init, Cond.code yX2_init cX2_init 1 none, Cond.methodLink RX2 1 objectInit, Cond.fieldLink RX2 7 "ExactDeskModel" "registers" "[J", Cond.arrayClass .int, Cond.fieldLink RX2 13 "ExactDeskModel" "tallies" "[I", Cond.arrayClass .boolean, Cond.fieldLink RX2 17 "ExactDeskModel" "below" "[Z", Cond.fieldLink RX2 21 "ExactDeskModel" "a" "[I", Cond.fieldLink RX2 24 "ExactDeskModel" "b" "[I", Cond.fieldLink RX2 27 "ExactDeskModel" "c" "[I", Cond.fieldLink RX2 30 "ExactDeskModel" "rest" "[I", Cond.methodLink RL 15 yX1_set, Cond.instanceMethod yX1_set]
def wsL_law_r3 : List Cond := [Cond.selects RX1 yX1_set yX1_set, Cond.code yX1_set cX1_set 4 (some .boolean), Cond.methodLink RX1 38 yX1_isRegister, Cond.static yX1_isRegister, Cond.code yX1_isRegister cX1_isRegister 1 (some .boolean), Cond.methodLink RL 19 yX2_set, Cond.instanceMethod yX2_set, Cond.selects RX2 yX2_set yX2_set, Cond.code yX2_set cX2_set 4 (some .boolean), Cond.methodLink RX2 33 yX2_isRegister, Cond.static yX2_isRegister, Cond.code yX2_isRegister cX2_isRegister 1 (some .boolean), Cond.methodLink RL 20 yX1_get, Cond.instanceMethod yX1_get, Cond.selects RX1 yX1_get yX1_get, Cond.code yX1_get cX1_get 2 (some .long), Cond.methodLink RL 25 yX1_add, Cond.instanceMethod yX1_add, Cond.selects RX1 yX1_add yX1_add, Cond.code yX1_add cX1_add 4 (some .int), Cond.methodLink RX1 42 yX0_become, Cond.instanceMethod yX0_become, Cond.selects RX0 yX0_become yX0_become, Cond.code yX0_become cX0_become 3 none]
def wsL_law_r4 : List Cond := [Cond.methodLink RX1 46 yX0_increase, Cond.instanceMethod yX0_increase, Cond.selects RX0 yX0_increase yX0_increase, Cond.code yX0_increase cX0_increase 3 none, Cond.methodLink RX0 18 yX0_addWords, Cond.instanceMethod yX0_addWords, Cond.selects RX0 yX0_addWords yX0_addWords, Cond.code yX0_addWords cX0_addWords 9 none, Cond.methodLink RX0 22 yX0_unsignedLess, Cond.static yX0_unsignedLess, Cond.code yX0_unsignedLess cX0_unsignedLess 4 (some .boolean), Cond.constantLong RX0 35 (-9223372036854775808), Cond.methodLink RX1 49 yX1_keepInRegister, Cond.instanceMethod yX1_keepInRegister, Cond.selects RX1 yX1_keepInRegister yX1_keepInRegister, Cond.code yX1_keepInRegister cX1_keepInRegister 2 (some .int), Cond.methodLink RX1 104 yX0_fitsLong, Cond.instanceMethod yX0_fitsLong, Cond.selects RX0 yX0_fitsLong yX0_fitsLong, Cond.code yX0_fitsLong cX0_fitsLong 1 (some .boolean), Cond.methodLink RX1 74 yX0_isNegative, Cond.instanceMethod yX0_isNegative, Cond.selects RX0 yX0_isNegative yX0_isNegative, Cond.code yX0_isNegative cX0_isNegative 1 (some .boolean)]
def wsL_law_r5 : List Cond := [Cond.methodLink RX1 107 yX0_lowWord, Cond.instanceMethod yX0_lowWord, Cond.selects RX0 yX0_lowWord yX0_lowWord, Cond.code yX0_lowWord cX0_lowWord 1 (some .long), Cond.methodLink RL 30 yX1_subtract, Cond.instanceMethod yX1_subtract, Cond.selects RX1 yX1_subtract yX1_subtract, Cond.code yX1_subtract cX1_subtract 4 (some .int), Cond.methodLink RX1 53 yX0_negate, Cond.instanceMethod yX0_negate, Cond.selects RX0 yX0_negate yX0_negate, Cond.code yX0_negate cX0_negate 1 none, Cond.constantLong RX0 26 (-1), Cond.methodLink RL 34 yX1_times, Cond.instanceMethod yX1_times, Cond.selects RX1 yX1_times yX1_times, Cond.code yX1_times cX1_times 4 (some .int), Cond.methodLink RL 38 yX1_share, Cond.instanceMethod yX1_share, Cond.selects RX1 yX1_share yX1_share, Cond.code yX1_share cX1_share 7 (some .int), Cond.methodLink RX1 56 yX1_isWay, Cond.static yX1_isWay, Cond.code yX1_isWay cX1_isWay 1 (some .boolean)]
def wsL_law_r6 : List Cond := [Cond.methodLink RX1 59 yX1_divideOutcome, Cond.instanceMethod yX1_divideOutcome, Cond.selects RX1 yX1_divideOutcome yX1_divideOutcome, Cond.code yX1_divideOutcome cX1_divideOutcome 9 none, Cond.methodLink RX1 78 yX0_dropSign, Cond.instanceMethod yX0_dropSign, Cond.selects RX0 yX0_dropSign yX0_dropSign, Cond.code yX0_dropSign cX0_dropSign 1 none, Cond.methodLink RX0 28 yX0_isNegative, Cond.methodLink RX0 32 yX0_negate, Cond.methodLink RX1 81 yX0_divideBy, Cond.instanceMethod yX0_divideBy, Cond.selects RX0 yX0_divideBy yX0_divideBy, Cond.code yX0_divideBy cX0_divideBy 6 (some .long), Cond.methodLink RX1 111 yX1_roundsAwayFromZero, Cond.static yX1_roundsAwayFromZero, Cond.code yX1_roundsAwayFromZero cX1_roundsAwayFromZero 6 (some .boolean), Cond.methodLink RL 43 yX1_enter, Cond.instanceMethod yX1_enter, Cond.selects RX1 yX1_enter yX1_enter, Cond.code yX1_enter cX1_enter 5 (some .int), Cond.methodLink RX1 63 yX1_isTally, Cond.static yX1_isTally, Cond.code yX1_isTally cX1_isTally 1 (some .boolean)]
def wsL_law_r7 : List Cond := [Cond.methodLink RX1 66 yX0_increase_, Cond.instanceMethod yX0_increase_, Cond.selects RX0 yX0_increase_ yX0_increase_, Cond.code yX0_increase_ cX0_increase_ 2 none, Cond.methodLink RX1 69 yX1_keepInTally, Cond.instanceMethod yX1_keepInTally, Cond.selects RX1 yX1_keepInTally yX1_keepInTally, Cond.code yX1_keepInTally cX1_keepInTally 2 (some .int), Cond.methodLink RX1 85 yX0_orderTo, Cond.instanceMethod yX0_orderTo, Cond.selects RX0 yX0_orderTo yX0_orderTo, Cond.code yX0_orderTo cX0_orderTo 2 (some .int), Cond.methodLink RX1 72 yX0_become_, Cond.instanceMethod yX0_become_, Cond.selects RX0 yX0_become_ yX0_become_, Cond.code yX0_become_ cX0_become_ 2 none, Cond.methodLink RL 48 yX1_merge, Cond.instanceMethod yX1_merge, Cond.selects RX1 yX1_merge yX1_merge, Cond.code yX1_merge cX1_merge 3 (some .int), Cond.methodLink RL 53 yX1_split, Cond.instanceMethod yX1_split, Cond.selects RX1 yX1_split yX1_split, Cond.code yX1_split cX1_split 9 (some .int)]
def wsL_law_r8 : List Cond := [Cond.methodLink RL 58 yX1_take, Cond.instanceMethod yX1_take, Cond.selects RX1 yX1_take yX1_take, Cond.code yX1_take cX1_take 3 (some .int), Cond.methodLink RL 62 yX1_clear, Cond.instanceMethod yX1_clear, Cond.selects RX1 yX1_clear yX1_clear, Cond.code yX1_clear cX1_clear 2 (some .boolean), Cond.methodLink RL 67 yX1_compare, Cond.instanceMethod yX1_compare, Cond.selects RX1 yX1_compare yX1_compare, Cond.code yX1_compare cX1_compare 3 (some .int), Cond.methodLink RL 71 yX1_digits, Cond.instanceMethod yX1_digits, Cond.selects RX1 yX1_digits yX1_digits, Cond.code yX1_digits cX1_digits 5 (some .int), Cond.methodLink RX1 89 yX1_upperHalf, Cond.instanceMethod yX1_upperHalf, Cond.selects RX1 yX1_upperHalf yX1_upperHalf, Cond.code yX1_upperHalf cX1_upperHalf 2 (some .long), Cond.methodLink RX1 93 yX1_decimalLength, Cond.static yX1_decimalLength, Cond.code yX1_decimalLength cX1_decimalLength 5 (some .int), Cond.constantLong RX1 115 (10)]
def wsL_law_r9 : List Cond := [Cond.methodLink RX1 97 yX1_lowerHalf, Cond.instanceMethod yX1_lowerHalf, Cond.selects RX1 yX1_lowerHalf yX1_lowerHalf, Cond.code yX1_lowerHalf cX1_lowerHalf 2 (some .long), Cond.methodLink RL 76 yX1_digit, Cond.instanceMethod yX1_digit, Cond.selects RX1 yX1_digit yX1_digit, Cond.code yX1_digit cX1_digit 3 (some .int), Cond.methodLink RX1 100 yX1_decimalDigit, Cond.static yX1_decimalDigit, Cond.code yX1_decimalDigit cX1_decimalDigit 6 (some .int)]
def wsL_law : List Cond := (wsL_law_r1 ++ (wsL_law_r2 ++ (wsL_law_r3 ++ (wsL_law_r4 ++ (wsL_law_r5 ++ (wsL_law_r6 ++ (wsL_law_r7 ++ (wsL_law_r8 ++ wsL_law_r9)))))))) ++ wsX10 ++ wsX20 ++ wsX00 ++ ([] : List Cond)
set_option maxRecDepth 20000 in
theorem wsL_law_in : ∀ w ∈ wsL_law, w ∈ lw_tbl := fun w h => (goodIn_p wsL_law [21, 24, 30, 44, 217, 66, 69, 249, 252, 73, 77, 81, 85, 89, 92, 97, 101, 105, 109, 113, 117, 122, 126, 129, 133, 137, 143, 146, 150, 153, 157, 161, 165, 169, 173, 177, 181, 185, 189, 193, 197, 200, 205, 209, 212] (by decide +kernel) (by decide +kernel) w h).1
theorem inlX0 : ∀ w ∈ wsX00, w ∈ wsL_law := fun _ h => List.mem_append_left _ (List.mem_append_right _ h)
theorem inX0 : ∀ w ∈ wsX00, w ∈ lw_tbl := fun w h => wsL_law_in w (inlX0 w h)
theorem inlX1 : ∀ w ∈ wsX10, w ∈ wsL_law := fun _ h => List.mem_append_left _ (List.mem_append_left _ (List.mem_append_left _ (List.mem_append_right _ h)))
theorem inX1 : ∀ w ∈ wsX10, w ∈ lw_tbl := fun w h => wsL_law_in w (inlX1 w h)
theorem inlX2 : ∀ w ∈ wsX20, w ∈ wsL_law := fun _ h => List.mem_append_left _ (List.mem_append_left _ (List.mem_append_right _ h))
theorem inX2 : ∀ w ∈ wsX20, w ∈ lw_tbl := fun w h => wsL_law_in w (inlX2 w h)
theorem dX0_init_0 : decode cX0_init 0 = .ok (.aload_n 0, 1) := by decide +kernel
theorem dX0_init_1 : decode cX0_init 1 = .ok (.invokespecial 3, 3) := by decide +kernel
theorem dX0_init_4 : decode cX0_init 4 = .ok (.return_, 1) := by decide +kernel
theorem dX0_become_0 : decode cX0_become 0 = .ok (.aload_n 0, 1) := by decide +kernel
theorem dX0_become_1 : decode cX0_become 1 = .ok (.lload_n 1, 1) := by decide +kernel
theorem dX0_become_2 : decode cX0_become 2 = .ok (.bipush 63, 2) := by decide +kernel
theorem dX0_become_4 : decode cX0_become 4 = .ok (.lshr, 1) := by decide +kernel
theorem dX0_become_5 : decode cX0_become 5 = .ok (.putfield 9, 3) := by decide +kernel
theorem dX0_become_8 : decode cX0_become 8 = .ok (.aload_n 0, 1) := by decide +kernel
theorem dX0_become_9 : decode cX0_become 9 = .ok (.lload_n 1, 1) := by decide +kernel
theorem dX0_become_10 : decode cX0_become 10 = .ok (.putfield 13, 3) := by decide +kernel
theorem dX0_become_13 : decode cX0_become 13 = .ok (.return_, 1) := by decide +kernel
theorem dX0_become__0 : decode cX0_become_ 0 = .ok (.aload_n 0, 1) := by decide +kernel
theorem dX0_become__1 : decode cX0_become_ 1 = .ok (.aload_n 1, 1) := by decide +kernel
theorem dX0_become__2 : decode cX0_become_ 2 = .ok (.getfield 9, 3) := by decide +kernel
theorem dX0_become__5 : decode cX0_become_ 5 = .ok (.putfield 9, 3) := by decide +kernel
theorem dX0_become__8 : decode cX0_become_ 8 = .ok (.aload_n 0, 1) := by decide +kernel
theorem dX0_become__9 : decode cX0_become_ 9 = .ok (.aload_n 1, 1) := by decide +kernel
theorem dX0_become__10 : decode cX0_become_ 10 = .ok (.getfield 13, 3) := by decide +kernel
theorem dX0_become__13 : decode cX0_become_ 13 = .ok (.putfield 13, 3) := by decide +kernel
theorem dX0_become__16 : decode cX0_become_ 16 = .ok (.return_, 1) := by decide +kernel
theorem dX0_becomeProduct_0 : decode cX0_becomeProduct 0 = .ok (.lload_n 1, 1) := by decide +kernel
theorem dX0_becomeProduct_1 : decode cX0_becomeProduct 1 = .ok (.bipush 32, 2) := by decide +kernel
theorem dX0_becomeProduct_3 : decode cX0_becomeProduct 3 = .ok (.lshr, 1) := by decide +kernel
theorem dX0_becomeProduct_4 : decode cX0_becomeProduct 4 = .ok (.lstore 5, 2) := by decide +kernel
theorem dX0_becomeProduct_6 : decode cX0_becomeProduct 6 = .ok (.lload_n 1, 1) := by decide +kernel
theorem dX0_becomeProduct_7 : decode cX0_becomeProduct 7 = .ok (.ldc2_w 16, 3) := by decide +kernel
theorem dX0_becomeProduct_10 : decode cX0_becomeProduct 10 = .ok (.land, 1) := by decide +kernel
theorem dX0_becomeProduct_11 : decode cX0_becomeProduct 11 = .ok (.lstore 7, 2) := by decide +kernel
theorem dX0_becomeProduct_13 : decode cX0_becomeProduct 13 = .ok (.lload_n 3, 1) := by decide +kernel
theorem dX0_becomeProduct_14 : decode cX0_becomeProduct 14 = .ok (.bipush 32, 2) := by decide +kernel
theorem dX0_becomeProduct_16 : decode cX0_becomeProduct 16 = .ok (.lshr, 1) := by decide +kernel
theorem dX0_becomeProduct_17 : decode cX0_becomeProduct 17 = .ok (.lstore 9, 2) := by decide +kernel
theorem dX0_becomeProduct_19 : decode cX0_becomeProduct 19 = .ok (.lload_n 3, 1) := by decide +kernel
theorem dX0_becomeProduct_20 : decode cX0_becomeProduct 20 = .ok (.ldc2_w 16, 3) := by decide +kernel
theorem dX0_becomeProduct_23 : decode cX0_becomeProduct 23 = .ok (.land, 1) := by decide +kernel
theorem dX0_becomeProduct_24 : decode cX0_becomeProduct 24 = .ok (.lstore 11, 2) := by decide +kernel
theorem dX0_becomeProduct_26 : decode cX0_becomeProduct 26 = .ok (.lload 5, 2) := by decide +kernel
theorem dX0_becomeProduct_28 : decode cX0_becomeProduct 28 = .ok (.lload 11, 2) := by decide +kernel
theorem dX0_becomeProduct_30 : decode cX0_becomeProduct 30 = .ok (.lmul, 1) := by decide +kernel
theorem dX0_becomeProduct_31 : decode cX0_becomeProduct 31 = .ok (.lload 7, 2) := by decide +kernel
theorem dX0_becomeProduct_33 : decode cX0_becomeProduct 33 = .ok (.lload 11, 2) := by decide +kernel
theorem dX0_becomeProduct_35 : decode cX0_becomeProduct 35 = .ok (.lmul, 1) := by decide +kernel
theorem dX0_becomeProduct_36 : decode cX0_becomeProduct 36 = .ok (.bipush 32, 2) := by decide +kernel
theorem dX0_becomeProduct_38 : decode cX0_becomeProduct 38 = .ok (.lushr, 1) := by decide +kernel
theorem dX0_becomeProduct_39 : decode cX0_becomeProduct 39 = .ok (.ladd, 1) := by decide +kernel
theorem dX0_becomeProduct_40 : decode cX0_becomeProduct 40 = .ok (.lstore 13, 2) := by decide +kernel
theorem dX0_becomeProduct_42 : decode cX0_becomeProduct 42 = .ok (.lload 7, 2) := by decide +kernel
theorem dX0_becomeProduct_44 : decode cX0_becomeProduct 44 = .ok (.lload 9, 2) := by decide +kernel
theorem dX0_becomeProduct_46 : decode cX0_becomeProduct 46 = .ok (.lmul, 1) := by decide +kernel
theorem dX0_becomeProduct_47 : decode cX0_becomeProduct 47 = .ok (.lload 13, 2) := by decide +kernel
theorem dX0_becomeProduct_49 : decode cX0_becomeProduct 49 = .ok (.ldc2_w 16, 3) := by decide +kernel
theorem dX0_becomeProduct_52 : decode cX0_becomeProduct 52 = .ok (.land, 1) := by decide +kernel
theorem dX0_becomeProduct_53 : decode cX0_becomeProduct 53 = .ok (.ladd, 1) := by decide +kernel
theorem dX0_becomeProduct_54 : decode cX0_becomeProduct 54 = .ok (.lstore 15, 2) := by decide +kernel
theorem dX0_becomeProduct_56 : decode cX0_becomeProduct 56 = .ok (.aload_n 0, 1) := by decide +kernel
theorem dX0_becomeProduct_57 : decode cX0_becomeProduct 57 = .ok (.lload 5, 2) := by decide +kernel
theorem dX0_becomeProduct_59 : decode cX0_becomeProduct 59 = .ok (.lload 9, 2) := by decide +kernel
theorem dX0_becomeProduct_61 : decode cX0_becomeProduct 61 = .ok (.lmul, 1) := by decide +kernel
theorem dX0_becomeProduct_62 : decode cX0_becomeProduct 62 = .ok (.lload 13, 2) := by decide +kernel
theorem dX0_becomeProduct_64 : decode cX0_becomeProduct 64 = .ok (.bipush 32, 2) := by decide +kernel
theorem dX0_becomeProduct_66 : decode cX0_becomeProduct 66 = .ok (.lshr, 1) := by decide +kernel
theorem dX0_becomeProduct_67 : decode cX0_becomeProduct 67 = .ok (.ladd, 1) := by decide +kernel
theorem dX0_becomeProduct_68 : decode cX0_becomeProduct 68 = .ok (.lload 15, 2) := by decide +kernel
theorem dX0_becomeProduct_70 : decode cX0_becomeProduct 70 = .ok (.bipush 32, 2) := by decide +kernel
theorem dX0_becomeProduct_72 : decode cX0_becomeProduct 72 = .ok (.lshr, 1) := by decide +kernel
theorem dX0_becomeProduct_73 : decode cX0_becomeProduct 73 = .ok (.ladd, 1) := by decide +kernel
theorem dX0_becomeProduct_74 : decode cX0_becomeProduct 74 = .ok (.putfield 9, 3) := by decide +kernel
theorem dX0_becomeProduct_77 : decode cX0_becomeProduct 77 = .ok (.aload_n 0, 1) := by decide +kernel
theorem dX0_becomeProduct_78 : decode cX0_becomeProduct 78 = .ok (.lload_n 1, 1) := by decide +kernel
theorem dX0_becomeProduct_79 : decode cX0_becomeProduct 79 = .ok (.lload_n 3, 1) := by decide +kernel
theorem dX0_becomeProduct_80 : decode cX0_becomeProduct 80 = .ok (.lmul, 1) := by decide +kernel
theorem dX0_becomeProduct_81 : decode cX0_becomeProduct 81 = .ok (.putfield 13, 3) := by decide +kernel
theorem dX0_becomeProduct_84 : decode cX0_becomeProduct 84 = .ok (.return_, 1) := by decide +kernel
set_option maxRecDepth 20000 in
theorem ggX0_increase_X0_addWords : GoodIn wsX0_increase wsX0_addWords := goodIn_r _ [5, 6, 7, 8, 9, 4, 10, 11, 12, 13] (by decide +kernel) (by decide +kernel)
set_option maxRecDepth 20000 in
theorem gX0_increase_X0_addWords : GoodIn wsX0_increase (wsV RX0 18 RX0 yX0_addWords wsX0_addWords) := goodIn_app (goodIn_of _ (by decide +kernel)) ggX0_increase_X0_addWords
theorem dX0_increase_0 : decode cX0_increase 0 = .ok (.aload_n 0, 1) := by decide +kernel
theorem dX0_increase_1 : decode cX0_increase 1 = .ok (.lload_n 1, 1) := by decide +kernel
theorem dX0_increase_2 : decode cX0_increase 2 = .ok (.bipush 63, 2) := by decide +kernel
theorem dX0_increase_4 : decode cX0_increase 4 = .ok (.lshr, 1) := by decide +kernel
theorem dX0_increase_5 : decode cX0_increase 5 = .ok (.lload_n 1, 1) := by decide +kernel
theorem dX0_increase_6 : decode cX0_increase 6 = .ok (.invokevirtual 18, 3) := by decide +kernel
theorem dX0_increase_9 : decode cX0_increase 9 = .ok (.return_, 1) := by decide +kernel
set_option maxRecDepth 20000 in
theorem ggX0_increase__X0_addWords : GoodIn wsX0_increase_ wsX0_addWords := goodIn_r _ [7, 2, 1, 8, 9, 6, 10, 11, 12, 13] (by decide +kernel) (by decide +kernel)
set_option maxRecDepth 20000 in
theorem gX0_increase__X0_addWords : GoodIn wsX0_increase_ (wsV RX0 18 RX0 yX0_addWords wsX0_addWords) := goodIn_app (goodIn_of _ (by decide +kernel)) ggX0_increase__X0_addWords
theorem dX0_increase__0 : decode cX0_increase_ 0 = .ok (.aload_n 0, 1) := by decide +kernel
theorem dX0_increase__1 : decode cX0_increase_ 1 = .ok (.aload_n 1, 1) := by decide +kernel
theorem dX0_increase__2 : decode cX0_increase_ 2 = .ok (.getfield 9, 3) := by decide +kernel
theorem dX0_increase__5 : decode cX0_increase_ 5 = .ok (.aload_n 1, 1) := by decide +kernel
theorem dX0_increase__6 : decode cX0_increase_ 6 = .ok (.getfield 13, 3) := by decide +kernel
theorem dX0_increase__9 : decode cX0_increase_ 9 = .ok (.invokevirtual 18, 3) := by decide +kernel
theorem dX0_increase__12 : decode cX0_increase_ 12 = .ok (.return_, 1) := by decide +kernel
set_option maxRecDepth 20000 in
theorem ggX0_addWords_X0_unsignedLess : GoodIn wsX0_addWords wsX0_unsignedLess := goodIn_r _ [6, 7] (by decide +kernel) (by decide +kernel)
set_option maxRecDepth 20000 in
theorem gX0_addWords_X0_unsignedLess : GoodIn wsX0_addWords (va_wsS RX0 22 yX0_unsignedLess wsX0_unsignedLess) := goodIn_app (goodIn_of _ (by decide +kernel)) ggX0_addWords_X0_unsignedLess
theorem dX0_addWords_0 : decode cX0_addWords 0 = .ok (.aload_n 0, 1) := by decide +kernel
theorem dX0_addWords_1 : decode cX0_addWords 1 = .ok (.getfield 13, 3) := by decide +kernel
theorem dX0_addWords_4 : decode cX0_addWords 4 = .ok (.lload_n 3, 1) := by decide +kernel
theorem dX0_addWords_5 : decode cX0_addWords 5 = .ok (.ladd, 1) := by decide +kernel
theorem dX0_addWords_6 : decode cX0_addWords 6 = .ok (.lstore 5, 2) := by decide +kernel
theorem dX0_addWords_8 : decode cX0_addWords 8 = .ok (.lload 5, 2) := by decide +kernel
theorem dX0_addWords_10 : decode cX0_addWords 10 = .ok (.lload_n 3, 1) := by decide +kernel
theorem dX0_addWords_11 : decode cX0_addWords 11 = .ok (.invokestatic 22, 3) := by decide +kernel
theorem dX0_addWords_14 : decode cX0_addWords 14 = .ok (.ifCond .eq 7, 3) := by decide +kernel
theorem dX0_addWords_17 : decode cX0_addWords 17 = .ok (.lconst 1, 1) := by decide +kernel
theorem dX0_addWords_18 : decode cX0_addWords 18 = .ok (.goto 4, 3) := by decide +kernel
theorem dX0_addWords_21 : decode cX0_addWords 21 = .ok (.lconst 0, 1) := by decide +kernel
theorem dX0_addWords_22 : decode cX0_addWords 22 = .ok (.lstore 7, 2) := by decide +kernel
theorem dX0_addWords_24 : decode cX0_addWords 24 = .ok (.aload_n 0, 1) := by decide +kernel
theorem dX0_addWords_25 : decode cX0_addWords 25 = .ok (.aload_n 0, 1) := by decide +kernel
theorem dX0_addWords_26 : decode cX0_addWords 26 = .ok (.getfield 9, 3) := by decide +kernel
theorem dX0_addWords_29 : decode cX0_addWords 29 = .ok (.lload_n 1, 1) := by decide +kernel
theorem dX0_addWords_30 : decode cX0_addWords 30 = .ok (.ladd, 1) := by decide +kernel
theorem dX0_addWords_31 : decode cX0_addWords 31 = .ok (.lload 7, 2) := by decide +kernel
theorem dX0_addWords_33 : decode cX0_addWords 33 = .ok (.ladd, 1) := by decide +kernel
theorem dX0_addWords_34 : decode cX0_addWords 34 = .ok (.putfield 9, 3) := by decide +kernel
theorem dX0_addWords_37 : decode cX0_addWords 37 = .ok (.aload_n 0, 1) := by decide +kernel
theorem dX0_addWords_38 : decode cX0_addWords 38 = .ok (.lload 5, 2) := by decide +kernel
theorem dX0_addWords_40 : decode cX0_addWords 40 = .ok (.putfield 13, 3) := by decide +kernel
theorem dX0_addWords_43 : decode cX0_addWords 43 = .ok (.return_, 1) := by decide +kernel
theorem dX0_negate_0 : decode cX0_negate 0 = .ok (.aload_n 0, 1) := by decide +kernel
theorem dX0_negate_1 : decode cX0_negate 1 = .ok (.aload_n 0, 1) := by decide +kernel
theorem dX0_negate_2 : decode cX0_negate 2 = .ok (.getfield 13, 3) := by decide +kernel
theorem dX0_negate_5 : decode cX0_negate 5 = .ok (.lneg, 1) := by decide +kernel
theorem dX0_negate_6 : decode cX0_negate 6 = .ok (.putfield 13, 3) := by decide +kernel
theorem dX0_negate_9 : decode cX0_negate 9 = .ok (.aload_n 0, 1) := by decide +kernel
theorem dX0_negate_10 : decode cX0_negate 10 = .ok (.aload_n 0, 1) := by decide +kernel
theorem dX0_negate_11 : decode cX0_negate 11 = .ok (.getfield 13, 3) := by decide +kernel
theorem dX0_negate_14 : decode cX0_negate 14 = .ok (.lconst 0, 1) := by decide +kernel
theorem dX0_negate_15 : decode cX0_negate 15 = .ok (.lcmp, 1) := by decide +kernel
theorem dX0_negate_16 : decode cX0_negate 16 = .ok (.ifCond .ne 11, 3) := by decide +kernel
theorem dX0_negate_19 : decode cX0_negate 19 = .ok (.aload_n 0, 1) := by decide +kernel
theorem dX0_negate_20 : decode cX0_negate 20 = .ok (.getfield 9, 3) := by decide +kernel
theorem dX0_negate_23 : decode cX0_negate 23 = .ok (.lneg, 1) := by decide +kernel
theorem dX0_negate_24 : decode cX0_negate 24 = .ok (.goto 11, 3) := by decide +kernel
theorem dX0_negate_27 : decode cX0_negate 27 = .ok (.aload_n 0, 1) := by decide +kernel
theorem dX0_negate_28 : decode cX0_negate 28 = .ok (.getfield 9, 3) := by decide +kernel
theorem dX0_negate_31 : decode cX0_negate 31 = .ok (.ldc2_w 26, 3) := by decide +kernel
theorem dX0_negate_34 : decode cX0_negate 34 = .ok (.lxor, 1) := by decide +kernel
theorem dX0_negate_35 : decode cX0_negate 35 = .ok (.putfield 9, 3) := by decide +kernel
theorem dX0_negate_38 : decode cX0_negate 38 = .ok (.return_, 1) := by decide +kernel
set_option maxRecDepth 20000 in
theorem ggX0_dropSign_X0_isNegative : GoodIn wsX0_dropSign wsX0_isNegative := goodIn_r _ [5, 6, 13, 14] (by decide +kernel) (by decide +kernel)
set_option maxRecDepth 20000 in
theorem gX0_dropSign_X0_isNegative : GoodIn wsX0_dropSign (wsV RX0 28 RX0 yX0_isNegative wsX0_isNegative) := goodIn_app (goodIn_of _ (by decide +kernel)) ggX0_dropSign_X0_isNegative
set_option maxRecDepth 20000 in
theorem ggX0_dropSign_X0_negate : GoodIn wsX0_dropSign wsX0_negate := goodIn_r _ [10, 11, 6, 12, 13, 14] (by decide +kernel) (by decide +kernel)
set_option maxRecDepth 20000 in
theorem gX0_dropSign_X0_negate : GoodIn wsX0_dropSign (wsV RX0 32 RX0 yX0_negate wsX0_negate) := goodIn_app (goodIn_of _ (by decide +kernel)) ggX0_dropSign_X0_negate
theorem dX0_dropSign_0 : decode cX0_dropSign 0 = .ok (.aload_n 0, 1) := by decide +kernel
theorem dX0_dropSign_1 : decode cX0_dropSign 1 = .ok (.invokevirtual 28, 3) := by decide +kernel
theorem dX0_dropSign_4 : decode cX0_dropSign 4 = .ok (.ifCond .eq 7, 3) := by decide +kernel
theorem dX0_dropSign_7 : decode cX0_dropSign 7 = .ok (.aload_n 0, 1) := by decide +kernel
theorem dX0_dropSign_8 : decode cX0_dropSign 8 = .ok (.invokevirtual 32, 3) := by decide +kernel
theorem dX0_dropSign_11 : decode cX0_dropSign 11 = .ok (.return_, 1) := by decide +kernel
set_option maxRecDepth 20000 in
theorem ggX0_divideBy_X0_unsignedLess : GoodIn wsX0_divideBy wsX0_unsignedLess := goodIn_r _ [6, 7] (by decide +kernel) (by decide +kernel)
set_option maxRecDepth 20000 in
theorem gX0_divideBy_X0_unsignedLess : GoodIn wsX0_divideBy (va_wsS RX0 22 yX0_unsignedLess wsX0_unsignedLess) := goodIn_app (goodIn_of _ (by decide +kernel)) ggX0_divideBy_X0_unsignedLess
theorem dX0_divideBy_0 : decode cX0_divideBy 0 = .ok (.lconst 0, 1) := by decide +kernel
theorem dX0_divideBy_1 : decode cX0_divideBy 1 = .ok (.lstore_n 3, 1) := by decide +kernel
theorem dX0_divideBy_2 : decode cX0_divideBy 2 = .ok (.iconst 0, 1) := by decide +kernel
theorem dX0_divideBy_3 : decode cX0_divideBy 3 = .ok (.istore 5, 2) := by decide +kernel
theorem dX0_divideBy_5 : decode cX0_divideBy 5 = .ok (.iload 5, 2) := by decide +kernel
theorem dX0_divideBy_7 : decode cX0_divideBy 7 = .ok (.sipush 128, 3) := by decide +kernel
theorem dX0_divideBy_10 : decode cX0_divideBy 10 = .ok (.if_icmp .ge 71, 3) := by decide +kernel
theorem dX0_divideBy_13 : decode cX0_divideBy 13 = .ok (.lload_n 3, 1) := by decide +kernel
theorem dX0_divideBy_14 : decode cX0_divideBy 14 = .ok (.iconst 1, 1) := by decide +kernel
theorem dX0_divideBy_15 : decode cX0_divideBy 15 = .ok (.lshl, 1) := by decide +kernel
theorem dX0_divideBy_16 : decode cX0_divideBy 16 = .ok (.aload_n 0, 1) := by decide +kernel
theorem dX0_divideBy_17 : decode cX0_divideBy 17 = .ok (.getfield 9, 3) := by decide +kernel
theorem dX0_divideBy_20 : decode cX0_divideBy 20 = .ok (.bipush 63, 2) := by decide +kernel
theorem dX0_divideBy_22 : decode cX0_divideBy 22 = .ok (.lushr, 1) := by decide +kernel
theorem dX0_divideBy_23 : decode cX0_divideBy 23 = .ok (.lor, 1) := by decide +kernel
theorem dX0_divideBy_24 : decode cX0_divideBy 24 = .ok (.lstore_n 3, 1) := by decide +kernel
theorem dX0_divideBy_25 : decode cX0_divideBy 25 = .ok (.aload_n 0, 1) := by decide +kernel
theorem dX0_divideBy_26 : decode cX0_divideBy 26 = .ok (.aload_n 0, 1) := by decide +kernel
theorem dX0_divideBy_27 : decode cX0_divideBy 27 = .ok (.getfield 9, 3) := by decide +kernel
theorem dX0_divideBy_30 : decode cX0_divideBy 30 = .ok (.iconst 1, 1) := by decide +kernel
theorem dX0_divideBy_31 : decode cX0_divideBy 31 = .ok (.lshl, 1) := by decide +kernel
theorem dX0_divideBy_32 : decode cX0_divideBy 32 = .ok (.aload_n 0, 1) := by decide +kernel
theorem dX0_divideBy_33 : decode cX0_divideBy 33 = .ok (.getfield 13, 3) := by decide +kernel
theorem dX0_divideBy_36 : decode cX0_divideBy 36 = .ok (.bipush 63, 2) := by decide +kernel
theorem dX0_divideBy_38 : decode cX0_divideBy 38 = .ok (.lushr, 1) := by decide +kernel
theorem dX0_divideBy_39 : decode cX0_divideBy 39 = .ok (.lor, 1) := by decide +kernel
theorem dX0_divideBy_40 : decode cX0_divideBy 40 = .ok (.putfield 9, 3) := by decide +kernel
theorem dX0_divideBy_43 : decode cX0_divideBy 43 = .ok (.aload_n 0, 1) := by decide +kernel
theorem dX0_divideBy_44 : decode cX0_divideBy 44 = .ok (.aload_n 0, 1) := by decide +kernel
theorem dX0_divideBy_45 : decode cX0_divideBy 45 = .ok (.getfield 13, 3) := by decide +kernel
theorem dX0_divideBy_48 : decode cX0_divideBy 48 = .ok (.iconst 1, 1) := by decide +kernel
theorem dX0_divideBy_49 : decode cX0_divideBy 49 = .ok (.lshl, 1) := by decide +kernel
theorem dX0_divideBy_50 : decode cX0_divideBy 50 = .ok (.putfield 13, 3) := by decide +kernel
theorem dX0_divideBy_53 : decode cX0_divideBy 53 = .ok (.lload_n 3, 1) := by decide +kernel
theorem dX0_divideBy_54 : decode cX0_divideBy 54 = .ok (.lload_n 1, 1) := by decide +kernel
theorem dX0_divideBy_55 : decode cX0_divideBy 55 = .ok (.invokestatic 22, 3) := by decide +kernel
theorem dX0_divideBy_58 : decode cX0_divideBy 58 = .ok (.ifCond .ne 17, 3) := by decide +kernel
theorem dX0_divideBy_61 : decode cX0_divideBy 61 = .ok (.lload_n 3, 1) := by decide +kernel
theorem dX0_divideBy_62 : decode cX0_divideBy 62 = .ok (.lload_n 1, 1) := by decide +kernel
theorem dX0_divideBy_63 : decode cX0_divideBy 63 = .ok (.lsub, 1) := by decide +kernel
theorem dX0_divideBy_64 : decode cX0_divideBy 64 = .ok (.lstore_n 3, 1) := by decide +kernel
theorem dX0_divideBy_65 : decode cX0_divideBy 65 = .ok (.aload_n 0, 1) := by decide +kernel
theorem dX0_divideBy_66 : decode cX0_divideBy 66 = .ok (.dup, 1) := by decide +kernel
theorem dX0_divideBy_67 : decode cX0_divideBy 67 = .ok (.getfield 13, 3) := by decide +kernel
theorem dX0_divideBy_70 : decode cX0_divideBy 70 = .ok (.lconst 1, 1) := by decide +kernel
theorem dX0_divideBy_71 : decode cX0_divideBy 71 = .ok (.lor, 1) := by decide +kernel
theorem dX0_divideBy_72 : decode cX0_divideBy 72 = .ok (.putfield 13, 3) := by decide +kernel
theorem dX0_divideBy_75 : decode cX0_divideBy 75 = .ok (.iinc 5 1, 3) := by decide +kernel
theorem dX0_divideBy_78 : decode cX0_divideBy 78 = .ok (.goto (-73), 3) := by decide +kernel
theorem dX0_divideBy_81 : decode cX0_divideBy 81 = .ok (.lload_n 3, 1) := by decide +kernel
theorem dX0_divideBy_82 : decode cX0_divideBy 82 = .ok (.lreturn, 1) := by decide +kernel
set_option maxRecDepth 20000 in
theorem ggX0_orderTo_X0_unsignedLess : GoodIn wsX0_orderTo wsX0_unsignedLess := goodIn_r _ [6, 7] (by decide +kernel) (by decide +kernel)
set_option maxRecDepth 20000 in
theorem gX0_orderTo_X0_unsignedLess : GoodIn wsX0_orderTo (va_wsS RX0 22 yX0_unsignedLess wsX0_unsignedLess) := goodIn_app (goodIn_of _ (by decide +kernel)) ggX0_orderTo_X0_unsignedLess
theorem dX0_orderTo_0 : decode cX0_orderTo 0 = .ok (.aload_n 0, 1) := by decide +kernel
theorem dX0_orderTo_1 : decode cX0_orderTo 1 = .ok (.getfield 9, 3) := by decide +kernel
theorem dX0_orderTo_4 : decode cX0_orderTo 4 = .ok (.aload_n 1, 1) := by decide +kernel
theorem dX0_orderTo_5 : decode cX0_orderTo 5 = .ok (.getfield 9, 3) := by decide +kernel
theorem dX0_orderTo_8 : decode cX0_orderTo 8 = .ok (.lcmp, 1) := by decide +kernel
theorem dX0_orderTo_9 : decode cX0_orderTo 9 = .ok (.ifCond .eq 21, 3) := by decide +kernel
theorem dX0_orderTo_12 : decode cX0_orderTo 12 = .ok (.aload_n 0, 1) := by decide +kernel
theorem dX0_orderTo_13 : decode cX0_orderTo 13 = .ok (.getfield 9, 3) := by decide +kernel
theorem dX0_orderTo_16 : decode cX0_orderTo 16 = .ok (.aload_n 1, 1) := by decide +kernel
theorem dX0_orderTo_17 : decode cX0_orderTo 17 = .ok (.getfield 9, 3) := by decide +kernel
theorem dX0_orderTo_20 : decode cX0_orderTo 20 = .ok (.lcmp, 1) := by decide +kernel
theorem dX0_orderTo_21 : decode cX0_orderTo 21 = .ok (.ifCond .ge 7, 3) := by decide +kernel
theorem dX0_orderTo_24 : decode cX0_orderTo 24 = .ok (.iconst (-1), 1) := by decide +kernel
theorem dX0_orderTo_25 : decode cX0_orderTo 25 = .ok (.goto 4, 3) := by decide +kernel
theorem dX0_orderTo_28 : decode cX0_orderTo 28 = .ok (.iconst 1, 1) := by decide +kernel
theorem dX0_orderTo_29 : decode cX0_orderTo 29 = .ok (.ireturn, 1) := by decide +kernel
theorem dX0_orderTo_30 : decode cX0_orderTo 30 = .ok (.aload_n 0, 1) := by decide +kernel
theorem dX0_orderTo_31 : decode cX0_orderTo 31 = .ok (.getfield 13, 3) := by decide +kernel
theorem dX0_orderTo_34 : decode cX0_orderTo 34 = .ok (.aload_n 1, 1) := by decide +kernel
theorem dX0_orderTo_35 : decode cX0_orderTo 35 = .ok (.getfield 13, 3) := by decide +kernel
theorem dX0_orderTo_38 : decode cX0_orderTo 38 = .ok (.lcmp, 1) := by decide +kernel
theorem dX0_orderTo_39 : decode cX0_orderTo 39 = .ok (.ifCond .eq 23, 3) := by decide +kernel
theorem dX0_orderTo_42 : decode cX0_orderTo 42 = .ok (.aload_n 0, 1) := by decide +kernel
theorem dX0_orderTo_43 : decode cX0_orderTo 43 = .ok (.getfield 13, 3) := by decide +kernel
theorem dX0_orderTo_46 : decode cX0_orderTo 46 = .ok (.aload_n 1, 1) := by decide +kernel
theorem dX0_orderTo_47 : decode cX0_orderTo 47 = .ok (.getfield 13, 3) := by decide +kernel
theorem dX0_orderTo_50 : decode cX0_orderTo 50 = .ok (.invokestatic 22, 3) := by decide +kernel
theorem dX0_orderTo_53 : decode cX0_orderTo 53 = .ok (.ifCond .eq 7, 3) := by decide +kernel
theorem dX0_orderTo_56 : decode cX0_orderTo 56 = .ok (.iconst (-1), 1) := by decide +kernel
theorem dX0_orderTo_57 : decode cX0_orderTo 57 = .ok (.goto 4, 3) := by decide +kernel
theorem dX0_orderTo_60 : decode cX0_orderTo 60 = .ok (.iconst 1, 1) := by decide +kernel
theorem dX0_orderTo_61 : decode cX0_orderTo 61 = .ok (.ireturn, 1) := by decide +kernel
theorem dX0_orderTo_62 : decode cX0_orderTo 62 = .ok (.iconst 0, 1) := by decide +kernel
theorem dX0_orderTo_63 : decode cX0_orderTo 63 = .ok (.ireturn, 1) := by decide +kernel
theorem dX0_isNegative_0 : decode cX0_isNegative 0 = .ok (.aload_n 0, 1) := by decide +kernel
theorem dX0_isNegative_1 : decode cX0_isNegative 1 = .ok (.getfield 9, 3) := by decide +kernel
theorem dX0_isNegative_4 : decode cX0_isNegative 4 = .ok (.lconst 0, 1) := by decide +kernel
theorem dX0_isNegative_5 : decode cX0_isNegative 5 = .ok (.lcmp, 1) := by decide +kernel
theorem dX0_isNegative_6 : decode cX0_isNegative 6 = .ok (.ifCond .ge 7, 3) := by decide +kernel
theorem dX0_isNegative_9 : decode cX0_isNegative 9 = .ok (.iconst 1, 1) := by decide +kernel
theorem dX0_isNegative_10 : decode cX0_isNegative 10 = .ok (.goto 4, 3) := by decide +kernel
theorem dX0_isNegative_13 : decode cX0_isNegative 13 = .ok (.iconst 0, 1) := by decide +kernel
theorem dX0_isNegative_14 : decode cX0_isNegative 14 = .ok (.ireturn, 1) := by decide +kernel
theorem dX0_fitsLong_0 : decode cX0_fitsLong 0 = .ok (.aload_n 0, 1) := by decide +kernel
theorem dX0_fitsLong_1 : decode cX0_fitsLong 1 = .ok (.getfield 9, 3) := by decide +kernel
theorem dX0_fitsLong_4 : decode cX0_fitsLong 4 = .ok (.aload_n 0, 1) := by decide +kernel
theorem dX0_fitsLong_5 : decode cX0_fitsLong 5 = .ok (.getfield 13, 3) := by decide +kernel
theorem dX0_fitsLong_8 : decode cX0_fitsLong 8 = .ok (.bipush 63, 2) := by decide +kernel
theorem dX0_fitsLong_10 : decode cX0_fitsLong 10 = .ok (.lshr, 1) := by decide +kernel
theorem dX0_fitsLong_11 : decode cX0_fitsLong 11 = .ok (.lcmp, 1) := by decide +kernel
theorem dX0_fitsLong_12 : decode cX0_fitsLong 12 = .ok (.ifCond .ne 7, 3) := by decide +kernel
theorem dX0_fitsLong_15 : decode cX0_fitsLong 15 = .ok (.iconst 1, 1) := by decide +kernel
theorem dX0_fitsLong_16 : decode cX0_fitsLong 16 = .ok (.goto 4, 3) := by decide +kernel
theorem dX0_fitsLong_19 : decode cX0_fitsLong 19 = .ok (.iconst 0, 1) := by decide +kernel
theorem dX0_fitsLong_20 : decode cX0_fitsLong 20 = .ok (.ireturn, 1) := by decide +kernel
theorem dX0_lowWord_0 : decode cX0_lowWord 0 = .ok (.aload_n 0, 1) := by decide +kernel
theorem dX0_lowWord_1 : decode cX0_lowWord 1 = .ok (.getfield 13, 3) := by decide +kernel
theorem dX0_lowWord_4 : decode cX0_lowWord 4 = .ok (.lreturn, 1) := by decide +kernel
theorem dX0_unsignedLess_0 : decode cX0_unsignedLess 0 = .ok (.lload_n 0, 1) := by decide +kernel
theorem dX0_unsignedLess_1 : decode cX0_unsignedLess 1 = .ok (.ldc2_w 35, 3) := by decide +kernel
theorem dX0_unsignedLess_4 : decode cX0_unsignedLess 4 = .ok (.lxor, 1) := by decide +kernel
theorem dX0_unsignedLess_5 : decode cX0_unsignedLess 5 = .ok (.lload_n 2, 1) := by decide +kernel
theorem dX0_unsignedLess_6 : decode cX0_unsignedLess 6 = .ok (.ldc2_w 35, 3) := by decide +kernel
theorem dX0_unsignedLess_9 : decode cX0_unsignedLess 9 = .ok (.lxor, 1) := by decide +kernel
theorem dX0_unsignedLess_10 : decode cX0_unsignedLess 10 = .ok (.lcmp, 1) := by decide +kernel
theorem dX0_unsignedLess_11 : decode cX0_unsignedLess 11 = .ok (.ifCond .ge 7, 3) := by decide +kernel
theorem dX0_unsignedLess_14 : decode cX0_unsignedLess 14 = .ok (.iconst 1, 1) := by decide +kernel
theorem dX0_unsignedLess_15 : decode cX0_unsignedLess 15 = .ok (.goto 4, 3) := by decide +kernel
theorem dX0_unsignedLess_18 : decode cX0_unsignedLess 18 = .ok (.iconst 0, 1) := by decide +kernel
theorem dX0_unsignedLess_19 : decode cX0_unsignedLess 19 = .ok (.ireturn, 1) := by decide +kernel
set_option maxRecDepth 20000 in
theorem ggX1_init_X0_init : GoodIn wsX1_init wsX0_init := goodIn_r _ [16, 17, 2, 3] (by decide +kernel) (by decide +kernel)
set_option maxRecDepth 20000 in
theorem gX1_init_X0_init_n19 : GoodIn wsX1_init (wsX0_init) := ggX1_init_X0_init
set_option maxRecDepth 20000 in
theorem ggX1_init_X0_becomeProduct : GoodIn wsX1_init wsX0_becomeProduct := goodIn_r _ [21, 22, 23, 24, 30, 31] (by decide +kernel) (by decide +kernel)
set_option maxRecDepth 20000 in
theorem gX1_init_X0_becomeProduct : GoodIn wsX1_init (wsV RX1 26 RX0 yX0_becomeProduct wsX0_becomeProduct) := goodIn_app (goodIn_of _ (by decide +kernel)) ggX1_init_X0_becomeProduct
theorem dX1_init_0 : decode cX1_init 0 = .ok (.aload_n 0, 1) := by decide +kernel
theorem dX1_init_1 : decode cX1_init 1 = .ok (.invokespecial 3, 3) := by decide +kernel
theorem dX1_init_4 : decode cX1_init 4 = .ok (.aload_n 0, 1) := by decide +kernel
theorem dX1_init_5 : decode cX1_init 5 = .ok (.bipush 8, 2) := by decide +kernel
theorem dX1_init_7 : decode cX1_init 7 = .ok (.newarray .long, 2) := by decide +kernel
theorem dX1_init_9 : decode cX1_init 9 = .ok (.putfield 9, 3) := by decide +kernel
theorem dX1_init_12 : decode cX1_init 12 = .ok (.aload_n 0, 1) := by decide +kernel
theorem dX1_init_13 : decode cX1_init 13 = .ok (.iconst 4, 1) := by decide +kernel
theorem dX1_init_14 : decode cX1_init 14 = .ok (.anewarray 13, 3) := by decide +kernel
theorem dX1_init_17 : decode cX1_init 17 = .ok (.putfield 15, 3) := by decide +kernel
theorem dX1_init_20 : decode cX1_init 20 = .ok (.iconst 0, 1) := by decide +kernel
theorem dX1_init_21 : decode cX1_init 21 = .ok (.istore_n 1, 1) := by decide +kernel
theorem dX1_init_22 : decode cX1_init 22 = .ok (.iload_n 1, 1) := by decide +kernel
theorem dX1_init_23 : decode cX1_init 23 = .ok (.iconst 4, 1) := by decide +kernel
theorem dX1_init_24 : decode cX1_init 24 = .ok (.if_icmp .ge 22, 3) := by decide +kernel
theorem dX1_init_27 : decode cX1_init 27 = .ok (.aload_n 0, 1) := by decide +kernel
theorem dX1_init_28 : decode cX1_init 28 = .ok (.getfield 15, 3) := by decide +kernel
theorem dX1_init_31 : decode cX1_init 31 = .ok (.iload_n 1, 1) := by decide +kernel
theorem dX1_init_32 : decode cX1_init 32 = .ok (.new 13, 3) := by decide +kernel
theorem dX1_init_35 : decode cX1_init 35 = .ok (.dup, 1) := by decide +kernel
theorem dX1_init_36 : decode cX1_init 36 = .ok (.invokespecial 19, 3) := by decide +kernel
theorem dX1_init_39 : decode cX1_init 39 = .ok (.aastore, 1) := by decide +kernel
theorem dX1_init_40 : decode cX1_init 40 = .ok (.iinc 1 1, 3) := by decide +kernel
theorem dX1_init_43 : decode cX1_init 43 = .ok (.goto (-21), 3) := by decide +kernel
theorem dX1_init_46 : decode cX1_init 46 = .ok (.aload_n 0, 1) := by decide +kernel
theorem dX1_init_47 : decode cX1_init 47 = .ok (.new 13, 3) := by decide +kernel
theorem dX1_init_50 : decode cX1_init 50 = .ok (.dup, 1) := by decide +kernel
theorem dX1_init_51 : decode cX1_init 51 = .ok (.invokespecial 19, 3) := by decide +kernel
theorem dX1_init_54 : decode cX1_init 54 = .ok (.putfield 20, 3) := by decide +kernel
theorem dX1_init_57 : decode cX1_init 57 = .ok (.aload_n 0, 1) := by decide +kernel
theorem dX1_init_58 : decode cX1_init 58 = .ok (.getfield 20, 3) := by decide +kernel
theorem dX1_init_61 : decode cX1_init 61 = .ok (.ldc2_w 24, 3) := by decide +kernel
theorem dX1_init_64 : decode cX1_init 64 = .ok (.ldc2_w 24, 3) := by decide +kernel
theorem dX1_init_67 : decode cX1_init 67 = .ok (.invokevirtual 26, 3) := by decide +kernel
theorem dX1_init_70 : decode cX1_init 70 = .ok (.aload_n 0, 1) := by decide +kernel
theorem dX1_init_71 : decode cX1_init 71 = .ok (.new 13, 3) := by decide +kernel
theorem dX1_init_74 : decode cX1_init 74 = .ok (.dup, 1) := by decide +kernel
theorem dX1_init_75 : decode cX1_init 75 = .ok (.invokespecial 19, 3) := by decide +kernel
theorem dX1_init_78 : decode cX1_init 78 = .ok (.putfield 30, 3) := by decide +kernel
theorem dX1_init_81 : decode cX1_init 81 = .ok (.aload_n 0, 1) := by decide +kernel
theorem dX1_init_82 : decode cX1_init 82 = .ok (.getfield 30, 3) := by decide +kernel
theorem dX1_init_85 : decode cX1_init 85 = .ok (.ldc2_w 33, 3) := by decide +kernel
theorem dX1_init_88 : decode cX1_init 88 = .ok (.ldc2_w 24, 3) := by decide +kernel
theorem dX1_init_91 : decode cX1_init 91 = .ok (.invokevirtual 26, 3) := by decide +kernel
theorem dX1_init_94 : decode cX1_init 94 = .ok (.aload_n 0, 1) := by decide +kernel
theorem dX1_init_95 : decode cX1_init 95 = .ok (.new 13, 3) := by decide +kernel
theorem dX1_init_98 : decode cX1_init 98 = .ok (.dup, 1) := by decide +kernel
theorem dX1_init_99 : decode cX1_init 99 = .ok (.invokespecial 19, 3) := by decide +kernel
theorem dX1_init_102 : decode cX1_init 102 = .ok (.putfield 35, 3) := by decide +kernel
theorem dX1_init_105 : decode cX1_init 105 = .ok (.return_, 1) := by decide +kernel
set_option maxRecDepth 20000 in
theorem ggX1_set_X1_isRegister : GoodIn wsX1_set wsX1_isRegister := goodIn_r _ [5] (by decide +kernel) (by decide +kernel)
set_option maxRecDepth 20000 in
theorem gX1_set_X1_isRegister : GoodIn wsX1_set (va_wsS RX1 38 yX1_isRegister wsX1_isRegister) := goodIn_app (goodIn_of _ (by decide +kernel)) ggX1_set_X1_isRegister
theorem dX1_set_0 : decode cX1_set 0 = .ok (.iload_n 1, 1) := by decide +kernel
theorem dX1_set_1 : decode cX1_set 1 = .ok (.invokestatic 38, 3) := by decide +kernel
theorem dX1_set_4 : decode cX1_set 4 = .ok (.ifCond .ne 5, 3) := by decide +kernel
theorem dX1_set_7 : decode cX1_set 7 = .ok (.iconst 0, 1) := by decide +kernel
theorem dX1_set_8 : decode cX1_set 8 = .ok (.ireturn, 1) := by decide +kernel
theorem dX1_set_9 : decode cX1_set 9 = .ok (.aload_n 0, 1) := by decide +kernel
theorem dX1_set_10 : decode cX1_set 10 = .ok (.getfield 9, 3) := by decide +kernel
theorem dX1_set_13 : decode cX1_set 13 = .ok (.iload_n 1, 1) := by decide +kernel
theorem dX1_set_14 : decode cX1_set 14 = .ok (.lload_n 2, 1) := by decide +kernel
theorem dX1_set_15 : decode cX1_set 15 = .ok (.lastore, 1) := by decide +kernel
theorem dX1_set_16 : decode cX1_set 16 = .ok (.iconst 1, 1) := by decide +kernel
theorem dX1_set_17 : decode cX1_set 17 = .ok (.ireturn, 1) := by decide +kernel
set_option maxRecDepth 20000 in
theorem ggX1_get_X1_isRegister : GoodIn wsX1_get wsX1_isRegister := goodIn_r _ [5] (by decide +kernel) (by decide +kernel)
set_option maxRecDepth 20000 in
theorem gX1_get_X1_isRegister : GoodIn wsX1_get (va_wsS RX1 38 yX1_isRegister wsX1_isRegister) := goodIn_app (goodIn_of _ (by decide +kernel)) ggX1_get_X1_isRegister
theorem dX1_get_0 : decode cX1_get 0 = .ok (.iload_n 1, 1) := by decide +kernel
theorem dX1_get_1 : decode cX1_get 1 = .ok (.invokestatic 38, 3) := by decide +kernel
theorem dX1_get_4 : decode cX1_get 4 = .ok (.ifCond .eq 12, 3) := by decide +kernel
theorem dX1_get_7 : decode cX1_get 7 = .ok (.aload_n 0, 1) := by decide +kernel
theorem dX1_get_8 : decode cX1_get 8 = .ok (.getfield 9, 3) := by decide +kernel
theorem dX1_get_11 : decode cX1_get 11 = .ok (.iload_n 1, 1) := by decide +kernel
theorem dX1_get_12 : decode cX1_get 12 = .ok (.laload, 1) := by decide +kernel
theorem dX1_get_13 : decode cX1_get 13 = .ok (.goto 4, 3) := by decide +kernel
theorem dX1_get_16 : decode cX1_get 16 = .ok (.lconst 0, 1) := by decide +kernel
theorem dX1_get_17 : decode cX1_get 17 = .ok (.lreturn, 1) := by decide +kernel
set_option maxRecDepth 20000 in
theorem ggX1_add_X1_isRegister : GoodIn wsX1_add wsX1_isRegister := goodIn_r _ [6] (by decide +kernel) (by decide +kernel)
set_option maxRecDepth 20000 in
theorem gX1_add_X1_isRegister : GoodIn wsX1_add (va_wsS RX1 38 yX1_isRegister wsX1_isRegister) := goodIn_app (goodIn_of _ (by decide +kernel)) ggX1_add_X1_isRegister
set_option maxRecDepth 20000 in
theorem ggX1_add_X0_become : GoodIn wsX1_add wsX0_become := goodIn_r _ [11, 12, 13, 47, 48] (by decide +kernel) (by decide +kernel)
set_option maxRecDepth 20000 in
theorem gX1_add_X0_become : GoodIn wsX1_add (wsV RX1 42 RX0 yX0_become wsX0_become) := goodIn_app (goodIn_of _ (by decide +kernel)) ggX1_add_X0_become
set_option maxRecDepth 20000 in
theorem ggX1_add_X0_increase : GoodIn wsX1_add wsX0_increase := goodIn_r _ [17, 18, 19, 20, 10, 21, 13, 12, 22, 23, 24, 25, 47, 48] (by decide +kernel) (by decide +kernel)
set_option maxRecDepth 20000 in
theorem gX1_add_X0_increase : GoodIn wsX1_add (wsV RX1 46 RX0 yX0_increase wsX0_increase) := goodIn_app (goodIn_of _ (by decide +kernel)) ggX1_add_X0_increase
set_option maxRecDepth 20000 in
theorem ggX1_add_X1_keepInRegister : GoodIn wsX1_add wsX1_keepInRegister := goodIn_r _ [29, 1, 2, 30, 31, 32, 10, 33, 12, 13, 34, 35, 36, 37, 38, 39, 40, 41, 42, 43, 44, 45, 46, 47, 48] (by decide +kernel) (by decide +kernel)
set_option maxRecDepth 20000 in
theorem gX1_add_X1_keepInRegister : GoodIn wsX1_add (wsV RX1 49 RX1 yX1_keepInRegister wsX1_keepInRegister) := goodIn_app (goodIn_of _ (by decide +kernel)) ggX1_add_X1_keepInRegister
theorem dX1_add_0 : decode cX1_add 0 = .ok (.iload_n 1, 1) := by decide +kernel
theorem dX1_add_1 : decode cX1_add 1 = .ok (.invokestatic 38, 3) := by decide +kernel
theorem dX1_add_4 : decode cX1_add 4 = .ok (.ifCond .ne 5, 3) := by decide +kernel
theorem dX1_add_7 : decode cX1_add 7 = .ok (.iconst (-1), 1) := by decide +kernel
theorem dX1_add_8 : decode cX1_add 8 = .ok (.ireturn, 1) := by decide +kernel
theorem dX1_add_9 : decode cX1_add 9 = .ok (.aload_n 0, 1) := by decide +kernel
theorem dX1_add_10 : decode cX1_add 10 = .ok (.getfield 35, 3) := by decide +kernel
theorem dX1_add_13 : decode cX1_add 13 = .ok (.aload_n 0, 1) := by decide +kernel
theorem dX1_add_14 : decode cX1_add 14 = .ok (.getfield 9, 3) := by decide +kernel
theorem dX1_add_17 : decode cX1_add 17 = .ok (.iload_n 1, 1) := by decide +kernel
theorem dX1_add_18 : decode cX1_add 18 = .ok (.laload, 1) := by decide +kernel
theorem dX1_add_19 : decode cX1_add 19 = .ok (.invokevirtual 42, 3) := by decide +kernel
theorem dX1_add_22 : decode cX1_add 22 = .ok (.aload_n 0, 1) := by decide +kernel
theorem dX1_add_23 : decode cX1_add 23 = .ok (.getfield 35, 3) := by decide +kernel
theorem dX1_add_26 : decode cX1_add 26 = .ok (.lload_n 2, 1) := by decide +kernel
theorem dX1_add_27 : decode cX1_add 27 = .ok (.invokevirtual 46, 3) := by decide +kernel
theorem dX1_add_30 : decode cX1_add 30 = .ok (.aload_n 0, 1) := by decide +kernel
theorem dX1_add_31 : decode cX1_add 31 = .ok (.iload_n 1, 1) := by decide +kernel
theorem dX1_add_32 : decode cX1_add 32 = .ok (.invokevirtual 49, 3) := by decide +kernel
theorem dX1_add_35 : decode cX1_add 35 = .ok (.ireturn, 1) := by decide +kernel
set_option maxRecDepth 20000 in
theorem ggX1_subtract_X1_isRegister : GoodIn wsX1_subtract wsX1_isRegister := goodIn_r _ [6] (by decide +kernel) (by decide +kernel)
set_option maxRecDepth 20000 in
theorem gX1_subtract_X1_isRegister : GoodIn wsX1_subtract (va_wsS RX1 38 yX1_isRegister wsX1_isRegister) := goodIn_app (goodIn_of _ (by decide +kernel)) ggX1_subtract_X1_isRegister
set_option maxRecDepth 20000 in
theorem ggX1_subtract_X0_become : GoodIn wsX1_subtract wsX0_become := goodIn_r _ [11, 12, 13, 52, 53] (by decide +kernel) (by decide +kernel)
set_option maxRecDepth 20000 in
theorem gX1_subtract_X0_become : GoodIn wsX1_subtract (wsV RX1 42 RX0 yX0_become wsX0_become) := goodIn_app (goodIn_of _ (by decide +kernel)) ggX1_subtract_X0_become
set_option maxRecDepth 20000 in
theorem ggX1_subtract_X0_negate : GoodIn wsX1_subtract wsX0_negate := goodIn_r _ [17, 13, 12, 18, 52, 53] (by decide +kernel) (by decide +kernel)
set_option maxRecDepth 20000 in
theorem gX1_subtract_X0_negate : GoodIn wsX1_subtract (wsV RX1 53 RX0 yX0_negate wsX0_negate) := goodIn_app (goodIn_of _ (by decide +kernel)) ggX1_subtract_X0_negate
set_option maxRecDepth 20000 in
theorem ggX1_subtract_X0_increase : GoodIn wsX1_subtract wsX0_increase := goodIn_r _ [22, 23, 24, 25, 10, 26, 13, 12, 27, 28, 29, 30, 52, 53] (by decide +kernel) (by decide +kernel)
set_option maxRecDepth 20000 in
theorem gX1_subtract_X0_increase : GoodIn wsX1_subtract (wsV RX1 46 RX0 yX0_increase wsX0_increase) := goodIn_app (goodIn_of _ (by decide +kernel)) ggX1_subtract_X0_increase
set_option maxRecDepth 20000 in
theorem ggX1_subtract_X1_keepInRegister : GoodIn wsX1_subtract wsX1_keepInRegister := goodIn_r _ [34, 1, 2, 35, 36, 37, 10, 38, 12, 13, 39, 40, 41, 42, 43, 44, 45, 46, 47, 48, 49, 50, 51, 52, 53] (by decide +kernel) (by decide +kernel)
set_option maxRecDepth 20000 in
theorem gX1_subtract_X1_keepInRegister : GoodIn wsX1_subtract (wsV RX1 49 RX1 yX1_keepInRegister wsX1_keepInRegister) := goodIn_app (goodIn_of _ (by decide +kernel)) ggX1_subtract_X1_keepInRegister
theorem dX1_subtract_0 : decode cX1_subtract 0 = .ok (.iload_n 1, 1) := by decide +kernel
theorem dX1_subtract_1 : decode cX1_subtract 1 = .ok (.invokestatic 38, 3) := by decide +kernel
theorem dX1_subtract_4 : decode cX1_subtract 4 = .ok (.ifCond .ne 5, 3) := by decide +kernel
theorem dX1_subtract_7 : decode cX1_subtract 7 = .ok (.iconst (-1), 1) := by decide +kernel
theorem dX1_subtract_8 : decode cX1_subtract 8 = .ok (.ireturn, 1) := by decide +kernel
theorem dX1_subtract_9 : decode cX1_subtract 9 = .ok (.aload_n 0, 1) := by decide +kernel
theorem dX1_subtract_10 : decode cX1_subtract 10 = .ok (.getfield 35, 3) := by decide +kernel
theorem dX1_subtract_13 : decode cX1_subtract 13 = .ok (.lload_n 2, 1) := by decide +kernel
theorem dX1_subtract_14 : decode cX1_subtract 14 = .ok (.invokevirtual 42, 3) := by decide +kernel
theorem dX1_subtract_17 : decode cX1_subtract 17 = .ok (.aload_n 0, 1) := by decide +kernel
theorem dX1_subtract_18 : decode cX1_subtract 18 = .ok (.getfield 35, 3) := by decide +kernel
theorem dX1_subtract_21 : decode cX1_subtract 21 = .ok (.invokevirtual 53, 3) := by decide +kernel
theorem dX1_subtract_24 : decode cX1_subtract 24 = .ok (.aload_n 0, 1) := by decide +kernel
theorem dX1_subtract_25 : decode cX1_subtract 25 = .ok (.getfield 35, 3) := by decide +kernel
theorem dX1_subtract_28 : decode cX1_subtract 28 = .ok (.aload_n 0, 1) := by decide +kernel
theorem dX1_subtract_29 : decode cX1_subtract 29 = .ok (.getfield 9, 3) := by decide +kernel
theorem dX1_subtract_32 : decode cX1_subtract 32 = .ok (.iload_n 1, 1) := by decide +kernel
theorem dX1_subtract_33 : decode cX1_subtract 33 = .ok (.laload, 1) := by decide +kernel
theorem dX1_subtract_34 : decode cX1_subtract 34 = .ok (.invokevirtual 46, 3) := by decide +kernel
theorem dX1_subtract_37 : decode cX1_subtract 37 = .ok (.aload_n 0, 1) := by decide +kernel
theorem dX1_subtract_38 : decode cX1_subtract 38 = .ok (.iload_n 1, 1) := by decide +kernel
theorem dX1_subtract_39 : decode cX1_subtract 39 = .ok (.invokevirtual 49, 3) := by decide +kernel
theorem dX1_subtract_42 : decode cX1_subtract 42 = .ok (.ireturn, 1) := by decide +kernel
set_option maxRecDepth 20000 in
theorem ggX1_times_X1_isRegister : GoodIn wsX1_times wsX1_isRegister := goodIn_r _ [6] (by decide +kernel) (by decide +kernel)
set_option maxRecDepth 20000 in
theorem gX1_times_X1_isRegister : GoodIn wsX1_times (va_wsS RX1 38 yX1_isRegister wsX1_isRegister) := goodIn_app (goodIn_of _ (by decide +kernel)) ggX1_times_X1_isRegister
set_option maxRecDepth 20000 in
theorem ggX1_times_X0_becomeProduct : GoodIn wsX1_times wsX0_becomeProduct := goodIn_r _ [11, 12, 13, 14, 36, 37] (by decide +kernel) (by decide +kernel)
set_option maxRecDepth 20000 in
theorem gX1_times_X0_becomeProduct : GoodIn wsX1_times (wsV RX1 26 RX0 yX0_becomeProduct wsX0_becomeProduct) := goodIn_app (goodIn_of _ (by decide +kernel)) ggX1_times_X0_becomeProduct
set_option maxRecDepth 20000 in
theorem ggX1_times_X1_keepInRegister : GoodIn wsX1_times wsX1_keepInRegister := goodIn_r _ [18, 1, 2, 19, 20, 21, 10, 22, 13, 14, 23, 24, 25, 26, 27, 28, 29, 30, 31, 32, 33, 34, 35, 36, 37] (by decide +kernel) (by decide +kernel)
set_option maxRecDepth 20000 in
theorem gX1_times_X1_keepInRegister : GoodIn wsX1_times (wsV RX1 49 RX1 yX1_keepInRegister wsX1_keepInRegister) := goodIn_app (goodIn_of _ (by decide +kernel)) ggX1_times_X1_keepInRegister
theorem dX1_times_0 : decode cX1_times 0 = .ok (.iload_n 1, 1) := by decide +kernel
theorem dX1_times_1 : decode cX1_times 1 = .ok (.invokestatic 38, 3) := by decide +kernel
theorem dX1_times_4 : decode cX1_times 4 = .ok (.ifCond .ne 5, 3) := by decide +kernel
theorem dX1_times_7 : decode cX1_times 7 = .ok (.iconst (-1), 1) := by decide +kernel
theorem dX1_times_8 : decode cX1_times 8 = .ok (.ireturn, 1) := by decide +kernel
theorem dX1_times_9 : decode cX1_times 9 = .ok (.aload_n 0, 1) := by decide +kernel
theorem dX1_times_10 : decode cX1_times 10 = .ok (.getfield 35, 3) := by decide +kernel
theorem dX1_times_13 : decode cX1_times 13 = .ok (.aload_n 0, 1) := by decide +kernel
theorem dX1_times_14 : decode cX1_times 14 = .ok (.getfield 9, 3) := by decide +kernel
theorem dX1_times_17 : decode cX1_times 17 = .ok (.iload_n 1, 1) := by decide +kernel
theorem dX1_times_18 : decode cX1_times 18 = .ok (.laload, 1) := by decide +kernel
theorem dX1_times_19 : decode cX1_times 19 = .ok (.lload_n 2, 1) := by decide +kernel
theorem dX1_times_20 : decode cX1_times 20 = .ok (.invokevirtual 26, 3) := by decide +kernel
theorem dX1_times_23 : decode cX1_times 23 = .ok (.aload_n 0, 1) := by decide +kernel
theorem dX1_times_24 : decode cX1_times 24 = .ok (.iload_n 1, 1) := by decide +kernel
theorem dX1_times_25 : decode cX1_times 25 = .ok (.invokevirtual 49, 3) := by decide +kernel
theorem dX1_times_28 : decode cX1_times 28 = .ok (.ireturn, 1) := by decide +kernel
set_option maxRecDepth 20000 in
theorem ggX1_share_X1_isRegister : GoodIn wsX1_share wsX1_isRegister := goodIn_r _ [6] (by decide +kernel) (by decide +kernel)
set_option maxRecDepth 20000 in
theorem gX1_share_X1_isRegister : GoodIn wsX1_share (va_wsS RX1 38 yX1_isRegister wsX1_isRegister) := goodIn_app (goodIn_of _ (by decide +kernel)) ggX1_share_X1_isRegister
set_option maxRecDepth 20000 in
theorem ggX1_share_X1_isWay : GoodIn wsX1_share wsX1_isWay := goodIn_r _ [9] (by decide +kernel) (by decide +kernel)
set_option maxRecDepth 20000 in
theorem gX1_share_X1_isWay : GoodIn wsX1_share (va_wsS RX1 56 yX1_isWay wsX1_isWay) := goodIn_app (goodIn_of _ (by decide +kernel)) ggX1_share_X1_isWay
set_option maxRecDepth 20000 in
theorem ggX1_share_X0_becomeProduct : GoodIn wsX1_share wsX0_becomeProduct := goodIn_r _ [14, 15, 16, 17, 73, 74] (by decide +kernel) (by decide +kernel)
set_option maxRecDepth 20000 in
theorem gX1_share_X0_becomeProduct : GoodIn wsX1_share (wsV RX1 26 RX0 yX0_becomeProduct wsX0_becomeProduct) := goodIn_app (goodIn_of _ (by decide +kernel)) ggX1_share_X0_becomeProduct
set_option maxRecDepth 20000 in
theorem ggX1_share_X1_divideOutcome : GoodIn wsX1_share wsX1_divideOutcome := goodIn_r _ [21, 1, 22, 23, 24, 13, 25, 16, 26, 27, 28, 29, 30, 31, 32, 33, 34, 17, 35, 36, 37, 38, 39, 40, 41, 42, 43, 44, 45, 5, 46, 47, 48, 49, 50, 51, 52, 53, 54, 55, 68, 69, 70, 71, 72, 73, 74] (by decide +kernel) (by decide +kernel)
set_option maxRecDepth 20000 in
theorem gX1_share_X1_divideOutcome : GoodIn wsX1_share (wsV RX1 59 RX1 yX1_divideOutcome wsX1_divideOutcome) := goodIn_app (goodIn_of _ (by decide +kernel)) ggX1_share_X1_divideOutcome
set_option maxRecDepth 20000 in
theorem ggX1_share_X1_keepInRegister : GoodIn wsX1_share wsX1_keepInRegister := goodIn_r _ [59, 1, 2, 60, 61, 62, 13, 63, 16, 17, 22, 23, 24, 25, 64, 65, 66, 67, 68, 69, 70, 71, 72, 73, 74] (by decide +kernel) (by decide +kernel)
set_option maxRecDepth 20000 in
theorem gX1_share_X1_keepInRegister : GoodIn wsX1_share (wsV RX1 49 RX1 yX1_keepInRegister wsX1_keepInRegister) := goodIn_app (goodIn_of _ (by decide +kernel)) ggX1_share_X1_keepInRegister
theorem dX1_share_0 : decode cX1_share 0 = .ok (.iload_n 1, 1) := by decide +kernel
theorem dX1_share_1 : decode cX1_share 1 = .ok (.invokestatic 38, 3) := by decide +kernel
theorem dX1_share_4 : decode cX1_share 4 = .ok (.ifCond .eq 11, 3) := by decide +kernel
theorem dX1_share_7 : decode cX1_share 7 = .ok (.iload 6, 2) := by decide +kernel
theorem dX1_share_9 : decode cX1_share 9 = .ok (.invokestatic 56, 3) := by decide +kernel
theorem dX1_share_12 : decode cX1_share 12 = .ok (.ifCond .ne 5, 3) := by decide +kernel
theorem dX1_share_15 : decode cX1_share 15 = .ok (.iconst (-1), 1) := by decide +kernel
theorem dX1_share_16 : decode cX1_share 16 = .ok (.ireturn, 1) := by decide +kernel
theorem dX1_share_17 : decode cX1_share 17 = .ok (.lload 4, 2) := by decide +kernel
theorem dX1_share_19 : decode cX1_share 19 = .ok (.lconst 0, 1) := by decide +kernel
theorem dX1_share_20 : decode cX1_share 20 = .ok (.lcmp, 1) := by decide +kernel
theorem dX1_share_21 : decode cX1_share 21 = .ok (.ifCond .ne 5, 3) := by decide +kernel
theorem dX1_share_24 : decode cX1_share 24 = .ok (.iconst 3, 1) := by decide +kernel
theorem dX1_share_25 : decode cX1_share 25 = .ok (.ireturn, 1) := by decide +kernel
theorem dX1_share_26 : decode cX1_share 26 = .ok (.aload_n 0, 1) := by decide +kernel
theorem dX1_share_27 : decode cX1_share 27 = .ok (.getfield 35, 3) := by decide +kernel
theorem dX1_share_30 : decode cX1_share 30 = .ok (.aload_n 0, 1) := by decide +kernel
theorem dX1_share_31 : decode cX1_share 31 = .ok (.getfield 9, 3) := by decide +kernel
theorem dX1_share_34 : decode cX1_share 34 = .ok (.iload_n 1, 1) := by decide +kernel
theorem dX1_share_35 : decode cX1_share 35 = .ok (.laload, 1) := by decide +kernel
theorem dX1_share_36 : decode cX1_share 36 = .ok (.lload_n 2, 1) := by decide +kernel
theorem dX1_share_37 : decode cX1_share 37 = .ok (.invokevirtual 26, 3) := by decide +kernel
theorem dX1_share_40 : decode cX1_share 40 = .ok (.aload_n 0, 1) := by decide +kernel
theorem dX1_share_41 : decode cX1_share 41 = .ok (.lload 4, 2) := by decide +kernel
theorem dX1_share_43 : decode cX1_share 43 = .ok (.iload 6, 2) := by decide +kernel
theorem dX1_share_45 : decode cX1_share 45 = .ok (.invokevirtual 59, 3) := by decide +kernel
theorem dX1_share_48 : decode cX1_share 48 = .ok (.aload_n 0, 1) := by decide +kernel
theorem dX1_share_49 : decode cX1_share 49 = .ok (.iload_n 1, 1) := by decide +kernel
theorem dX1_share_50 : decode cX1_share 50 = .ok (.invokevirtual 49, 3) := by decide +kernel
theorem dX1_share_53 : decode cX1_share 53 = .ok (.ireturn, 1) := by decide +kernel
set_option maxRecDepth 20000 in
theorem ggX1_enter_X1_isTally : GoodIn wsX1_enter wsX1_isTally := goodIn_r _ [7] (by decide +kernel) (by decide +kernel)
set_option maxRecDepth 20000 in
theorem gX1_enter_X1_isTally : GoodIn wsX1_enter (va_wsS RX1 63 yX1_isTally wsX1_isTally) := goodIn_app (goodIn_of _ (by decide +kernel)) ggX1_enter_X1_isTally
set_option maxRecDepth 20000 in
theorem ggX1_enter_X1_isRegister : GoodIn wsX1_enter wsX1_isRegister := goodIn_r _ [10] (by decide +kernel) (by decide +kernel)
set_option maxRecDepth 20000 in
theorem gX1_enter_X1_isRegister : GoodIn wsX1_enter (va_wsS RX1 38 yX1_isRegister wsX1_isRegister) := goodIn_app (goodIn_of _ (by decide +kernel)) ggX1_enter_X1_isRegister
set_option maxRecDepth 20000 in
theorem ggX1_enter_X0_becomeProduct : GoodIn wsX1_enter wsX0_becomeProduct := goodIn_r _ [15, 16, 17, 18, 50, 51] (by decide +kernel) (by decide +kernel)
set_option maxRecDepth 20000 in
theorem gX1_enter_X0_becomeProduct : GoodIn wsX1_enter (wsV RX1 26 RX0 yX0_becomeProduct wsX0_becomeProduct) := goodIn_app (goodIn_of _ (by decide +kernel)) ggX1_enter_X0_becomeProduct
set_option maxRecDepth 20000 in
theorem ggX1_enter_X0_increase_ : GoodIn wsX1_enter wsX0_increase_ := goodIn_r _ [22, 17, 18, 23, 24, 25, 14, 26, 27, 28, 29, 30, 50, 51] (by decide +kernel) (by decide +kernel)
set_option maxRecDepth 20000 in
theorem gX1_enter_X0_increase_ : GoodIn wsX1_enter (wsV RX1 66 RX0 yX0_increase_ wsX0_increase_) := goodIn_app (goodIn_of _ (by decide +kernel)) ggX1_enter_X0_increase_
set_option maxRecDepth 20000 in
theorem ggX1_enter_X1_keepInTally : GoodIn wsX1_enter wsX1_keepInTally := goodIn_r _ [34, 1, 35, 36, 3, 37, 38, 39, 14, 40, 17, 18, 27, 28, 29, 30, 41, 42, 43, 44, 45, 46, 47, 48, 49, 50, 51] (by decide +kernel) (by decide +kernel)
set_option maxRecDepth 20000 in
theorem gX1_enter_X1_keepInTally : GoodIn wsX1_enter (wsV RX1 69 RX1 yX1_keepInTally wsX1_keepInTally) := goodIn_app (goodIn_of _ (by decide +kernel)) ggX1_enter_X1_keepInTally
theorem dX1_enter_0 : decode cX1_enter 0 = .ok (.iload_n 1, 1) := by decide +kernel
theorem dX1_enter_1 : decode cX1_enter 1 = .ok (.invokestatic 63, 3) := by decide +kernel
theorem dX1_enter_4 : decode cX1_enter 4 = .ok (.ifCond .eq 10, 3) := by decide +kernel
theorem dX1_enter_7 : decode cX1_enter 7 = .ok (.iload_n 2, 1) := by decide +kernel
theorem dX1_enter_8 : decode cX1_enter 8 = .ok (.invokestatic 38, 3) := by decide +kernel
theorem dX1_enter_11 : decode cX1_enter 11 = .ok (.ifCond .ne 5, 3) := by decide +kernel
theorem dX1_enter_14 : decode cX1_enter 14 = .ok (.iconst (-1), 1) := by decide +kernel
theorem dX1_enter_15 : decode cX1_enter 15 = .ok (.ireturn, 1) := by decide +kernel
theorem dX1_enter_16 : decode cX1_enter 16 = .ok (.aload_n 0, 1) := by decide +kernel
theorem dX1_enter_17 : decode cX1_enter 17 = .ok (.getfield 35, 3) := by decide +kernel
theorem dX1_enter_20 : decode cX1_enter 20 = .ok (.aload_n 0, 1) := by decide +kernel
theorem dX1_enter_21 : decode cX1_enter 21 = .ok (.getfield 9, 3) := by decide +kernel
theorem dX1_enter_24 : decode cX1_enter 24 = .ok (.iload_n 2, 1) := by decide +kernel
theorem dX1_enter_25 : decode cX1_enter 25 = .ok (.laload, 1) := by decide +kernel
theorem dX1_enter_26 : decode cX1_enter 26 = .ok (.lload_n 3, 1) := by decide +kernel
theorem dX1_enter_27 : decode cX1_enter 27 = .ok (.invokevirtual 26, 3) := by decide +kernel
theorem dX1_enter_30 : decode cX1_enter 30 = .ok (.aload_n 0, 1) := by decide +kernel
theorem dX1_enter_31 : decode cX1_enter 31 = .ok (.getfield 35, 3) := by decide +kernel
theorem dX1_enter_34 : decode cX1_enter 34 = .ok (.aload_n 0, 1) := by decide +kernel
theorem dX1_enter_35 : decode cX1_enter 35 = .ok (.getfield 15, 3) := by decide +kernel
theorem dX1_enter_38 : decode cX1_enter 38 = .ok (.iload_n 1, 1) := by decide +kernel
theorem dX1_enter_39 : decode cX1_enter 39 = .ok (.aaload, 1) := by decide +kernel
theorem dX1_enter_40 : decode cX1_enter 40 = .ok (.invokevirtual 66, 3) := by decide +kernel
theorem dX1_enter_43 : decode cX1_enter 43 = .ok (.aload_n 0, 1) := by decide +kernel
theorem dX1_enter_44 : decode cX1_enter 44 = .ok (.iload_n 1, 1) := by decide +kernel
theorem dX1_enter_45 : decode cX1_enter 45 = .ok (.invokevirtual 69, 3) := by decide +kernel
theorem dX1_enter_48 : decode cX1_enter 48 = .ok (.ireturn, 1) := by decide +kernel
set_option maxRecDepth 20000 in
theorem ggX1_merge_X1_isTally : GoodIn wsX1_merge wsX1_isTally := goodIn_r _ [6] (by decide +kernel) (by decide +kernel)
set_option maxRecDepth 20000 in
theorem gX1_merge_X1_isTally : GoodIn wsX1_merge (va_wsS RX1 63 yX1_isTally wsX1_isTally) := goodIn_app (goodIn_of _ (by decide +kernel)) ggX1_merge_X1_isTally
set_option maxRecDepth 20000 in
theorem ggX1_merge_X0_become_ : GoodIn wsX1_merge wsX0_become_ := goodIn_r _ [11, 12, 13, 41, 42] (by decide +kernel) (by decide +kernel)
set_option maxRecDepth 20000 in
theorem gX1_merge_X0_become_ : GoodIn wsX1_merge (wsV RX1 72 RX0 yX0_become_ wsX0_become_) := goodIn_app (goodIn_of _ (by decide +kernel)) ggX1_merge_X0_become_
set_option maxRecDepth 20000 in
theorem ggX1_merge_X0_increase_ : GoodIn wsX1_merge wsX0_increase_ := goodIn_r _ [17, 12, 13, 18, 19, 20, 10, 21, 22, 23, 24, 25, 41, 42] (by decide +kernel) (by decide +kernel)
set_option maxRecDepth 20000 in
theorem gX1_merge_X0_increase_ : GoodIn wsX1_merge (wsV RX1 66 RX0 yX0_increase_ wsX0_increase_) := goodIn_app (goodIn_of _ (by decide +kernel)) ggX1_merge_X0_increase_
set_option maxRecDepth 20000 in
theorem ggX1_merge_X1_keepInTally : GoodIn wsX1_merge wsX1_keepInTally := goodIn_r _ [29, 1, 30, 31, 2, 32, 33, 34, 10, 35, 12, 13, 22, 23, 24, 25, 7, 8, 9, 11, 36, 37, 38, 39, 40, 41, 42] (by decide +kernel) (by decide +kernel)
set_option maxRecDepth 20000 in
theorem gX1_merge_X1_keepInTally : GoodIn wsX1_merge (wsV RX1 69 RX1 yX1_keepInTally wsX1_keepInTally) := goodIn_app (goodIn_of _ (by decide +kernel)) ggX1_merge_X1_keepInTally
theorem dX1_merge_0 : decode cX1_merge 0 = .ok (.iload_n 1, 1) := by decide +kernel
theorem dX1_merge_1 : decode cX1_merge 1 = .ok (.invokestatic 63, 3) := by decide +kernel
theorem dX1_merge_4 : decode cX1_merge 4 = .ok (.ifCond .eq 10, 3) := by decide +kernel
theorem dX1_merge_7 : decode cX1_merge 7 = .ok (.iload_n 2, 1) := by decide +kernel
theorem dX1_merge_8 : decode cX1_merge 8 = .ok (.invokestatic 63, 3) := by decide +kernel
theorem dX1_merge_11 : decode cX1_merge 11 = .ok (.ifCond .ne 5, 3) := by decide +kernel
theorem dX1_merge_14 : decode cX1_merge 14 = .ok (.iconst (-1), 1) := by decide +kernel
theorem dX1_merge_15 : decode cX1_merge 15 = .ok (.ireturn, 1) := by decide +kernel
theorem dX1_merge_16 : decode cX1_merge 16 = .ok (.aload_n 0, 1) := by decide +kernel
theorem dX1_merge_17 : decode cX1_merge 17 = .ok (.getfield 35, 3) := by decide +kernel
theorem dX1_merge_20 : decode cX1_merge 20 = .ok (.aload_n 0, 1) := by decide +kernel
theorem dX1_merge_21 : decode cX1_merge 21 = .ok (.getfield 15, 3) := by decide +kernel
theorem dX1_merge_24 : decode cX1_merge 24 = .ok (.iload_n 1, 1) := by decide +kernel
theorem dX1_merge_25 : decode cX1_merge 25 = .ok (.aaload, 1) := by decide +kernel
theorem dX1_merge_26 : decode cX1_merge 26 = .ok (.invokevirtual 72, 3) := by decide +kernel
theorem dX1_merge_29 : decode cX1_merge 29 = .ok (.aload_n 0, 1) := by decide +kernel
theorem dX1_merge_30 : decode cX1_merge 30 = .ok (.getfield 35, 3) := by decide +kernel
theorem dX1_merge_33 : decode cX1_merge 33 = .ok (.aload_n 0, 1) := by decide +kernel
theorem dX1_merge_34 : decode cX1_merge 34 = .ok (.getfield 15, 3) := by decide +kernel
theorem dX1_merge_37 : decode cX1_merge 37 = .ok (.iload_n 2, 1) := by decide +kernel
theorem dX1_merge_38 : decode cX1_merge 38 = .ok (.aaload, 1) := by decide +kernel
theorem dX1_merge_39 : decode cX1_merge 39 = .ok (.invokevirtual 66, 3) := by decide +kernel
theorem dX1_merge_42 : decode cX1_merge 42 = .ok (.aload_n 0, 1) := by decide +kernel
theorem dX1_merge_43 : decode cX1_merge 43 = .ok (.iload_n 1, 1) := by decide +kernel
theorem dX1_merge_44 : decode cX1_merge 44 = .ok (.invokevirtual 69, 3) := by decide +kernel
theorem dX1_merge_47 : decode cX1_merge 47 = .ok (.ireturn, 1) := by decide +kernel
set_option maxRecDepth 20000 in
theorem ggX1_split_X1_isTally : GoodIn wsX1_split wsX1_isTally := goodIn_r _ [7] (by decide +kernel) (by decide +kernel)
set_option maxRecDepth 20000 in
theorem gX1_split_X1_isTally : GoodIn wsX1_split (va_wsS RX1 63 yX1_isTally wsX1_isTally) := goodIn_app (goodIn_of _ (by decide +kernel)) ggX1_split_X1_isTally
set_option maxRecDepth 20000 in
theorem ggX1_split_X1_isRegister : GoodIn wsX1_split wsX1_isRegister := goodIn_r _ [10] (by decide +kernel) (by decide +kernel)
set_option maxRecDepth 20000 in
theorem gX1_split_X1_isRegister : GoodIn wsX1_split (va_wsS RX1 38 yX1_isRegister wsX1_isRegister) := goodIn_app (goodIn_of _ (by decide +kernel)) ggX1_split_X1_isRegister
set_option maxRecDepth 20000 in
theorem ggX1_split_X0_isNegative : GoodIn wsX1_split wsX0_isNegative := goodIn_r _ [15, 16, 42, 43] (by decide +kernel) (by decide +kernel)
set_option maxRecDepth 20000 in
theorem gX1_split_X0_isNegative : GoodIn wsX1_split (wsV RX1 74 RX0 yX0_isNegative wsX0_isNegative) := goodIn_app (goodIn_of _ (by decide +kernel)) ggX1_split_X0_isNegative
set_option maxRecDepth 20000 in
theorem ggX1_split_X0_dropSign : GoodIn wsX1_split wsX0_dropSign := goodIn_r _ [20, 21, 12, 13, 14, 15, 16, 22, 23, 24, 25, 26, 27, 42, 43] (by decide +kernel) (by decide +kernel)
set_option maxRecDepth 20000 in
theorem gX1_split_X0_dropSign : GoodIn wsX1_split (wsV RX1 78 RX0 yX0_dropSign wsX0_dropSign) := goodIn_app (goodIn_of _ (by decide +kernel)) ggX1_split_X0_dropSign
set_option maxRecDepth 20000 in
theorem ggX1_split_X0_divideBy : GoodIn wsX1_split wsX0_divideBy := goodIn_r _ [31, 16, 26, 32, 33, 14, 34, 35, 42, 43] (by decide +kernel) (by decide +kernel)
set_option maxRecDepth 20000 in
theorem gX1_split_X0_divideBy : GoodIn wsX1_split (wsV RX1 81 RX0 yX0_divideBy wsX0_divideBy) := goodIn_app (goodIn_of _ (by decide +kernel)) ggX1_split_X0_divideBy
set_option maxRecDepth 20000 in
theorem ggX1_split_X0_negate : GoodIn wsX1_split wsX0_negate := goodIn_r _ [25, 26, 16, 27, 42, 43] (by decide +kernel) (by decide +kernel)
set_option maxRecDepth 20000 in
theorem gX1_split_X0_negate : GoodIn wsX1_split (wsV RX1 53 RX0 yX0_negate wsX0_negate) := goodIn_app (goodIn_of _ (by decide +kernel)) ggX1_split_X0_negate
theorem dX1_split_0 : decode cX1_split 0 = .ok (.iload_n 1, 1) := by decide +kernel
theorem dX1_split_1 : decode cX1_split 1 = .ok (.invokestatic 63, 3) := by decide +kernel
theorem dX1_split_4 : decode cX1_split 4 = .ok (.ifCond .eq 25, 3) := by decide +kernel
theorem dX1_split_7 : decode cX1_split 7 = .ok (.iload 4, 2) := by decide +kernel
theorem dX1_split_9 : decode cX1_split 9 = .ok (.invokestatic 38, 3) := by decide +kernel
theorem dX1_split_12 : decode cX1_split 12 = .ok (.ifCond .eq 17, 3) := by decide +kernel
theorem dX1_split_15 : decode cX1_split 15 = .ok (.lload_n 2, 1) := by decide +kernel
theorem dX1_split_16 : decode cX1_split 16 = .ok (.lconst 0, 1) := by decide +kernel
theorem dX1_split_17 : decode cX1_split 17 = .ok (.lcmp, 1) := by decide +kernel
theorem dX1_split_18 : decode cX1_split 18 = .ok (.ifCond .lt 11, 3) := by decide +kernel
theorem dX1_split_21 : decode cX1_split 21 = .ok (.lload_n 2, 1) := by decide +kernel
theorem dX1_split_22 : decode cX1_split 22 = .ok (.ldc2_w 24, 3) := by decide +kernel
theorem dX1_split_25 : decode cX1_split 25 = .ok (.lcmp, 1) := by decide +kernel
theorem dX1_split_26 : decode cX1_split 26 = .ok (.ifCond .le 5, 3) := by decide +kernel
theorem dX1_split_29 : decode cX1_split 29 = .ok (.iconst (-1), 1) := by decide +kernel
theorem dX1_split_30 : decode cX1_split 30 = .ok (.ireturn, 1) := by decide +kernel
theorem dX1_split_31 : decode cX1_split 31 = .ok (.lload_n 2, 1) := by decide +kernel
theorem dX1_split_32 : decode cX1_split 32 = .ok (.lconst 0, 1) := by decide +kernel
theorem dX1_split_33 : decode cX1_split 33 = .ok (.lcmp, 1) := by decide +kernel
theorem dX1_split_34 : decode cX1_split 34 = .ok (.ifCond .ne 5, 3) := by decide +kernel
theorem dX1_split_37 : decode cX1_split 37 = .ok (.iconst 3, 1) := by decide +kernel
theorem dX1_split_38 : decode cX1_split 38 = .ok (.ireturn, 1) := by decide +kernel
theorem dX1_split_39 : decode cX1_split 39 = .ok (.aload_n 0, 1) := by decide +kernel
theorem dX1_split_40 : decode cX1_split 40 = .ok (.getfield 15, 3) := by decide +kernel
theorem dX1_split_43 : decode cX1_split 43 = .ok (.iload_n 1, 1) := by decide +kernel
theorem dX1_split_44 : decode cX1_split 44 = .ok (.aaload, 1) := by decide +kernel
theorem dX1_split_45 : decode cX1_split 45 = .ok (.astore 5, 2) := by decide +kernel
theorem dX1_split_47 : decode cX1_split 47 = .ok (.aload 5, 2) := by decide +kernel
theorem dX1_split_49 : decode cX1_split 49 = .ok (.invokevirtual 74, 3) := by decide +kernel
theorem dX1_split_52 : decode cX1_split 52 = .ok (.istore 6, 2) := by decide +kernel
theorem dX1_split_54 : decode cX1_split 54 = .ok (.aload 5, 2) := by decide +kernel
theorem dX1_split_56 : decode cX1_split 56 = .ok (.invokevirtual 78, 3) := by decide +kernel
theorem dX1_split_59 : decode cX1_split 59 = .ok (.aload 5, 2) := by decide +kernel
theorem dX1_split_61 : decode cX1_split 61 = .ok (.lload_n 2, 1) := by decide +kernel
theorem dX1_split_62 : decode cX1_split 62 = .ok (.invokevirtual 81, 3) := by decide +kernel
theorem dX1_split_65 : decode cX1_split 65 = .ok (.lstore 7, 2) := by decide +kernel
theorem dX1_split_67 : decode cX1_split 67 = .ok (.iload 6, 2) := by decide +kernel
theorem dX1_split_69 : decode cX1_split 69 = .ok (.ifCond .eq 13, 3) := by decide +kernel
theorem dX1_split_72 : decode cX1_split 72 = .ok (.aload 5, 2) := by decide +kernel
theorem dX1_split_74 : decode cX1_split 74 = .ok (.invokevirtual 53, 3) := by decide +kernel
theorem dX1_split_77 : decode cX1_split 77 = .ok (.lload 7, 2) := by decide +kernel
theorem dX1_split_79 : decode cX1_split 79 = .ok (.lneg, 1) := by decide +kernel
theorem dX1_split_80 : decode cX1_split 80 = .ok (.lstore 7, 2) := by decide +kernel
theorem dX1_split_82 : decode cX1_split 82 = .ok (.aload_n 0, 1) := by decide +kernel
theorem dX1_split_83 : decode cX1_split 83 = .ok (.getfield 9, 3) := by decide +kernel
theorem dX1_split_86 : decode cX1_split 86 = .ok (.iload 4, 2) := by decide +kernel
theorem dX1_split_88 : decode cX1_split 88 = .ok (.lload 7, 2) := by decide +kernel
theorem dX1_split_90 : decode cX1_split 90 = .ok (.lastore, 1) := by decide +kernel
theorem dX1_split_91 : decode cX1_split 91 = .ok (.iconst 0, 1) := by decide +kernel
theorem dX1_split_92 : decode cX1_split 92 = .ok (.ireturn, 1) := by decide +kernel
set_option maxRecDepth 20000 in
theorem ggX1_take_X1_isTally : GoodIn wsX1_take wsX1_isTally := goodIn_r _ [6] (by decide +kernel) (by decide +kernel)
set_option maxRecDepth 20000 in
theorem gX1_take_X1_isTally : GoodIn wsX1_take (va_wsS RX1 63 yX1_isTally wsX1_isTally) := goodIn_app (goodIn_of _ (by decide +kernel)) ggX1_take_X1_isTally
set_option maxRecDepth 20000 in
theorem ggX1_take_X1_isRegister : GoodIn wsX1_take wsX1_isRegister := goodIn_r _ [9] (by decide +kernel) (by decide +kernel)
set_option maxRecDepth 20000 in
theorem gX1_take_X1_isRegister : GoodIn wsX1_take (va_wsS RX1 38 yX1_isRegister wsX1_isRegister) := goodIn_app (goodIn_of _ (by decide +kernel)) ggX1_take_X1_isRegister
set_option maxRecDepth 20000 in
theorem ggX1_take_X0_become_ : GoodIn wsX1_take wsX0_become_ := goodIn_r _ [14, 15, 16, 39, 40] (by decide +kernel) (by decide +kernel)
set_option maxRecDepth 20000 in
theorem gX1_take_X0_become_ : GoodIn wsX1_take (wsV RX1 72 RX0 yX0_become_ wsX0_become_) := goodIn_app (goodIn_of _ (by decide +kernel)) ggX1_take_X0_become_
set_option maxRecDepth 20000 in
theorem ggX1_take_X1_keepInRegister : GoodIn wsX1_take wsX1_keepInRegister := goodIn_r _ [20, 1, 21, 22, 23, 24, 13, 25, 15, 16, 26, 27, 28, 29, 30, 31, 32, 33, 34, 35, 36, 37, 38, 39, 40] (by decide +kernel) (by decide +kernel)
set_option maxRecDepth 20000 in
theorem gX1_take_X1_keepInRegister : GoodIn wsX1_take (wsV RX1 49 RX1 yX1_keepInRegister wsX1_keepInRegister) := goodIn_app (goodIn_of _ (by decide +kernel)) ggX1_take_X1_keepInRegister
theorem dX1_take_0 : decode cX1_take 0 = .ok (.iload_n 1, 1) := by decide +kernel
theorem dX1_take_1 : decode cX1_take 1 = .ok (.invokestatic 63, 3) := by decide +kernel
theorem dX1_take_4 : decode cX1_take 4 = .ok (.ifCond .eq 10, 3) := by decide +kernel
theorem dX1_take_7 : decode cX1_take 7 = .ok (.iload_n 2, 1) := by decide +kernel
theorem dX1_take_8 : decode cX1_take 8 = .ok (.invokestatic 38, 3) := by decide +kernel
theorem dX1_take_11 : decode cX1_take 11 = .ok (.ifCond .ne 5, 3) := by decide +kernel
theorem dX1_take_14 : decode cX1_take 14 = .ok (.iconst (-1), 1) := by decide +kernel
theorem dX1_take_15 : decode cX1_take 15 = .ok (.ireturn, 1) := by decide +kernel
theorem dX1_take_16 : decode cX1_take 16 = .ok (.aload_n 0, 1) := by decide +kernel
theorem dX1_take_17 : decode cX1_take 17 = .ok (.getfield 35, 3) := by decide +kernel
theorem dX1_take_20 : decode cX1_take 20 = .ok (.aload_n 0, 1) := by decide +kernel
theorem dX1_take_21 : decode cX1_take 21 = .ok (.getfield 15, 3) := by decide +kernel
theorem dX1_take_24 : decode cX1_take 24 = .ok (.iload_n 1, 1) := by decide +kernel
theorem dX1_take_25 : decode cX1_take 25 = .ok (.aaload, 1) := by decide +kernel
theorem dX1_take_26 : decode cX1_take 26 = .ok (.invokevirtual 72, 3) := by decide +kernel
theorem dX1_take_29 : decode cX1_take 29 = .ok (.aload_n 0, 1) := by decide +kernel
theorem dX1_take_30 : decode cX1_take 30 = .ok (.iload_n 2, 1) := by decide +kernel
theorem dX1_take_31 : decode cX1_take 31 = .ok (.invokevirtual 49, 3) := by decide +kernel
theorem dX1_take_34 : decode cX1_take 34 = .ok (.ireturn, 1) := by decide +kernel
set_option maxRecDepth 20000 in
theorem ggX1_clear_X1_isTally : GoodIn wsX1_clear wsX1_isTally := goodIn_r _ [5] (by decide +kernel) (by decide +kernel)
set_option maxRecDepth 20000 in
theorem gX1_clear_X1_isTally : GoodIn wsX1_clear (va_wsS RX1 63 yX1_isTally wsX1_isTally) := goodIn_app (goodIn_of _ (by decide +kernel)) ggX1_clear_X1_isTally
set_option maxRecDepth 20000 in
theorem ggX1_clear_X0_become : GoodIn wsX1_clear wsX0_become := goodIn_r _ [10, 11, 12, 18, 19] (by decide +kernel) (by decide +kernel)
set_option maxRecDepth 20000 in
theorem gX1_clear_X0_become : GoodIn wsX1_clear (wsV RX1 42 RX0 yX0_become wsX0_become) := goodIn_app (goodIn_of _ (by decide +kernel)) ggX1_clear_X0_become
theorem dX1_clear_0 : decode cX1_clear 0 = .ok (.iload_n 1, 1) := by decide +kernel
theorem dX1_clear_1 : decode cX1_clear 1 = .ok (.invokestatic 63, 3) := by decide +kernel
theorem dX1_clear_4 : decode cX1_clear 4 = .ok (.ifCond .ne 5, 3) := by decide +kernel
theorem dX1_clear_7 : decode cX1_clear 7 = .ok (.iconst 0, 1) := by decide +kernel
theorem dX1_clear_8 : decode cX1_clear 8 = .ok (.ireturn, 1) := by decide +kernel
theorem dX1_clear_9 : decode cX1_clear 9 = .ok (.aload_n 0, 1) := by decide +kernel
theorem dX1_clear_10 : decode cX1_clear 10 = .ok (.getfield 15, 3) := by decide +kernel
theorem dX1_clear_13 : decode cX1_clear 13 = .ok (.iload_n 1, 1) := by decide +kernel
theorem dX1_clear_14 : decode cX1_clear 14 = .ok (.aaload, 1) := by decide +kernel
theorem dX1_clear_15 : decode cX1_clear 15 = .ok (.lconst 0, 1) := by decide +kernel
theorem dX1_clear_16 : decode cX1_clear 16 = .ok (.invokevirtual 42, 3) := by decide +kernel
theorem dX1_clear_19 : decode cX1_clear 19 = .ok (.iconst 1, 1) := by decide +kernel
theorem dX1_clear_20 : decode cX1_clear 20 = .ok (.ireturn, 1) := by decide +kernel
set_option maxRecDepth 20000 in
theorem ggX1_compare_X1_isTally : GoodIn wsX1_compare wsX1_isTally := goodIn_r _ [5] (by decide +kernel) (by decide +kernel)
set_option maxRecDepth 20000 in
theorem gX1_compare_X1_isTally : GoodIn wsX1_compare (va_wsS RX1 63 yX1_isTally wsX1_isTally) := goodIn_app (goodIn_of _ (by decide +kernel)) ggX1_compare_X1_isTally
set_option maxRecDepth 20000 in
theorem ggX1_compare_X0_orderTo : GoodIn wsX1_compare wsX0_orderTo := goodIn_r _ [10, 11, 12, 13, 14, 9, 15, 16, 22, 23] (by decide +kernel) (by decide +kernel)
set_option maxRecDepth 20000 in
theorem gX1_compare_X0_orderTo : GoodIn wsX1_compare (wsV RX1 85 RX0 yX0_orderTo wsX0_orderTo) := goodIn_app (goodIn_of _ (by decide +kernel)) ggX1_compare_X0_orderTo
theorem dX1_compare_0 : decode cX1_compare 0 = .ok (.iload_n 1, 1) := by decide +kernel
theorem dX1_compare_1 : decode cX1_compare 1 = .ok (.invokestatic 63, 3) := by decide +kernel
theorem dX1_compare_4 : decode cX1_compare 4 = .ok (.ifCond .eq 10, 3) := by decide +kernel
theorem dX1_compare_7 : decode cX1_compare 7 = .ok (.iload_n 2, 1) := by decide +kernel
theorem dX1_compare_8 : decode cX1_compare 8 = .ok (.invokestatic 63, 3) := by decide +kernel
theorem dX1_compare_11 : decode cX1_compare 11 = .ok (.ifCond .ne 6, 3) := by decide +kernel
theorem dX1_compare_14 : decode cX1_compare 14 = .ok (.bipush (-2), 2) := by decide +kernel
theorem dX1_compare_16 : decode cX1_compare 16 = .ok (.ireturn, 1) := by decide +kernel
theorem dX1_compare_17 : decode cX1_compare 17 = .ok (.aload_n 0, 1) := by decide +kernel
theorem dX1_compare_18 : decode cX1_compare 18 = .ok (.getfield 15, 3) := by decide +kernel
theorem dX1_compare_21 : decode cX1_compare 21 = .ok (.iload_n 1, 1) := by decide +kernel
theorem dX1_compare_22 : decode cX1_compare 22 = .ok (.aaload, 1) := by decide +kernel
theorem dX1_compare_23 : decode cX1_compare 23 = .ok (.aload_n 0, 1) := by decide +kernel
theorem dX1_compare_24 : decode cX1_compare 24 = .ok (.getfield 15, 3) := by decide +kernel
theorem dX1_compare_27 : decode cX1_compare 27 = .ok (.iload_n 2, 1) := by decide +kernel
theorem dX1_compare_28 : decode cX1_compare 28 = .ok (.aaload, 1) := by decide +kernel
theorem dX1_compare_29 : decode cX1_compare 29 = .ok (.invokevirtual 85, 3) := by decide +kernel
theorem dX1_compare_32 : decode cX1_compare 32 = .ok (.ireturn, 1) := by decide +kernel
set_option maxRecDepth 20000 in
theorem ggX1_digits_X1_isTally : GoodIn wsX1_digits wsX1_isTally := goodIn_r _ [5] (by decide +kernel) (by decide +kernel)
set_option maxRecDepth 20000 in
theorem gX1_digits_X1_isTally : GoodIn wsX1_digits (va_wsS RX1 63 yX1_isTally wsX1_isTally) := goodIn_app (goodIn_of _ (by decide +kernel)) ggX1_digits_X1_isTally
set_option maxRecDepth 20000 in
theorem ggX1_digits_X1_upperHalf : GoodIn wsX1_digits wsX1_upperHalf := goodIn_r _ [9, 10, 11, 12, 13, 14, 15, 16, 17, 18, 19, 20, 21, 22, 23, 24, 25, 26, 27, 28, 29, 30, 31, 32, 33, 34, 35, 36, 37, 38, 39, 40, 41, 42, 43, 53, 54, 55, 56, 57, 58, 59] (by decide +kernel) (by decide +kernel)
set_option maxRecDepth 20000 in
theorem gX1_digits_X1_upperHalf : GoodIn wsX1_digits (wsV RX1 89 RX1 yX1_upperHalf wsX1_upperHalf) := goodIn_app (goodIn_of _ (by decide +kernel)) ggX1_digits_X1_upperHalf
set_option maxRecDepth 20000 in
theorem ggX1_digits_X1_decimalLength : GoodIn wsX1_digits wsX1_decimalLength := goodIn_r _ [46, 47] (by decide +kernel) (by decide +kernel)
set_option maxRecDepth 20000 in
theorem gX1_digits_X1_decimalLength : GoodIn wsX1_digits (va_wsS RX1 93 yX1_decimalLength wsX1_decimalLength) := goodIn_app (goodIn_of _ (by decide +kernel)) ggX1_digits_X1_decimalLength
set_option maxRecDepth 20000 in
theorem ggX1_digits_X1_lowerHalf : GoodIn wsX1_digits wsX1_lowerHalf := goodIn_r _ [51, 10, 11, 12, 13, 14, 15, 16, 17, 18, 19, 20, 21, 22, 23, 24, 25, 26, 27, 28, 29, 30, 31, 32, 33, 34, 35, 36, 37, 38, 39, 53, 54, 55, 56, 57, 58, 59] (by decide +kernel) (by decide +kernel)
set_option maxRecDepth 20000 in
theorem gX1_digits_X1_lowerHalf : GoodIn wsX1_digits (wsV RX1 97 RX1 yX1_lowerHalf wsX1_lowerHalf) := goodIn_app (goodIn_of _ (by decide +kernel)) ggX1_digits_X1_lowerHalf
set_option maxRecDepth 20000 in
theorem ggX1_digits_X0_isNegative : GoodIn wsX1_digits wsX0_isNegative := goodIn_r _ [26, 17, 58, 59] (by decide +kernel) (by decide +kernel)
set_option maxRecDepth 20000 in
theorem gX1_digits_X0_isNegative : GoodIn wsX1_digits (wsV RX1 74 RX0 yX0_isNegative wsX0_isNegative) := goodIn_app (goodIn_of _ (by decide +kernel)) ggX1_digits_X0_isNegative
theorem dX1_digits_0 : decode cX1_digits 0 = .ok (.iload_n 1, 1) := by decide +kernel
theorem dX1_digits_1 : decode cX1_digits 1 = .ok (.invokestatic 63, 3) := by decide +kernel
theorem dX1_digits_4 : decode cX1_digits 4 = .ok (.ifCond .ne 5, 3) := by decide +kernel
theorem dX1_digits_7 : decode cX1_digits 7 = .ok (.iconst 0, 1) := by decide +kernel
theorem dX1_digits_8 : decode cX1_digits 8 = .ok (.ireturn, 1) := by decide +kernel
theorem dX1_digits_9 : decode cX1_digits 9 = .ok (.aload_n 0, 1) := by decide +kernel
theorem dX1_digits_10 : decode cX1_digits 10 = .ok (.aload_n 0, 1) := by decide +kernel
theorem dX1_digits_11 : decode cX1_digits 11 = .ok (.getfield 15, 3) := by decide +kernel
theorem dX1_digits_14 : decode cX1_digits 14 = .ok (.iload_n 1, 1) := by decide +kernel
theorem dX1_digits_15 : decode cX1_digits 15 = .ok (.aaload, 1) := by decide +kernel
theorem dX1_digits_16 : decode cX1_digits 16 = .ok (.invokevirtual 89, 3) := by decide +kernel
theorem dX1_digits_19 : decode cX1_digits 19 = .ok (.lstore_n 2, 1) := by decide +kernel
theorem dX1_digits_20 : decode cX1_digits 20 = .ok (.lload_n 2, 1) := by decide +kernel
theorem dX1_digits_21 : decode cX1_digits 21 = .ok (.lconst 0, 1) := by decide +kernel
theorem dX1_digits_22 : decode cX1_digits 22 = .ok (.lcmp, 1) := by decide +kernel
theorem dX1_digits_23 : decode cX1_digits 23 = .ok (.ifCond .le 13, 3) := by decide +kernel
theorem dX1_digits_26 : decode cX1_digits 26 = .ok (.bipush 18, 2) := by decide +kernel
theorem dX1_digits_28 : decode cX1_digits 28 = .ok (.lload_n 2, 1) := by decide +kernel
theorem dX1_digits_29 : decode cX1_digits 29 = .ok (.invokestatic 93, 3) := by decide +kernel
theorem dX1_digits_32 : decode cX1_digits 32 = .ok (.iadd, 1) := by decide +kernel
theorem dX1_digits_33 : decode cX1_digits 33 = .ok (.goto 16, 3) := by decide +kernel
theorem dX1_digits_36 : decode cX1_digits 36 = .ok (.aload_n 0, 1) := by decide +kernel
theorem dX1_digits_37 : decode cX1_digits 37 = .ok (.aload_n 0, 1) := by decide +kernel
theorem dX1_digits_38 : decode cX1_digits 38 = .ok (.getfield 15, 3) := by decide +kernel
theorem dX1_digits_41 : decode cX1_digits 41 = .ok (.iload_n 1, 1) := by decide +kernel
theorem dX1_digits_42 : decode cX1_digits 42 = .ok (.aaload, 1) := by decide +kernel
theorem dX1_digits_43 : decode cX1_digits 43 = .ok (.invokevirtual 97, 3) := by decide +kernel
theorem dX1_digits_46 : decode cX1_digits 46 = .ok (.invokestatic 93, 3) := by decide +kernel
theorem dX1_digits_49 : decode cX1_digits 49 = .ok (.istore 4, 2) := by decide +kernel
theorem dX1_digits_51 : decode cX1_digits 51 = .ok (.aload_n 0, 1) := by decide +kernel
theorem dX1_digits_52 : decode cX1_digits 52 = .ok (.getfield 15, 3) := by decide +kernel
theorem dX1_digits_55 : decode cX1_digits 55 = .ok (.iload_n 1, 1) := by decide +kernel
theorem dX1_digits_56 : decode cX1_digits 56 = .ok (.aaload, 1) := by decide +kernel
theorem dX1_digits_57 : decode cX1_digits 57 = .ok (.invokevirtual 74, 3) := by decide +kernel
theorem dX1_digits_60 : decode cX1_digits 60 = .ok (.ifCond .eq 9, 3) := by decide +kernel
theorem dX1_digits_63 : decode cX1_digits 63 = .ok (.iload 4, 2) := by decide +kernel
theorem dX1_digits_65 : decode cX1_digits 65 = .ok (.ineg, 1) := by decide +kernel
theorem dX1_digits_66 : decode cX1_digits 66 = .ok (.goto 5, 3) := by decide +kernel
theorem dX1_digits_69 : decode cX1_digits 69 = .ok (.iload 4, 2) := by decide +kernel
theorem dX1_digits_71 : decode cX1_digits 71 = .ok (.ireturn, 1) := by decide +kernel
set_option maxRecDepth 20000 in
theorem ggX1_digit_X1_isTally : GoodIn wsX1_digit wsX1_isTally := goodIn_r _ [5] (by decide +kernel) (by decide +kernel)
set_option maxRecDepth 20000 in
theorem gX1_digit_X1_isTally : GoodIn wsX1_digit (va_wsS RX1 63 yX1_isTally wsX1_isTally) := goodIn_app (goodIn_of _ (by decide +kernel)) ggX1_digit_X1_isTally
set_option maxRecDepth 20000 in
theorem ggX1_digit_X1_lowerHalf : GoodIn wsX1_digit wsX1_lowerHalf := goodIn_r _ [9, 10, 11, 12, 13, 14, 15, 16, 17, 18, 19, 20, 21, 22, 23, 24, 25, 26, 27, 28, 29, 30, 31, 32, 33, 34, 35, 36, 37, 38, 39, 52, 53, 54, 55, 56, 57, 58] (by decide +kernel) (by decide +kernel)
set_option maxRecDepth 20000 in
theorem gX1_digit_X1_lowerHalf : GoodIn wsX1_digit (wsV RX1 97 RX1 yX1_lowerHalf wsX1_lowerHalf) := goodIn_app (goodIn_of _ (by decide +kernel)) ggX1_digit_X1_lowerHalf
set_option maxRecDepth 20000 in
theorem ggX1_digit_X1_decimalDigit : GoodIn wsX1_digit wsX1_decimalDigit := goodIn_r _ [42, 43] (by decide +kernel) (by decide +kernel)
set_option maxRecDepth 20000 in
theorem gX1_digit_X1_decimalDigit : GoodIn wsX1_digit (va_wsS RX1 100 yX1_decimalDigit wsX1_decimalDigit) := goodIn_app (goodIn_of _ (by decide +kernel)) ggX1_digit_X1_decimalDigit
set_option maxRecDepth 20000 in
theorem ggX1_digit_X1_upperHalf : GoodIn wsX1_digit wsX1_upperHalf := goodIn_r _ [47, 10, 11, 12, 13, 14, 15, 16, 17, 18, 19, 20, 21, 22, 23, 24, 25, 26, 27, 28, 29, 30, 31, 32, 33, 34, 35, 36, 37, 38, 39, 48, 49, 50, 51, 52, 53, 54, 55, 56, 57, 58] (by decide +kernel) (by decide +kernel)
set_option maxRecDepth 20000 in
theorem gX1_digit_X1_upperHalf : GoodIn wsX1_digit (wsV RX1 89 RX1 yX1_upperHalf wsX1_upperHalf) := goodIn_app (goodIn_of _ (by decide +kernel)) ggX1_digit_X1_upperHalf
theorem dX1_digit_0 : decode cX1_digit 0 = .ok (.iload_n 1, 1) := by decide +kernel
theorem dX1_digit_1 : decode cX1_digit 1 = .ok (.invokestatic 63, 3) := by decide +kernel
theorem dX1_digit_4 : decode cX1_digit 4 = .ok (.ifCond .eq 13, 3) := by decide +kernel
theorem dX1_digit_7 : decode cX1_digit 7 = .ok (.iload_n 2, 1) := by decide +kernel
theorem dX1_digit_8 : decode cX1_digit 8 = .ok (.ifCond .lt 9, 3) := by decide +kernel
theorem dX1_digit_11 : decode cX1_digit 11 = .ok (.iload_n 2, 1) := by decide +kernel
theorem dX1_digit_12 : decode cX1_digit 12 = .ok (.bipush 36, 2) := by decide +kernel
theorem dX1_digit_14 : decode cX1_digit 14 = .ok (.if_icmp .lt 5, 3) := by decide +kernel
theorem dX1_digit_17 : decode cX1_digit 17 = .ok (.iconst (-1), 1) := by decide +kernel
theorem dX1_digit_18 : decode cX1_digit 18 = .ok (.ireturn, 1) := by decide +kernel
theorem dX1_digit_19 : decode cX1_digit 19 = .ok (.iload_n 2, 1) := by decide +kernel
theorem dX1_digit_20 : decode cX1_digit 20 = .ok (.bipush 18, 2) := by decide +kernel
theorem dX1_digit_22 : decode cX1_digit 22 = .ok (.if_icmp .ge 20, 3) := by decide +kernel
theorem dX1_digit_25 : decode cX1_digit 25 = .ok (.aload_n 0, 1) := by decide +kernel
theorem dX1_digit_26 : decode cX1_digit 26 = .ok (.aload_n 0, 1) := by decide +kernel
theorem dX1_digit_27 : decode cX1_digit 27 = .ok (.getfield 15, 3) := by decide +kernel
theorem dX1_digit_30 : decode cX1_digit 30 = .ok (.iload_n 1, 1) := by decide +kernel
theorem dX1_digit_31 : decode cX1_digit 31 = .ok (.aaload, 1) := by decide +kernel
theorem dX1_digit_32 : decode cX1_digit 32 = .ok (.invokevirtual 97, 3) := by decide +kernel
theorem dX1_digit_35 : decode cX1_digit 35 = .ok (.iload_n 2, 1) := by decide +kernel
theorem dX1_digit_36 : decode cX1_digit 36 = .ok (.invokestatic 100, 3) := by decide +kernel
theorem dX1_digit_39 : decode cX1_digit 39 = .ok (.goto 20, 3) := by decide +kernel
theorem dX1_digit_42 : decode cX1_digit 42 = .ok (.aload_n 0, 1) := by decide +kernel
theorem dX1_digit_43 : decode cX1_digit 43 = .ok (.aload_n 0, 1) := by decide +kernel
theorem dX1_digit_44 : decode cX1_digit 44 = .ok (.getfield 15, 3) := by decide +kernel
theorem dX1_digit_47 : decode cX1_digit 47 = .ok (.iload_n 1, 1) := by decide +kernel
theorem dX1_digit_48 : decode cX1_digit 48 = .ok (.aaload, 1) := by decide +kernel
theorem dX1_digit_49 : decode cX1_digit 49 = .ok (.invokevirtual 89, 3) := by decide +kernel
theorem dX1_digit_52 : decode cX1_digit 52 = .ok (.iload_n 2, 1) := by decide +kernel
theorem dX1_digit_53 : decode cX1_digit 53 = .ok (.bipush 18, 2) := by decide +kernel
theorem dX1_digit_55 : decode cX1_digit 55 = .ok (.isub, 1) := by decide +kernel
theorem dX1_digit_56 : decode cX1_digit 56 = .ok (.invokestatic 100, 3) := by decide +kernel
theorem dX1_digit_59 : decode cX1_digit 59 = .ok (.ireturn, 1) := by decide +kernel
theorem dX1_isRegister_0 : decode cX1_isRegister 0 = .ok (.iload_n 0, 1) := by decide +kernel
theorem dX1_isRegister_1 : decode cX1_isRegister 1 = .ok (.ifCond .lt 13, 3) := by decide +kernel
theorem dX1_isRegister_4 : decode cX1_isRegister 4 = .ok (.iload_n 0, 1) := by decide +kernel
theorem dX1_isRegister_5 : decode cX1_isRegister 5 = .ok (.bipush 8, 2) := by decide +kernel
theorem dX1_isRegister_7 : decode cX1_isRegister 7 = .ok (.if_icmp .ge 7, 3) := by decide +kernel
theorem dX1_isRegister_10 : decode cX1_isRegister 10 = .ok (.iconst 1, 1) := by decide +kernel
theorem dX1_isRegister_11 : decode cX1_isRegister 11 = .ok (.goto 4, 3) := by decide +kernel
theorem dX1_isRegister_14 : decode cX1_isRegister 14 = .ok (.iconst 0, 1) := by decide +kernel
theorem dX1_isRegister_15 : decode cX1_isRegister 15 = .ok (.ireturn, 1) := by decide +kernel
theorem dX1_isTally_0 : decode cX1_isTally 0 = .ok (.iload_n 0, 1) := by decide +kernel
theorem dX1_isTally_1 : decode cX1_isTally 1 = .ok (.ifCond .lt 12, 3) := by decide +kernel
theorem dX1_isTally_4 : decode cX1_isTally 4 = .ok (.iload_n 0, 1) := by decide +kernel
theorem dX1_isTally_5 : decode cX1_isTally 5 = .ok (.iconst 4, 1) := by decide +kernel
theorem dX1_isTally_6 : decode cX1_isTally 6 = .ok (.if_icmp .ge 7, 3) := by decide +kernel
theorem dX1_isTally_9 : decode cX1_isTally 9 = .ok (.iconst 1, 1) := by decide +kernel
theorem dX1_isTally_10 : decode cX1_isTally 10 = .ok (.goto 4, 3) := by decide +kernel
theorem dX1_isTally_13 : decode cX1_isTally 13 = .ok (.iconst 0, 1) := by decide +kernel
theorem dX1_isTally_14 : decode cX1_isTally 14 = .ok (.ireturn, 1) := by decide +kernel
theorem dX1_isWay_0 : decode cX1_isWay 0 = .ok (.iload_n 0, 1) := by decide +kernel
theorem dX1_isWay_1 : decode cX1_isWay 1 = .ok (.ifCond .lt 12, 3) := by decide +kernel
theorem dX1_isWay_4 : decode cX1_isWay 4 = .ok (.iload_n 0, 1) := by decide +kernel
theorem dX1_isWay_5 : decode cX1_isWay 5 = .ok (.iconst 3, 1) := by decide +kernel
theorem dX1_isWay_6 : decode cX1_isWay 6 = .ok (.if_icmp .gt 7, 3) := by decide +kernel
theorem dX1_isWay_9 : decode cX1_isWay 9 = .ok (.iconst 1, 1) := by decide +kernel
theorem dX1_isWay_10 : decode cX1_isWay 10 = .ok (.goto 4, 3) := by decide +kernel
theorem dX1_isWay_13 : decode cX1_isWay 13 = .ok (.iconst 0, 1) := by decide +kernel
theorem dX1_isWay_14 : decode cX1_isWay 14 = .ok (.ireturn, 1) := by decide +kernel
set_option maxRecDepth 20000 in
theorem ggX1_keepInRegister_X0_fitsLong : GoodIn wsX1_keepInRegister wsX0_fitsLong := goodIn_r _ [7, 8, 9, 23, 24] (by decide +kernel) (by decide +kernel)
set_option maxRecDepth 20000 in
theorem gX1_keepInRegister_X0_fitsLong : GoodIn wsX1_keepInRegister (wsV RX1 104 RX0 yX0_fitsLong wsX0_fitsLong) := goodIn_app (goodIn_of _ (by decide +kernel)) ggX1_keepInRegister_X0_fitsLong
set_option maxRecDepth 20000 in
theorem ggX1_keepInRegister_X0_isNegative : GoodIn wsX1_keepInRegister wsX0_isNegative := goodIn_r _ [13, 8, 23, 24] (by decide +kernel) (by decide +kernel)
set_option maxRecDepth 20000 in
theorem gX1_keepInRegister_X0_isNegative : GoodIn wsX1_keepInRegister (wsV RX1 74 RX0 yX0_isNegative wsX0_isNegative) := goodIn_app (goodIn_of _ (by decide +kernel)) ggX1_keepInRegister_X0_isNegative
set_option maxRecDepth 20000 in
theorem ggX1_keepInRegister_X0_lowWord : GoodIn wsX1_keepInRegister wsX0_lowWord := goodIn_r _ [17, 9, 23, 24] (by decide +kernel) (by decide +kernel)
set_option maxRecDepth 20000 in
theorem gX1_keepInRegister_X0_lowWord : GoodIn wsX1_keepInRegister (wsV RX1 107 RX0 yX0_lowWord wsX0_lowWord) := goodIn_app (goodIn_of _ (by decide +kernel)) ggX1_keepInRegister_X0_lowWord
theorem dX1_keepInRegister_0 : decode cX1_keepInRegister 0 = .ok (.aload_n 0, 1) := by decide +kernel
theorem dX1_keepInRegister_1 : decode cX1_keepInRegister 1 = .ok (.getfield 35, 3) := by decide +kernel
theorem dX1_keepInRegister_4 : decode cX1_keepInRegister 4 = .ok (.invokevirtual 104, 3) := by decide +kernel
theorem dX1_keepInRegister_7 : decode cX1_keepInRegister 7 = .ok (.ifCond .ne 19, 3) := by decide +kernel
theorem dX1_keepInRegister_10 : decode cX1_keepInRegister 10 = .ok (.aload_n 0, 1) := by decide +kernel
theorem dX1_keepInRegister_11 : decode cX1_keepInRegister 11 = .ok (.getfield 35, 3) := by decide +kernel
theorem dX1_keepInRegister_14 : decode cX1_keepInRegister 14 = .ok (.invokevirtual 74, 3) := by decide +kernel
theorem dX1_keepInRegister_17 : decode cX1_keepInRegister 17 = .ok (.ifCond .eq 7, 3) := by decide +kernel
theorem dX1_keepInRegister_20 : decode cX1_keepInRegister 20 = .ok (.iconst 2, 1) := by decide +kernel
theorem dX1_keepInRegister_21 : decode cX1_keepInRegister 21 = .ok (.goto 4, 3) := by decide +kernel
theorem dX1_keepInRegister_24 : decode cX1_keepInRegister 24 = .ok (.iconst 1, 1) := by decide +kernel
theorem dX1_keepInRegister_25 : decode cX1_keepInRegister 25 = .ok (.ireturn, 1) := by decide +kernel
theorem dX1_keepInRegister_26 : decode cX1_keepInRegister 26 = .ok (.aload_n 0, 1) := by decide +kernel
theorem dX1_keepInRegister_27 : decode cX1_keepInRegister 27 = .ok (.getfield 9, 3) := by decide +kernel
theorem dX1_keepInRegister_30 : decode cX1_keepInRegister 30 = .ok (.iload_n 1, 1) := by decide +kernel
theorem dX1_keepInRegister_31 : decode cX1_keepInRegister 31 = .ok (.aload_n 0, 1) := by decide +kernel
theorem dX1_keepInRegister_32 : decode cX1_keepInRegister 32 = .ok (.getfield 35, 3) := by decide +kernel
theorem dX1_keepInRegister_35 : decode cX1_keepInRegister 35 = .ok (.invokevirtual 107, 3) := by decide +kernel
theorem dX1_keepInRegister_38 : decode cX1_keepInRegister 38 = .ok (.lastore, 1) := by decide +kernel
theorem dX1_keepInRegister_39 : decode cX1_keepInRegister 39 = .ok (.iconst 0, 1) := by decide +kernel
theorem dX1_keepInRegister_40 : decode cX1_keepInRegister 40 = .ok (.ireturn, 1) := by decide +kernel
set_option maxRecDepth 20000 in
theorem ggX1_keepInTally_X0_orderTo : GoodIn wsX1_keepInTally wsX0_orderTo := goodIn_r _ [9, 10, 11, 12, 13, 8, 14, 15, 25, 26] (by decide +kernel) (by decide +kernel)
set_option maxRecDepth 20000 in
theorem gX1_keepInTally_X0_orderTo : GoodIn wsX1_keepInTally (wsV RX1 85 RX0 yX0_orderTo wsX0_orderTo) := goodIn_app (goodIn_of _ (by decide +kernel)) ggX1_keepInTally_X0_orderTo
set_option maxRecDepth 20000 in
theorem ggX1_keepInTally_X0_become_ : GoodIn wsX1_keepInTally wsX0_become_ := goodIn_r _ [19, 10, 11, 25, 26] (by decide +kernel) (by decide +kernel)
set_option maxRecDepth 20000 in
theorem gX1_keepInTally_X0_become_ : GoodIn wsX1_keepInTally (wsV RX1 72 RX0 yX0_become_ wsX0_become_) := goodIn_app (goodIn_of _ (by decide +kernel)) ggX1_keepInTally_X0_become_
theorem dX1_keepInTally_0 : decode cX1_keepInTally 0 = .ok (.aload_n 0, 1) := by decide +kernel
theorem dX1_keepInTally_1 : decode cX1_keepInTally 1 = .ok (.getfield 35, 3) := by decide +kernel
theorem dX1_keepInTally_4 : decode cX1_keepInTally 4 = .ok (.aload_n 0, 1) := by decide +kernel
theorem dX1_keepInTally_5 : decode cX1_keepInTally 5 = .ok (.getfield 20, 3) := by decide +kernel
theorem dX1_keepInTally_8 : decode cX1_keepInTally 8 = .ok (.invokevirtual 85, 3) := by decide +kernel
theorem dX1_keepInTally_11 : decode cX1_keepInTally 11 = .ok (.ifCond .lt 5, 3) := by decide +kernel
theorem dX1_keepInTally_14 : decode cX1_keepInTally 14 = .ok (.iconst 1, 1) := by decide +kernel
theorem dX1_keepInTally_15 : decode cX1_keepInTally 15 = .ok (.ireturn, 1) := by decide +kernel
theorem dX1_keepInTally_16 : decode cX1_keepInTally 16 = .ok (.aload_n 0, 1) := by decide +kernel
theorem dX1_keepInTally_17 : decode cX1_keepInTally 17 = .ok (.getfield 35, 3) := by decide +kernel
theorem dX1_keepInTally_20 : decode cX1_keepInTally 20 = .ok (.aload_n 0, 1) := by decide +kernel
theorem dX1_keepInTally_21 : decode cX1_keepInTally 21 = .ok (.getfield 30, 3) := by decide +kernel
theorem dX1_keepInTally_24 : decode cX1_keepInTally 24 = .ok (.invokevirtual 85, 3) := by decide +kernel
theorem dX1_keepInTally_27 : decode cX1_keepInTally 27 = .ok (.ifCond .gt 5, 3) := by decide +kernel
theorem dX1_keepInTally_30 : decode cX1_keepInTally 30 = .ok (.iconst 2, 1) := by decide +kernel
theorem dX1_keepInTally_31 : decode cX1_keepInTally 31 = .ok (.ireturn, 1) := by decide +kernel
theorem dX1_keepInTally_32 : decode cX1_keepInTally 32 = .ok (.aload_n 0, 1) := by decide +kernel
theorem dX1_keepInTally_33 : decode cX1_keepInTally 33 = .ok (.getfield 15, 3) := by decide +kernel
theorem dX1_keepInTally_36 : decode cX1_keepInTally 36 = .ok (.iload_n 1, 1) := by decide +kernel
theorem dX1_keepInTally_37 : decode cX1_keepInTally 37 = .ok (.aaload, 1) := by decide +kernel
theorem dX1_keepInTally_38 : decode cX1_keepInTally 38 = .ok (.aload_n 0, 1) := by decide +kernel
theorem dX1_keepInTally_39 : decode cX1_keepInTally 39 = .ok (.getfield 35, 3) := by decide +kernel
theorem dX1_keepInTally_42 : decode cX1_keepInTally 42 = .ok (.invokevirtual 72, 3) := by decide +kernel
theorem dX1_keepInTally_45 : decode cX1_keepInTally 45 = .ok (.iconst 0, 1) := by decide +kernel
theorem dX1_keepInTally_46 : decode cX1_keepInTally 46 = .ok (.ireturn, 1) := by decide +kernel
set_option maxRecDepth 20000 in
theorem ggX1_divideOutcome_X0_isNegative : GoodIn wsX1_divideOutcome wsX0_isNegative := goodIn_r _ [6, 7, 45, 46] (by decide +kernel) (by decide +kernel)
set_option maxRecDepth 20000 in
theorem gX1_divideOutcome_X0_isNegative : GoodIn wsX1_divideOutcome (wsV RX1 74 RX0 yX0_isNegative wsX0_isNegative) := goodIn_app (goodIn_of _ (by decide +kernel)) ggX1_divideOutcome_X0_isNegative
set_option maxRecDepth 20000 in
theorem ggX1_divideOutcome_X0_dropSign : GoodIn wsX1_divideOutcome wsX0_dropSign := goodIn_r _ [11, 12, 3, 4, 5, 6, 7, 13, 14, 15, 16, 17, 18, 45, 46] (by decide +kernel) (by decide +kernel)
set_option maxRecDepth 20000 in
theorem gX1_divideOutcome_X0_dropSign : GoodIn wsX1_divideOutcome (wsV RX1 78 RX0 yX0_dropSign wsX0_dropSign) := goodIn_app (goodIn_of _ (by decide +kernel)) ggX1_divideOutcome_X0_dropSign
set_option maxRecDepth 20000 in
theorem ggX1_divideOutcome_X0_divideBy : GoodIn wsX1_divideOutcome wsX0_divideBy := goodIn_r _ [22, 7, 17, 23, 24, 5, 25, 26, 45, 46] (by decide +kernel) (by decide +kernel)
set_option maxRecDepth 20000 in
theorem gX1_divideOutcome_X0_divideBy : GoodIn wsX1_divideOutcome (wsV RX1 81 RX0 yX0_divideBy wsX0_divideBy) := goodIn_app (goodIn_of _ (by decide +kernel)) ggX1_divideOutcome_X0_divideBy
set_option maxRecDepth 20000 in
theorem ggX1_divideOutcome_X1_roundsAwayFromZero : GoodIn wsX1_divideOutcome wsX1_roundsAwayFromZero := goodIn_r _ [30] (by decide +kernel) (by decide +kernel)
set_option maxRecDepth 20000 in
theorem gX1_divideOutcome_X1_roundsAwayFromZero : GoodIn wsX1_divideOutcome (va_wsS RX1 111 yX1_roundsAwayFromZero wsX1_roundsAwayFromZero) := goodIn_app (goodIn_of _ (by decide +kernel)) ggX1_divideOutcome_X1_roundsAwayFromZero
set_option maxRecDepth 20000 in
theorem ggX1_divideOutcome_X0_increase : GoodIn wsX1_divideOutcome wsX0_increase := goodIn_r _ [34, 35, 36, 37, 5, 38, 17, 7, 23, 24, 25, 26, 45, 46] (by decide +kernel) (by decide +kernel)
set_option maxRecDepth 20000 in
theorem gX1_divideOutcome_X0_increase : GoodIn wsX1_divideOutcome (wsV RX1 46 RX0 yX0_increase wsX0_increase) := goodIn_app (goodIn_of _ (by decide +kernel)) ggX1_divideOutcome_X0_increase
set_option maxRecDepth 20000 in
theorem ggX1_divideOutcome_X0_negate : GoodIn wsX1_divideOutcome wsX0_negate := goodIn_r _ [16, 17, 7, 18, 45, 46] (by decide +kernel) (by decide +kernel)
set_option maxRecDepth 20000 in
theorem gX1_divideOutcome_X0_negate : GoodIn wsX1_divideOutcome (wsV RX1 53 RX0 yX0_negate wsX0_negate) := goodIn_app (goodIn_of _ (by decide +kernel)) ggX1_divideOutcome_X0_negate
theorem dX1_divideOutcome_0 : decode cX1_divideOutcome 0 = .ok (.aload_n 0, 1) := by decide +kernel
theorem dX1_divideOutcome_1 : decode cX1_divideOutcome 1 = .ok (.getfield 35, 3) := by decide +kernel
theorem dX1_divideOutcome_4 : decode cX1_divideOutcome 4 = .ok (.invokevirtual 74, 3) := by decide +kernel
theorem dX1_divideOutcome_7 : decode cX1_divideOutcome 7 = .ok (.lload_n 1, 1) := by decide +kernel
theorem dX1_divideOutcome_8 : decode cX1_divideOutcome 8 = .ok (.lconst 0, 1) := by decide +kernel
theorem dX1_divideOutcome_9 : decode cX1_divideOutcome 9 = .ok (.lcmp, 1) := by decide +kernel
theorem dX1_divideOutcome_10 : decode cX1_divideOutcome 10 = .ok (.ifCond .ge 7, 3) := by decide +kernel
theorem dX1_divideOutcome_13 : decode cX1_divideOutcome 13 = .ok (.iconst 1, 1) := by decide +kernel
theorem dX1_divideOutcome_14 : decode cX1_divideOutcome 14 = .ok (.goto 4, 3) := by decide +kernel
theorem dX1_divideOutcome_17 : decode cX1_divideOutcome 17 = .ok (.iconst 0, 1) := by decide +kernel
theorem dX1_divideOutcome_18 : decode cX1_divideOutcome 18 = .ok (.if_icmp .eq 7, 3) := by decide +kernel
theorem dX1_divideOutcome_21 : decode cX1_divideOutcome 21 = .ok (.iconst 1, 1) := by decide +kernel
theorem dX1_divideOutcome_22 : decode cX1_divideOutcome 22 = .ok (.goto 4, 3) := by decide +kernel
theorem dX1_divideOutcome_25 : decode cX1_divideOutcome 25 = .ok (.iconst 0, 1) := by decide +kernel
theorem dX1_divideOutcome_26 : decode cX1_divideOutcome 26 = .ok (.istore 4, 2) := by decide +kernel
theorem dX1_divideOutcome_28 : decode cX1_divideOutcome 28 = .ok (.lload_n 1, 1) := by decide +kernel
theorem dX1_divideOutcome_29 : decode cX1_divideOutcome 29 = .ok (.lconst 0, 1) := by decide +kernel
theorem dX1_divideOutcome_30 : decode cX1_divideOutcome 30 = .ok (.lcmp, 1) := by decide +kernel
theorem dX1_divideOutcome_31 : decode cX1_divideOutcome 31 = .ok (.ifCond .ge 8, 3) := by decide +kernel
theorem dX1_divideOutcome_34 : decode cX1_divideOutcome 34 = .ok (.lload_n 1, 1) := by decide +kernel
theorem dX1_divideOutcome_35 : decode cX1_divideOutcome 35 = .ok (.lneg, 1) := by decide +kernel
theorem dX1_divideOutcome_36 : decode cX1_divideOutcome 36 = .ok (.goto 4, 3) := by decide +kernel
theorem dX1_divideOutcome_39 : decode cX1_divideOutcome 39 = .ok (.lload_n 1, 1) := by decide +kernel
theorem dX1_divideOutcome_40 : decode cX1_divideOutcome 40 = .ok (.lstore 5, 2) := by decide +kernel
theorem dX1_divideOutcome_42 : decode cX1_divideOutcome 42 = .ok (.aload_n 0, 1) := by decide +kernel
theorem dX1_divideOutcome_43 : decode cX1_divideOutcome 43 = .ok (.getfield 35, 3) := by decide +kernel
theorem dX1_divideOutcome_46 : decode cX1_divideOutcome 46 = .ok (.invokevirtual 78, 3) := by decide +kernel
theorem dX1_divideOutcome_49 : decode cX1_divideOutcome 49 = .ok (.aload_n 0, 1) := by decide +kernel
theorem dX1_divideOutcome_50 : decode cX1_divideOutcome 50 = .ok (.getfield 35, 3) := by decide +kernel
theorem dX1_divideOutcome_53 : decode cX1_divideOutcome 53 = .ok (.lload 5, 2) := by decide +kernel
theorem dX1_divideOutcome_55 : decode cX1_divideOutcome 55 = .ok (.invokevirtual 81, 3) := by decide +kernel
theorem dX1_divideOutcome_58 : decode cX1_divideOutcome 58 = .ok (.lstore 7, 2) := by decide +kernel
theorem dX1_divideOutcome_60 : decode cX1_divideOutcome 60 = .ok (.lload 7, 2) := by decide +kernel
theorem dX1_divideOutcome_62 : decode cX1_divideOutcome 62 = .ok (.lload 5, 2) := by decide +kernel
theorem dX1_divideOutcome_64 : decode cX1_divideOutcome 64 = .ok (.iload 4, 2) := by decide +kernel
theorem dX1_divideOutcome_66 : decode cX1_divideOutcome 66 = .ok (.iload_n 3, 1) := by decide +kernel
theorem dX1_divideOutcome_67 : decode cX1_divideOutcome 67 = .ok (.invokestatic 111, 3) := by decide +kernel
theorem dX1_divideOutcome_70 : decode cX1_divideOutcome 70 = .ok (.ifCond .eq 11, 3) := by decide +kernel
theorem dX1_divideOutcome_73 : decode cX1_divideOutcome 73 = .ok (.aload_n 0, 1) := by decide +kernel
theorem dX1_divideOutcome_74 : decode cX1_divideOutcome 74 = .ok (.getfield 35, 3) := by decide +kernel
theorem dX1_divideOutcome_77 : decode cX1_divideOutcome 77 = .ok (.lconst 1, 1) := by decide +kernel
theorem dX1_divideOutcome_78 : decode cX1_divideOutcome 78 = .ok (.invokevirtual 46, 3) := by decide +kernel
theorem dX1_divideOutcome_81 : decode cX1_divideOutcome 81 = .ok (.iload 4, 2) := by decide +kernel
theorem dX1_divideOutcome_83 : decode cX1_divideOutcome 83 = .ok (.ifCond .eq 10, 3) := by decide +kernel
theorem dX1_divideOutcome_86 : decode cX1_divideOutcome 86 = .ok (.aload_n 0, 1) := by decide +kernel
theorem dX1_divideOutcome_87 : decode cX1_divideOutcome 87 = .ok (.getfield 35, 3) := by decide +kernel
theorem dX1_divideOutcome_90 : decode cX1_divideOutcome 90 = .ok (.invokevirtual 53, 3) := by decide +kernel
theorem dX1_divideOutcome_93 : decode cX1_divideOutcome 93 = .ok (.return_, 1) := by decide +kernel
theorem dX1_roundsAwayFromZero_0 : decode cX1_roundsAwayFromZero 0 = .ok (.iload 5, 2) := by decide +kernel
theorem dX1_roundsAwayFromZero_2 : decode cX1_roundsAwayFromZero 2 = .ok (.tableswitch 62 0 2 #[26, 43, 60], 26) := by decide +kernel
theorem dX1_roundsAwayFromZero_28 : decode cX1_roundsAwayFromZero 28 = .ok (.iload 4, 2) := by decide +kernel
theorem dX1_roundsAwayFromZero_30 : decode cX1_roundsAwayFromZero 30 = .ok (.ifCond .eq 13, 3) := by decide +kernel
theorem dX1_roundsAwayFromZero_33 : decode cX1_roundsAwayFromZero 33 = .ok (.lload_n 0, 1) := by decide +kernel
theorem dX1_roundsAwayFromZero_34 : decode cX1_roundsAwayFromZero 34 = .ok (.lconst 0, 1) := by decide +kernel
theorem dX1_roundsAwayFromZero_35 : decode cX1_roundsAwayFromZero 35 = .ok (.lcmp, 1) := by decide +kernel
theorem dX1_roundsAwayFromZero_36 : decode cX1_roundsAwayFromZero 36 = .ok (.ifCond .eq 7, 3) := by decide +kernel
theorem dX1_roundsAwayFromZero_39 : decode cX1_roundsAwayFromZero 39 = .ok (.iconst 1, 1) := by decide +kernel
theorem dX1_roundsAwayFromZero_40 : decode cX1_roundsAwayFromZero 40 = .ok (.goto 4, 3) := by decide +kernel
theorem dX1_roundsAwayFromZero_43 : decode cX1_roundsAwayFromZero 43 = .ok (.iconst 0, 1) := by decide +kernel
theorem dX1_roundsAwayFromZero_44 : decode cX1_roundsAwayFromZero 44 = .ok (.ireturn, 1) := by decide +kernel
theorem dX1_roundsAwayFromZero_45 : decode cX1_roundsAwayFromZero 45 = .ok (.iload 4, 2) := by decide +kernel
theorem dX1_roundsAwayFromZero_47 : decode cX1_roundsAwayFromZero 47 = .ok (.ifCond .ne 13, 3) := by decide +kernel
theorem dX1_roundsAwayFromZero_50 : decode cX1_roundsAwayFromZero 50 = .ok (.lload_n 0, 1) := by decide +kernel
theorem dX1_roundsAwayFromZero_51 : decode cX1_roundsAwayFromZero 51 = .ok (.lconst 0, 1) := by decide +kernel
theorem dX1_roundsAwayFromZero_52 : decode cX1_roundsAwayFromZero 52 = .ok (.lcmp, 1) := by decide +kernel
theorem dX1_roundsAwayFromZero_53 : decode cX1_roundsAwayFromZero 53 = .ok (.ifCond .eq 7, 3) := by decide +kernel
theorem dX1_roundsAwayFromZero_56 : decode cX1_roundsAwayFromZero 56 = .ok (.iconst 1, 1) := by decide +kernel
theorem dX1_roundsAwayFromZero_57 : decode cX1_roundsAwayFromZero 57 = .ok (.goto 4, 3) := by decide +kernel
theorem dX1_roundsAwayFromZero_60 : decode cX1_roundsAwayFromZero 60 = .ok (.iconst 0, 1) := by decide +kernel
theorem dX1_roundsAwayFromZero_61 : decode cX1_roundsAwayFromZero 61 = .ok (.ireturn, 1) := by decide +kernel
theorem dX1_roundsAwayFromZero_62 : decode cX1_roundsAwayFromZero 62 = .ok (.iconst 0, 1) := by decide +kernel
theorem dX1_roundsAwayFromZero_63 : decode cX1_roundsAwayFromZero 63 = .ok (.ireturn, 1) := by decide +kernel
theorem dX1_roundsAwayFromZero_64 : decode cX1_roundsAwayFromZero 64 = .ok (.lload_n 0, 1) := by decide +kernel
theorem dX1_roundsAwayFromZero_65 : decode cX1_roundsAwayFromZero 65 = .ok (.lload_n 2, 1) := by decide +kernel
theorem dX1_roundsAwayFromZero_66 : decode cX1_roundsAwayFromZero 66 = .ok (.lconst 1, 1) := by decide +kernel
theorem dX1_roundsAwayFromZero_67 : decode cX1_roundsAwayFromZero 67 = .ok (.lsub, 1) := by decide +kernel
theorem dX1_roundsAwayFromZero_68 : decode cX1_roundsAwayFromZero 68 = .ok (.lload_n 0, 1) := by decide +kernel
theorem dX1_roundsAwayFromZero_69 : decode cX1_roundsAwayFromZero 69 = .ok (.lsub, 1) := by decide +kernel
theorem dX1_roundsAwayFromZero_70 : decode cX1_roundsAwayFromZero 70 = .ok (.lcmp, 1) := by decide +kernel
theorem dX1_roundsAwayFromZero_71 : decode cX1_roundsAwayFromZero 71 = .ok (.ifCond .le 7, 3) := by decide +kernel
theorem dX1_roundsAwayFromZero_74 : decode cX1_roundsAwayFromZero 74 = .ok (.iconst 1, 1) := by decide +kernel
theorem dX1_roundsAwayFromZero_75 : decode cX1_roundsAwayFromZero 75 = .ok (.goto 4, 3) := by decide +kernel
theorem dX1_roundsAwayFromZero_78 : decode cX1_roundsAwayFromZero 78 = .ok (.iconst 0, 1) := by decide +kernel
theorem dX1_roundsAwayFromZero_79 : decode cX1_roundsAwayFromZero 79 = .ok (.ireturn, 1) := by decide +kernel
set_option maxRecDepth 20000 in
theorem ggX1_lowerHalf_X0_become_ : GoodIn wsX1_lowerHalf wsX0_become_ := goodIn_r _ [7, 8, 9, 36, 37] (by decide +kernel) (by decide +kernel)
set_option maxRecDepth 20000 in
theorem gX1_lowerHalf_X0_become_ : GoodIn wsX1_lowerHalf (wsV RX1 72 RX0 yX0_become_ wsX0_become_) := goodIn_app (goodIn_of _ (by decide +kernel)) ggX1_lowerHalf_X0_become_
set_option maxRecDepth 20000 in
theorem ggX1_lowerHalf_X0_dropSign : GoodIn wsX1_lowerHalf wsX0_dropSign := goodIn_r _ [13, 14, 15, 16, 6, 17, 8, 18, 19, 20, 21, 9, 22, 36, 37] (by decide +kernel) (by decide +kernel)
set_option maxRecDepth 20000 in
theorem gX1_lowerHalf_X0_dropSign : GoodIn wsX1_lowerHalf (wsV RX1 78 RX0 yX0_dropSign wsX0_dropSign) := goodIn_app (goodIn_of _ (by decide +kernel)) ggX1_lowerHalf_X0_dropSign
set_option maxRecDepth 20000 in
theorem ggX1_lowerHalf_X0_divideBy : GoodIn wsX1_lowerHalf wsX0_divideBy := goodIn_r _ [26, 8, 9, 27, 28, 6, 29, 30, 36, 37] (by decide +kernel) (by decide +kernel)
set_option maxRecDepth 20000 in
theorem gX1_lowerHalf_X0_divideBy : GoodIn wsX1_lowerHalf (wsV RX1 81 RX0 yX0_divideBy wsX0_divideBy) := goodIn_app (goodIn_of _ (by decide +kernel)) ggX1_lowerHalf_X0_divideBy
theorem dX1_lowerHalf_0 : decode cX1_lowerHalf 0 = .ok (.aload_n 0, 1) := by decide +kernel
theorem dX1_lowerHalf_1 : decode cX1_lowerHalf 1 = .ok (.getfield 35, 3) := by decide +kernel
theorem dX1_lowerHalf_4 : decode cX1_lowerHalf 4 = .ok (.aload_n 1, 1) := by decide +kernel
theorem dX1_lowerHalf_5 : decode cX1_lowerHalf 5 = .ok (.invokevirtual 72, 3) := by decide +kernel
theorem dX1_lowerHalf_8 : decode cX1_lowerHalf 8 = .ok (.aload_n 0, 1) := by decide +kernel
theorem dX1_lowerHalf_9 : decode cX1_lowerHalf 9 = .ok (.getfield 35, 3) := by decide +kernel
theorem dX1_lowerHalf_12 : decode cX1_lowerHalf 12 = .ok (.invokevirtual 78, 3) := by decide +kernel
theorem dX1_lowerHalf_15 : decode cX1_lowerHalf 15 = .ok (.aload_n 0, 1) := by decide +kernel
theorem dX1_lowerHalf_16 : decode cX1_lowerHalf 16 = .ok (.getfield 35, 3) := by decide +kernel
theorem dX1_lowerHalf_19 : decode cX1_lowerHalf 19 = .ok (.ldc2_w 24, 3) := by decide +kernel
theorem dX1_lowerHalf_22 : decode cX1_lowerHalf 22 = .ok (.invokevirtual 81, 3) := by decide +kernel
theorem dX1_lowerHalf_25 : decode cX1_lowerHalf 25 = .ok (.lreturn, 1) := by decide +kernel
set_option maxRecDepth 20000 in
theorem ggX1_upperHalf_X0_become_ : GoodIn wsX1_upperHalf wsX0_become_ := goodIn_r _ [7, 8, 9, 40, 41] (by decide +kernel) (by decide +kernel)
set_option maxRecDepth 20000 in
theorem gX1_upperHalf_X0_become_ : GoodIn wsX1_upperHalf (wsV RX1 72 RX0 yX0_become_ wsX0_become_) := goodIn_app (goodIn_of _ (by decide +kernel)) ggX1_upperHalf_X0_become_
set_option maxRecDepth 20000 in
theorem ggX1_upperHalf_X0_dropSign : GoodIn wsX1_upperHalf wsX0_dropSign := goodIn_r _ [13, 14, 15, 16, 6, 17, 8, 18, 19, 20, 21, 9, 22, 40, 41] (by decide +kernel) (by decide +kernel)
set_option maxRecDepth 20000 in
theorem gX1_upperHalf_X0_dropSign : GoodIn wsX1_upperHalf (wsV RX1 78 RX0 yX0_dropSign wsX0_dropSign) := goodIn_app (goodIn_of _ (by decide +kernel)) ggX1_upperHalf_X0_dropSign
set_option maxRecDepth 20000 in
theorem ggX1_upperHalf_X0_divideBy : GoodIn wsX1_upperHalf wsX0_divideBy := goodIn_r _ [26, 8, 9, 27, 28, 6, 29, 30, 40, 41] (by decide +kernel) (by decide +kernel)
set_option maxRecDepth 20000 in
theorem gX1_upperHalf_X0_divideBy : GoodIn wsX1_upperHalf (wsV RX1 81 RX0 yX0_divideBy wsX0_divideBy) := goodIn_app (goodIn_of _ (by decide +kernel)) ggX1_upperHalf_X0_divideBy
set_option maxRecDepth 20000 in
theorem ggX1_upperHalf_X0_lowWord : GoodIn wsX1_upperHalf wsX0_lowWord := goodIn_r _ [34, 9, 40, 41] (by decide +kernel) (by decide +kernel)
set_option maxRecDepth 20000 in
theorem gX1_upperHalf_X0_lowWord : GoodIn wsX1_upperHalf (wsV RX1 107 RX0 yX0_lowWord wsX0_lowWord) := goodIn_app (goodIn_of _ (by decide +kernel)) ggX1_upperHalf_X0_lowWord
theorem dX1_upperHalf_0 : decode cX1_upperHalf 0 = .ok (.aload_n 0, 1) := by decide +kernel
theorem dX1_upperHalf_1 : decode cX1_upperHalf 1 = .ok (.getfield 35, 3) := by decide +kernel
theorem dX1_upperHalf_4 : decode cX1_upperHalf 4 = .ok (.aload_n 1, 1) := by decide +kernel
theorem dX1_upperHalf_5 : decode cX1_upperHalf 5 = .ok (.invokevirtual 72, 3) := by decide +kernel
theorem dX1_upperHalf_8 : decode cX1_upperHalf 8 = .ok (.aload_n 0, 1) := by decide +kernel
theorem dX1_upperHalf_9 : decode cX1_upperHalf 9 = .ok (.getfield 35, 3) := by decide +kernel
theorem dX1_upperHalf_12 : decode cX1_upperHalf 12 = .ok (.invokevirtual 78, 3) := by decide +kernel
theorem dX1_upperHalf_15 : decode cX1_upperHalf 15 = .ok (.aload_n 0, 1) := by decide +kernel
theorem dX1_upperHalf_16 : decode cX1_upperHalf 16 = .ok (.getfield 35, 3) := by decide +kernel
theorem dX1_upperHalf_19 : decode cX1_upperHalf 19 = .ok (.ldc2_w 24, 3) := by decide +kernel
theorem dX1_upperHalf_22 : decode cX1_upperHalf 22 = .ok (.invokevirtual 81, 3) := by decide +kernel
theorem dX1_upperHalf_25 : decode cX1_upperHalf 25 = .ok (.pop2, 1) := by decide +kernel
theorem dX1_upperHalf_26 : decode cX1_upperHalf 26 = .ok (.aload_n 0, 1) := by decide +kernel
theorem dX1_upperHalf_27 : decode cX1_upperHalf 27 = .ok (.getfield 35, 3) := by decide +kernel
theorem dX1_upperHalf_30 : decode cX1_upperHalf 30 = .ok (.invokevirtual 107, 3) := by decide +kernel
theorem dX1_upperHalf_33 : decode cX1_upperHalf 33 = .ok (.lreturn, 1) := by decide +kernel
theorem dX1_decimalLength_0 : decode cX1_decimalLength 0 = .ok (.iconst 1, 1) := by decide +kernel
theorem dX1_decimalLength_1 : decode cX1_decimalLength 1 = .ok (.istore_n 2, 1) := by decide +kernel
theorem dX1_decimalLength_2 : decode cX1_decimalLength 2 = .ok (.ldc2_w 115, 3) := by decide +kernel
theorem dX1_decimalLength_5 : decode cX1_decimalLength 5 = .ok (.lstore_n 3, 1) := by decide +kernel
theorem dX1_decimalLength_6 : decode cX1_decimalLength 6 = .ok (.iload_n 2, 1) := by decide +kernel
theorem dX1_decimalLength_7 : decode cX1_decimalLength 7 = .ok (.bipush 18, 2) := by decide +kernel
theorem dX1_decimalLength_9 : decode cX1_decimalLength 9 = .ok (.if_icmp .ge 21, 3) := by decide +kernel
theorem dX1_decimalLength_12 : decode cX1_decimalLength 12 = .ok (.lload_n 0, 1) := by decide +kernel
theorem dX1_decimalLength_13 : decode cX1_decimalLength 13 = .ok (.lload_n 3, 1) := by decide +kernel
theorem dX1_decimalLength_14 : decode cX1_decimalLength 14 = .ok (.lcmp, 1) := by decide +kernel
theorem dX1_decimalLength_15 : decode cX1_decimalLength 15 = .ok (.ifCond .lt 15, 3) := by decide +kernel
theorem dX1_decimalLength_18 : decode cX1_decimalLength 18 = .ok (.lload_n 3, 1) := by decide +kernel
theorem dX1_decimalLength_19 : decode cX1_decimalLength 19 = .ok (.ldc2_w 115, 3) := by decide +kernel
theorem dX1_decimalLength_22 : decode cX1_decimalLength 22 = .ok (.lmul, 1) := by decide +kernel
theorem dX1_decimalLength_23 : decode cX1_decimalLength 23 = .ok (.lstore_n 3, 1) := by decide +kernel
theorem dX1_decimalLength_24 : decode cX1_decimalLength 24 = .ok (.iinc 2 1, 3) := by decide +kernel
theorem dX1_decimalLength_27 : decode cX1_decimalLength 27 = .ok (.goto (-21), 3) := by decide +kernel
theorem dX1_decimalLength_30 : decode cX1_decimalLength 30 = .ok (.iload_n 2, 1) := by decide +kernel
theorem dX1_decimalLength_31 : decode cX1_decimalLength 31 = .ok (.ireturn, 1) := by decide +kernel
theorem dX1_decimalDigit_0 : decode cX1_decimalDigit 0 = .ok (.lload_n 0, 1) := by decide +kernel
theorem dX1_decimalDigit_1 : decode cX1_decimalDigit 1 = .ok (.lstore_n 3, 1) := by decide +kernel
theorem dX1_decimalDigit_2 : decode cX1_decimalDigit 2 = .ok (.iconst 0, 1) := by decide +kernel
theorem dX1_decimalDigit_3 : decode cX1_decimalDigit 3 = .ok (.istore 5, 2) := by decide +kernel
theorem dX1_decimalDigit_5 : decode cX1_decimalDigit 5 = .ok (.iload 5, 2) := by decide +kernel
theorem dX1_decimalDigit_7 : decode cX1_decimalDigit 7 = .ok (.iload_n 2, 1) := by decide +kernel
theorem dX1_decimalDigit_8 : decode cX1_decimalDigit 8 = .ok (.if_icmp .ge 15, 3) := by decide +kernel
theorem dX1_decimalDigit_11 : decode cX1_decimalDigit 11 = .ok (.lload_n 3, 1) := by decide +kernel
theorem dX1_decimalDigit_12 : decode cX1_decimalDigit 12 = .ok (.ldc2_w 115, 3) := by decide +kernel
theorem dX1_decimalDigit_15 : decode cX1_decimalDigit 15 = .ok (.ldiv, 1) := by decide +kernel
theorem dX1_decimalDigit_16 : decode cX1_decimalDigit 16 = .ok (.lstore_n 3, 1) := by decide +kernel
theorem dX1_decimalDigit_17 : decode cX1_decimalDigit 17 = .ok (.iinc 5 1, 3) := by decide +kernel
theorem dX1_decimalDigit_20 : decode cX1_decimalDigit 20 = .ok (.goto (-15), 3) := by decide +kernel
theorem dX1_decimalDigit_23 : decode cX1_decimalDigit 23 = .ok (.lload_n 3, 1) := by decide +kernel
theorem dX1_decimalDigit_24 : decode cX1_decimalDigit 24 = .ok (.ldc2_w 115, 3) := by decide +kernel
theorem dX1_decimalDigit_27 : decode cX1_decimalDigit 27 = .ok (.lrem, 1) := by decide +kernel
theorem dX1_decimalDigit_28 : decode cX1_decimalDigit 28 = .ok (.l2i, 1) := by decide +kernel
theorem dX1_decimalDigit_29 : decode cX1_decimalDigit 29 = .ok (.ireturn, 1) := by decide +kernel
theorem dX2_init_0 : decode cX2_init 0 = .ok (.aload_n 0, 1) := by decide +kernel
theorem dX2_init_1 : decode cX2_init 1 = .ok (.invokespecial 1, 3) := by decide +kernel
theorem dX2_init_4 : decode cX2_init 4 = .ok (.aload_n 0, 1) := by decide +kernel
theorem dX2_init_5 : decode cX2_init 5 = .ok (.bipush 8, 2) := by decide +kernel
theorem dX2_init_7 : decode cX2_init 7 = .ok (.newarray .long, 2) := by decide +kernel
theorem dX2_init_9 : decode cX2_init 9 = .ok (.putfield 7, 3) := by decide +kernel
theorem dX2_init_12 : decode cX2_init 12 = .ok (.aload_n 0, 1) := by decide +kernel
theorem dX2_init_13 : decode cX2_init 13 = .ok (.sipush 160, 3) := by decide +kernel
theorem dX2_init_16 : decode cX2_init 16 = .ok (.newarray .int, 2) := by decide +kernel
theorem dX2_init_18 : decode cX2_init 18 = .ok (.putfield 13, 3) := by decide +kernel
theorem dX2_init_21 : decode cX2_init 21 = .ok (.aload_n 0, 1) := by decide +kernel
theorem dX2_init_22 : decode cX2_init 22 = .ok (.iconst 4, 1) := by decide +kernel
theorem dX2_init_23 : decode cX2_init 23 = .ok (.newarray .boolean, 2) := by decide +kernel
theorem dX2_init_25 : decode cX2_init 25 = .ok (.putfield 17, 3) := by decide +kernel
theorem dX2_init_28 : decode cX2_init 28 = .ok (.aload_n 0, 1) := by decide +kernel
theorem dX2_init_29 : decode cX2_init 29 = .ok (.bipush 80, 2) := by decide +kernel
theorem dX2_init_31 : decode cX2_init 31 = .ok (.newarray .int, 2) := by decide +kernel
theorem dX2_init_33 : decode cX2_init 33 = .ok (.putfield 21, 3) := by decide +kernel
theorem dX2_init_36 : decode cX2_init 36 = .ok (.aload_n 0, 1) := by decide +kernel
theorem dX2_init_37 : decode cX2_init 37 = .ok (.bipush 80, 2) := by decide +kernel
theorem dX2_init_39 : decode cX2_init 39 = .ok (.newarray .int, 2) := by decide +kernel
theorem dX2_init_41 : decode cX2_init 41 = .ok (.putfield 24, 3) := by decide +kernel
theorem dX2_init_44 : decode cX2_init 44 = .ok (.aload_n 0, 1) := by decide +kernel
theorem dX2_init_45 : decode cX2_init 45 = .ok (.bipush 80, 2) := by decide +kernel
theorem dX2_init_47 : decode cX2_init 47 = .ok (.newarray .int, 2) := by decide +kernel
theorem dX2_init_49 : decode cX2_init 49 = .ok (.putfield 27, 3) := by decide +kernel
theorem dX2_init_52 : decode cX2_init 52 = .ok (.aload_n 0, 1) := by decide +kernel
theorem dX2_init_53 : decode cX2_init 53 = .ok (.bipush 80, 2) := by decide +kernel
theorem dX2_init_55 : decode cX2_init 55 = .ok (.newarray .int, 2) := by decide +kernel
theorem dX2_init_57 : decode cX2_init 57 = .ok (.putfield 30, 3) := by decide +kernel
theorem dX2_init_60 : decode cX2_init 60 = .ok (.return_, 1) := by decide +kernel
theorem dX2_isRegister_0 : decode cX2_isRegister 0 = .ok (.iload_n 0, 1) := by decide +kernel
theorem dX2_isRegister_1 : decode cX2_isRegister 1 = .ok (.ifCond .lt 13, 3) := by decide +kernel
theorem dX2_isRegister_4 : decode cX2_isRegister 4 = .ok (.iload_n 0, 1) := by decide +kernel
theorem dX2_isRegister_5 : decode cX2_isRegister 5 = .ok (.bipush 8, 2) := by decide +kernel
theorem dX2_isRegister_7 : decode cX2_isRegister 7 = .ok (.if_icmp .ge 7, 3) := by decide +kernel
theorem dX2_isRegister_10 : decode cX2_isRegister 10 = .ok (.iconst 1, 1) := by decide +kernel
theorem dX2_isRegister_11 : decode cX2_isRegister 11 = .ok (.goto 4, 3) := by decide +kernel
theorem dX2_isRegister_14 : decode cX2_isRegister 14 = .ok (.iconst 0, 1) := by decide +kernel
theorem dX2_isRegister_15 : decode cX2_isRegister 15 = .ok (.ireturn, 1) := by decide +kernel
set_option maxRecDepth 20000 in
theorem ggX2_set_X2_isRegister : GoodIn wsX2_set wsX2_isRegister := goodIn_r _ [5] (by decide +kernel) (by decide +kernel)
set_option maxRecDepth 20000 in
theorem gX2_set_X2_isRegister : GoodIn wsX2_set (va_wsS RX2 33 yX2_isRegister wsX2_isRegister) := goodIn_app (goodIn_of _ (by decide +kernel)) ggX2_set_X2_isRegister
theorem dX2_set_0 : decode cX2_set 0 = .ok (.iload_n 1, 1) := by decide +kernel
theorem dX2_set_1 : decode cX2_set 1 = .ok (.invokestatic 33, 3) := by decide +kernel
theorem dX2_set_4 : decode cX2_set 4 = .ok (.ifCond .ne 5, 3) := by decide +kernel
theorem dX2_set_7 : decode cX2_set 7 = .ok (.iconst 0, 1) := by decide +kernel
theorem dX2_set_8 : decode cX2_set 8 = .ok (.ireturn, 1) := by decide +kernel
theorem dX2_set_9 : decode cX2_set 9 = .ok (.aload_n 0, 1) := by decide +kernel
theorem dX2_set_10 : decode cX2_set 10 = .ok (.getfield 7, 3) := by decide +kernel
theorem dX2_set_13 : decode cX2_set 13 = .ok (.iload_n 1, 1) := by decide +kernel
theorem dX2_set_14 : decode cX2_set 14 = .ok (.lload_n 2, 1) := by decide +kernel
theorem dX2_set_15 : decode cX2_set 15 = .ok (.lastore, 1) := by decide +kernel
theorem dX2_set_16 : decode cX2_set 16 = .ok (.iconst 1, 1) := by decide +kernel
theorem dX2_set_17 : decode cX2_set 17 = .ok (.ireturn, 1) := by decide +kernel
set_option maxRecDepth 20000 in
theorem ggL_law_X1_init : GoodIn wsL_law wsX1_init := goodIn_r _ [8, 9, 10, 11, 12, 13, 14, 15, 16, 17, 18, 19, 20, 21, 22, 23, 24, 25, 26, 27, 28, 29, 30, 31, 32, 203, 204, 205, 206, 207, 216, 217] (by decide +kernel) (by decide +kernel)
set_option maxRecDepth 20000 in
theorem gL_law_X1_init : GoodIn wsL_law (wsX1_init) := ggL_law_X1_init
set_option maxRecDepth 20000 in
theorem ggL_law_X2_init : GoodIn wsL_law wsX2_init := goodIn_r _ [35, 36, 10, 11, 12, 37, 38, 39, 40, 41, 42, 43, 44, 45, 208, 209, 210, 211, 212, 213, 214, 215] (by decide +kernel) (by decide +kernel)
set_option maxRecDepth 20000 in
theorem gL_law_X2_init : GoodIn wsL_law (wsX2_init) := ggL_law_X2_init
set_option maxRecDepth 20000 in
theorem ggL_law_X1_set : GoodIn wsL_law wsX1_set := goodIn_r _ [49, 13, 50, 51, 2, 52, 203, 204, 205, 206, 207] (by decide +kernel) (by decide +kernel)
set_option maxRecDepth 20000 in
theorem gL_law_X1_set : GoodIn wsL_law (wsV RL 15 RX1 yX1_set wsX1_set) := goodIn_app (goodIn_of _ (by decide +kernel)) ggL_law_X1_set
set_option maxRecDepth 20000 in
theorem ggL_law_X2_set : GoodIn wsL_law wsX2_set := goodIn_r _ [56, 37, 57, 58, 5, 59, 208, 209, 210, 211, 212, 213, 214, 215] (by decide +kernel) (by decide +kernel)
set_option maxRecDepth 20000 in
theorem gL_law_X2_set : GoodIn wsL_law (wsV RL 19 RX2 yX2_set wsX2_set) := goodIn_app (goodIn_of _ (by decide +kernel)) ggL_law_X2_set
set_option maxRecDepth 20000 in
theorem ggL_law_X1_get : GoodIn wsL_law wsX1_get := goodIn_r _ [63, 13, 50, 51, 2, 52, 203, 204, 205, 206, 207] (by decide +kernel) (by decide +kernel)
set_option maxRecDepth 20000 in
theorem gL_law_X1_get : GoodIn wsL_law (wsV RL 20 RX1 yX1_get wsX1_get) := goodIn_app (goodIn_of _ (by decide +kernel)) ggL_law_X1_get
set_option maxRecDepth 20000 in
theorem ggL_law_X1_add : GoodIn wsL_law wsX1_add := goodIn_r _ [67, 22, 13, 50, 51, 2, 52, 68, 69, 70, 17, 71, 31, 32, 72, 73, 74, 75, 76, 77, 78, 79, 80, 81, 82, 83, 84, 85, 86, 87, 88, 89, 90, 91, 92, 93, 94, 95, 96, 97, 98, 99, 203, 204, 205, 206, 207, 216, 217] (by decide +kernel) (by decide +kernel)
set_option maxRecDepth 20000 in
theorem gL_law_X1_add : GoodIn wsL_law (wsV RL 25 RX1 yX1_add wsX1_add) := goodIn_app (goodIn_of _ (by decide +kernel)) ggL_law_X1_add
set_option maxRecDepth 20000 in
theorem ggL_law_X1_subtract : GoodIn wsL_law wsX1_subtract := goodIn_r _ [103, 22, 13, 50, 51, 2, 52, 68, 69, 70, 17, 71, 31, 32, 104, 105, 106, 107, 108, 72, 73, 74, 75, 76, 77, 78, 79, 80, 81, 82, 83, 84, 85, 86, 87, 88, 89, 90, 91, 92, 93, 94, 95, 96, 97, 98, 99, 203, 204, 205, 206, 207, 216, 217] (by decide +kernel) (by decide +kernel)
set_option maxRecDepth 20000 in
theorem gL_law_X1_subtract : GoodIn wsL_law (wsV RL 30 RX1 yX1_subtract wsX1_subtract) := goodIn_app (goodIn_of _ (by decide +kernel)) ggL_law_X1_subtract
set_option maxRecDepth 20000 in
theorem ggL_law_X1_times : GoodIn wsL_law wsX1_times := goodIn_r _ [112, 22, 13, 50, 51, 2, 52, 26, 27, 28, 17, 29, 30, 31, 32, 84, 85, 86, 87, 88, 89, 90, 91, 92, 93, 94, 95, 96, 97, 98, 99, 203, 204, 205, 206, 207, 216, 217] (by decide +kernel) (by decide +kernel)
set_option maxRecDepth 20000 in
theorem gL_law_X1_times : GoodIn wsL_law (wsV RL 34 RX1 yX1_times wsX1_times) := goodIn_app (goodIn_of _ (by decide +kernel)) ggL_law_X1_times
set_option maxRecDepth 20000 in
theorem ggL_law_X1_share : GoodIn wsL_law wsX1_share := goodIn_r _ [116, 22, 13, 50, 51, 2, 52, 117, 118, 119, 26, 27, 28, 17, 29, 30, 31, 32, 120, 121, 122, 123, 92, 93, 94, 95, 124, 125, 126, 127, 128, 129, 105, 106, 107, 108, 130, 131, 132, 133, 80, 81, 82, 83, 134, 135, 136, 72, 73, 74, 75, 76, 77, 78, 79, 104, 84, 85, 86, 87, 88, 89, 90, 91, 96, 97, 98, 99, 203, 204, 205, 206, 207, 216, 217] (by decide +kernel) (by decide +kernel)
set_option maxRecDepth 20000 in
theorem gL_law_X1_share : GoodIn wsL_law (wsV RL 38 RX1 yX1_share wsX1_share) := goodIn_app (goodIn_of _ (by decide +kernel)) ggL_law_X1_share
set_option maxRecDepth 20000 in
theorem ggL_law_X1_enter : GoodIn wsL_law wsX1_enter := goodIn_r _ [140, 22, 13, 15, 141, 142, 2, 143, 50, 51, 52, 26, 27, 28, 17, 29, 30, 31, 32, 144, 145, 146, 147, 76, 77, 78, 79, 80, 81, 82, 83, 148, 149, 150, 151, 18, 20, 152, 153, 154, 155, 156, 157, 158, 159, 203, 204, 205, 206, 207, 216, 217] (by decide +kernel) (by decide +kernel)
set_option maxRecDepth 20000 in
theorem gL_law_X1_enter : GoodIn wsL_law (wsV RL 43 RX1 yX1_enter wsX1_enter) := goodIn_app (goodIn_of _ (by decide +kernel)) ggL_law_X1_enter
set_option maxRecDepth 20000 in
theorem ggL_law_X1_merge : GoodIn wsL_law wsX1_merge := goodIn_r _ [163, 22, 15, 141, 142, 2, 143, 156, 157, 158, 17, 159, 31, 32, 144, 145, 146, 147, 76, 77, 78, 79, 80, 81, 82, 83, 148, 149, 150, 151, 18, 20, 152, 153, 154, 155, 203, 204, 205, 206, 207, 216, 217] (by decide +kernel) (by decide +kernel)
set_option maxRecDepth 20000 in
theorem gL_law_X1_merge : GoodIn wsL_law (wsV RL 48 RX1 yX1_merge wsX1_merge) := goodIn_app (goodIn_of _ (by decide +kernel)) ggL_law_X1_merge
set_option maxRecDepth 20000 in
theorem ggL_law_X1_split : GoodIn wsL_law wsX1_split := goodIn_r _ [167, 19, 15, 13, 141, 142, 2, 143, 50, 51, 52, 92, 93, 94, 17, 95, 31, 124, 125, 126, 127, 128, 129, 105, 106, 107, 32, 108, 130, 131, 132, 133, 80, 81, 82, 83, 104, 203, 204, 205, 206, 207, 216, 217] (by decide +kernel) (by decide +kernel)
set_option maxRecDepth 20000 in
theorem gL_law_X1_split : GoodIn wsL_law (wsV RL 53 RX1 yX1_split wsX1_split) := goodIn_app (goodIn_of _ (by decide +kernel)) ggL_law_X1_split
set_option maxRecDepth 20000 in
theorem ggL_law_X1_take : GoodIn wsL_law wsX1_take := goodIn_r _ [171, 22, 15, 141, 142, 2, 143, 50, 51, 52, 156, 157, 158, 17, 159, 31, 32, 84, 85, 86, 87, 13, 88, 89, 90, 91, 92, 93, 94, 95, 96, 97, 98, 99, 203, 204, 205, 206, 207, 216, 217] (by decide +kernel) (by decide +kernel)
set_option maxRecDepth 20000 in
theorem gL_law_X1_take : GoodIn wsL_law (wsV RL 58 RX1 yX1_take wsX1_take) := goodIn_app (goodIn_of _ (by decide +kernel)) ggL_law_X1_take
set_option maxRecDepth 20000 in
theorem ggL_law_X1_clear : GoodIn wsL_law wsX1_clear := goodIn_r _ [175, 15, 141, 142, 2, 143, 68, 69, 70, 17, 71, 31, 32, 203, 204, 205, 206, 207, 216, 217] (by decide +kernel) (by decide +kernel)
set_option maxRecDepth 20000 in
theorem gL_law_X1_clear : GoodIn wsL_law (wsV RL 62 RX1 yX1_clear wsX1_clear) := goodIn_app (goodIn_of _ (by decide +kernel)) ggL_law_X1_clear
set_option maxRecDepth 20000 in
theorem ggL_law_X1_compare : GoodIn wsL_law wsX1_compare := goodIn_r _ [179, 15, 141, 142, 2, 143, 152, 153, 154, 17, 155, 31, 32, 80, 81, 82, 83, 203, 204, 205, 206, 207, 216, 217] (by decide +kernel) (by decide +kernel)
set_option maxRecDepth 20000 in
theorem gL_law_X1_compare : GoodIn wsL_law (wsV RL 67 RX1 yX1_compare wsX1_compare) := goodIn_app (goodIn_of _ (by decide +kernel)) ggL_law_X1_compare
set_option maxRecDepth 20000 in
theorem ggL_law_X1_digits : GoodIn wsL_law wsX1_digits := goodIn_r _ [183, 15, 141, 142, 2, 143, 184, 185, 186, 187, 22, 19, 156, 157, 158, 17, 159, 31, 32, 124, 125, 126, 127, 128, 93, 94, 95, 129, 105, 106, 107, 108, 130, 131, 132, 133, 80, 81, 82, 83, 96, 97, 98, 99, 188, 189, 190, 191, 192, 193, 194, 195, 92, 203, 204, 205, 206, 207, 216, 217] (by decide +kernel) (by decide +kernel)
set_option maxRecDepth 20000 in
theorem gL_law_X1_digits : GoodIn wsL_law (wsV RL 71 RX1 yX1_digits wsX1_digits) := goodIn_app (goodIn_of _ (by decide +kernel)) ggL_law_X1_digits
set_option maxRecDepth 20000 in
theorem ggL_law_X1_digit : GoodIn wsL_law wsX1_digit := goodIn_r _ [199, 15, 141, 142, 2, 143, 192, 193, 194, 195, 22, 19, 156, 157, 158, 17, 159, 31, 32, 124, 125, 126, 127, 128, 93, 94, 95, 129, 105, 106, 107, 108, 130, 131, 132, 133, 80, 81, 82, 83, 200, 201, 202, 191, 184, 185, 186, 187, 96, 97, 98, 99, 203, 204, 205, 206, 207, 216, 217] (by decide +kernel) (by decide +kernel)
set_option maxRecDepth 20000 in
theorem gL_law_X1_digit : GoodIn wsL_law (wsV RL 76 RX1 yX1_digit wsX1_digit) := goodIn_app (goodIn_of _ (by decide +kernel)) ggL_law_X1_digit
theorem dL_law_0 : decode cL_law 0 = .ok (.new 7, 3) := by decide +kernel
theorem dL_law_3 : decode cL_law 3 = .ok (.dup, 1) := by decide +kernel
theorem dL_law_4 : decode cL_law 4 = .ok (.invokespecial 9, 3) := by decide +kernel
theorem dL_law_7 : decode cL_law 7 = .ok (.astore_n 1, 1) := by decide +kernel
theorem dL_law_8 : decode cL_law 8 = .ok (.new 10, 3) := by decide +kernel
theorem dL_law_11 : decode cL_law 11 = .ok (.dup, 1) := by decide +kernel
theorem dL_law_12 : decode cL_law 12 = .ok (.invokespecial 12, 3) := by decide +kernel
theorem dL_law_15 : decode cL_law 15 = .ok (.astore_n 2, 1) := by decide +kernel
theorem dL_law_16 : decode cL_law 16 = .ok (.iconst 0, 1) := by decide +kernel
theorem dL_law_17 : decode cL_law 17 = .ok (.istore_n 3, 1) := by decide +kernel
theorem dL_law_18 : decode cL_law 18 = .ok (.iload_n 3, 1) := by decide +kernel
theorem dL_law_19 : decode cL_law 19 = .ok (.aload_n 0, 1) := by decide +kernel
theorem dL_law_20 : decode cL_law 20 = .ok (.arraylength, 1) := by decide +kernel
theorem dL_law_21 : decode cL_law 21 = .ok (.bipush 7, 2) := by decide +kernel
theorem dL_law_23 : decode cL_law 23 = .ok (.isub, 1) := by decide +kernel
theorem dL_law_24 : decode cL_law 24 = .ok (.if_icmp .gt 801, 3) := by decide +kernel
theorem dL_law_27 : decode cL_law 27 = .ok (.aload_n 0, 1) := by decide +kernel
theorem dL_law_28 : decode cL_law 28 = .ok (.iload_n 3, 1) := by decide +kernel
theorem dL_law_29 : decode cL_law 29 = .ok (.iaload, 1) := by decide +kernel
theorem dL_law_30 : decode cL_law 30 = .ok (.bipush 15, 2) := by decide +kernel
theorem dL_law_32 : decode cL_law 32 = .ok (.iand, 1) := by decide +kernel
theorem dL_law_33 : decode cL_law 33 = .ok (.tableswitch 786 0 13 #[71, 134, 158, 221, 284, 347, 462, 535, 568, 641, 674, 697, 730, 753], 71) := by decide +kernel
theorem dL_law_104 : decode cL_law 104 = .ok (.aload_n 1, 1) := by decide +kernel
theorem dL_law_105 : decode cL_law 105 = .ok (.aload_n 0, 1) := by decide +kernel
theorem dL_law_106 : decode cL_law 106 = .ok (.iload_n 3, 1) := by decide +kernel
theorem dL_law_107 : decode cL_law 107 = .ok (.iconst 1, 1) := by decide +kernel
theorem dL_law_108 : decode cL_law 108 = .ok (.iadd, 1) := by decide +kernel
theorem dL_law_109 : decode cL_law 109 = .ok (.iaload, 1) := by decide +kernel
theorem dL_law_110 : decode cL_law 110 = .ok (.aload_n 0, 1) := by decide +kernel
theorem dL_law_111 : decode cL_law 111 = .ok (.iload_n 3, 1) := by decide +kernel
theorem dL_law_112 : decode cL_law 112 = .ok (.iconst 2, 1) := by decide +kernel
theorem dL_law_113 : decode cL_law 113 = .ok (.iadd, 1) := by decide +kernel
theorem dL_law_114 : decode cL_law 114 = .ok (.iaload, 1) := by decide +kernel
theorem dL_law_115 : decode cL_law 115 = .ok (.i2l, 1) := by decide +kernel
theorem dL_law_116 : decode cL_law 116 = .ok (.bipush 32, 2) := by decide +kernel
theorem dL_law_118 : decode cL_law 118 = .ok (.lshl, 1) := by decide +kernel
theorem dL_law_119 : decode cL_law 119 = .ok (.aload_n 0, 1) := by decide +kernel
theorem dL_law_120 : decode cL_law 120 = .ok (.iload_n 3, 1) := by decide +kernel
theorem dL_law_121 : decode cL_law 121 = .ok (.iconst 3, 1) := by decide +kernel
theorem dL_law_122 : decode cL_law 122 = .ok (.iadd, 1) := by decide +kernel
theorem dL_law_123 : decode cL_law 123 = .ok (.iaload, 1) := by decide +kernel
theorem dL_law_124 : decode cL_law 124 = .ok (.i2l, 1) := by decide +kernel
theorem dL_law_125 : decode cL_law 125 = .ok (.ldc2_w 13, 3) := by decide +kernel
theorem dL_law_128 : decode cL_law 128 = .ok (.land, 1) := by decide +kernel
theorem dL_law_129 : decode cL_law 129 = .ok (.lor, 1) := by decide +kernel
theorem dL_law_130 : decode cL_law 130 = .ok (.invokevirtual 15, 3) := by decide +kernel
theorem dL_law_133 : decode cL_law 133 = .ok (.aload_n 2, 1) := by decide +kernel
theorem dL_law_134 : decode cL_law 134 = .ok (.aload_n 0, 1) := by decide +kernel
theorem dL_law_135 : decode cL_law 135 = .ok (.iload_n 3, 1) := by decide +kernel
theorem dL_law_136 : decode cL_law 136 = .ok (.iconst 1, 1) := by decide +kernel
theorem dL_law_137 : decode cL_law 137 = .ok (.iadd, 1) := by decide +kernel
theorem dL_law_138 : decode cL_law 138 = .ok (.iaload, 1) := by decide +kernel
theorem dL_law_139 : decode cL_law 139 = .ok (.aload_n 0, 1) := by decide +kernel
theorem dL_law_140 : decode cL_law 140 = .ok (.iload_n 3, 1) := by decide +kernel
theorem dL_law_141 : decode cL_law 141 = .ok (.iconst 2, 1) := by decide +kernel
theorem dL_law_142 : decode cL_law 142 = .ok (.iadd, 1) := by decide +kernel
theorem dL_law_143 : decode cL_law 143 = .ok (.iaload, 1) := by decide +kernel
theorem dL_law_144 : decode cL_law 144 = .ok (.i2l, 1) := by decide +kernel
theorem dL_law_145 : decode cL_law 145 = .ok (.bipush 32, 2) := by decide +kernel
theorem dL_law_147 : decode cL_law 147 = .ok (.lshl, 1) := by decide +kernel
theorem dL_law_148 : decode cL_law 148 = .ok (.aload_n 0, 1) := by decide +kernel
theorem dL_law_149 : decode cL_law 149 = .ok (.iload_n 3, 1) := by decide +kernel
theorem dL_law_150 : decode cL_law 150 = .ok (.iconst 3, 1) := by decide +kernel
theorem dL_law_151 : decode cL_law 151 = .ok (.iadd, 1) := by decide +kernel
theorem dL_law_152 : decode cL_law 152 = .ok (.iaload, 1) := by decide +kernel
theorem dL_law_153 : decode cL_law 153 = .ok (.i2l, 1) := by decide +kernel
theorem dL_law_154 : decode cL_law 154 = .ok (.ldc2_w 13, 3) := by decide +kernel
theorem dL_law_157 : decode cL_law 157 = .ok (.land, 1) := by decide +kernel
theorem dL_law_158 : decode cL_law 158 = .ok (.lor, 1) := by decide +kernel
theorem dL_law_159 : decode cL_law 159 = .ok (.invokevirtual 19, 3) := by decide +kernel
theorem dL_law_162 : decode cL_law 162 = .ok (.if_icmp .eq 657, 3) := by decide +kernel
theorem dL_law_165 : decode cL_law 165 = .ok (.iconst 0, 1) := by decide +kernel
theorem dL_law_166 : decode cL_law 166 = .ok (.ireturn, 1) := by decide +kernel
theorem dL_law_167 : decode cL_law 167 = .ok (.aload_n 1, 1) := by decide +kernel
theorem dL_law_168 : decode cL_law 168 = .ok (.aload_n 0, 1) := by decide +kernel
theorem dL_law_169 : decode cL_law 169 = .ok (.iload_n 3, 1) := by decide +kernel
theorem dL_law_170 : decode cL_law 170 = .ok (.iconst 1, 1) := by decide +kernel
theorem dL_law_171 : decode cL_law 171 = .ok (.iadd, 1) := by decide +kernel
theorem dL_law_172 : decode cL_law 172 = .ok (.iaload, 1) := by decide +kernel
theorem dL_law_173 : decode cL_law 173 = .ok (.invokevirtual 20, 3) := by decide +kernel
theorem dL_law_176 : decode cL_law 176 = .ok (.aload_n 2, 1) := by decide +kernel
theorem dL_law_177 : decode cL_law 177 = .ok (.aload_n 0, 1) := by decide +kernel
theorem dL_law_178 : decode cL_law 178 = .ok (.iload_n 3, 1) := by decide +kernel
theorem dL_law_179 : decode cL_law 179 = .ok (.iconst 1, 1) := by decide +kernel
theorem dL_law_180 : decode cL_law 180 = .ok (.iadd, 1) := by decide +kernel
theorem dL_law_181 : decode cL_law 181 = .ok (.iaload, 1) := by decide +kernel
theorem dL_law_182 : decode cL_law 182 = .ok (.invokevirtual 24, 3) := by decide +kernel
theorem dL_law_185 : decode cL_law 185 = .ok (.lcmp, 1) := by decide +kernel
theorem dL_law_186 : decode cL_law 186 = .ok (.ifCond .eq 633, 3) := by decide +kernel
theorem dL_law_189 : decode cL_law 189 = .ok (.iconst 0, 1) := by decide +kernel
theorem dL_law_190 : decode cL_law 190 = .ok (.ireturn, 1) := by decide +kernel
theorem dL_law_191 : decode cL_law 191 = .ok (.aload_n 1, 1) := by decide +kernel
theorem dL_law_192 : decode cL_law 192 = .ok (.aload_n 0, 1) := by decide +kernel
theorem dL_law_193 : decode cL_law 193 = .ok (.iload_n 3, 1) := by decide +kernel
theorem dL_law_194 : decode cL_law 194 = .ok (.iconst 1, 1) := by decide +kernel
theorem dL_law_195 : decode cL_law 195 = .ok (.iadd, 1) := by decide +kernel
theorem dL_law_196 : decode cL_law 196 = .ok (.iaload, 1) := by decide +kernel
theorem dL_law_197 : decode cL_law 197 = .ok (.aload_n 0, 1) := by decide +kernel
theorem dL_law_198 : decode cL_law 198 = .ok (.iload_n 3, 1) := by decide +kernel
theorem dL_law_199 : decode cL_law 199 = .ok (.iconst 2, 1) := by decide +kernel
theorem dL_law_200 : decode cL_law 200 = .ok (.iadd, 1) := by decide +kernel
theorem dL_law_201 : decode cL_law 201 = .ok (.iaload, 1) := by decide +kernel
theorem dL_law_202 : decode cL_law 202 = .ok (.i2l, 1) := by decide +kernel
theorem dL_law_203 : decode cL_law 203 = .ok (.bipush 32, 2) := by decide +kernel
theorem dL_law_205 : decode cL_law 205 = .ok (.lshl, 1) := by decide +kernel
theorem dL_law_206 : decode cL_law 206 = .ok (.aload_n 0, 1) := by decide +kernel
theorem dL_law_207 : decode cL_law 207 = .ok (.iload_n 3, 1) := by decide +kernel
theorem dL_law_208 : decode cL_law 208 = .ok (.iconst 3, 1) := by decide +kernel
theorem dL_law_209 : decode cL_law 209 = .ok (.iadd, 1) := by decide +kernel
theorem dL_law_210 : decode cL_law 210 = .ok (.iaload, 1) := by decide +kernel
theorem dL_law_211 : decode cL_law 211 = .ok (.i2l, 1) := by decide +kernel
theorem dL_law_212 : decode cL_law 212 = .ok (.ldc2_w 13, 3) := by decide +kernel
theorem dL_law_215 : decode cL_law 215 = .ok (.land, 1) := by decide +kernel
theorem dL_law_216 : decode cL_law 216 = .ok (.lor, 1) := by decide +kernel
theorem dL_law_217 : decode cL_law 217 = .ok (.invokevirtual 25, 3) := by decide +kernel
theorem dL_law_220 : decode cL_law 220 = .ok (.aload_n 2, 1) := by decide +kernel
theorem dL_law_221 : decode cL_law 221 = .ok (.aload_n 0, 1) := by decide +kernel
theorem dL_law_222 : decode cL_law 222 = .ok (.iload_n 3, 1) := by decide +kernel
theorem dL_law_223 : decode cL_law 223 = .ok (.iconst 1, 1) := by decide +kernel
theorem dL_law_224 : decode cL_law 224 = .ok (.iadd, 1) := by decide +kernel
theorem dL_law_225 : decode cL_law 225 = .ok (.iaload, 1) := by decide +kernel
theorem dL_law_226 : decode cL_law 226 = .ok (.aload_n 0, 1) := by decide +kernel
theorem dL_law_227 : decode cL_law 227 = .ok (.iload_n 3, 1) := by decide +kernel
theorem dL_law_228 : decode cL_law 228 = .ok (.iconst 2, 1) := by decide +kernel
theorem dL_law_229 : decode cL_law 229 = .ok (.iadd, 1) := by decide +kernel
theorem dL_law_230 : decode cL_law 230 = .ok (.iaload, 1) := by decide +kernel
theorem dL_law_231 : decode cL_law 231 = .ok (.i2l, 1) := by decide +kernel
theorem dL_law_232 : decode cL_law 232 = .ok (.bipush 32, 2) := by decide +kernel
theorem dL_law_234 : decode cL_law 234 = .ok (.lshl, 1) := by decide +kernel
theorem dL_law_235 : decode cL_law 235 = .ok (.aload_n 0, 1) := by decide +kernel
theorem dL_law_236 : decode cL_law 236 = .ok (.iload_n 3, 1) := by decide +kernel
theorem dL_law_237 : decode cL_law 237 = .ok (.iconst 3, 1) := by decide +kernel
theorem dL_law_238 : decode cL_law 238 = .ok (.iadd, 1) := by decide +kernel
theorem dL_law_239 : decode cL_law 239 = .ok (.iaload, 1) := by decide +kernel
theorem dL_law_240 : decode cL_law 240 = .ok (.i2l, 1) := by decide +kernel
theorem dL_law_241 : decode cL_law 241 = .ok (.ldc2_w 13, 3) := by decide +kernel
theorem dL_law_244 : decode cL_law 244 = .ok (.land, 1) := by decide +kernel
theorem dL_law_245 : decode cL_law 245 = .ok (.lor, 1) := by decide +kernel
theorem dL_law_246 : decode cL_law 246 = .ok (.invokevirtual 29, 3) := by decide +kernel
theorem dL_law_249 : decode cL_law 249 = .ok (.if_icmp .eq 570, 3) := by decide +kernel
theorem dL_law_252 : decode cL_law 252 = .ok (.iconst 0, 1) := by decide +kernel
theorem dL_law_253 : decode cL_law 253 = .ok (.ireturn, 1) := by decide +kernel
theorem dL_law_254 : decode cL_law 254 = .ok (.aload_n 1, 1) := by decide +kernel
theorem dL_law_255 : decode cL_law 255 = .ok (.aload_n 0, 1) := by decide +kernel
theorem dL_law_256 : decode cL_law 256 = .ok (.iload_n 3, 1) := by decide +kernel
theorem dL_law_257 : decode cL_law 257 = .ok (.iconst 1, 1) := by decide +kernel
theorem dL_law_258 : decode cL_law 258 = .ok (.iadd, 1) := by decide +kernel
theorem dL_law_259 : decode cL_law 259 = .ok (.iaload, 1) := by decide +kernel
theorem dL_law_260 : decode cL_law 260 = .ok (.aload_n 0, 1) := by decide +kernel
theorem dL_law_261 : decode cL_law 261 = .ok (.iload_n 3, 1) := by decide +kernel
theorem dL_law_262 : decode cL_law 262 = .ok (.iconst 2, 1) := by decide +kernel
theorem dL_law_263 : decode cL_law 263 = .ok (.iadd, 1) := by decide +kernel
theorem dL_law_264 : decode cL_law 264 = .ok (.iaload, 1) := by decide +kernel
theorem dL_law_265 : decode cL_law 265 = .ok (.i2l, 1) := by decide +kernel
theorem dL_law_266 : decode cL_law 266 = .ok (.bipush 32, 2) := by decide +kernel
theorem dL_law_268 : decode cL_law 268 = .ok (.lshl, 1) := by decide +kernel
theorem dL_law_269 : decode cL_law 269 = .ok (.aload_n 0, 1) := by decide +kernel
theorem dL_law_270 : decode cL_law 270 = .ok (.iload_n 3, 1) := by decide +kernel
theorem dL_law_271 : decode cL_law 271 = .ok (.iconst 3, 1) := by decide +kernel
theorem dL_law_272 : decode cL_law 272 = .ok (.iadd, 1) := by decide +kernel
theorem dL_law_273 : decode cL_law 273 = .ok (.iaload, 1) := by decide +kernel
theorem dL_law_274 : decode cL_law 274 = .ok (.i2l, 1) := by decide +kernel
theorem dL_law_275 : decode cL_law 275 = .ok (.ldc2_w 13, 3) := by decide +kernel
theorem dL_law_278 : decode cL_law 278 = .ok (.land, 1) := by decide +kernel
theorem dL_law_279 : decode cL_law 279 = .ok (.lor, 1) := by decide +kernel
theorem dL_law_280 : decode cL_law 280 = .ok (.invokevirtual 30, 3) := by decide +kernel
theorem dL_law_283 : decode cL_law 283 = .ok (.aload_n 2, 1) := by decide +kernel
theorem dL_law_284 : decode cL_law 284 = .ok (.aload_n 0, 1) := by decide +kernel
theorem dL_law_285 : decode cL_law 285 = .ok (.iload_n 3, 1) := by decide +kernel
theorem dL_law_286 : decode cL_law 286 = .ok (.iconst 1, 1) := by decide +kernel
theorem dL_law_287 : decode cL_law 287 = .ok (.iadd, 1) := by decide +kernel
theorem dL_law_288 : decode cL_law 288 = .ok (.iaload, 1) := by decide +kernel
theorem dL_law_289 : decode cL_law 289 = .ok (.aload_n 0, 1) := by decide +kernel
theorem dL_law_290 : decode cL_law 290 = .ok (.iload_n 3, 1) := by decide +kernel
theorem dL_law_291 : decode cL_law 291 = .ok (.iconst 2, 1) := by decide +kernel
theorem dL_law_292 : decode cL_law 292 = .ok (.iadd, 1) := by decide +kernel
theorem dL_law_293 : decode cL_law 293 = .ok (.iaload, 1) := by decide +kernel
theorem dL_law_294 : decode cL_law 294 = .ok (.i2l, 1) := by decide +kernel
theorem dL_law_295 : decode cL_law 295 = .ok (.bipush 32, 2) := by decide +kernel
theorem dL_law_297 : decode cL_law 297 = .ok (.lshl, 1) := by decide +kernel
theorem dL_law_298 : decode cL_law 298 = .ok (.aload_n 0, 1) := by decide +kernel
theorem dL_law_299 : decode cL_law 299 = .ok (.iload_n 3, 1) := by decide +kernel
theorem dL_law_300 : decode cL_law 300 = .ok (.iconst 3, 1) := by decide +kernel
theorem dL_law_301 : decode cL_law 301 = .ok (.iadd, 1) := by decide +kernel
theorem dL_law_302 : decode cL_law 302 = .ok (.iaload, 1) := by decide +kernel
theorem dL_law_303 : decode cL_law 303 = .ok (.i2l, 1) := by decide +kernel
theorem dL_law_304 : decode cL_law 304 = .ok (.ldc2_w 13, 3) := by decide +kernel
theorem dL_law_307 : decode cL_law 307 = .ok (.land, 1) := by decide +kernel
theorem dL_law_308 : decode cL_law 308 = .ok (.lor, 1) := by decide +kernel
theorem dL_law_309 : decode cL_law 309 = .ok (.invokevirtual 33, 3) := by decide +kernel
theorem dL_law_312 : decode cL_law 312 = .ok (.if_icmp .eq 507, 3) := by decide +kernel
theorem dL_law_315 : decode cL_law 315 = .ok (.iconst 0, 1) := by decide +kernel
theorem dL_law_316 : decode cL_law 316 = .ok (.ireturn, 1) := by decide +kernel
theorem dL_law_317 : decode cL_law 317 = .ok (.aload_n 1, 1) := by decide +kernel
theorem dL_law_318 : decode cL_law 318 = .ok (.aload_n 0, 1) := by decide +kernel
theorem dL_law_319 : decode cL_law 319 = .ok (.iload_n 3, 1) := by decide +kernel
theorem dL_law_320 : decode cL_law 320 = .ok (.iconst 1, 1) := by decide +kernel
theorem dL_law_321 : decode cL_law 321 = .ok (.iadd, 1) := by decide +kernel
theorem dL_law_322 : decode cL_law 322 = .ok (.iaload, 1) := by decide +kernel
theorem dL_law_323 : decode cL_law 323 = .ok (.aload_n 0, 1) := by decide +kernel
theorem dL_law_324 : decode cL_law 324 = .ok (.iload_n 3, 1) := by decide +kernel
theorem dL_law_325 : decode cL_law 325 = .ok (.iconst 2, 1) := by decide +kernel
theorem dL_law_326 : decode cL_law 326 = .ok (.iadd, 1) := by decide +kernel
theorem dL_law_327 : decode cL_law 327 = .ok (.iaload, 1) := by decide +kernel
theorem dL_law_328 : decode cL_law 328 = .ok (.i2l, 1) := by decide +kernel
theorem dL_law_329 : decode cL_law 329 = .ok (.bipush 32, 2) := by decide +kernel
theorem dL_law_331 : decode cL_law 331 = .ok (.lshl, 1) := by decide +kernel
theorem dL_law_332 : decode cL_law 332 = .ok (.aload_n 0, 1) := by decide +kernel
theorem dL_law_333 : decode cL_law 333 = .ok (.iload_n 3, 1) := by decide +kernel
theorem dL_law_334 : decode cL_law 334 = .ok (.iconst 3, 1) := by decide +kernel
theorem dL_law_335 : decode cL_law 335 = .ok (.iadd, 1) := by decide +kernel
theorem dL_law_336 : decode cL_law 336 = .ok (.iaload, 1) := by decide +kernel
theorem dL_law_337 : decode cL_law 337 = .ok (.i2l, 1) := by decide +kernel
theorem dL_law_338 : decode cL_law 338 = .ok (.ldc2_w 13, 3) := by decide +kernel
theorem dL_law_341 : decode cL_law 341 = .ok (.land, 1) := by decide +kernel
theorem dL_law_342 : decode cL_law 342 = .ok (.lor, 1) := by decide +kernel
theorem dL_law_343 : decode cL_law 343 = .ok (.invokevirtual 34, 3) := by decide +kernel
theorem dL_law_346 : decode cL_law 346 = .ok (.aload_n 2, 1) := by decide +kernel
theorem dL_law_347 : decode cL_law 347 = .ok (.aload_n 0, 1) := by decide +kernel
theorem dL_law_348 : decode cL_law 348 = .ok (.iload_n 3, 1) := by decide +kernel
theorem dL_law_349 : decode cL_law 349 = .ok (.iconst 1, 1) := by decide +kernel
theorem dL_law_350 : decode cL_law 350 = .ok (.iadd, 1) := by decide +kernel
theorem dL_law_351 : decode cL_law 351 = .ok (.iaload, 1) := by decide +kernel
theorem dL_law_352 : decode cL_law 352 = .ok (.aload_n 0, 1) := by decide +kernel
theorem dL_law_353 : decode cL_law 353 = .ok (.iload_n 3, 1) := by decide +kernel
theorem dL_law_354 : decode cL_law 354 = .ok (.iconst 2, 1) := by decide +kernel
theorem dL_law_355 : decode cL_law 355 = .ok (.iadd, 1) := by decide +kernel
theorem dL_law_356 : decode cL_law 356 = .ok (.iaload, 1) := by decide +kernel
theorem dL_law_357 : decode cL_law 357 = .ok (.i2l, 1) := by decide +kernel
theorem dL_law_358 : decode cL_law 358 = .ok (.bipush 32, 2) := by decide +kernel
theorem dL_law_360 : decode cL_law 360 = .ok (.lshl, 1) := by decide +kernel
theorem dL_law_361 : decode cL_law 361 = .ok (.aload_n 0, 1) := by decide +kernel
theorem dL_law_362 : decode cL_law 362 = .ok (.iload_n 3, 1) := by decide +kernel
theorem dL_law_363 : decode cL_law 363 = .ok (.iconst 3, 1) := by decide +kernel
theorem dL_law_364 : decode cL_law 364 = .ok (.iadd, 1) := by decide +kernel
theorem dL_law_365 : decode cL_law 365 = .ok (.iaload, 1) := by decide +kernel
theorem dL_law_366 : decode cL_law 366 = .ok (.i2l, 1) := by decide +kernel
theorem dL_law_367 : decode cL_law 367 = .ok (.ldc2_w 13, 3) := by decide +kernel
theorem dL_law_370 : decode cL_law 370 = .ok (.land, 1) := by decide +kernel
theorem dL_law_371 : decode cL_law 371 = .ok (.lor, 1) := by decide +kernel
theorem dL_law_372 : decode cL_law 372 = .ok (.invokevirtual 37, 3) := by decide +kernel
theorem dL_law_375 : decode cL_law 375 = .ok (.if_icmp .eq 444, 3) := by decide +kernel
theorem dL_law_378 : decode cL_law 378 = .ok (.iconst 0, 1) := by decide +kernel
theorem dL_law_379 : decode cL_law 379 = .ok (.ireturn, 1) := by decide +kernel
theorem dL_law_380 : decode cL_law 380 = .ok (.aload_n 1, 1) := by decide +kernel
theorem dL_law_381 : decode cL_law 381 = .ok (.aload_n 0, 1) := by decide +kernel
theorem dL_law_382 : decode cL_law 382 = .ok (.iload_n 3, 1) := by decide +kernel
theorem dL_law_383 : decode cL_law 383 = .ok (.iconst 1, 1) := by decide +kernel
theorem dL_law_384 : decode cL_law 384 = .ok (.iadd, 1) := by decide +kernel
theorem dL_law_385 : decode cL_law 385 = .ok (.iaload, 1) := by decide +kernel
theorem dL_law_386 : decode cL_law 386 = .ok (.aload_n 0, 1) := by decide +kernel
theorem dL_law_387 : decode cL_law 387 = .ok (.iload_n 3, 1) := by decide +kernel
theorem dL_law_388 : decode cL_law 388 = .ok (.iconst 2, 1) := by decide +kernel
theorem dL_law_389 : decode cL_law 389 = .ok (.iadd, 1) := by decide +kernel
theorem dL_law_390 : decode cL_law 390 = .ok (.iaload, 1) := by decide +kernel
theorem dL_law_391 : decode cL_law 391 = .ok (.i2l, 1) := by decide +kernel
theorem dL_law_392 : decode cL_law 392 = .ok (.bipush 32, 2) := by decide +kernel
theorem dL_law_394 : decode cL_law 394 = .ok (.lshl, 1) := by decide +kernel
theorem dL_law_395 : decode cL_law 395 = .ok (.aload_n 0, 1) := by decide +kernel
theorem dL_law_396 : decode cL_law 396 = .ok (.iload_n 3, 1) := by decide +kernel
theorem dL_law_397 : decode cL_law 397 = .ok (.iconst 3, 1) := by decide +kernel
theorem dL_law_398 : decode cL_law 398 = .ok (.iadd, 1) := by decide +kernel
theorem dL_law_399 : decode cL_law 399 = .ok (.iaload, 1) := by decide +kernel
theorem dL_law_400 : decode cL_law 400 = .ok (.i2l, 1) := by decide +kernel
theorem dL_law_401 : decode cL_law 401 = .ok (.ldc2_w 13, 3) := by decide +kernel
theorem dL_law_404 : decode cL_law 404 = .ok (.land, 1) := by decide +kernel
theorem dL_law_405 : decode cL_law 405 = .ok (.lor, 1) := by decide +kernel
theorem dL_law_406 : decode cL_law 406 = .ok (.aload_n 0, 1) := by decide +kernel
theorem dL_law_407 : decode cL_law 407 = .ok (.iload_n 3, 1) := by decide +kernel
theorem dL_law_408 : decode cL_law 408 = .ok (.iconst 4, 1) := by decide +kernel
theorem dL_law_409 : decode cL_law 409 = .ok (.iadd, 1) := by decide +kernel
theorem dL_law_410 : decode cL_law 410 = .ok (.iaload, 1) := by decide +kernel
theorem dL_law_411 : decode cL_law 411 = .ok (.i2l, 1) := by decide +kernel
theorem dL_law_412 : decode cL_law 412 = .ok (.bipush 32, 2) := by decide +kernel
theorem dL_law_414 : decode cL_law 414 = .ok (.lshl, 1) := by decide +kernel
theorem dL_law_415 : decode cL_law 415 = .ok (.aload_n 0, 1) := by decide +kernel
theorem dL_law_416 : decode cL_law 416 = .ok (.iload_n 3, 1) := by decide +kernel
theorem dL_law_417 : decode cL_law 417 = .ok (.iconst 5, 1) := by decide +kernel
theorem dL_law_418 : decode cL_law 418 = .ok (.iadd, 1) := by decide +kernel
theorem dL_law_419 : decode cL_law 419 = .ok (.iaload, 1) := by decide +kernel
theorem dL_law_420 : decode cL_law 420 = .ok (.i2l, 1) := by decide +kernel
theorem dL_law_421 : decode cL_law 421 = .ok (.ldc2_w 13, 3) := by decide +kernel
theorem dL_law_424 : decode cL_law 424 = .ok (.land, 1) := by decide +kernel
theorem dL_law_425 : decode cL_law 425 = .ok (.lor, 1) := by decide +kernel
theorem dL_law_426 : decode cL_law 426 = .ok (.aload_n 0, 1) := by decide +kernel
theorem dL_law_427 : decode cL_law 427 = .ok (.iload_n 3, 1) := by decide +kernel
theorem dL_law_428 : decode cL_law 428 = .ok (.bipush 6, 2) := by decide +kernel
theorem dL_law_430 : decode cL_law 430 = .ok (.iadd, 1) := by decide +kernel
theorem dL_law_431 : decode cL_law 431 = .ok (.iaload, 1) := by decide +kernel
theorem dL_law_432 : decode cL_law 432 = .ok (.invokevirtual 38, 3) := by decide +kernel
theorem dL_law_435 : decode cL_law 435 = .ok (.aload_n 2, 1) := by decide +kernel
theorem dL_law_436 : decode cL_law 436 = .ok (.aload_n 0, 1) := by decide +kernel
theorem dL_law_437 : decode cL_law 437 = .ok (.iload_n 3, 1) := by decide +kernel
theorem dL_law_438 : decode cL_law 438 = .ok (.iconst 1, 1) := by decide +kernel
theorem dL_law_439 : decode cL_law 439 = .ok (.iadd, 1) := by decide +kernel
theorem dL_law_440 : decode cL_law 440 = .ok (.iaload, 1) := by decide +kernel
theorem dL_law_441 : decode cL_law 441 = .ok (.aload_n 0, 1) := by decide +kernel
theorem dL_law_442 : decode cL_law 442 = .ok (.iload_n 3, 1) := by decide +kernel
theorem dL_law_443 : decode cL_law 443 = .ok (.iconst 2, 1) := by decide +kernel
theorem dL_law_444 : decode cL_law 444 = .ok (.iadd, 1) := by decide +kernel
theorem dL_law_445 : decode cL_law 445 = .ok (.iaload, 1) := by decide +kernel
theorem dL_law_446 : decode cL_law 446 = .ok (.i2l, 1) := by decide +kernel
theorem dL_law_447 : decode cL_law 447 = .ok (.bipush 32, 2) := by decide +kernel
theorem dL_law_449 : decode cL_law 449 = .ok (.lshl, 1) := by decide +kernel
theorem dL_law_450 : decode cL_law 450 = .ok (.aload_n 0, 1) := by decide +kernel
theorem dL_law_451 : decode cL_law 451 = .ok (.iload_n 3, 1) := by decide +kernel
theorem dL_law_452 : decode cL_law 452 = .ok (.iconst 3, 1) := by decide +kernel
theorem dL_law_453 : decode cL_law 453 = .ok (.iadd, 1) := by decide +kernel
theorem dL_law_454 : decode cL_law 454 = .ok (.iaload, 1) := by decide +kernel
theorem dL_law_455 : decode cL_law 455 = .ok (.i2l, 1) := by decide +kernel
theorem dL_law_456 : decode cL_law 456 = .ok (.ldc2_w 13, 3) := by decide +kernel
theorem dL_law_459 : decode cL_law 459 = .ok (.land, 1) := by decide +kernel
theorem dL_law_460 : decode cL_law 460 = .ok (.lor, 1) := by decide +kernel
theorem dL_law_461 : decode cL_law 461 = .ok (.aload_n 0, 1) := by decide +kernel
theorem dL_law_462 : decode cL_law 462 = .ok (.iload_n 3, 1) := by decide +kernel
theorem dL_law_463 : decode cL_law 463 = .ok (.iconst 4, 1) := by decide +kernel
theorem dL_law_464 : decode cL_law 464 = .ok (.iadd, 1) := by decide +kernel
theorem dL_law_465 : decode cL_law 465 = .ok (.iaload, 1) := by decide +kernel
theorem dL_law_466 : decode cL_law 466 = .ok (.i2l, 1) := by decide +kernel
theorem dL_law_467 : decode cL_law 467 = .ok (.bipush 32, 2) := by decide +kernel
theorem dL_law_469 : decode cL_law 469 = .ok (.lshl, 1) := by decide +kernel
theorem dL_law_470 : decode cL_law 470 = .ok (.aload_n 0, 1) := by decide +kernel
theorem dL_law_471 : decode cL_law 471 = .ok (.iload_n 3, 1) := by decide +kernel
theorem dL_law_472 : decode cL_law 472 = .ok (.iconst 5, 1) := by decide +kernel
theorem dL_law_473 : decode cL_law 473 = .ok (.iadd, 1) := by decide +kernel
theorem dL_law_474 : decode cL_law 474 = .ok (.iaload, 1) := by decide +kernel
theorem dL_law_475 : decode cL_law 475 = .ok (.i2l, 1) := by decide +kernel
theorem dL_law_476 : decode cL_law 476 = .ok (.ldc2_w 13, 3) := by decide +kernel
theorem dL_law_479 : decode cL_law 479 = .ok (.land, 1) := by decide +kernel
theorem dL_law_480 : decode cL_law 480 = .ok (.lor, 1) := by decide +kernel
theorem dL_law_481 : decode cL_law 481 = .ok (.aload_n 0, 1) := by decide +kernel
theorem dL_law_482 : decode cL_law 482 = .ok (.iload_n 3, 1) := by decide +kernel
theorem dL_law_483 : decode cL_law 483 = .ok (.bipush 6, 2) := by decide +kernel
theorem dL_law_485 : decode cL_law 485 = .ok (.iadd, 1) := by decide +kernel
theorem dL_law_486 : decode cL_law 486 = .ok (.iaload, 1) := by decide +kernel
theorem dL_law_487 : decode cL_law 487 = .ok (.invokevirtual 42, 3) := by decide +kernel
theorem dL_law_490 : decode cL_law 490 = .ok (.if_icmp .eq 329, 3) := by decide +kernel
theorem dL_law_493 : decode cL_law 493 = .ok (.iconst 0, 1) := by decide +kernel
theorem dL_law_494 : decode cL_law 494 = .ok (.ireturn, 1) := by decide +kernel
theorem dL_law_495 : decode cL_law 495 = .ok (.aload_n 1, 1) := by decide +kernel
theorem dL_law_496 : decode cL_law 496 = .ok (.aload_n 0, 1) := by decide +kernel
theorem dL_law_497 : decode cL_law 497 = .ok (.iload_n 3, 1) := by decide +kernel
theorem dL_law_498 : decode cL_law 498 = .ok (.iconst 1, 1) := by decide +kernel
theorem dL_law_499 : decode cL_law 499 = .ok (.iadd, 1) := by decide +kernel
theorem dL_law_500 : decode cL_law 500 = .ok (.iaload, 1) := by decide +kernel
theorem dL_law_501 : decode cL_law 501 = .ok (.aload_n 0, 1) := by decide +kernel
theorem dL_law_502 : decode cL_law 502 = .ok (.iload_n 3, 1) := by decide +kernel
theorem dL_law_503 : decode cL_law 503 = .ok (.iconst 2, 1) := by decide +kernel
theorem dL_law_504 : decode cL_law 504 = .ok (.iadd, 1) := by decide +kernel
theorem dL_law_505 : decode cL_law 505 = .ok (.iaload, 1) := by decide +kernel
theorem dL_law_506 : decode cL_law 506 = .ok (.aload_n 0, 1) := by decide +kernel
theorem dL_law_507 : decode cL_law 507 = .ok (.iload_n 3, 1) := by decide +kernel
theorem dL_law_508 : decode cL_law 508 = .ok (.iconst 3, 1) := by decide +kernel
theorem dL_law_509 : decode cL_law 509 = .ok (.iadd, 1) := by decide +kernel
theorem dL_law_510 : decode cL_law 510 = .ok (.iaload, 1) := by decide +kernel
theorem dL_law_511 : decode cL_law 511 = .ok (.i2l, 1) := by decide +kernel
theorem dL_law_512 : decode cL_law 512 = .ok (.bipush 32, 2) := by decide +kernel
theorem dL_law_514 : decode cL_law 514 = .ok (.lshl, 1) := by decide +kernel
theorem dL_law_515 : decode cL_law 515 = .ok (.aload_n 0, 1) := by decide +kernel
theorem dL_law_516 : decode cL_law 516 = .ok (.iload_n 3, 1) := by decide +kernel
theorem dL_law_517 : decode cL_law 517 = .ok (.iconst 4, 1) := by decide +kernel
theorem dL_law_518 : decode cL_law 518 = .ok (.iadd, 1) := by decide +kernel
theorem dL_law_519 : decode cL_law 519 = .ok (.iaload, 1) := by decide +kernel
theorem dL_law_520 : decode cL_law 520 = .ok (.i2l, 1) := by decide +kernel
theorem dL_law_521 : decode cL_law 521 = .ok (.ldc2_w 13, 3) := by decide +kernel
theorem dL_law_524 : decode cL_law 524 = .ok (.land, 1) := by decide +kernel
theorem dL_law_525 : decode cL_law 525 = .ok (.lor, 1) := by decide +kernel
theorem dL_law_526 : decode cL_law 526 = .ok (.invokevirtual 43, 3) := by decide +kernel
theorem dL_law_529 : decode cL_law 529 = .ok (.aload_n 2, 1) := by decide +kernel
theorem dL_law_530 : decode cL_law 530 = .ok (.aload_n 0, 1) := by decide +kernel
theorem dL_law_531 : decode cL_law 531 = .ok (.iload_n 3, 1) := by decide +kernel
theorem dL_law_532 : decode cL_law 532 = .ok (.iconst 1, 1) := by decide +kernel
theorem dL_law_533 : decode cL_law 533 = .ok (.iadd, 1) := by decide +kernel
theorem dL_law_534 : decode cL_law 534 = .ok (.iaload, 1) := by decide +kernel
theorem dL_law_535 : decode cL_law 535 = .ok (.aload_n 0, 1) := by decide +kernel
theorem dL_law_536 : decode cL_law 536 = .ok (.iload_n 3, 1) := by decide +kernel
theorem dL_law_537 : decode cL_law 537 = .ok (.iconst 2, 1) := by decide +kernel
theorem dL_law_538 : decode cL_law 538 = .ok (.iadd, 1) := by decide +kernel
theorem dL_law_539 : decode cL_law 539 = .ok (.iaload, 1) := by decide +kernel
theorem dL_law_540 : decode cL_law 540 = .ok (.aload_n 0, 1) := by decide +kernel
theorem dL_law_541 : decode cL_law 541 = .ok (.iload_n 3, 1) := by decide +kernel
theorem dL_law_542 : decode cL_law 542 = .ok (.iconst 3, 1) := by decide +kernel
theorem dL_law_543 : decode cL_law 543 = .ok (.iadd, 1) := by decide +kernel
theorem dL_law_544 : decode cL_law 544 = .ok (.iaload, 1) := by decide +kernel
theorem dL_law_545 : decode cL_law 545 = .ok (.i2l, 1) := by decide +kernel
theorem dL_law_546 : decode cL_law 546 = .ok (.bipush 32, 2) := by decide +kernel
theorem dL_law_548 : decode cL_law 548 = .ok (.lshl, 1) := by decide +kernel
theorem dL_law_549 : decode cL_law 549 = .ok (.aload_n 0, 1) := by decide +kernel
theorem dL_law_550 : decode cL_law 550 = .ok (.iload_n 3, 1) := by decide +kernel
theorem dL_law_551 : decode cL_law 551 = .ok (.iconst 4, 1) := by decide +kernel
theorem dL_law_552 : decode cL_law 552 = .ok (.iadd, 1) := by decide +kernel
theorem dL_law_553 : decode cL_law 553 = .ok (.iaload, 1) := by decide +kernel
theorem dL_law_554 : decode cL_law 554 = .ok (.i2l, 1) := by decide +kernel
theorem dL_law_555 : decode cL_law 555 = .ok (.ldc2_w 13, 3) := by decide +kernel
theorem dL_law_558 : decode cL_law 558 = .ok (.land, 1) := by decide +kernel
theorem dL_law_559 : decode cL_law 559 = .ok (.lor, 1) := by decide +kernel
theorem dL_law_560 : decode cL_law 560 = .ok (.invokevirtual 47, 3) := by decide +kernel
theorem dL_law_563 : decode cL_law 563 = .ok (.if_icmp .eq 256, 3) := by decide +kernel
theorem dL_law_566 : decode cL_law 566 = .ok (.iconst 0, 1) := by decide +kernel
theorem dL_law_567 : decode cL_law 567 = .ok (.ireturn, 1) := by decide +kernel
theorem dL_law_568 : decode cL_law 568 = .ok (.aload_n 1, 1) := by decide +kernel
theorem dL_law_569 : decode cL_law 569 = .ok (.aload_n 0, 1) := by decide +kernel
theorem dL_law_570 : decode cL_law 570 = .ok (.iload_n 3, 1) := by decide +kernel
theorem dL_law_571 : decode cL_law 571 = .ok (.iconst 1, 1) := by decide +kernel
theorem dL_law_572 : decode cL_law 572 = .ok (.iadd, 1) := by decide +kernel
theorem dL_law_573 : decode cL_law 573 = .ok (.iaload, 1) := by decide +kernel
theorem dL_law_574 : decode cL_law 574 = .ok (.aload_n 0, 1) := by decide +kernel
theorem dL_law_575 : decode cL_law 575 = .ok (.iload_n 3, 1) := by decide +kernel
theorem dL_law_576 : decode cL_law 576 = .ok (.iconst 2, 1) := by decide +kernel
theorem dL_law_577 : decode cL_law 577 = .ok (.iadd, 1) := by decide +kernel
theorem dL_law_578 : decode cL_law 578 = .ok (.iaload, 1) := by decide +kernel
theorem dL_law_579 : decode cL_law 579 = .ok (.invokevirtual 48, 3) := by decide +kernel
theorem dL_law_582 : decode cL_law 582 = .ok (.aload_n 2, 1) := by decide +kernel
theorem dL_law_583 : decode cL_law 583 = .ok (.aload_n 0, 1) := by decide +kernel
theorem dL_law_584 : decode cL_law 584 = .ok (.iload_n 3, 1) := by decide +kernel
theorem dL_law_585 : decode cL_law 585 = .ok (.iconst 1, 1) := by decide +kernel
theorem dL_law_586 : decode cL_law 586 = .ok (.iadd, 1) := by decide +kernel
theorem dL_law_587 : decode cL_law 587 = .ok (.iaload, 1) := by decide +kernel
theorem dL_law_588 : decode cL_law 588 = .ok (.aload_n 0, 1) := by decide +kernel
theorem dL_law_589 : decode cL_law 589 = .ok (.iload_n 3, 1) := by decide +kernel
theorem dL_law_590 : decode cL_law 590 = .ok (.iconst 2, 1) := by decide +kernel
theorem dL_law_591 : decode cL_law 591 = .ok (.iadd, 1) := by decide +kernel
theorem dL_law_592 : decode cL_law 592 = .ok (.iaload, 1) := by decide +kernel
theorem dL_law_593 : decode cL_law 593 = .ok (.invokevirtual 52, 3) := by decide +kernel
theorem dL_law_596 : decode cL_law 596 = .ok (.if_icmp .eq 223, 3) := by decide +kernel
theorem dL_law_599 : decode cL_law 599 = .ok (.iconst 0, 1) := by decide +kernel
theorem dL_law_600 : decode cL_law 600 = .ok (.ireturn, 1) := by decide +kernel
theorem dL_law_601 : decode cL_law 601 = .ok (.aload_n 1, 1) := by decide +kernel
theorem dL_law_602 : decode cL_law 602 = .ok (.aload_n 0, 1) := by decide +kernel
theorem dL_law_603 : decode cL_law 603 = .ok (.iload_n 3, 1) := by decide +kernel
theorem dL_law_604 : decode cL_law 604 = .ok (.iconst 1, 1) := by decide +kernel
theorem dL_law_605 : decode cL_law 605 = .ok (.iadd, 1) := by decide +kernel
theorem dL_law_606 : decode cL_law 606 = .ok (.iaload, 1) := by decide +kernel
theorem dL_law_607 : decode cL_law 607 = .ok (.aload_n 0, 1) := by decide +kernel
theorem dL_law_608 : decode cL_law 608 = .ok (.iload_n 3, 1) := by decide +kernel
theorem dL_law_609 : decode cL_law 609 = .ok (.iconst 2, 1) := by decide +kernel
theorem dL_law_610 : decode cL_law 610 = .ok (.iadd, 1) := by decide +kernel
theorem dL_law_611 : decode cL_law 611 = .ok (.iaload, 1) := by decide +kernel
theorem dL_law_612 : decode cL_law 612 = .ok (.i2l, 1) := by decide +kernel
theorem dL_law_613 : decode cL_law 613 = .ok (.bipush 32, 2) := by decide +kernel
theorem dL_law_615 : decode cL_law 615 = .ok (.lshl, 1) := by decide +kernel
theorem dL_law_616 : decode cL_law 616 = .ok (.aload_n 0, 1) := by decide +kernel
theorem dL_law_617 : decode cL_law 617 = .ok (.iload_n 3, 1) := by decide +kernel
theorem dL_law_618 : decode cL_law 618 = .ok (.iconst 3, 1) := by decide +kernel
theorem dL_law_619 : decode cL_law 619 = .ok (.iadd, 1) := by decide +kernel
theorem dL_law_620 : decode cL_law 620 = .ok (.iaload, 1) := by decide +kernel
theorem dL_law_621 : decode cL_law 621 = .ok (.i2l, 1) := by decide +kernel
theorem dL_law_622 : decode cL_law 622 = .ok (.ldc2_w 13, 3) := by decide +kernel
theorem dL_law_625 : decode cL_law 625 = .ok (.land, 1) := by decide +kernel
theorem dL_law_626 : decode cL_law 626 = .ok (.lor, 1) := by decide +kernel
theorem dL_law_627 : decode cL_law 627 = .ok (.aload_n 0, 1) := by decide +kernel
theorem dL_law_628 : decode cL_law 628 = .ok (.iload_n 3, 1) := by decide +kernel
theorem dL_law_629 : decode cL_law 629 = .ok (.iconst 4, 1) := by decide +kernel
theorem dL_law_630 : decode cL_law 630 = .ok (.iadd, 1) := by decide +kernel
theorem dL_law_631 : decode cL_law 631 = .ok (.iaload, 1) := by decide +kernel
theorem dL_law_632 : decode cL_law 632 = .ok (.invokevirtual 53, 3) := by decide +kernel
theorem dL_law_635 : decode cL_law 635 = .ok (.aload_n 2, 1) := by decide +kernel
theorem dL_law_636 : decode cL_law 636 = .ok (.aload_n 0, 1) := by decide +kernel
theorem dL_law_637 : decode cL_law 637 = .ok (.iload_n 3, 1) := by decide +kernel
theorem dL_law_638 : decode cL_law 638 = .ok (.iconst 1, 1) := by decide +kernel
theorem dL_law_639 : decode cL_law 639 = .ok (.iadd, 1) := by decide +kernel
theorem dL_law_640 : decode cL_law 640 = .ok (.iaload, 1) := by decide +kernel
theorem dL_law_641 : decode cL_law 641 = .ok (.aload_n 0, 1) := by decide +kernel
theorem dL_law_642 : decode cL_law 642 = .ok (.iload_n 3, 1) := by decide +kernel
theorem dL_law_643 : decode cL_law 643 = .ok (.iconst 2, 1) := by decide +kernel
theorem dL_law_644 : decode cL_law 644 = .ok (.iadd, 1) := by decide +kernel
theorem dL_law_645 : decode cL_law 645 = .ok (.iaload, 1) := by decide +kernel
theorem dL_law_646 : decode cL_law 646 = .ok (.i2l, 1) := by decide +kernel
theorem dL_law_647 : decode cL_law 647 = .ok (.bipush 32, 2) := by decide +kernel
theorem dL_law_649 : decode cL_law 649 = .ok (.lshl, 1) := by decide +kernel
theorem dL_law_650 : decode cL_law 650 = .ok (.aload_n 0, 1) := by decide +kernel
theorem dL_law_651 : decode cL_law 651 = .ok (.iload_n 3, 1) := by decide +kernel
theorem dL_law_652 : decode cL_law 652 = .ok (.iconst 3, 1) := by decide +kernel
theorem dL_law_653 : decode cL_law 653 = .ok (.iadd, 1) := by decide +kernel
theorem dL_law_654 : decode cL_law 654 = .ok (.iaload, 1) := by decide +kernel
theorem dL_law_655 : decode cL_law 655 = .ok (.i2l, 1) := by decide +kernel
theorem dL_law_656 : decode cL_law 656 = .ok (.ldc2_w 13, 3) := by decide +kernel
theorem dL_law_659 : decode cL_law 659 = .ok (.land, 1) := by decide +kernel
theorem dL_law_660 : decode cL_law 660 = .ok (.lor, 1) := by decide +kernel
theorem dL_law_661 : decode cL_law 661 = .ok (.aload_n 0, 1) := by decide +kernel
theorem dL_law_662 : decode cL_law 662 = .ok (.iload_n 3, 1) := by decide +kernel
theorem dL_law_663 : decode cL_law 663 = .ok (.iconst 4, 1) := by decide +kernel
theorem dL_law_664 : decode cL_law 664 = .ok (.iadd, 1) := by decide +kernel
theorem dL_law_665 : decode cL_law 665 = .ok (.iaload, 1) := by decide +kernel
theorem dL_law_666 : decode cL_law 666 = .ok (.invokevirtual 57, 3) := by decide +kernel
theorem dL_law_669 : decode cL_law 669 = .ok (.if_icmp .eq 150, 3) := by decide +kernel
theorem dL_law_672 : decode cL_law 672 = .ok (.iconst 0, 1) := by decide +kernel
theorem dL_law_673 : decode cL_law 673 = .ok (.ireturn, 1) := by decide +kernel
theorem dL_law_674 : decode cL_law 674 = .ok (.aload_n 1, 1) := by decide +kernel
theorem dL_law_675 : decode cL_law 675 = .ok (.aload_n 0, 1) := by decide +kernel
theorem dL_law_676 : decode cL_law 676 = .ok (.iload_n 3, 1) := by decide +kernel
theorem dL_law_677 : decode cL_law 677 = .ok (.iconst 1, 1) := by decide +kernel
theorem dL_law_678 : decode cL_law 678 = .ok (.iadd, 1) := by decide +kernel
theorem dL_law_679 : decode cL_law 679 = .ok (.iaload, 1) := by decide +kernel
theorem dL_law_680 : decode cL_law 680 = .ok (.aload_n 0, 1) := by decide +kernel
theorem dL_law_681 : decode cL_law 681 = .ok (.iload_n 3, 1) := by decide +kernel
theorem dL_law_682 : decode cL_law 682 = .ok (.iconst 2, 1) := by decide +kernel
theorem dL_law_683 : decode cL_law 683 = .ok (.iadd, 1) := by decide +kernel
theorem dL_law_684 : decode cL_law 684 = .ok (.iaload, 1) := by decide +kernel
theorem dL_law_685 : decode cL_law 685 = .ok (.invokevirtual 58, 3) := by decide +kernel
theorem dL_law_688 : decode cL_law 688 = .ok (.aload_n 2, 1) := by decide +kernel
theorem dL_law_689 : decode cL_law 689 = .ok (.aload_n 0, 1) := by decide +kernel
theorem dL_law_690 : decode cL_law 690 = .ok (.iload_n 3, 1) := by decide +kernel
theorem dL_law_691 : decode cL_law 691 = .ok (.iconst 1, 1) := by decide +kernel
theorem dL_law_692 : decode cL_law 692 = .ok (.iadd, 1) := by decide +kernel
theorem dL_law_693 : decode cL_law 693 = .ok (.iaload, 1) := by decide +kernel
theorem dL_law_694 : decode cL_law 694 = .ok (.aload_n 0, 1) := by decide +kernel
theorem dL_law_695 : decode cL_law 695 = .ok (.iload_n 3, 1) := by decide +kernel
theorem dL_law_696 : decode cL_law 696 = .ok (.iconst 2, 1) := by decide +kernel
theorem dL_law_697 : decode cL_law 697 = .ok (.iadd, 1) := by decide +kernel
theorem dL_law_698 : decode cL_law 698 = .ok (.iaload, 1) := by decide +kernel
theorem dL_law_699 : decode cL_law 699 = .ok (.invokevirtual 61, 3) := by decide +kernel
theorem dL_law_702 : decode cL_law 702 = .ok (.if_icmp .eq 117, 3) := by decide +kernel
theorem dL_law_705 : decode cL_law 705 = .ok (.iconst 0, 1) := by decide +kernel
theorem dL_law_706 : decode cL_law 706 = .ok (.ireturn, 1) := by decide +kernel
theorem dL_law_707 : decode cL_law 707 = .ok (.aload_n 1, 1) := by decide +kernel
theorem dL_law_708 : decode cL_law 708 = .ok (.aload_n 0, 1) := by decide +kernel
theorem dL_law_709 : decode cL_law 709 = .ok (.iload_n 3, 1) := by decide +kernel
theorem dL_law_710 : decode cL_law 710 = .ok (.iconst 1, 1) := by decide +kernel
theorem dL_law_711 : decode cL_law 711 = .ok (.iadd, 1) := by decide +kernel
theorem dL_law_712 : decode cL_law 712 = .ok (.iaload, 1) := by decide +kernel
theorem dL_law_713 : decode cL_law 713 = .ok (.invokevirtual 62, 3) := by decide +kernel
theorem dL_law_716 : decode cL_law 716 = .ok (.aload_n 2, 1) := by decide +kernel
theorem dL_law_717 : decode cL_law 717 = .ok (.aload_n 0, 1) := by decide +kernel
theorem dL_law_718 : decode cL_law 718 = .ok (.iload_n 3, 1) := by decide +kernel
theorem dL_law_719 : decode cL_law 719 = .ok (.iconst 1, 1) := by decide +kernel
theorem dL_law_720 : decode cL_law 720 = .ok (.iadd, 1) := by decide +kernel
theorem dL_law_721 : decode cL_law 721 = .ok (.iaload, 1) := by decide +kernel
theorem dL_law_722 : decode cL_law 722 = .ok (.invokevirtual 66, 3) := by decide +kernel
theorem dL_law_725 : decode cL_law 725 = .ok (.if_icmp .eq 94, 3) := by decide +kernel
theorem dL_law_728 : decode cL_law 728 = .ok (.iconst 0, 1) := by decide +kernel
theorem dL_law_729 : decode cL_law 729 = .ok (.ireturn, 1) := by decide +kernel
theorem dL_law_730 : decode cL_law 730 = .ok (.aload_n 1, 1) := by decide +kernel
theorem dL_law_731 : decode cL_law 731 = .ok (.aload_n 0, 1) := by decide +kernel
theorem dL_law_732 : decode cL_law 732 = .ok (.iload_n 3, 1) := by decide +kernel
theorem dL_law_733 : decode cL_law 733 = .ok (.iconst 1, 1) := by decide +kernel
theorem dL_law_734 : decode cL_law 734 = .ok (.iadd, 1) := by decide +kernel
theorem dL_law_735 : decode cL_law 735 = .ok (.iaload, 1) := by decide +kernel
theorem dL_law_736 : decode cL_law 736 = .ok (.aload_n 0, 1) := by decide +kernel
theorem dL_law_737 : decode cL_law 737 = .ok (.iload_n 3, 1) := by decide +kernel
theorem dL_law_738 : decode cL_law 738 = .ok (.iconst 2, 1) := by decide +kernel
theorem dL_law_739 : decode cL_law 739 = .ok (.iadd, 1) := by decide +kernel
theorem dL_law_740 : decode cL_law 740 = .ok (.iaload, 1) := by decide +kernel
theorem dL_law_741 : decode cL_law 741 = .ok (.invokevirtual 67, 3) := by decide +kernel
theorem dL_law_744 : decode cL_law 744 = .ok (.aload_n 2, 1) := by decide +kernel
theorem dL_law_745 : decode cL_law 745 = .ok (.aload_n 0, 1) := by decide +kernel
theorem dL_law_746 : decode cL_law 746 = .ok (.iload_n 3, 1) := by decide +kernel
theorem dL_law_747 : decode cL_law 747 = .ok (.iconst 1, 1) := by decide +kernel
theorem dL_law_748 : decode cL_law 748 = .ok (.iadd, 1) := by decide +kernel
theorem dL_law_749 : decode cL_law 749 = .ok (.iaload, 1) := by decide +kernel
theorem dL_law_750 : decode cL_law 750 = .ok (.aload_n 0, 1) := by decide +kernel
theorem dL_law_751 : decode cL_law 751 = .ok (.iload_n 3, 1) := by decide +kernel
theorem dL_law_752 : decode cL_law 752 = .ok (.iconst 2, 1) := by decide +kernel
theorem dL_law_753 : decode cL_law 753 = .ok (.iadd, 1) := by decide +kernel
theorem dL_law_754 : decode cL_law 754 = .ok (.iaload, 1) := by decide +kernel
theorem dL_law_755 : decode cL_law 755 = .ok (.invokevirtual 70, 3) := by decide +kernel
theorem dL_law_758 : decode cL_law 758 = .ok (.if_icmp .eq 61, 3) := by decide +kernel
theorem dL_law_761 : decode cL_law 761 = .ok (.iconst 0, 1) := by decide +kernel
theorem dL_law_762 : decode cL_law 762 = .ok (.ireturn, 1) := by decide +kernel
theorem dL_law_763 : decode cL_law 763 = .ok (.aload_n 1, 1) := by decide +kernel
theorem dL_law_764 : decode cL_law 764 = .ok (.aload_n 0, 1) := by decide +kernel
theorem dL_law_765 : decode cL_law 765 = .ok (.iload_n 3, 1) := by decide +kernel
theorem dL_law_766 : decode cL_law 766 = .ok (.iconst 1, 1) := by decide +kernel
theorem dL_law_767 : decode cL_law 767 = .ok (.iadd, 1) := by decide +kernel
theorem dL_law_768 : decode cL_law 768 = .ok (.iaload, 1) := by decide +kernel
theorem dL_law_769 : decode cL_law 769 = .ok (.invokevirtual 71, 3) := by decide +kernel
theorem dL_law_772 : decode cL_law 772 = .ok (.aload_n 2, 1) := by decide +kernel
theorem dL_law_773 : decode cL_law 773 = .ok (.aload_n 0, 1) := by decide +kernel
theorem dL_law_774 : decode cL_law 774 = .ok (.iload_n 3, 1) := by decide +kernel
theorem dL_law_775 : decode cL_law 775 = .ok (.iconst 1, 1) := by decide +kernel
theorem dL_law_776 : decode cL_law 776 = .ok (.iadd, 1) := by decide +kernel
theorem dL_law_777 : decode cL_law 777 = .ok (.iaload, 1) := by decide +kernel
theorem dL_law_778 : decode cL_law 778 = .ok (.invokevirtual 75, 3) := by decide +kernel
theorem dL_law_781 : decode cL_law 781 = .ok (.if_icmp .eq 38, 3) := by decide +kernel
theorem dL_law_784 : decode cL_law 784 = .ok (.iconst 0, 1) := by decide +kernel
theorem dL_law_785 : decode cL_law 785 = .ok (.ireturn, 1) := by decide +kernel
theorem dL_law_786 : decode cL_law 786 = .ok (.aload_n 1, 1) := by decide +kernel
theorem dL_law_787 : decode cL_law 787 = .ok (.aload_n 0, 1) := by decide +kernel
theorem dL_law_788 : decode cL_law 788 = .ok (.iload_n 3, 1) := by decide +kernel
theorem dL_law_789 : decode cL_law 789 = .ok (.iconst 1, 1) := by decide +kernel
theorem dL_law_790 : decode cL_law 790 = .ok (.iadd, 1) := by decide +kernel
theorem dL_law_791 : decode cL_law 791 = .ok (.iaload, 1) := by decide +kernel
theorem dL_law_792 : decode cL_law 792 = .ok (.aload_n 0, 1) := by decide +kernel
theorem dL_law_793 : decode cL_law 793 = .ok (.iload_n 3, 1) := by decide +kernel
theorem dL_law_794 : decode cL_law 794 = .ok (.iconst 2, 1) := by decide +kernel
theorem dL_law_795 : decode cL_law 795 = .ok (.iadd, 1) := by decide +kernel
theorem dL_law_796 : decode cL_law 796 = .ok (.iaload, 1) := by decide +kernel
theorem dL_law_797 : decode cL_law 797 = .ok (.invokevirtual 76, 3) := by decide +kernel
theorem dL_law_800 : decode cL_law 800 = .ok (.aload_n 2, 1) := by decide +kernel
theorem dL_law_801 : decode cL_law 801 = .ok (.aload_n 0, 1) := by decide +kernel
theorem dL_law_802 : decode cL_law 802 = .ok (.iload_n 3, 1) := by decide +kernel
theorem dL_law_803 : decode cL_law 803 = .ok (.iconst 1, 1) := by decide +kernel
theorem dL_law_804 : decode cL_law 804 = .ok (.iadd, 1) := by decide +kernel
theorem dL_law_805 : decode cL_law 805 = .ok (.iaload, 1) := by decide +kernel
theorem dL_law_806 : decode cL_law 806 = .ok (.aload_n 0, 1) := by decide +kernel
theorem dL_law_807 : decode cL_law 807 = .ok (.iload_n 3, 1) := by decide +kernel
theorem dL_law_808 : decode cL_law 808 = .ok (.iconst 2, 1) := by decide +kernel
theorem dL_law_809 : decode cL_law 809 = .ok (.iadd, 1) := by decide +kernel
theorem dL_law_810 : decode cL_law 810 = .ok (.iaload, 1) := by decide +kernel
theorem dL_law_811 : decode cL_law 811 = .ok (.invokevirtual 79, 3) := by decide +kernel
theorem dL_law_814 : decode cL_law 814 = .ok (.if_icmp .eq 5, 3) := by decide +kernel
theorem dL_law_817 : decode cL_law 817 = .ok (.iconst 0, 1) := by decide +kernel
theorem dL_law_818 : decode cL_law 818 = .ok (.ireturn, 1) := by decide +kernel
theorem dL_law_819 : decode cL_law 819 = .ok (.iinc 3 7, 3) := by decide +kernel
theorem dL_law_822 : decode cL_law 822 = .ok (.goto (-804), 3) := by decide +kernel
theorem dL_law_825 : decode cL_law 825 = .ok (.iconst 1, 1) := by decide +kernel
theorem dL_law_826 : decode cL_law 826 = .ok (.ireturn, 1) := by decide +kernel
abbrev vwCl : List vw_C := [(RX0, TX0, 2), (RX1, TX1, 5), (RX2, TX2, 8)]
