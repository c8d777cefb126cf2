section
-- ===== PART A: goes FIRST, ahead of the names: the tables' words, and 'selects' of the private methods out of them =====
/-- a private method of a class that the tables say can be made, by its rows of tables_1 -/
def lw_okq (q : MethodName × Nat) : Prop := (q.1.cls ≠ "java/lang/invoke/MethodHandle" ∧ q.1.cls ≠ "java/lang/invoke/VarHandle") ∧ Cond.instantiable q.1.cls q.2 ∈ tables_1 ∧ Cond.privateMethod q.1 ∈ tables_1 ∧ Cond.instanceMethod q.1 ∈ tables_1
theorem lw_p0 : lw_okq (⟨"ExactDesk$Wide", "addWords", "(JJ)V"⟩, 2) := ⟨⟨by decide +kernel, by decide +kernel⟩, List.mem_of_getElem? (i := 14) (by decide +kernel), List.mem_of_getElem? (i := 74) (by decide +kernel), List.mem_of_getElem? (i := 75) (by decide +kernel)⟩
theorem lw_p1 : lw_okq (⟨"ExactDesk", "keepInRegister", "(I)I"⟩, 5) := ⟨⟨by decide +kernel, by decide +kernel⟩, List.mem_of_getElem? (i := 5) (by decide +kernel), List.mem_of_getElem? (i := 82) (by decide +kernel), List.mem_of_getElem? (i := 83) (by decide +kernel)⟩
theorem lw_p2 : lw_okq (⟨"ExactDesk", "divideOutcome", "(JI)V"⟩, 5) := ⟨⟨by decide +kernel, by decide +kernel⟩, List.mem_of_getElem? (i := 5) (by decide +kernel), List.mem_of_getElem? (i := 118) (by decide +kernel), List.mem_of_getElem? (i := 119) (by decide +kernel)⟩
theorem lw_p3 : lw_okq (⟨"ExactDesk", "keepInTally", "(I)I"⟩, 5) := ⟨⟨by decide +kernel, by decide +kernel⟩, List.mem_of_getElem? (i := 5) (by decide +kernel), List.mem_of_getElem? (i := 146) (by decide +kernel), List.mem_of_getElem? (i := 147) (by decide +kernel)⟩
theorem lw_p4 : lw_okq (⟨"ExactDesk", "upperHalf", "(LExactDesk$Wide;)J"⟩, 5) := ⟨⟨by decide +kernel, by decide +kernel⟩, List.mem_of_getElem? (i := 5) (by decide +kernel), List.mem_of_getElem? (i := 182) (by decide +kernel), List.mem_of_getElem? (i := 183) (by decide +kernel)⟩
theorem lw_p5 : lw_okq (⟨"ExactDesk", "lowerHalf", "(LExactDesk$Wide;)J"⟩, 5) := ⟨⟨by decide +kernel, by decide +kernel⟩, List.mem_of_getElem? (i := 5) (by decide +kernel), List.mem_of_getElem? (i := 190) (by decide +kernel), List.mem_of_getElem? (i := 191) (by decide +kernel)⟩
theorem lw_p6 : lw_okq (⟨"ExactDeskModel", "sum", "(IJZ)I"⟩, 8) := ⟨⟨by decide +kernel, by decide +kernel⟩, List.mem_of_getElem? (i := 201) (by decide +kernel), List.mem_of_getElem? (i := 249) (by decide +kernel), List.mem_of_getElem? (i := 250) (by decide +kernel)⟩
theorem lw_p7 : lw_okq (⟨"ExactDeskModel", "join", "(Z)V"⟩, 8) := ⟨⟨by decide +kernel, by decide +kernel⟩, List.mem_of_getElem? (i := 201) (by decide +kernel), List.mem_of_getElem? (i := 257) (by decide +kernel), List.mem_of_getElem? (i := 258) (by decide +kernel)⟩
theorem lw_p8 : lw_okq (⟨"ExactDeskModel", "store", "(I)I"⟩, 8) := ⟨⟨by decide +kernel, by decide +kernel⟩, List.mem_of_getElem? (i := 201) (by decide +kernel), List.mem_of_getElem? (i := 273) (by decide +kernel), List.mem_of_getElem? (i := 274) (by decide +kernel)⟩
theorem lw_p9 : lw_okq (⟨"ExactDeskModel", "multiply", "()V"⟩, 8) := ⟨⟨by decide +kernel, by decide +kernel⟩, List.mem_of_getElem? (i := 201) (by decide +kernel), List.mem_of_getElem? (i := 286) (by decide +kernel), List.mem_of_getElem? (i := 287) (by decide +kernel)⟩
theorem lw_p10 : lw_okq (⟨"ExactDeskModel", "divide", "()V"⟩, 8) := ⟨⟨by decide +kernel, by decide +kernel⟩, List.mem_of_getElem? (i := 201) (by decide +kernel), List.mem_of_getElem? (i := 297) (by decide +kernel), List.mem_of_getElem? (i := 298) (by decide +kernel)⟩
theorem lw_p11 : lw_okq (⟨"ExactDeskModel", "read", "(I)V"⟩, 8) := ⟨⟨by decide +kernel, by decide +kernel⟩, List.mem_of_getElem? (i := 201) (by decide +kernel), List.mem_of_getElem? (i := 311) (by decide +kernel), List.mem_of_getElem? (i := 312) (by decide +kernel)⟩
theorem lw_p12 : lw_okq (⟨"ExactDeskModel", "keep", "(I)I"⟩, 8) := ⟨⟨by decide +kernel, by decide +kernel⟩, List.mem_of_getElem? (i := 201) (by decide +kernel), List.mem_of_getElem? (i := 315) (by decide +kernel), List.mem_of_getElem? (i := 316) (by decide +kernel)⟩
def lw_privs_1 : List (MethodName × Nat) := [(⟨"ExactDesk$Wide", "addWords", "(JJ)V"⟩, 2), (⟨"ExactDesk", "keepInRegister", "(I)I"⟩, 5), (⟨"ExactDesk", "divideOutcome", "(JI)V"⟩, 5), (⟨"ExactDesk", "keepInTally", "(I)I"⟩, 5), (⟨"ExactDesk", "upperHalf", "(LExactDesk$Wide;)J"⟩, 5), (⟨"ExactDesk", "lowerHalf", "(LExactDesk$Wide;)J"⟩, 5), (⟨"ExactDeskModel", "sum", "(IJZ)I"⟩, 8), (⟨"ExactDeskModel", "join", "(Z)V"⟩, 8), (⟨"ExactDeskModel", "store", "(I)I"⟩, 8), (⟨"ExactDeskModel", "multiply", "()V"⟩, 8), (⟨"ExactDeskModel", "divide", "()V"⟩, 8), (⟨"ExactDeskModel", "read", "(I)V"⟩, 8), (⟨"ExactDeskModel", "keep", "(I)I"⟩, 8)]
theorem lw_r1 : ∀ q ∈ lw_privs_1, lw_okq q := List.forall_mem_cons.mpr ⟨lw_p0, List.forall_mem_cons.mpr ⟨lw_p1, List.forall_mem_cons.mpr ⟨lw_p2, List.forall_mem_cons.mpr ⟨lw_p3, List.forall_mem_cons.mpr ⟨lw_p4, List.forall_mem_cons.mpr ⟨lw_p5, List.forall_mem_cons.mpr ⟨lw_p6, List.forall_mem_cons.mpr ⟨lw_p7, List.forall_mem_cons.mpr ⟨lw_p8, List.forall_mem_cons.mpr ⟨lw_p9, List.forall_mem_cons.mpr ⟨lw_p10, List.forall_mem_cons.mpr ⟨lw_p11, List.forall_mem_cons.mpr ⟨lw_p12, fun _ h => absurd h List.not_mem_nil⟩⟩⟩⟩⟩⟩⟩⟩⟩⟩⟩⟩⟩
def lw_privs : List (MethodName × Nat) := lw_privs_1
def lw_tbl : List Cond := k2_sels lw_privs ++ tables_1
theorem lw_privs_ok : ∀ q ∈ lw_privs, lw_okq q := lw_r1
end
section
/-! ===== BEGIN words of one list among another's, by their places ===== -/
theorem goodIn_r {big : List Cond} (ws : List Cond) (ps : List Nat) (hp : ws = ps.filterMap (fun i => big[i]?)) (h : ws.all goodWord = true) : GoodIn big ws := by
  intro w hw
  have h1 := List.all_eq_true.mp h w hw
  rw [hp] at hw
  obtain ⟨i, -, hi⟩ := List.mem_filterMap.mp hw
  have hm : w ∈ big := by first | exact List.mem_of_getElem? hi | exact List.getElem?_mem hi
  exact ⟨hm, good_of_word h1⟩
theorem goodIn_app {big a b : List Cond} (ha : GoodIn big a) (hb : GoodIn big b) : GoodIn big (a ++ b) := fun w h => (List.mem_append.mp h).elim (ha w) (hb w)
theorem goodIn_ca {big a b : List Cond} {c : Cond} (ha : GoodIn big (c :: a)) (hb : GoodIn big b) : GoodIn big (c :: (a ++ b)) := fun w h => (List.mem_cons.mp h).elim (fun e => ha w (List.mem_cons.mpr (Or.inl e))) (fun h => (List.mem_append.mp h).elim (fun h => ha w (List.mem_cons.mpr (Or.inr h))) (hb w))
theorem goodIn_sub {big ws : List Cond} (hm : ∀ w ∈ ws, w ∈ big) (h : ws.all goodWord = true) : GoodIn big ws := fun w hw => ⟨hm w hw, good_of_word (List.all_eq_true.mp h w hw)⟩
/-! ===== END ===== -/

/-! ===== BEGIN printed: names, fields, word lists, decode rows ===== -/
def RX0 : String := "ExactDesk$Wide"
def TX0 : u_T := fun k => match k with
  | 0 => ("ExactDesk$Wide", "high", "J", false)
  | _ => ("ExactDesk$Wide", "low", "J", false)
def tyX0 : Nat → FieldType := fun k => match k with
  | 0 => .long
  | _ => .long
abbrev wsX00 : List Cond := u_ws RX0 TX0 2
theorem nmX0 : ∀ a, a < 2 → ∀ b, b < 2 → a ≠ b → (TX0 a).2.1 ≠ (TX0 b).2.1 := by decide +kernel
theorem tyX0_ok : ∀ k, k < 2 → parseFieldDescriptor (TX0 k).2.2.1 = some (tyX0 k) := by decide +kernel
abbrev cX0_init : ByteArray := prog_2_method_1_code
def yX0_init : MethodName := ⟨RX0, "<init>", "()V"⟩
abbrev cX0_become : ByteArray := prog_2_method_2_code
def yX0_become : MethodName := ⟨RX0, "become", "(J)V"⟩
abbrev cX0_become_ : ByteArray := prog_2_method_3_code
def yX0_become_ : MethodName := ⟨RX0, "become", "(LExactDesk$Wide;)V"⟩
abbrev cX0_becomeProduct : ByteArray := prog_2_method_4_code
def yX0_becomeProduct : MethodName := ⟨RX0, "becomeProduct", "(JJ)V"⟩
abbrev cX0_increase : ByteArray := prog_2_method_5_code
def yX0_increase : MethodName := ⟨RX0, "increase", "(J)V"⟩
abbrev cX0_increase_ : ByteArray := prog_2_method_6_code
def yX0_increase_ : MethodName := ⟨RX0, "increase", "(LExactDesk$Wide;)V"⟩
abbrev cX0_addWords : ByteArray := prog_2_method_7_code
def yX0_addWords : MethodName := ⟨RX0, "addWords", "(JJ)V"⟩
abbrev cX0_negate : ByteArray := prog_2_method_8_code
def yX0_negate : MethodName := ⟨RX0, "negate", "()V"⟩
abbrev cX0_dropSign : ByteArray := prog_2_method_9_code
def yX0_dropSign : MethodName := ⟨RX0, "dropSign", "()V"⟩
abbrev cX0_divideBy : ByteArray := prog_2_method_10_code
def yX0_divideBy : MethodName := ⟨RX0, "divideBy", "(J)J"⟩
abbrev cX0_orderTo : ByteArray := prog_2_method_11_code
def yX0_orderTo : MethodName := ⟨RX0, "orderTo", "(LExactDesk$Wide;)I"⟩
abbrev cX0_isNegative : ByteArray := prog_2_method_12_code
def yX0_isNegative : MethodName := ⟨RX0, "isNegative", "()Z"⟩
abbrev cX0_fitsLong : ByteArray := prog_2_method_13_code
def yX0_fitsLong : MethodName := ⟨RX0, "fitsLong", "()Z"⟩
abbrev cX0_lowWord : ByteArray := prog_2_method_14_code
def yX0_lowWord : MethodName := ⟨RX0, "lowWord", "()J"⟩
abbrev cX0_unsignedLess : ByteArray := prog_2_method_15_code
def yX0_unsignedLess : MethodName := ⟨RX0, "unsignedLess", "(JJ)Z"⟩
def RX1 : String := "ExactDesk"
def TX1 : u_T := fun k => match k with
  | 0 => ("ExactDesk", "registers", "[J", true)
  | 1 => ("ExactDesk", "tallies", "[LExactDesk$Wide;", true)
  | 2 => ("ExactDesk", "tallyCeiling", "LExactDesk$Wide;", true)
  | 3 => ("ExactDesk", "tallyFloor", "LExactDesk$Wide;", true)
  | _ => ("ExactDesk", "outcome", "LExactDesk$Wide;", true)
def tyX1 : Nat → FieldType := fun k => match k with
  | 0 => .array .long
  | 1 => .array (.object "ExactDesk$Wide")
  | 2 => .object "ExactDesk$Wide"
  | 3 => .object "ExactDesk$Wide"
  | _ => .object "ExactDesk$Wide"
abbrev wsX10 : List Cond := u_ws RX1 TX1 5
theorem nmX1 : ∀ a, a < 5 → ∀ b, b < 5 → a ≠ b → (TX1 a).2.1 ≠ (TX1 b).2.1 := by decide +kernel
theorem tyX1_ok : ∀ k, k < 5 → parseFieldDescriptor (TX1 k).2.2.1 = some (tyX1 k) := by decide +kernel
abbrev cX1_init : ByteArray := prog_1_method_1_code
def yX1_init : MethodName := ⟨RX1, "<init>", "()V"⟩
abbrev cX1_set : ByteArray := prog_1_method_2_code
def yX1_set : MethodName := ⟨RX1, "set", "(IJ)Z"⟩
abbrev cX1_get : ByteArray := prog_1_method_3_code
def yX1_get : MethodName := ⟨RX1, "get", "(I)J"⟩
abbrev cX1_add : ByteArray := prog_1_method_4_code
def yX1_add : MethodName := ⟨RX1, "add", "(IJ)I"⟩
abbrev cX1_subtract : ByteArray := prog_1_method_5_code
def yX1_subtract : MethodName := ⟨RX1, "subtract", "(IJ)I"⟩
abbrev cX1_times : ByteArray := prog_1_method_6_code
def yX1_times : MethodName := ⟨RX1, "times", "(IJ)I"⟩
abbrev cX1_share : ByteArray := prog_1_method_7_code
def yX1_share : MethodName := ⟨RX1, "share", "(IJJI)I"⟩
abbrev cX1_enter : ByteArray := prog_1_method_8_code
def yX1_enter : MethodName := ⟨RX1, "enter", "(IIJ)I"⟩
abbrev cX1_merge : ByteArray := prog_1_method_9_code
def yX1_merge : MethodName := ⟨RX1, "merge", "(II)I"⟩
abbrev cX1_split : ByteArray := prog_1_method_10_code
def yX1_split : MethodName := ⟨RX1, "split", "(IJI)I"⟩
abbrev cX1_take : ByteArray := prog_1_method_11_code
def yX1_take : MethodName := ⟨RX1, "take", "(II)I"⟩
abbrev cX1_clear : ByteArray := prog_1_method_12_code
def yX1_clear : MethodName := ⟨RX1, "clear", "(I)Z"⟩
abbrev cX1_compare : ByteArray := prog_1_method_13_code
def yX1_compare : MethodName := ⟨RX1, "compare", "(II)I"⟩
abbrev cX1_digits : ByteArray := prog_1_method_14_code
def yX1_digits : MethodName := ⟨RX1, "digits", "(I)I"⟩
abbrev cX1_digit : ByteArray := prog_1_method_15_code
def yX1_digit : MethodName := ⟨RX1, "digit", "(II)I"⟩
abbrev cX1_isRegister : ByteArray := prog_1_method_16_code
def yX1_isRegister : MethodName := ⟨RX1, "isRegister", "(I)Z"⟩
abbrev cX1_isTally : ByteArray := prog_1_method_17_code
def yX1_isTally : MethodName := ⟨RX1, "isTally", "(I)Z"⟩
abbrev cX1_isWay : ByteArray := prog_1_method_18_code
def yX1_isWay : MethodName := ⟨RX1, "isWay", "(I)Z"⟩
abbrev cX1_keepInRegister : ByteArray := prog_1_method_19_code
def yX1_keepInRegister : MethodName := ⟨RX1, "keepInRegister", "(I)I"⟩
abbrev cX1_keepInTally : ByteArray := prog_1_method_20_code
def yX1_keepInTally : MethodName := ⟨RX1, "keepInTally", "(I)I"⟩
abbrev cX1_divideOutcome : ByteArray := prog_1_method_21_code
def yX1_divideOutcome : MethodName := ⟨RX1, "divideOutcome", "(JI)V"⟩
abbrev cX1_roundsAwayFromZero : ByteArray := prog_1_method_22_code
def yX1_roundsAwayFromZero : MethodName := ⟨RX1, "roundsAwayFromZero", "(JJZI)Z"⟩
abbrev cX1_lowerHalf : ByteArray := prog_1_method_23_code
def yX1_lowerHalf : MethodName := ⟨RX1, "lowerHalf", "(LExactDesk$Wide;)J"⟩
abbrev cX1_upperHalf : ByteArray := prog_1_method_24_code
def yX1_upperHalf : MethodName := ⟨RX1, "upperHalf", "(LExactDesk$Wide;)J"⟩
abbrev cX1_decimalLength : ByteArray := prog_1_method_25_code
def yX1_decimalLength : MethodName := ⟨RX1, "decimalLength", "(J)I"⟩
abbrev cX1_decimalDigit : ByteArray := prog_1_method_26_code
def yX1_decimalDigit : MethodName := ⟨RX1, "decimalDigit", "(JI)I"⟩
def RX2 : String := "ExactDeskModel"
def TX2 : u_T := fun k => match k with
  | 0 => ("ExactDeskModel", "registers", "[J", true)
  | 1 => ("ExactDeskModel", "tallies", "[I", true)
  | 2 => ("ExactDeskModel", "below", "[Z", true)
  | 3 => ("ExactDeskModel", "a", "[I", true)
  | 4 => ("ExactDeskModel", "b", "[I", true)
  | 5 => ("ExactDeskModel", "c", "[I", true)
  | 6 => ("ExactDeskModel", "rest", "[I", true)
  | _ => ("ExactDeskModel", "negative", "Z", false)
def tyX2 : Nat → FieldType := fun k => match k with
  | 0 => .array .long
  | 1 => .array .int
  | 2 => .array .boolean
  | 3 => .array .int
  | 4 => .array .int
  | 5 => .array .int
  | 6 => .array .int
  | _ => .boolean
abbrev wsX20 : List Cond := u_ws RX2 TX2 8
theorem nmX2 : ∀ a, a < 8 → ∀ b, b < 8 → a ≠ b → (TX2 a).2.1 ≠ (TX2 b).2.1 := by decide +kernel
theorem tyX2_ok : ∀ k, k < 8 → parseFieldDescriptor (TX2 k).2.2.1 = some (tyX2 k) := by decide +kernel
abbrev cX2_init : ByteArray := prog_4_method_1_code
def yX2_init : MethodName := ⟨RX2, "<init>", "()V"⟩
abbrev cX2_isRegister : ByteArray := prog_4_method_2_code
def yX2_isRegister : MethodName := ⟨RX2, "isRegister", "(I)Z"⟩
abbrev cX2_set : ByteArray := prog_4_method_4_code
def yX2_set : MethodName := ⟨RX2, "set", "(IJ)Z"⟩
def RL : String := "ExactDeskLaw"
abbrev cL_law : ByteArray := code
def yL_law : MethodName := ⟨RL, "law", "([I)Z"⟩
def wsX0_init : List Cond := .code yX0_init cX0_init 1 none :: ([.methodLink RX0 3 objectInit, .instanceMethod objectInit, .code objectInit ⟨#[0xb1]⟩ 1 none])
def wsX0_become : List Cond := .code yX0_become cX0_become 3 none :: ([.fieldLink RX0 9 "ExactDesk$Wide" "high" "J", .fieldLink RX0 13 "ExactDesk$Wide" "low" "J"] ++ wsX00)
def wsX0_become_ : List Cond := .code yX0_become_ cX0_become_ 2 none :: ([.fieldLink RX0 9 "ExactDesk$Wide" "high" "J", .fieldLink RX0 13 "ExactDesk$Wide" "low" "J"] ++ wsX00)
def wsX0_becomeProduct : List Cond := .code yX0_becomeProduct cX0_becomeProduct 17 none :: ([.constantLong RX0 16 (4294967295), .fieldLink RX0 9 "ExactDesk$Wide" "high" "J", .fieldLink RX0 13 "ExactDesk$Wide" "low" "J"] ++ wsX00)
def wsX0_unsignedLess : List Cond := .code yX0_unsignedLess cX0_unsignedLess 4 (some .boolean) :: ([.constantLong RX0 35 (-9223372036854775808)])
def wsX0_addWords : List Cond := .code yX0_addWords cX0_addWords 9 none :: ([.fieldLink RX0 13 "ExactDesk$Wide" "low" "J", .fieldLink RX0 9 "ExactDesk$Wide" "high" "J", .methodLink RX0 22 yX0_unsignedLess, .static yX0_unsignedLess, .initialized RX0, .code yX0_unsignedLess cX0_unsignedLess 4 (some .boolean), .constantLong RX0 35 (-9223372036854775808)] ++ wsX00)
def wsX0_increase : List Cond := .code yX0_increase cX0_increase 3 none :: ([.methodLink RX0 18 yX0_addWords, .instanceMethod yX0_addWords, .selects RX0 yX0_addWords yX0_addWords, .initialized RX0, .code yX0_addWords cX0_addWords 9 none, .fieldLink RX0 13 "ExactDesk$Wide" "low" "J", .fieldLink RX0 9 "ExactDesk$Wide" "high" "J", .methodLink RX0 22 yX0_unsignedLess, .static yX0_unsignedLess, .code yX0_unsignedLess cX0_unsignedLess 4 (some .boolean), .constantLong RX0 35 (-9223372036854775808)] ++ wsX00)
def wsX0_increase_ : List Cond := .code yX0_increase_ cX0_increase_ 2 none :: ([.fieldLink RX0 9 "ExactDesk$Wide" "high" "J", .fieldLink RX0 13 "ExactDesk$Wide" "low" "J", .methodLink RX0 18 yX0_addWords, .instanceMethod yX0_addWords, .selects RX0 yX0_addWords yX0_addWords, .initialized RX0, .code yX0_addWords cX0_addWords 9 none, .methodLink RX0 22 yX0_unsignedLess, .static yX0_unsignedLess, .code yX0_unsignedLess cX0_unsignedLess 4 (some .boolean), .constantLong RX0 35 (-9223372036854775808)] ++ wsX00)
def wsX0_negate : List Cond := .code yX0_negate cX0_negate 1 none :: ([.fieldLink RX0 13 "ExactDesk$Wide" "low" "J", .fieldLink RX0 9 "ExactDesk$Wide" "high" "J", .constantLong RX0 26 (-1)] ++ wsX00)
def wsX0_isNegative : List Cond := .code yX0_isNegative cX0_isNegative 1 (some .boolean) :: ([.fieldLink RX0 9 "ExactDesk$Wide" "high" "J"] ++ wsX00)
def wsX0_dropSign : List Cond := .code yX0_dropSign cX0_dropSign 1 none :: ([.methodLink RX0 28 yX0_isNegative, .instanceMethod yX0_isNegative, .selects RX0 yX0_isNegative yX0_isNegative, .initialized RX0, .code yX0_isNegative cX0_isNegative 1 (some .boolean), .fieldLink RX0 9 "ExactDesk$Wide" "high" "J", .methodLink RX0 32 yX0_negate, .instanceMethod yX0_negate, .selects RX0 yX0_negate yX0_negate, .code yX0_negate cX0_negate 1 none, .fieldLink RX0 13 "ExactDesk$Wide" "low" "J", .constantLong RX0 26 (-1)] ++ wsX00)
def wsX0_divideBy : List Cond := .code yX0_divideBy cX0_divideBy 6 (some .long) :: ([.fieldLink RX0 9 "ExactDesk$Wide" "high" "J", .fieldLink RX0 13 "ExactDesk$Wide" "low" "J", .methodLink RX0 22 yX0_unsignedLess, .static yX0_unsignedLess, .initialized RX0, .code yX0_unsignedLess cX0_unsignedLess 4 (some .boolean), .constantLong RX0 35 (-9223372036854775808)] ++ wsX00)
def wsX0_orderTo : List Cond := .code yX0_orderTo cX0_orderTo 2 (some .int) :: ([.fieldLink RX0 9 "ExactDesk$Wide" "high" "J", .fieldLink RX0 13 "ExactDesk$Wide" "low" "J", .methodLink RX0 22 yX0_unsignedLess, .static yX0_unsignedLess, .initialized RX0, .code yX0_unsignedLess cX0_unsignedLess 4 (some .boolean), .constantLong RX0 35 (-9223372036854775808)] ++ wsX00)
def wsX0_fitsLong : List Cond := .code yX0_fitsLong cX0_fitsLong 1 (some .boolean) :: ([.fieldLink RX0 9 "ExactDesk$Wide" "high" "J", .fieldLink RX0 13 "ExactDesk$Wide" "low" "J"] ++ wsX00)
def wsX0_lowWord : List Cond := .code yX0_lowWord cX0_lowWord 1 (some .long) :: ([.fieldLink RX0 13 "ExactDesk$Wide" "low" "J"] ++ wsX00)
def wsX1_init : List Cond := .code yX1_init cX1_init 2 none :: ([.methodLink RX1 3 objectInit, .instanceMethod objectInit, .code objectInit ⟨#[0xb1]⟩ 1 none, .arrayClass .long, .fieldLink RX1 9 "ExactDesk" "registers" "[J", .classLink RX1 13 RX0, .fieldLink RX1 15 "ExactDesk" "tallies" "[LExactDesk$Wide;", .instantiable RX0 2, .initialized RX0, .fieldLink RX1 20 "ExactDesk" "tallyCeiling" "LExactDesk$Wide;", .constantLong RX1 24 (1000000000000000000), .fieldLink RX1 30 "ExactDesk" "tallyFloor" "LExactDesk$Wide;", .constantLong RX1 33 (-1000000000000000000), .fieldLink RX1 35 "ExactDesk" "outcome" "LExactDesk$Wide;", .instanceMethod yX0_init, .code yX0_init cX0_init 1 none, .methodLink RX0 3 objectInit, .methodLink RX1 26 yX0_becomeProduct, .instanceMethod yX0_becomeProduct, .selects RX0 yX0_becomeProduct yX0_becomeProduct, .code yX0_becomeProduct cX0_becomeProduct 17 none, .constantLong RX0 16 (4294967295), .fieldLink RX0 9 "ExactDesk$Wide" "high" "J", .fieldLink RX0 13 "ExactDesk$Wide" "low" "J"] ++ wsX10 ++ wsX00)
def wsX1_isRegister : List Cond := .code yX1_isRegister cX1_isRegister 1 (some .boolean) :: ([])
def wsX1_set : List Cond := .code yX1_set cX1_set 4 (some .boolean) :: ([.fieldLink RX1 9 "ExactDesk" "registers" "[J", .methodLink RX1 38 yX1_isRegister, .static yX1_isRegister, .initialized RX1, .code yX1_isRegister cX1_isRegister 1 (some .boolean)] ++ wsX10)
def wsX1_get : List Cond := .code yX1_get cX1_get 2 (some .long) :: ([.fieldLink RX1 9 "ExactDesk" "registers" "[J", .methodLink RX1 38 yX1_isRegister, .static yX1_isRegister, .initialized RX1, .code yX1_isRegister cX1_isRegister 1 (some .boolean)] ++ wsX10)
def wsX1_keepInRegister : List Cond := .code yX1_keepInRegister cX1_keepInRegister 2 (some .int) :: ([.fieldLink RX1 35 "ExactDesk" "outcome" "LExactDesk$Wide;", .fieldLink RX1 9 "ExactDesk" "registers" "[J", .methodLink RX1 104 yX0_fitsLong, .instanceMethod yX0_fitsLong, .selects RX0 yX0_fitsLong yX0_fitsLong, .initialized RX0, .code yX0_fitsLong cX0_fitsLong 1 (some .boolean), .fieldLink RX0 9 "ExactDesk$Wide" "high" "J", .fieldLink RX0 13 "ExactDesk$Wide" "low" "J", .methodLink RX1 74 yX0_isNegative, .instanceMethod yX0_isNegative, .selects RX0 yX0_isNegative yX0_isNegative, .code yX0_isNegative cX0_isNegative 1 (some .boolean), .methodLink RX1 107 yX0_lowWord, .instanceMethod yX0_lowWord, .selects RX0 yX0_lowWord yX0_lowWord, .code yX0_lowWord cX0_lowWord 1 (some .long)] ++ wsX10 ++ wsX00)
def wsX1_add_r1 : List Cond := [Cond.fieldLink RX1 35 "ExactDesk" "outcome" "LExactDesk$Wide;", Cond.fieldLink RX1 9 "ExactDesk" "registers" "[J", Cond.methodLink RX1 38 yX1_isRegister, Cond.static yX1_isRegister, Cond.initialized RX1, Cond.code yX1_isRegister cX1_isRegister 1 (some .boolean), Cond.methodLink RX1 42 yX0_become, Cond.instanceMethod yX0_become, Cond.selects RX0 yX0_become yX0_become, Cond.initialized RX0, Cond.code yX0_become cX0_become 3 none, Cond.fieldLink RX0 9 "ExactDesk$Wide" "high" "J", Cond.fieldLink RX0 13 "ExactDesk$Wide" "low" "J", Cond.methodLink RX1 46 yX0_increase, Cond.instanceMethod yX0_increase, Cond.selects RX0 yX0_increase yX0_increase, Cond.code yX0_increase cX0_increase 3 none, Cond.methodLink RX0 18 yX0_addWords, Cond.instanceMethod yX0_addWords, Cond.selects RX0 yX0_addWords yX0_addWords, Cond.code yX0_addWords cX0_addWords 9 none, Cond.methodLink RX0 22 yX0_unsignedLess, Cond.static yX0_unsignedLess, Cond.code yX0_unsignedLess cX0_unsignedLess 4 (some .boolean)]
def wsX1_add_r2 : List Cond := [Cond.constantLong RX0 35 (-9223372036854775808), Cond.methodLink RX1 49 yX1_keepInRegister, Cond.instanceMethod yX1_keepInRegister, Cond.selects RX1 yX1_keepInRegister yX1_keepInRegister, Cond.code yX1_keepInRegister cX1_keepInRegister 2 (some .int), Cond.methodLink RX1 104 yX0_fitsLong, Cond.instanceMethod yX0_fitsLong, Cond.selects RX0 yX0_fitsLong yX0_fitsLong, Cond.code yX0_fitsLong cX0_fitsLong 1 (some .boolean), Cond.methodLink RX1 74 yX0_isNegative, Cond.instanceMethod yX0_isNegative, Cond.selects RX0 yX0_isNegative yX0_isNegative, Cond.code yX0_isNegative cX0_isNegative 1 (some .boolean), Cond.methodLink RX1 107 yX0_lowWord, Cond.instanceMethod yX0_lowWord, Cond.selects RX0 yX0_lowWord yX0_lowWord, Cond.code yX0_lowWord cX0_lowWord 1 (some .long)]
def wsX1_add : List Cond := .code yX1_add cX1_add 4 (some .int) :: ((wsX1_add_r1 ++ wsX1_add_r2) ++ wsX10 ++ wsX00)
def wsX1_subtract_r1 : List Cond := [Cond.fieldLink RX1 35 "ExactDesk" "outcome" "LExactDesk$Wide;", Cond.fieldLink RX1 9 "ExactDesk" "registers" "[J", Cond.methodLink RX1 38 yX1_isRegister, Cond.static yX1_isRegister, Cond.initialized RX1, Cond.code yX1_isRegister cX1_isRegister 1 (some .boolean), Cond.methodLink RX1 42 yX0_become, Cond.instanceMethod yX0_become, Cond.selects RX0 yX0_become yX0_become, Cond.initialized RX0, Cond.code yX0_become cX0_become 3 none, Cond.fieldLink RX0 9 "ExactDesk$Wide" "high" "J", Cond.fieldLink RX0 13 "ExactDesk$Wide" "low" "J", Cond.methodLink RX1 53 yX0_negate, Cond.instanceMethod yX0_negate, Cond.selects RX0 yX0_negate yX0_negate, Cond.code yX0_negate cX0_negate 1 none, Cond.constantLong RX0 26 (-1), Cond.methodLink RX1 46 yX0_increase, Cond.instanceMethod yX0_increase, Cond.selects RX0 yX0_increase yX0_increase, Cond.code yX0_increase cX0_increase 3 none, Cond.methodLink RX0 18 yX0_addWords, Cond.instanceMethod yX0_addWords]
def wsX1_subtract_r2 : List Cond := [Cond.selects RX0 yX0_addWords yX0_addWords, Cond.code yX0_addWords cX0_addWords 9 none, Cond.methodLink RX0 22 yX0_unsignedLess, Cond.static yX0_unsignedLess, Cond.code yX0_unsignedLess cX0_unsignedLess 4 (some .boolean), Cond.constantLong RX0 35 (-9223372036854775808), Cond.methodLink RX1 49 yX1_keepInRegister, Cond.instanceMethod yX1_keepInRegister, Cond.selects RX1 yX1_keepInRegister yX1_keepInRegister, Cond.code yX1_keepInRegister cX1_keepInRegister 2 (some .int), Cond.methodLink RX1 104 yX0_fitsLong, Cond.instanceMethod yX0_fitsLong, Cond.selects RX0 yX0_fitsLong yX0_fitsLong, Cond.code yX0_fitsLong cX0_fitsLong 1 (some .boolean), Cond.methodLink RX1 74 yX0_isNegative, Cond.instanceMethod yX0_isNegative, Cond.selects RX0 yX0_isNegative yX0_isNegative, Cond.code yX0_isNegative cX0_isNegative 1 (some .boolean), Cond.methodLink RX1 107 yX0_lowWord, Cond.instanceMethod yX0_lowWord, Cond.selects RX0 yX0_lowWord yX0_lowWord, Cond.code yX0_lowWord cX0_lowWord 1 (some .long)]
def wsX1_subtract : List Cond := .code yX1_subtract cX1_subtract 4 (some .int) :: ((wsX1_subtract_r1 ++ wsX1_subtract_r2) ++ wsX10 ++ wsX00)
def wsX1_times_r1 : List Cond := [Cond.fieldLink RX1 35 "ExactDesk" "outcome" "LExactDesk$Wide;", Cond.fieldLink RX1 9 "ExactDesk" "registers" "[J", Cond.methodLink RX1 38 yX1_isRegister, Cond.static yX1_isRegister, Cond.initialized RX1, Cond.code yX1_isRegister cX1_isRegister 1 (some .boolean), Cond.methodLink RX1 26 yX0_becomeProduct, Cond.instanceMethod yX0_becomeProduct, Cond.selects RX0 yX0_becomeProduct yX0_becomeProduct, Cond.initialized RX0, Cond.code yX0_becomeProduct cX0_becomeProduct 17 none, Cond.constantLong RX0 16 (4294967295), Cond.fieldLink RX0 9 "ExactDesk$Wide" "high" "J", Cond.fieldLink RX0 13 "ExactDesk$Wide" "low" "J", Cond.methodLink RX1 49 yX1_keepInRegister, Cond.instanceMethod yX1_keepInRegister, Cond.selects RX1 yX1_keepInRegister yX1_keepInRegister, Cond.code yX1_keepInRegister cX1_keepInRegister 2 (some .int), Cond.methodLink RX1 104 yX0_fitsLong, Cond.instanceMethod yX0_fitsLong, Cond.selects RX0 yX0_fitsLong yX0_fitsLong, Cond.code yX0_fitsLong cX0_fitsLong 1 (some .boolean), Cond.methodLink RX1 74 yX0_isNegative, Cond.instanceMethod yX0_isNegative]
def wsX1_times_r2 : List Cond := [Cond.selects RX0 yX0_isNegative yX0_isNegative, Cond.code yX0_isNegative cX0_isNegative 1 (some .boolean), Cond.methodLink RX1 107 yX0_lowWord, Cond.instanceMethod yX0_lowWord, Cond.selects RX0 yX0_lowWord yX0_lowWord, Cond.code yX0_lowWord cX0_lowWord 1 (some .long)]
def wsX1_times : List Cond := .code yX1_times cX1_times 4 (some .int) :: ((wsX1_times_r1 ++ wsX1_times_r2) ++ wsX10 ++ wsX00)
def wsX1_isWay : List Cond := .code yX1_isWay cX1_isWay 1 (some .boolean) :: ([])
def wsX1_roundsAwayFromZero : List Cond := .code yX1_roundsAwayFromZero cX1_roundsAwayFromZero 6 (some .boolean) :: ([])
def wsX1_divideOutcome_r1 : List Cond := [Cond.fieldLink RX1 35 "ExactDesk" "outcome" "LExactDesk$Wide;", Cond.methodLink RX1 74 yX0_isNegative, Cond.instanceMethod yX0_isNegative, Cond.selects RX0 yX0_isNegative yX0_isNegative, Cond.initialized RX0, Cond.code yX0_isNegative cX0_isNegative 1 (some .boolean), Cond.fieldLink RX0 9 "ExactDesk$Wide" "high" "J", Cond.methodLink RX1 78 yX0_dropSign, Cond.instanceMethod yX0_dropSign, Cond.selects RX0 yX0_dropSign yX0_dropSign, Cond.code yX0_dropSign cX0_dropSign 1 none, Cond.methodLink RX0 28 yX0_isNegative, Cond.methodLink RX0 32 yX0_negate, Cond.instanceMethod yX0_negate, Cond.selects RX0 yX0_negate yX0_negate, Cond.code yX0_negate cX0_negate 1 none, Cond.fieldLink RX0 13 "ExactDesk$Wide" "low" "J", Cond.constantLong RX0 26 (-1), Cond.methodLink RX1 81 yX0_divideBy, Cond.instanceMethod yX0_divideBy, Cond.selects RX0 yX0_divideBy yX0_divideBy, Cond.code yX0_divideBy cX0_divideBy 6 (some .long), Cond.methodLink RX0 22 yX0_unsignedLess, Cond.static yX0_unsignedLess]
def wsX1_divideOutcome_r2 : List Cond := [Cond.code yX0_unsignedLess cX0_unsignedLess 4 (some .boolean), Cond.constantLong RX0 35 (-9223372036854775808), Cond.methodLink RX1 111 yX1_roundsAwayFromZero, Cond.static yX1_roundsAwayFromZero, Cond.initialized RX1, Cond.code yX1_roundsAwayFromZero cX1_roundsAwayFromZero 6 (some .boolean), Cond.methodLink RX1 46 yX0_increase, Cond.instanceMethod yX0_increase, Cond.selects RX0 yX0_increase yX0_increase, Cond.code yX0_increase cX0_increase 3 none, Cond.methodLink RX0 18 yX0_addWords, Cond.instanceMethod yX0_addWords, Cond.selects RX0 yX0_addWords yX0_addWords, Cond.code yX0_addWords cX0_addWords 9 none, Cond.methodLink RX1 53 yX0_negate]
def wsX1_divideOutcome : List Cond := .code yX1_divideOutcome cX1_divideOutcome 9 none :: ((wsX1_divideOutcome_r1 ++ wsX1_divideOutcome_r2) ++ wsX10 ++ wsX00)
def wsX1_share_r1 : List Cond := [Cond.fieldLink RX1 35 "ExactDesk" "outcome" "LExactDesk$Wide;", Cond.fieldLink RX1 9 "ExactDesk" "registers" "[J", Cond.methodLink RX1 38 yX1_isRegister, Cond.static yX1_isRegister, Cond.initialized RX1, Cond.code yX1_isRegister cX1_isRegister 1 (some .boolean), Cond.methodLink RX1 56 yX1_isWay, Cond.static yX1_isWay, Cond.code yX1_isWay cX1_isWay 1 (some .boolean), Cond.methodLink RX1 26 yX0_becomeProduct, Cond.instanceMethod yX0_becomeProduct, Cond.selects RX0 yX0_becomeProduct yX0_becomeProduct, Cond.initialized RX0, Cond.code yX0_becomeProduct cX0_becomeProduct 17 none, Cond.constantLong RX0 16 (4294967295), Cond.fieldLink RX0 9 "ExactDesk$Wide" "high" "J", Cond.fieldLink RX0 13 "ExactDesk$Wide" "low" "J", Cond.methodLink RX1 59 yX1_divideOutcome, Cond.instanceMethod yX1_divideOutcome, Cond.selects RX1 yX1_divideOutcome yX1_divideOutcome, Cond.code yX1_divideOutcome cX1_divideOutcome 9 none, Cond.methodLink RX1 74 yX0_isNegative, Cond.instanceMethod yX0_isNegative, Cond.selects RX0 yX0_isNegative yX0_isNegative]
def wsX1_share_r2 : List Cond := [Cond.code yX0_isNegative cX0_isNegative 1 (some .boolean), Cond.methodLink RX1 78 yX0_dropSign, Cond.instanceMethod yX0_dropSign, Cond.selects RX0 yX0_dropSign yX0_dropSign, Cond.code yX0_dropSign cX0_dropSign 1 none, Cond.methodLink RX0 28 yX0_isNegative, Cond.methodLink RX0 32 yX0_negate, Cond.instanceMethod yX0_negate, Cond.selects RX0 yX0_negate yX0_negate, Cond.code yX0_negate cX0_negate 1 none, Cond.constantLong RX0 26 (-1), Cond.methodLink RX1 81 yX0_divideBy, Cond.instanceMethod yX0_divideBy, Cond.selects RX0 yX0_divideBy yX0_divideBy, Cond.code yX0_divideBy cX0_divideBy 6 (some .long), Cond.methodLink RX0 22 yX0_unsignedLess, Cond.static yX0_unsignedLess, Cond.code yX0_unsignedLess cX0_unsignedLess 4 (some .boolean), Cond.constantLong RX0 35 (-9223372036854775808), Cond.methodLink RX1 111 yX1_roundsAwayFromZero, Cond.static yX1_roundsAwayFromZero, Cond.code yX1_roundsAwayFromZero cX1_roundsAwayFromZero 6 (some .boolean), Cond.methodLink RX1 46 yX0_increase, Cond.instanceMethod yX0_increase]
def wsX1_share_r3 : List Cond := [Cond.selects RX0 yX0_increase yX0_increase, Cond.code yX0_increase cX0_increase 3 none, Cond.methodLink RX0 18 yX0_addWords, Cond.instanceMethod yX0_addWords, Cond.selects RX0 yX0_addWords yX0_addWords, Cond.code yX0_addWords cX0_addWords 9 none, Cond.methodLink RX1 53 yX0_negate, Cond.methodLink RX1 49 yX1_keepInRegister, Cond.instanceMethod yX1_keepInRegister, Cond.selects RX1 yX1_keepInRegister yX1_keepInRegister, Cond.code yX1_keepInRegister cX1_keepInRegister 2 (some .int), Cond.methodLink RX1 104 yX0_fitsLong, Cond.instanceMethod yX0_fitsLong, Cond.selects RX0 yX0_fitsLong yX0_fitsLong, Cond.code yX0_fitsLong cX0_fitsLong 1 (some .boolean), Cond.methodLink RX1 107 yX0_lowWord, Cond.instanceMethod yX0_lowWord, Cond.selects RX0 yX0_lowWord yX0_lowWord, Cond.code yX0_lowWord cX0_lowWord 1 (some .long)]
def wsX1_share : List Cond := .code yX1_share cX1_share 7 (some .int) :: ((wsX1_share_r1 ++ (wsX1_share_r2 ++ wsX1_share_r3)) ++ wsX10 ++ wsX00)
def wsX1_isTally : List Cond := .code yX1_isTally cX1_isTally 1 (some .boolean) :: ([])
def wsX1_keepInTally : List Cond := .code yX1_keepInTally cX1_keepInTally 2 (some .int) :: ([.fieldLink RX1 35 "ExactDesk" "outcome" "LExactDesk$Wide;", .fieldLink RX1 20 "ExactDesk" "tallyCeiling" "LExactDesk$Wide;", .fieldLink RX1 30 "ExactDesk" "tallyFloor" "LExactDesk$Wide;", .fieldLink RX1 15 "ExactDesk" "tallies" "[LExactDesk$Wide;", .methodLink RX1 85 yX0_orderTo, .instanceMethod yX0_orderTo, .selects RX0 yX0_orderTo yX0_orderTo, .initialized RX0, .code yX0_orderTo cX0_orderTo 2 (some .int), .fieldLink RX0 9 "ExactDesk$Wide" "high" "J", .fieldLink RX0 13 "ExactDesk$Wide" "low" "J", .methodLink RX0 22 yX0_unsignedLess, .static yX0_unsignedLess, .code yX0_unsignedLess cX0_unsignedLess 4 (some .boolean), .constantLong RX0 35 (-9223372036854775808), .methodLink RX1 72 yX0_become_, .instanceMethod yX0_become_, .selects RX0 yX0_become_ yX0_become_, .code yX0_become_ cX0_become_ 2 none] ++ wsX10 ++ wsX00)
def wsX1_enter_r1 : List Cond := [Cond.fieldLink RX1 35 "ExactDesk" "outcome" "LExactDesk$Wide;", Cond.fieldLink RX1 9 "ExactDesk" "registers" "[J", Cond.fieldLink RX1 15 "ExactDesk" "tallies" "[LExactDesk$Wide;", Cond.methodLink RX1 63 yX1_isTally, Cond.static yX1_isTally, Cond.initialized RX1, Cond.code yX1_isTally cX1_isTally 1 (some .boolean), Cond.methodLink RX1 38 yX1_isRegister, Cond.static yX1_isRegister, Cond.code yX1_isRegister cX1_isRegister 1 (some .boolean), Cond.methodLink RX1 26 yX0_becomeProduct, Cond.instanceMethod yX0_becomeProduct, Cond.selects RX0 yX0_becomeProduct yX0_becomeProduct, Cond.initialized RX0, Cond.code yX0_becomeProduct cX0_becomeProduct 17 none, Cond.constantLong RX0 16 (4294967295), Cond.fieldLink RX0 9 "ExactDesk$Wide" "high" "J", Cond.fieldLink RX0 13 "ExactDesk$Wide" "low" "J", Cond.methodLink RX1 66 yX0_increase_, Cond.instanceMethod yX0_increase_, Cond.selects RX0 yX0_increase_ yX0_increase_, Cond.code yX0_increase_ cX0_increase_ 2 none, Cond.methodLink RX0 18 yX0_addWords, Cond.instanceMethod yX0_addWords]
def wsX1_enter_r2 : List Cond := [Cond.selects RX0 yX0_addWords yX0_addWords, Cond.code yX0_addWords cX0_addWords 9 none, Cond.methodLink RX0 22 yX0_unsignedLess, Cond.static yX0_unsignedLess, Cond.code yX0_unsignedLess cX0_unsignedLess 4 (some .boolean), Cond.constantLong RX0 35 (-9223372036854775808), Cond.methodLink RX1 69 yX1_keepInTally, Cond.instanceMethod yX1_keepInTally, Cond.selects RX1 yX1_keepInTally yX1_keepInTally, Cond.code yX1_keepInTally cX1_keepInTally 2 (some .int), Cond.fieldLink RX1 20 "ExactDesk" "tallyCeiling" "LExactDesk$Wide;", Cond.fieldLink RX1 30 "ExactDesk" "tallyFloor" "LExactDesk$Wide;", Cond.methodLink RX1 85 yX0_orderTo, Cond.instanceMethod yX0_orderTo, Cond.selects RX0 yX0_orderTo yX0_orderTo, Cond.code yX0_orderTo cX0_orderTo 2 (some .int), Cond.methodLink RX1 72 yX0_become_, Cond.instanceMethod yX0_become_, Cond.selects RX0 yX0_become_ yX0_become_, Cond.code yX0_become_ cX0_become_ 2 none]
def wsX1_enter : List Cond := .code yX1_enter cX1_enter 5 (some .int) :: ((wsX1_enter_r1 ++ wsX1_enter_r2) ++ wsX10 ++ wsX00)
def wsX1_merge_r1 : List Cond := [Cond.fieldLink RX1 35 "ExactDesk" "outcome" "LExactDesk$Wide;", Cond.fieldLink RX1 15 "ExactDesk" "tallies" "[LExactDesk$Wide;", Cond.methodLink RX1 63 yX1_isTally, Cond.static yX1_isTally, Cond.initialized RX1, Cond.code yX1_isTally cX1_isTally 1 (some .boolean), Cond.methodLink RX1 72 yX0_become_, Cond.instanceMethod yX0_become_, Cond.selects RX0 yX0_become_ yX0_become_, Cond.initialized RX0, Cond.code yX0_become_ cX0_become_ 2 none, Cond.fieldLink RX0 9 "ExactDesk$Wide" "high" "J", Cond.fieldLink RX0 13 "ExactDesk$Wide" "low" "J", Cond.methodLink RX1 66 yX0_increase_, Cond.instanceMethod yX0_increase_, Cond.selects RX0 yX0_increase_ yX0_increase_, Cond.code yX0_increase_ cX0_increase_ 2 none, Cond.methodLink RX0 18 yX0_addWords, Cond.instanceMethod yX0_addWords, Cond.selects RX0 yX0_addWords yX0_addWords, Cond.code yX0_addWords cX0_addWords 9 none, Cond.methodLink RX0 22 yX0_unsignedLess, Cond.static yX0_unsignedLess, Cond.code yX0_unsignedLess cX0_unsignedLess 4 (some .boolean)]
def wsX1_merge_r2 : List Cond := [Cond.constantLong RX0 35 (-9223372036854775808), Cond.methodLink RX1 69 yX1_keepInTally, Cond.instanceMethod yX1_keepInTally, Cond.selects RX1 yX1_keepInTally yX1_keepInTally, Cond.code yX1_keepInTally cX1_keepInTally 2 (some .int), Cond.fieldLink RX1 20 "ExactDesk" "tallyCeiling" "LExactDesk$Wide;", Cond.fieldLink RX1 30 "ExactDesk" "tallyFloor" "LExactDesk$Wide;", Cond.methodLink RX1 85 yX0_orderTo, Cond.instanceMethod yX0_orderTo, Cond.selects RX0 yX0_orderTo yX0_orderTo, Cond.code yX0_orderTo cX0_orderTo 2 (some .int)]
def wsX1_merge : List Cond := .code yX1_merge cX1_merge 3 (some .int) :: ((wsX1_merge_r1 ++ wsX1_merge_r2) ++ wsX10 ++ wsX00)
def wsX1_split_r1 : List Cond := [Cond.constantLong RX1 24 (1000000000000000000), Cond.fieldLink RX1 15 "ExactDesk" "tallies" "[LExactDesk$Wide;", Cond.fieldLink RX1 9 "ExactDesk" "registers" "[J", Cond.methodLink RX1 63 yX1_isTally, Cond.static yX1_isTally, Cond.initialized RX1, Cond.code yX1_isTally cX1_isTally 1 (some .boolean), Cond.methodLink RX1 38 yX1_isRegister, Cond.static yX1_isRegister, Cond.code yX1_isRegister cX1_isRegister 1 (some .boolean), Cond.methodLink RX1 74 yX0_isNegative, Cond.instanceMethod yX0_isNegative, Cond.selects RX0 yX0_isNegative yX0_isNegative, Cond.initialized RX0, Cond.code yX0_isNegative cX0_isNegative 1 (some .boolean), Cond.fieldLink RX0 9 "ExactDesk$Wide" "high" "J", Cond.methodLink RX1 78 yX0_dropSign, Cond.instanceMethod yX0_dropSign, Cond.selects RX0 yX0_dropSign yX0_dropSign, Cond.code yX0_dropSign cX0_dropSign 1 none, Cond.methodLink RX0 28 yX0_isNegative, Cond.methodLink RX0 32 yX0_negate, Cond.instanceMethod yX0_negate, Cond.selects RX0 yX0_negate yX0_negate]
def wsX1_split_r2 : List Cond := [Cond.code yX0_negate cX0_negate 1 none, Cond.fieldLink RX0 13 "ExactDesk$Wide" "low" "J", Cond.constantLong RX0 26 (-1), Cond.methodLink RX1 81 yX0_divideBy, Cond.instanceMethod yX0_divideBy, Cond.selects RX0 yX0_divideBy yX0_divideBy, Cond.code yX0_divideBy cX0_divideBy 6 (some .long), Cond.methodLink RX0 22 yX0_unsignedLess, Cond.static yX0_unsignedLess, Cond.code yX0_unsignedLess cX0_unsignedLess 4 (some .boolean), Cond.constantLong RX0 35 (-9223372036854775808), Cond.methodLink RX1 53 yX0_negate]
def wsX1_split : List Cond := .code yX1_split cX1_split 9 (some .int) :: ((wsX1_split_r1 ++ wsX1_split_r2) ++ wsX10 ++ wsX00)
def wsX1_take_r1 : List Cond := [Cond.fieldLink RX1 35 "ExactDesk" "outcome" "LExactDesk$Wide;", Cond.fieldLink RX1 15 "ExactDesk" "tallies" "[LExactDesk$Wide;", Cond.methodLink RX1 63 yX1_isTally, Cond.static yX1_isTally, Cond.initialized RX1, Cond.code yX1_isTally cX1_isTally 1 (some .boolean), Cond.methodLink RX1 38 yX1_isRegister, Cond.static yX1_isRegister, Cond.code yX1_isRegister cX1_isRegister 1 (some .boolean), Cond.methodLink RX1 72 yX0_become_, Cond.instanceMethod yX0_become_, Cond.selects RX0 yX0_become_ yX0_become_, Cond.initialized RX0, Cond.code yX0_become_ cX0_become_ 2 none, Cond.fieldLink RX0 9 "ExactDesk$Wide" "high" "J", Cond.fieldLink RX0 13 "ExactDesk$Wide" "low" "J", Cond.methodLink RX1 49 yX1_keepInRegister, Cond.instanceMethod yX1_keepInRegister, Cond.selects RX1 yX1_keepInRegister yX1_keepInRegister, Cond.code yX1_keepInRegister cX1_keepInRegister 2 (some .int), Cond.fieldLink RX1 9 "ExactDesk" "registers" "[J", Cond.methodLink RX1 104 yX0_fitsLong, Cond.instanceMethod yX0_fitsLong, Cond.selects RX0 yX0_fitsLong yX0_fitsLong]
def wsX1_take_r2 : List Cond := [Cond.code yX0_fitsLong cX0_fitsLong 1 (some .boolean), Cond.methodLink RX1 74 yX0_isNegative, Cond.instanceMethod yX0_isNegative, Cond.selects RX0 yX0_isNegative yX0_isNegative, Cond.code yX0_isNegative cX0_isNegative 1 (some .boolean), Cond.methodLink RX1 107 yX0_lowWord, Cond.instanceMethod yX0_lowWord, Cond.selects RX0 yX0_lowWord yX0_lowWord, Cond.code yX0_lowWord cX0_lowWord 1 (some .long)]
def wsX1_take : List Cond := .code yX1_take cX1_take 3 (some .int) :: ((wsX1_take_r1 ++ wsX1_take_r2) ++ wsX10 ++ wsX00)
def wsX1_clear : List Cond := .code yX1_clear cX1_clear 2 (some .boolean) :: ([.fieldLink RX1 15 "ExactDesk" "tallies" "[LExactDesk$Wide;", .methodLink RX1 63 yX1_isTally, .static yX1_isTally, .initialized RX1, .code yX1_isTally cX1_isTally 1 (some .boolean), .methodLink RX1 42 yX0_become, .instanceMethod yX0_become, .selects RX0 yX0_become yX0_become, .initialized RX0, .code yX0_become cX0_become 3 none, .fieldLink RX0 9 "ExactDesk$Wide" "high" "J", .fieldLink RX0 13 "ExactDesk$Wide" "low" "J"] ++ wsX10 ++ wsX00)
def wsX1_compare : List Cond := .code yX1_compare cX1_compare 3 (some .int) :: ([.fieldLink RX1 15 "ExactDesk" "tallies" "[LExactDesk$Wide;", .methodLink RX1 63 yX1_isTally, .static yX1_isTally, .initialized RX1, .code yX1_isTally cX1_isTally 1 (some .boolean), .methodLink RX1 85 yX0_orderTo, .instanceMethod yX0_orderTo, .selects RX0 yX0_orderTo yX0_orderTo, .initialized RX0, .code yX0_orderTo cX0_orderTo 2 (some .int), .fieldLink RX0 9 "ExactDesk$Wide" "high" "J", .fieldLink RX0 13 "ExactDesk$Wide" "low" "J", .methodLink RX0 22 yX0_unsignedLess, .static yX0_unsignedLess, .code yX0_unsignedLess cX0_unsignedLess 4 (some .boolean), .constantLong RX0 35 (-9223372036854775808)] ++ wsX10 ++ wsX00)
def wsX1_upperHalf_r1 : List Cond := [Cond.fieldLink RX1 35 "ExactDesk" "outcome" "LExactDesk$Wide;", Cond.constantLong RX1 24 (1000000000000000000), Cond.methodLink RX1 72 yX0_become_, Cond.instanceMethod yX0_become_, Cond.selects RX0 yX0_become_ yX0_become_, Cond.initialized RX0, Cond.code yX0_become_ cX0_become_ 2 none, Cond.fieldLink RX0 9 "ExactDesk$Wide" "high" "J", Cond.fieldLink RX0 13 "ExactDesk$Wide" "low" "J", Cond.methodLink RX1 78 yX0_dropSign, Cond.instanceMethod yX0_dropSign, Cond.selects RX0 yX0_dropSign yX0_dropSign, Cond.code yX0_dropSign cX0_dropSign 1 none, Cond.methodLink RX0 28 yX0_isNegative, Cond.instanceMethod yX0_isNegative, Cond.selects RX0 yX0_isNegative yX0_isNegative, Cond.code yX0_isNegative cX0_isNegative 1 (some .boolean), Cond.methodLink RX0 32 yX0_negate, Cond.instanceMethod yX0_negate, Cond.selects RX0 yX0_negate yX0_negate, Cond.code yX0_negate cX0_negate 1 none, Cond.constantLong RX0 26 (-1), Cond.methodLink RX1 81 yX0_divideBy, Cond.instanceMethod yX0_divideBy]
def wsX1_upperHalf_r2 : List Cond := [Cond.selects RX0 yX0_divideBy yX0_divideBy, Cond.code yX0_divideBy cX0_divideBy 6 (some .long), Cond.methodLink RX0 22 yX0_unsignedLess, Cond.static yX0_unsignedLess, Cond.code yX0_unsignedLess cX0_unsignedLess 4 (some .boolean), Cond.constantLong RX0 35 (-9223372036854775808), Cond.methodLink RX1 107 yX0_lowWord, Cond.instanceMethod yX0_lowWord, Cond.selects RX0 yX0_lowWord yX0_lowWord, Cond.code yX0_lowWord cX0_lowWord 1 (some .long)]
def wsX1_upperHalf : List Cond := .code yX1_upperHalf cX1_upperHalf 2 (some .long) :: ((wsX1_upperHalf_r1 ++ wsX1_upperHalf_r2) ++ wsX10 ++ wsX00)
def wsX1_decimalLength : List Cond := .code yX1_decimalLength cX1_decimalLength 5 (some .int) :: ([.constantLong RX1 115 (10)])
def wsX1_lowerHalf_r1 : List Cond := [Cond.fieldLink RX1 35 "ExactDesk" "outcome" "LExactDesk$Wide;", Cond.constantLong RX1 24 (1000000000000000000), Cond.methodLink RX1 72 yX0_become_, Cond.instanceMethod yX0_become_, Cond.selects RX0 yX0_become_ yX0_become_, Cond.initialized RX0, Cond.code yX0_become_ cX0_become_ 2 none, Cond.fieldLink RX0 9 "ExactDesk$Wide" "high" "J", Cond.fieldLink RX0 13 "ExactDesk$Wide" "low" "J", Cond.methodLink RX1 78 yX0_dropSign, Cond.instanceMethod yX0_dropSign, Cond.selects RX0 yX0_dropSign yX0_dropSign, Cond.code yX0_dropSign cX0_dropSign 1 none, Cond.methodLink RX0 28 yX0_isNegative, Cond.instanceMethod yX0_isNegative, Cond.selects RX0 yX0_isNegative yX0_isNegative, Cond.code yX0_isNegative cX0_isNegative 1 (some .boolean), Cond.methodLink RX0 32 yX0_negate, Cond.instanceMethod yX0_negate, Cond.selects RX0 yX0_negate yX0_negate, Cond.code yX0_negate cX0_negate 1 none, Cond.constantLong RX0 26 (-1), Cond.methodLink RX1 81 yX0_divideBy, Cond.instanceMethod yX0_divideBy]
def wsX1_lowerHalf_r2 : List Cond := [Cond.selects RX0 yX0_divideBy yX0_divideBy, Cond.code yX0_divideBy cX0_divideBy 6 (some .long), Cond.methodLink RX0 22 yX0_unsignedLess, Cond.static yX0_unsignedLess, Cond.code yX0_unsignedLess cX0_unsignedLess 4 (some .boolean), Cond.constantLong RX0 35 (-9223372036854775808)]
def wsX1_lowerHalf : List Cond := .code yX1_lowerHalf cX1_lowerHalf 2 (some .long) :: ((wsX1_lowerHalf_r1 ++ wsX1_lowerHalf_r2) ++ wsX10 ++ wsX00)
def wsX1_digits_r1 : List Cond := [Cond.fieldLink RX1 15 "ExactDesk" "tallies" "[LExactDesk$Wide;", Cond.methodLink RX1 63 yX1_isTally, Cond.static yX1_isTally, Cond.initialized RX1, Cond.code yX1_isTally cX1_isTally 1 (some .boolean), Cond.methodLink RX1 89 yX1_upperHalf, Cond.instanceMethod yX1_upperHalf, Cond.selects RX1 yX1_upperHalf yX1_upperHalf, Cond.code yX1_upperHalf cX1_upperHalf 2 (some .long), Cond.fieldLink RX1 35 "ExactDesk" "outcome" "LExactDesk$Wide;", Cond.constantLong RX1 24 (1000000000000000000), Cond.methodLink RX1 72 yX0_become_, Cond.instanceMethod yX0_become_, Cond.selects RX0 yX0_become_ yX0_become_, Cond.initialized RX0, Cond.code yX0_become_ cX0_become_ 2 none, Cond.fieldLink RX0 9 "ExactDesk$Wide" "high" "J", Cond.fieldLink RX0 13 "ExactDesk$Wide" "low" "J", Cond.methodLink RX1 78 yX0_dropSign, Cond.instanceMethod yX0_dropSign, Cond.selects RX0 yX0_dropSign yX0_dropSign, Cond.code yX0_dropSign cX0_dropSign 1 none, Cond.methodLink RX0 28 yX0_isNegative, Cond.instanceMethod yX0_isNegative]
def wsX1_digits_r2 : List Cond := [Cond.selects RX0 yX0_isNegative yX0_isNegative, Cond.code yX0_isNegative cX0_isNegative 1 (some .boolean), Cond.methodLink RX0 32 yX0_negate, Cond.instanceMethod yX0_negate, Cond.selects RX0 yX0_negate yX0_negate, Cond.code yX0_negate cX0_negate 1 none, Cond.constantLong RX0 26 (-1), Cond.methodLink RX1 81 yX0_divideBy, Cond.instanceMethod yX0_divideBy, Cond.selects RX0 yX0_divideBy yX0_divideBy, Cond.code yX0_divideBy cX0_divideBy 6 (some .long), Cond.methodLink RX0 22 yX0_unsignedLess, Cond.static yX0_unsignedLess, Cond.code yX0_unsignedLess cX0_unsignedLess 4 (some .boolean), Cond.constantLong RX0 35 (-9223372036854775808), Cond.methodLink RX1 107 yX0_lowWord, Cond.instanceMethod yX0_lowWord, Cond.selects RX0 yX0_lowWord yX0_lowWord, Cond.code yX0_lowWord cX0_lowWord 1 (some .long), Cond.methodLink RX1 93 yX1_decimalLength, Cond.static yX1_decimalLength, Cond.code yX1_decimalLength cX1_decimalLength 5 (some .int), Cond.constantLong RX1 115 (10), Cond.methodLink RX1 97 yX1_lowerHalf]
def wsX1_digits_r3 : List Cond := [Cond.instanceMethod yX1_lowerHalf, Cond.selects RX1 yX1_lowerHalf yX1_lowerHalf, Cond.code yX1_lowerHalf cX1_lowerHalf 2 (some .long), Cond.methodLink RX1 74 yX0_isNegative]
def wsX1_digits : List Cond := .code yX1_digits cX1_digits 5 (some .int) :: ((wsX1_digits_r1 ++ (wsX1_digits_r2 ++ wsX1_digits_r3)) ++ wsX10 ++ wsX00)
def wsX1_decimalDigit : List Cond := .code yX1_decimalDigit cX1_decimalDigit 6 (some .int) :: ([.constantLong RX1 115 (10)])
def wsX1_digit_r1 : List Cond := [Cond.fieldLink RX1 15 "ExactDesk" "tallies" "[LExactDesk$Wide;", Cond.methodLink RX1 63 yX1_isTally, Cond.static yX1_isTally, Cond.initialized RX1, Cond.code yX1_isTally cX1_isTally 1 (some .boolean), Cond.methodLink RX1 97 yX1_lowerHalf, Cond.instanceMethod yX1_lowerHalf, Cond.selects RX1 yX1_lowerHalf yX1_lowerHalf, Cond.code yX1_lowerHalf cX1_lowerHalf 2 (some .long), Cond.fieldLink RX1 35 "ExactDesk" "outcome" "LExactDesk$Wide;", Cond.constantLong RX1 24 (1000000000000000000), Cond.methodLink RX1 72 yX0_become_, Cond.instanceMethod yX0_become_, Cond.selects RX0 yX0_become_ yX0_become_, Cond.initialized RX0, Cond.code yX0_become_ cX0_become_ 2 none, Cond.fieldLink RX0 9 "ExactDesk$Wide" "high" "J", Cond.fieldLink RX0 13 "ExactDesk$Wide" "low" "J", Cond.methodLink RX1 78 yX0_dropSign, Cond.instanceMethod yX0_dropSign, Cond.selects RX0 yX0_dropSign yX0_dropSign, Cond.code yX0_dropSign cX0_dropSign 1 none, Cond.methodLink RX0 28 yX0_isNegative, Cond.instanceMethod yX0_isNegative]
def wsX1_digit_r2 : List Cond := [Cond.selects RX0 yX0_isNegative yX0_isNegative, Cond.code yX0_isNegative cX0_isNegative 1 (some .boolean), Cond.methodLink RX0 32 yX0_negate, Cond.instanceMethod yX0_negate, Cond.selects RX0 yX0_negate yX0_negate, Cond.code yX0_negate cX0_negate 1 none, Cond.constantLong RX0 26 (-1), Cond.methodLink RX1 81 yX0_divideBy, Cond.instanceMethod yX0_divideBy, Cond.selects RX0 yX0_divideBy yX0_divideBy, Cond.code yX0_divideBy cX0_divideBy 6 (some .long), Cond.methodLink RX0 22 yX0_unsignedLess, Cond.static yX0_unsignedLess, Cond.code yX0_unsignedLess cX0_unsignedLess 4 (some .boolean), Cond.constantLong RX0 35 (-9223372036854775808), Cond.methodLink RX1 100 yX1_decimalDigit, Cond.static yX1_decimalDigit, Cond.code yX1_decimalDigit cX1_decimalDigit 6 (some .int), Cond.constantLong RX1 115 (10), Cond.methodLink RX1 89 yX1_upperHalf, Cond.instanceMethod yX1_upperHalf, Cond.selects RX1 yX1_upperHalf yX1_upperHalf, Cond.code yX1_upperHalf cX1_upperHalf 2 (some .long), Cond.methodLink RX1 107 yX0_lowWord]
def wsX1_digit_r3 : List Cond := [Cond.instanceMethod yX0_lowWord, Cond.selects RX0 yX0_lowWord yX0_lowWord, Cond.code yX0_lowWord cX0_lowWord 1 (some .long)]
def wsX1_digit : List Cond := .code yX1_digit cX1_digit 3 (some .int) :: ((wsX1_digit_r1 ++ (wsX1_digit_r2 ++ wsX1_digit_r3)) ++ wsX10 ++ wsX00)
def wsX2_init : List Cond := .code yX2_init cX2_init 1 none :: ([.methodLink RX2 1 objectInit, .instanceMethod objectInit, .code objectInit ⟨#[0xb1]⟩ 1 none, .arrayClass .long, .fieldLink RX2 7 "ExactDeskModel" "registers" "[J", .arrayClass .int, .fieldLink RX2 13 "ExactDeskModel" "tallies" "[I", .arrayClass .boolean, .fieldLink RX2 17 "ExactDeskModel" "below" "[Z", .fieldLink RX2 21 "ExactDeskModel" "a" "[I", .fieldLink RX2 24 "ExactDeskModel" "b" "[I", .fieldLink RX2 27 "ExactDeskModel" "c" "[I", .fieldLink RX2 30 "ExactDeskModel" "rest" "[I"] ++ wsX20)
def wsX2_isRegister : List Cond := .code yX2_isRegister cX2_isRegister 1 (some .boolean) :: ([])
def wsX2_set : List Cond := .code yX2_set cX2_set 4 (some .boolean) :: ([.fieldLink RX2 7 "ExactDeskModel" "registers" "[J", .methodLink RX2 33 yX2_isRegister, .static yX2_isRegister, .initialized RX2, .code yX2_isRegister cX2_isRegister 1 (some .boolean)] ++ wsX20)
def wsL_law_r1 : List Cond := [Cond.classLink RL 7 RX1, Cond.instantiable RX1 5, Cond.initialized RX1, Cond.classLink RL 10 RX2, Cond.instantiable RX2 8, Cond.initialized RX2, Cond.methodLink RL 9 yX1_init, Cond.instanceMethod yX1_init, Cond.code yX1_init cX1_init 2 none, Cond.methodLink RX1 3 objectInit, Cond.instanceMethod objectInit, Cond.code objectInit ⟨#[0xb1]⟩ 1 none, Cond.arrayClass .long, Cond.fieldLink RX1 9 "ExactDesk" "registers" "[J", Cond.classLink RX1 13 RX0, Cond.fieldLink RX1 15 "ExactDesk" "tallies" "[LExactDesk$Wide;", Cond.instantiable RX0 2, Cond.initialized RX0, Cond.fieldLink RX1 20 "ExactDesk" "tallyCeiling" "LExactDesk$Wide;", Cond.constantLong RX1 24 (1000000000000000000), Cond.fieldLink RX1 30 "ExactDesk" "tallyFloor" "LExactDesk$Wide;", Cond.constantLong RX1 33 (-1000000000000000000), Cond.fieldLink RX1 35 "ExactDesk" "outcome" "LExactDesk$Wide;", Cond.instanceMethod yX0_init]
def wsL_law_r2 : List Cond := [Cond.code yX0_init cX0_init 1 none, Cond.methodLink RX0 3 objectInit, Cond.methodLink RX1 26 yX0_becomeProduct, Cond.instanceMethod yX0_becomeProduct, Cond.selects RX0 yX0_becomeProduct yX0_becomeProduct, Cond.code yX0_becomeProduct cX0_becomeProduct 17 none, Cond.constantLong RX0 16 (4294967295), Cond.fieldLink RX0 9 "ExactDesk$Wide" "high" "J", Cond.fieldLink RX0 13 "ExactDesk$Wide" "low" "J", Cond.methodLink RL 12 yX2_init, Cond.instanceMethod yX2_init, Cond.code yX2_init cX2_init 1 none, Cond.methodLink RX2 1 objectInit, Cond.fieldLink RX2 7 "ExactDeskModel" "registers" "[J", Cond.arrayClass .int, Cond.fieldLink RX2 13 "ExactDeskModel" "tallies" "[I", Cond.arrayClass .boolean, Cond.fieldLink RX2 17 "ExactDeskModel" "below" "[Z", Cond.fieldLink RX2 21 "ExactDeskModel" "a" "[I", Cond.fieldLink RX2 24 "ExactDeskModel" "b" "[I", Cond.fieldLink RX2 27 "ExactDeskModel" "c" "[I", Cond.fieldLink RX2 30 "ExactDeskModel" "rest" "[I", Cond.methodLink RL 15 yX1_set, Cond.instanceMethod yX1_set]
def wsL_law_r3 : List Cond := [Cond.selects RX1 yX1_set yX1_set, Cond.code yX1_set cX1_set 4 (some .boolean), Cond.methodLink RX1 38 yX1_isRegister, Cond.static yX1_isRegister, Cond.code yX1_isRegister cX1_isRegister 1 (some .boolean), Cond.methodLink RL 19 yX2_set, Cond.instanceMethod yX2_set, Cond.selects RX2 yX2_set yX2_set, Cond.code yX2_set cX2_set 4 (some .boolean), Cond.methodLink RX2 33 yX2_isRegister, Cond.static yX2_isRegister, Cond.code yX2_isRegister cX2_isRegister 1 (some .boolean), Cond.methodLink RL 20 yX1_get, Cond.instanceMethod yX1_get, Cond.selects RX1 yX1_get yX1_get, Cond.code yX1_get cX1_get 2 (some .long), Cond.methodLink RL 25 yX1_add, Cond.instanceMethod yX1_add, Cond.selects RX1 yX1_add yX1_add, Cond.code yX1_add cX1_add 4 (some .int), Cond.methodLink RX1 42 yX0_become, Cond.instanceMethod yX0_become, Cond.selects RX0 yX0_become yX0_become, Cond.code yX0_become cX0_become 3 none]
def wsL_law_r4 : List Cond := [Cond.methodLink RX1 46 yX0_increase, Cond.instanceMethod yX0_increase, Cond.selects RX0 yX0_increase yX0_increase, Cond.code yX0_increase cX0_increase 3 none, Cond.methodLink RX0 18 yX0_addWords, Cond.instanceMethod yX0_addWords, Cond.selects RX0 yX0_addWords yX0_addWords, Cond.code yX0_addWords cX0_addWords 9 none, Cond.methodLink RX0 22 yX0_unsignedLess, Cond.static yX0_unsignedLess, Cond.code yX0_unsignedLess cX0_unsignedLess 4 (some .boolean), Cond.constantLong RX0 35 (-9223372036854775808), Cond.methodLink RX1 49 yX1_keepInRegister, Cond.instanceMethod yX1_keepInRegister, Cond.selects RX1 yX1_keepInRegister yX1_keepInRegister, Cond.code yX1_keepInRegister cX1_keepInRegister 2 (some .int), Cond.methodLink RX1 104 yX0_fitsLong, Cond.instanceMethod yX0_fitsLong, Cond.selects RX0 yX0_fitsLong yX0_fitsLong, Cond.code yX0_fitsLong cX0_fitsLong 1 (some .boolean), Cond.methodLink RX1 74 yX0_isNegative, Cond.instanceMethod yX0_isNegative, Cond.selects RX0 yX0_isNegative yX0_isNegative, Cond.code yX0_isNegative cX0_isNegative 1 (some .boolean)]
def wsL_law_r5 : List Cond := [Cond.methodLink RX1 107 yX0_lowWord, Cond.instanceMethod yX0_lowWord, Cond.selects RX0 yX0_lowWord yX0_lowWord, Cond.code yX0_lowWord cX0_lowWord 1 (some .long), Cond.methodLink RL 30 yX1_subtract, Cond.instanceMethod yX1_subtract, Cond.selects RX1 yX1_subtract yX1_subtract, Cond.code yX1_subtract cX1_subtract 4 (some .int), Cond.methodLink RX1 53 yX0_negate, Cond.instanceMethod yX0_negate, Cond.selects RX0 yX0_negate yX0_negate, Cond.code yX0_negate cX0_negate 1 none, Cond.constantLong RX0 26 (-1), Cond.methodLink RL 34 yX1_times, Cond.instanceMethod yX1_times, Cond.selects RX1 yX1_times yX1_times, Cond.code yX1_times cX1_times 4 (some .int), Cond.methodLink RL 38 yX1_share, Cond.instanceMethod yX1_share, Cond.selects RX1 yX1_share yX1_share, Cond.code yX1_share cX1_share 7 (some .int), Cond.methodLink RX1 56 yX1_isWay, Cond.static yX1_isWay, Cond.code yX1_isWay cX1_isWay 1 (some .boolean)]
def wsL_law_r6 : List Cond := [Cond.methodLink RX1 59 yX1_divideOutcome, Cond.instanceMethod yX1_divideOutcome, Cond.selects RX1 yX1_divideOutcome yX1_divideOutcome, Cond.code yX1_divideOutcome cX1_divideOutcome 9 none, Cond.methodLink RX1 78 yX0_dropSign, Cond.instanceMethod yX0_dropSign, Cond.selects RX0 yX0_dropSign yX0_dropSign, Cond.code yX0_dropSign cX0_dropSign 1 none, Cond.methodLink RX0 28 yX0_isNegative, Cond.methodLink RX0 32 yX0_negate, Cond.methodLink RX1 81 yX0_divideBy, Cond.instanceMethod yX0_divideBy, Cond.selects RX0 yX0_divideBy yX0_divideBy, Cond.code yX0_divideBy cX0_divideBy 6 (some .long), Cond.methodLink RX1 111 yX1_roundsAwayFromZero, Cond.static yX1_roundsAwayFromZero, Cond.code yX1_roundsAwayFromZero cX1_roundsAwayFromZero 6 (some .boolean), Cond.methodLink RL 43 yX1_enter, Cond.instanceMethod yX1_enter, Cond.selects RX1 yX1_enter yX1_enter, Cond.code yX1_enter cX1_enter 5 (some .int), Cond.methodLink RX1 63 yX1_isTally, Cond.static yX1_isTally, Cond.code yX1_isTally cX1_isTally 1 (some .boolean)]
def wsL_law_r7 : List Cond := [Cond.methodLink RX1 66 yX0_increase_, Cond.instanceMethod yX0_increase_, Cond.selects RX0 yX0_increase_ yX0_increase_, Cond.code yX0_increase_ cX0_increase_ 2 none, Cond.methodLink RX1 69 yX1_keepInTally, Cond.instanceMethod yX1_keepInTally, Cond.selects RX1 yX1_keepInTally yX1_keepInTally, Cond.code yX1_keepInTally cX1_keepInTally 2 (some .int), Cond.methodLink RX1 85 yX0_orderTo, Cond.instanceMethod yX0_orderTo, Cond.selects RX0 yX0_orderTo yX0_orderTo, Cond.code yX0_orderTo cX0_orderTo 2 (some .int), Cond.methodLink RX1 72 yX0_become_, Cond.instanceMethod yX0_become_, Cond.selects RX0 yX0_become_ yX0_become_, Cond.code yX0_become_ cX0_become_ 2 none, Cond.methodLink RL 48 yX1_merge, Cond.instanceMethod yX1_merge, Cond.selects RX1 yX1_merge yX1_merge, Cond.code yX1_merge cX1_merge 3 (some .int), Cond.methodLink RL 53 yX1_split, Cond.instanceMethod yX1_split, Cond.selects RX1 yX1_split yX1_split, Cond.code yX1_split cX1_split 9 (some .int)]
def wsL_law_r8 : List Cond := [Cond.methodLink RL 58 yX1_take, Cond.instanceMethod yX1_take, Cond.selects RX1 yX1_take yX1_take, Cond.code yX1_take cX1_take 3 (some .int), Cond.methodLink RL 62 yX1_clear, Cond.instanceMethod yX1_clear, Cond.selects RX1 yX1_clear yX1_clear, Cond.code yX1_clear cX1_clear 2 (some .boolean), Cond.methodLink RL 67 yX1_compare, Cond.instanceMethod yX1_compare, Cond.selects RX1 yX1_compare yX1_compare, Cond.code yX1_compare cX1_compare 3 (some .int), Cond.methodLink RL 71 yX1_digits, Cond.instanceMethod yX1_digits, Cond.selects RX1 yX1_digits yX1_digits, Cond.code yX1_digits cX1_digits 5 (some .int), Cond.methodLink RX1 89 yX1_upperHalf, Cond.instanceMethod yX1_upperHalf, Cond.selects RX1 yX1_upperHalf yX1_upperHalf, Cond.code yX1_upperHalf cX1_upperHalf 2 (some .long), Cond.methodLink RX1 93 yX1_decimalLength, Cond.static yX1_decimalLength, Cond.code yX1_decimalLength cX1_decimalLength 5 (some .int), Cond.constantLong RX1 115 (10)]
def wsL_law_r9 : List Cond := [Cond.methodLink RX1 97 yX1_lowerHalf, Cond.instanceMethod yX1_lowerHalf, Cond.selects RX1 yX1_lowerHalf yX1_lowerHalf, Cond.code yX1_lowerHalf cX1_lowerHalf 2 (some .long), Cond.methodLink RL 76 yX1_digit, Cond.instanceMethod yX1_digit, Cond.selects RX1 yX1_digit yX1_digit, Cond.code yX1_digit cX1_digit 3 (some .int), Cond.methodLink RX1 100 yX1_decimalDigit, Cond.static yX1_decimalDigit, Cond.code yX1_decimalDigit cX1_decimalDigit 6 (some .int)]
def wsL_law : List Cond := (wsL_law_r1 ++ (wsL_law_r2 ++ (wsL_law_r3 ++ (wsL_law_r4 ++ (wsL_law_r5 ++ (wsL_law_r6 ++ (wsL_law_r7 ++ (wsL_law_r8 ++ wsL_law_r9)))))))) ++ wsX10 ++ wsX20 ++ wsX00 ++ ([] : List Cond)
set_option maxRecDepth 20000 in
theorem wsL_law_in : ∀ w ∈ wsL_law, w ∈ lw_tbl := fun w h => (goodIn_p wsL_law [21, 24, 30, 44, 217, 66, 69, 249, 252, 73, 77, 81, 85, 89, 92, 97, 101, 105, 109, 113, 117, 122, 126, 129, 133, 137, 143, 146, 150, 153, 157, 161, 165, 169, 173, 177, 181, 185, 189, 193, 197, 200, 205, 209, 212] (by decide +kernel) (by decide +kernel) w h).1
theorem inlX0 : ∀ w ∈ wsX00, w ∈ wsL_law := fun _ h => List.mem_append_left _ (List.mem_append_right _ h)
theorem inX0 : ∀ w ∈ wsX00, w ∈ lw_tbl := fun w h => wsL_law_in w (inlX0 w h)
theorem inlX1 : ∀ w ∈ wsX10, w ∈ wsL_law := fun _ h => List.mem_append_left _ (List.mem_append_left _ (List.mem_append_left _ (List.mem_append_right _ h)))
theorem inX1 : ∀ w ∈ wsX10, w ∈ lw_tbl := fun w h => wsL_law_in w (inlX1 w h)
theorem inlX2 : ∀ w ∈ wsX20, w ∈ wsL_law := fun _ h => List.mem_append_left _ (List.mem_append_left _ (List.mem_append_right _ h))
theorem inX2 : ∀ w ∈ wsX20, w ∈ lw_tbl := fun w h => wsL_law_in w (inlX2 w h)
theorem dX0_init_0 : decode cX0_init 0 = .ok (.aload_n 0, 1) := by decide +kernel
theorem dX0_init_1 : decode cX0_init 1 = .ok (.invokespecial 3, 3) := by decide +kernel
theorem dX0_init_4 : decode cX0_init 4 = .ok (.return_, 1) := by decide +kernel
theorem dX0_become_0 : decode cX0_become 0 = .ok (.aload_n 0, 1) := by decide +kernel
theorem dX0_become_1 : decode cX0_become 1 = .ok (.lload_n 1, 1) := by decide +kernel
theorem dX0_become_2 : decode cX0_become 2 = .ok (.bipush 63, 2) := by decide +kernel
theorem dX0_become_4 : decode cX0_become 4 = .ok (.lshr, 1) := by decide +kernel
theorem dX0_become_5 : decode cX0_become 5 = .ok (.putfield 9, 3) := by decide +kernel
theorem dX0_become_8 : decode cX0_become 8 = .ok (.aload_n 0, 1) := by decide +kernel
theorem dX0_become_9 : decode cX0_become 9 = .ok (.lload_n 1, 1) := by decide +kernel
theorem dX0_become_10 : decode cX0_become 10 = .ok (.putfield 13, 3) := by decide +kernel
theorem dX0_become_13 : decode cX0_become 13 = .ok (.return_, 1) := by decide +kernel
theorem dX0_become__0 : decode cX0_become_ 0 = .ok (.aload_n 0, 1) := by decide +kernel
theorem dX0_become__1 : decode cX0_become_ 1 = .ok (.aload_n 1, 1) := by decide +kernel
theorem dX0_become__2 : decode cX0_become_ 2 = .ok (.getfield 9, 3) := by decide +kernel
theorem dX0_become__5 : decode cX0_become_ 5 = .ok (.putfield 9, 3) := by decide +kernel
theorem dX0_become__8 : decode cX0_become_ 8 = .ok (.aload_n 0, 1) := by decide +kernel
theorem dX0_become__9 : decode cX0_become_ 9 = .ok (.aload_n 1, 1) := by decide +kernel
theorem dX0_become__10 : decode cX0_become_ 10 = .ok (.getfield 13, 3) := by decide +kernel
theorem dX0_become__13 : decode cX0_become_ 13 = .ok (.putfield 13, 3) := by decide +kernel
theorem dX0_become__16 : decode cX0_become_ 16 = .ok (.return_, 1) := by decide +kernel
theorem dX0_becomeProduct_0 : decode cX0_becomeProduct 0 = .ok (.lload_n 1, 1) := by decide +kernel
theorem dX0_becomeProduct_1 : decode cX0_becomeProduct 1 = .ok (.bipush 32, 2) := by decide +kernel
theorem dX0_becomeProduct_3 : decode cX0_becomeProduct 3 = .ok (.lshr, 1) := by decide +kernel
theorem dX0_becomeProduct_4 : decode cX0_becomeProduct 4 = .ok (.lstore 5, 2) := by decide +kernel
theorem dX0_becomeProduct_6 : decode cX0_becomeProduct 6 = .ok (.lload_n 1, 1) := by decide +kernel
theorem dX0_becomeProduct_7 : decode cX0_becomeProduct 7 = .ok (.ldc2_w 16, 3) := by decide +kernel
theorem dX0_becomeProduct_10 : decode cX0_becomeProduct 10 = .ok (.land, 1) := by decide +kernel
theorem dX0_becomeProduct_11 : decode cX0_becomeProduct 11 = .ok (.lstore 7, 2) := by decide +kernel
theorem dX0_becomeProduct_13 : decode cX0_becomeProduct 13 = .ok (.lload_n 3, 1) := by decide +kernel
theorem dX0_becomeProduct_14 : decode cX0_becomeProduct 14 = .ok (.bipush 32, 2) := by decide +kernel
theorem dX0_becomeProduct_16 : decode cX0_becomeProduct 16 = .ok (.lshr, 1) := by decide +kernel
theorem dX0_becomeProduct_17 : decode cX0_becomeProduct 17 = .ok (.lstore 9, 2) := by decide +kernel
theorem dX0_becomeProduct_19 : decode cX0_becomeProduct 19 = .ok (.lload_n 3, 1) := by decide +kernel
theorem dX0_becomeProduct_20 : decode cX0_becomeProduct 20 = .ok (.ldc2_w 16, 3) := by decide +kernel
theorem dX0_becomeProduct_23 : decode cX0_becomeProduct 23 = .ok (.land, 1) := by decide +kernel
theorem dX0_becomeProduct_24 : decode cX0_becomeProduct 24 = .ok (.lstore 11, 2) := by decide +kernel
theorem dX0_becomeProduct_26 : decode cX0_becomeProduct 26 = .ok (.lload 5, 2) := by decide +kernel
theorem dX0_becomeProduct_28 : decode cX0_becomeProduct 28 = .ok (.lload 11, 2) := by decide +kernel
theorem dX0_becomeProduct_30 : decode cX0_becomeProduct 30 = .ok (.lmul, 1) := by decide +kernel
theorem dX0_becomeProduct_31 : decode cX0_becomeProduct 31 = .ok (.lload 7, 2) := by decide +kernel
theorem dX0_becomeProduct_33 : decode cX0_becomeProduct 33 = .ok (.lload 11, 2) := by decide +kernel
theorem dX0_becomeProduct_35 : decode cX0_becomeProduct 35 = .ok (.lmul, 1) := by decide +kernel
theorem dX0_becomeProduct_36 : decode cX0_becomeProduct 36 = .ok (.bipush 32, 2) := by decide +kernel
theorem dX0_becomeProduct_38 : decode cX0_becomeProduct 38 = .ok (.lushr, 1) := by decide +kernel
theorem dX0_becomeProduct_39 : decode cX0_becomeProduct 39 = .ok (.ladd, 1) := by decide +kernel
theorem dX0_becomeProduct_40 : decode cX0_becomeProduct 40 = .ok (.lstore 13, 2) := by decide +kernel
theorem dX0_becomeProduct_42 : decode cX0_becomeProduct 42 = .ok (.lload 7, 2) := by decide +kernel
theorem dX0_becomeProduct_44 : decode cX0_becomeProduct 44 = .ok (.lload 9, 2) := by decide +kernel
theorem dX0_becomeProduct_46 : decode cX0_becomeProduct 46 = .ok (.lmul, 1) := by decide +kernel
theorem dX0_becomeProduct_47 : decode cX0_becomeProduct 47 = .ok (.lload 13, 2) := by decide +kernel
theorem dX0_becomeProduct_49 : decode cX0_becomeProduct 49 = .ok (.ldc2_w 16, 3) := by decide +kernel
theorem dX0_becomeProduct_52 : decode cX0_becomeProduct 52 = .ok (.land, 1) := by decide +kernel
theorem dX0_becomeProduct_53 : decode cX0_becomeProduct 53 = .ok (.ladd, 1) := by decide +kernel
theorem dX0_becomeProduct_54 : decode cX0_becomeProduct 54 = .ok (.lstore 15, 2) := by decide +kernel
theorem dX0_becomeProduct_56 : decode cX0_becomeProduct 56 = .ok (.aload_n 0, 1) := by decide +kernel
theorem dX0_becomeProduct_57 : decode cX0_becomeProduct 57 = .ok (.lload 5, 2) := by decide +kernel
theorem dX0_becomeProduct_59 : decode cX0_becomeProduct 59 = .ok (.lload 9, 2) := by decide +kernel
theorem dX0_becomeProduct_61 : decode cX0_becomeProduct 61 = .ok (.lmul, 1) := by decide +kernel
theorem dX0_becomeProduct_62 : decode cX0_becomeProduct 62 = .ok (.lload 13, 2) := by decide +kernel
theorem dX0_becomeProduct_64 : decode cX0_becomeProduct 64 = .ok (.bipush 32, 2) := by decide +kernel
theorem dX0_becomeProduct_66 : decode cX0_becomeProduct 66 = .ok (.lshr, 1) := by decide +kernel
theorem dX0_becomeProduct_67 : decode cX0_becomeProduct 67 = .ok (.ladd, 1) := by decide +kernel
theorem dX0_becomeProduct_68 : decode cX0_becomeProduct 68 = .ok (.lload 15, 2) := by decide +kernel
theorem dX0_becomeProduct_70 : decode cX0_becomeProduct 70 = .ok (.bipush 32, 2) := by decide +kernel
theorem dX0_becomeProduct_72 : decode cX0_becomeProduct 72 = .ok (.lshr, 1) := by decide +kernel
theorem dX0_becomeProduct_73 : decode cX0_becomeProduct 73 = .ok (.ladd, 1) := by decide +kernel
theorem dX0_becomeProduct_74 : decode cX0_becomeProduct 74 = .ok (.putfield 9, 3) := by decide +kernel
theorem dX0_becomeProduct_77 : decode cX0_becomeProduct 77 = .ok (.aload_n 0, 1) := by decide +kernel
theorem dX0_becomeProduct_78 : decode cX0_becomeProduct 78 = .ok (.lload_n 1, 1) := by decide +kernel
theorem dX0_becomeProduct_79 : decode cX0_becomeProduct 79 = .ok (.lload_n 3, 1) := by decide +kernel
theorem dX0_becomeProduct_80 : decode cX0_becomeProduct 80 = .ok (.lmul, 1) := by decide +kernel
theorem dX0_becomeProduct_81 : decode cX0_becomeProduct 81 = .ok (.putfield 13, 3) := by decide +kernel
theorem dX0_becomeProduct_84 : decode cX0_becomeProduct 84 = .ok (.return_, 1) := by decide +kernel
set_option maxRecDepth 20000 in
theorem ggX0_increase_X0_addWords : GoodIn wsX0_increase wsX0_addWords := goodIn_r _ [5, 6, 7, 8, 9, 4, 10, 11, 12, 13] (by decide +kernel) (by decide +kernel)
set_option maxRecDepth 20000 in
theorem gX0_increase_X0_addWords : GoodIn wsX0_increase (wsV RX0 18 RX0 yX0_addWords wsX0_addWords) := goodIn_app (goodIn_of _ (by decide +kernel)) ggX0_increase_X0_addWords
theorem dX0_increase_0 : decode cX0_increase 0 = .ok (.aload_n 0, 1) := by decide +kernel
theorem dX0_increase_1 : decode cX0_increase 1 = .ok (.lload_n 1, 1) := by decide +kernel
theorem dX0_increase_2 : decode cX0_increase 2 = .ok (.bipush 63, 2) := by decide +kernel
theorem dX0_increase_4 : decode cX0_increase 4 = .ok (.lshr, 1) := by decide +kernel
theorem dX0_increase_5 : decode cX0_increase 5 = .ok (.lload_n 1, 1) := by decide +kernel
theorem dX0_increase_6 : decode cX0_increase 6 = .ok (.invokevirtual 18, 3) := by decide +kernel
theorem dX0_increase_9 : decode cX0_increase 9 = .ok (.return_, 1) := by decide +kernel
set_option maxRecDepth 20000 in
theorem ggX0_increase__X0_addWords : GoodIn wsX0_increase_ wsX0_addWords := goodIn_r _ [7, 2, 1, 8, 9, 6, 10, 11, 12, 13] (by decide +kernel) (by decide +kernel)
set_option maxRecDepth 20000 in
theorem gX0_increase__X0_addWords : GoodIn wsX0_increase_ (wsV RX0 18 RX0 yX0_addWords wsX0_addWords) := goodIn_app (goodIn_of _ (by decide +kernel)) ggX0_increase__X0_addWords
theorem dX0_increase__0 : decode cX0_increase_ 0 = .ok (.aload_n 0, 1) := by decide +kernel
theorem dX0_increase__1 : decode cX0_increase_ 1 = .ok (.aload_n 1, 1) := by decide +kernel
theorem dX0_increase__2 : decode cX0_increase_ 2 = .ok (.getfield 9, 3) := by decide +kernel
theorem dX0_increase__5 : decode cX0_increase_ 5 = .ok (.aload_n 1, 1) := by decide +kernel
theorem dX0_increase__6 : decode cX0_increase_ 6 = .ok (.getfield 13, 3) := by decide +kernel
theorem dX0_increase__9 : decode cX0_increase_ 9 = .ok (.invokevirtual 18, 3) := by decide +kernel
theorem dX0_increase__12 : decode cX0_increase_ 12 = .ok (.return_, 1) := by decide +kernel
set_option maxRecDepth 20000 in
theorem ggX0_addWords_X0_unsignedLess : GoodIn wsX0_addWords wsX0_unsignedLess := goodIn_r _ [6, 7] (by decide +kernel) (by decide +kernel)
set_option maxRecDepth 20000 in
theorem gX0_addWords_X0_unsignedLess : GoodIn wsX0_addWords (va_wsS RX0 22 yX0_unsignedLess wsX0_unsignedLess) := goodIn_app (goodIn_of _ (by decide +kernel)) ggX0_addWords_X0_unsignedLess
theorem dX0_addWords_0 : decode cX0_addWords 0 = .ok (.aload_n 0, 1) := by decide +kernel
theorem dX0_addWords_1 : decode cX0_addWords 1 = .ok (.getfield 13, 3) := by decide +kernel
theorem dX0_addWords_4 : decode cX0_addWords 4 = .ok (.lload_n 3, 1) := by decide +kernel
theorem dX0_addWords_5 : decode cX0_addWords 5 = .ok (.ladd, 1) := by decide +kernel
theorem dX0_addWords_6 : decode cX0_addWords 6 = .ok (.lstore 5, 2) := by decide +kernel
theorem dX0_addWords_8 : decode cX0_addWords 8 = .ok (.lload 5, 2) := by decide +kernel
theorem dX0_addWords_10 : decode cX0_addWords 10 = .ok (.lload_n 3, 1) := by decide +kernel
theorem dX0_addWords_11 : decode cX0_addWords 11 = .ok (.invokestatic 22, 3) := by decide +kernel
theorem dX0_addWords_14 : decode cX0_addWords 14 = .ok (.ifCond .eq 7, 3) := by decide +kernel
theorem dX0_addWords_17 : decode cX0_addWords 17 = .ok (.lconst 1, 1) := by decide +kernel
theorem dX0_addWords_18 : decode cX0_addWords 18 = .ok (.goto 4, 3) := by decide +kernel
theorem dX0_addWords_21 : decode cX0_addWords 21 = .ok (.lconst 0, 1) := by decide +kernel
theorem dX0_addWords_22 : decode cX0_addWords 22 = .ok (.lstore 7, 2) := by decide +kernel
theorem dX0_addWords_24 : decode cX0_addWords 24 = .ok (.aload_n 0, 1) := by decide +kernel
theorem dX0_addWords_25 : decode cX0_addWords 25 = .ok (.aload_n 0, 1) := by decide +kernel
theorem dX0_addWords_26 : decode cX0_addWords 26 = .ok (.getfield 9, 3) := by decide +kernel
theorem dX0_addWords_29 : decode cX0_addWords 29 = .ok (.lload_n 1, 1) := by decide +kernel
theorem dX0_addWords_30 : decode cX0_addWords 30 = .ok (.ladd, 1) := by decide +kernel
theorem dX0_addWords_31 : decode cX0_addWords 31 = .ok (.lload 7, 2) := by decide +kernel
theorem dX0_addWords_33 : decode cX0_addWords 33 = .ok (.ladd, 1) := by decide +kernel
theorem dX0_addWords_34 : decode cX0_addWords 34 = .ok (.putfield 9, 3) := by decide +kernel
theorem dX0_addWords_37 : decode cX0_addWords 37 = .ok (.aload_n 0, 1) := by decide +kernel
theorem dX0_addWords_38 : decode cX0_addWords 38 = .ok (.lload 5, 2) := by decide +kernel
theorem dX0_addWords_40 : decode cX0_addWords 40 = .ok (.putfield 13, 3) := by decide +kernel
theorem dX0_addWords_43 : decode cX0_addWords 43 = .ok (.return_, 1) := by decide +kernel
theorem dX0_negate_0 : decode cX0_negate 0 = .ok (.aload_n 0, 1) := by decide +kernel
theorem dX0_negate_1 : decode cX0_negate 1 = .ok (.aload_n 0, 1) := by decide +kernel
theorem dX0_negate_2 : decode cX0_negate 2 = .ok (.getfield 13, 3) := by decide +kernel
theorem dX0_negate_5 : decode cX0_negate 5 = .ok (.lneg, 1) := by decide +kernel
theorem dX0_negate_6 : decode cX0_negate 6 = .ok (.putfield 13, 3) := by decide +kernel
theorem dX0_negate_9 : decode cX0_negate 9 = .ok (.aload_n 0, 1) := by decide +kernel
theorem dX0_negate_10 : decode cX0_negate 10 = .ok (.aload_n 0, 1) := by decide +kernel
theorem dX0_negate_11 : decode cX0_negate 11 = .ok (.getfield 13, 3) := by decide +kernel
theorem dX0_negate_14 : decode cX0_negate 14 = .ok (.lconst 0, 1) := by decide +kernel
theorem dX0_negate_15 : decode cX0_negate 15 = .ok (.lcmp, 1) := by decide +kernel
theorem dX0_negate_16 : decode cX0_negate 16 = .ok (.ifCond .ne 11, 3) := by decide +kernel
theorem dX0_negate_19 : decode cX0_negate 19 = .ok (.aload_n 0, 1) := by decide +kernel
theorem dX0_negate_20 : decode cX0_negate 20 = .ok (.getfield 9, 3) := by decide +kernel
theorem dX0_negate_23 : decode cX0_negate 23 = .ok (.lneg, 1) := by decide +kernel
theorem dX0_negate_24 : decode cX0_negate 24 = .ok (.goto 11, 3) := by decide +kernel
theorem dX0_negate_27 : decode cX0_negate 27 = .ok (.aload_n 0, 1) := by decide +kernel
theorem dX0_negate_28 : decode cX0_negate 28 = .ok (.getfield 9, 3) := by decide +kernel
theorem dX0_negate_31 : decode cX0_negate 31 = .ok (.ldc2_w 26, 3) := by decide +kernel
theorem dX0_negate_34 : decode cX0_negate 34 = .ok (.lxor, 1) := by decide +kernel
theorem dX0_negate_35 : decode cX0_negate 35 = .ok (.putfield 9, 3) := by decide +kernel
theorem dX0_negate_38 : decode cX0_negate 38 = .ok (.return_, 1) := by decide +kernel
set_option maxRecDepth 20000 in
theorem ggX0_dropSign_X0_isNegative : GoodIn wsX0_dropSign wsX0_isNegative := goodIn_r _ [5, 6, 13, 14] (by decide +kernel) (by decide +kernel)
set_option maxRecDepth 20000 in
theorem gX0_dropSign_X0_isNegative : GoodIn wsX0_dropSign (wsV RX0 28 RX0 yX0_isNegative wsX0_isNegative) := goodIn_app (goodIn_of _ (by decide +kernel)) ggX0_dropSign_X0_isNegative
set_option maxRecDepth 20000 in
theorem ggX0_dropSign_X0_negate : GoodIn wsX0_dropSign wsX0_negate := goodIn_r _ [10, 11, 6, 12, 13, 14] (by decide +kernel) (by decide +kernel)
set_option maxRecDepth 20000 in
theorem gX0_dropSign_X0_negate : GoodIn wsX0_dropSign (wsV RX0 32 RX0 yX0_negate wsX0_negate) := goodIn_app (goodIn_of _ (by decide +kernel)) ggX0_dropSign_X0_negate
theorem dX0_dropSign_0 : decode cX0_dropSign 0 = .ok (.aload_n 0, 1) := by decide +kernel
theorem dX0_dropSign_1 : decode cX0_dropSign 1 = .ok (.invokevirtual 28, 3) := by decide +kernel
theorem dX0_dropSign_4 : decode cX0_dropSign 4 = .ok (.ifCond .eq 7, 3) := by decide +kernel
theorem dX0_dropSign_7 : decode cX0_dropSign 7 = .ok (.aload_n 0, 1) := by decide +kernel
theorem dX0_dropSign_8 : decode cX0_dropSign 8 = .ok (.invokevirtual 32, 3) := by decide +kernel
theorem dX0_dropSign_11 : decode cX0_dropSign 11 = .ok (.return_, 1) := by decide +kernel
set_option maxRecDepth 20000 in
theorem ggX0_divideBy_X0_unsignedLess : GoodIn wsX0_divideBy wsX0_unsignedLess := goodIn_r _ [6, 7] (by decide +kernel) (by decide +kernel)
set_option maxRecDepth 20000 in
theorem gX0_divideBy_X0_unsignedLess : GoodIn wsX0_divideBy (va_wsS RX0 22 yX0_unsignedLess wsX0_unsignedLess) := goodIn_app (goodIn_of _ (by decide +kernel)) ggX0_divideBy_X0_unsignedLess
theorem dX0_divideBy_0 : decode cX0_divideBy 0 = .ok (.lconst 0, 1) := by decide +kernel
theorem dX0_divideBy_1 : decode cX0_divideBy 1 = .ok (.lstore_n 3, 1) := by decide +kernel
theorem dX0_divideBy_2 : decode cX0_divideBy 2 = .ok (.iconst 0, 1) := by decide +kernel
theorem dX0_divideBy_3 : decode cX0_divideBy 3 = .ok (.istore 5, 2) := by decide +kernel
theorem dX0_divideBy_5 : decode cX0_divideBy 5 = .ok (.iload 5, 2) := by decide +kernel
theorem dX0_divideBy_7 : decode cX0_divideBy 7 = .ok (.sipush 128, 3) := by decide +kernel
theorem dX0_divideBy_10 : decode cX0_divideBy 10 = .ok (.if_icmp .ge 71, 3) := by decide +kernel
theorem dX0_divideBy_13 : decode cX0_divideBy 13 = .ok (.lload_n 3, 1) := by decide +kernel
theorem dX0_divideBy_14 : decode cX0_divideBy 14 = .ok (.iconst 1, 1) := by decide +kernel
theorem dX0_divideBy_15 : decode cX0_divideBy 15 = .ok (.lshl, 1) := by decide +kernel
theorem dX0_divideBy_16 : decode cX0_divideBy 16 = .ok (.aload_n 0, 1) := by decide +kernel
theorem dX0_divideBy_17 : decode cX0_divideBy 17 = .ok (.getfield 9, 3) := by decide +kernel
theorem dX0_divideBy_20 : decode cX0_divideBy 20 = .ok (.bipush 63, 2) := by decide +kernel
theorem dX0_divideBy_22 : decode cX0_divideBy 22 = .ok (.lushr, 1) := by decide +kernel
theorem dX0_divideBy_23 : decode cX0_divideBy 23 = .ok (.lor, 1) := by decide +kernel
theorem dX0_divideBy_24 : decode cX0_divideBy 24 = .ok (.lstore_n 3, 1) := by decide +kernel
theorem dX0_divideBy_25 : decode cX0_divideBy 25 = .ok (.aload_n 0, 1) := by decide +kernel
theorem dX0_divideBy_26 : decode cX0_divideBy 26 = .ok (.aload_n 0, 1) := by decide +kernel
theorem dX0_divideBy_27 : decode cX0_divideBy 27 = .ok (.getfield 9, 3) := by decide +kernel
theorem dX0_divideBy_30 : decode cX0_divideBy 30 = .ok (.iconst 1, 1) := by decide +kernel
theorem dX0_divideBy_31 : decode cX0_divideBy 31 = .ok (.lshl, 1) := by decide +kernel
theorem dX0_divideBy_32 : decode cX0_divideBy 32 = .ok (.aload_n 0, 1) := by decide +kernel
theorem dX0_divideBy_33 : decode cX0_divideBy 33 = .ok (.getfield 13, 3) := by decide +kernel
theorem dX0_divideBy_36 : decode cX0_divideBy 36 = .ok (.bipush 63, 2) := by decide +kernel
theorem dX0_divideBy_38 : decode cX0_divideBy 38 = .ok (.lushr, 1) := by decide +kernel
theorem dX0_divideBy_39 : decode cX0_divideBy 39 = .ok (.lor, 1) := by decide +kernel
theorem dX0_divideBy_40 : decode cX0_divideBy 40 = .ok (.putfield 9, 3) := by decide +kernel
theorem dX0_divideBy_43 : decode cX0_divideBy 43 = .ok (.aload_n 0, 1) := by decide +kernel
theorem dX0_divideBy_44 : decode cX0_divideBy 44 = .ok (.aload_n 0, 1) := by decide +kernel
theorem dX0_divideBy_45 : decode cX0_divideBy 45 = .ok (.getfield 13, 3) := by decide +kernel
theorem dX0_divideBy_48 : decode cX0_divideBy 48 = .ok (.iconst 1, 1) := by decide +kernel
theorem dX0_divideBy_49 : decode cX0_divideBy 49 = .ok (.lshl, 1) := by decide +kernel
theorem dX0_divideBy_50 : decode cX0_divideBy 50 = .ok (.putfield 13, 3) := by decide +kernel
theorem dX0_divideBy_53 : decode cX0_divideBy 53 = .ok (.lload_n 3, 1) := by decide +kernel
theorem dX0_divideBy_54 : decode cX0_divideBy 54 = .ok (.lload_n 1, 1) := by decide +kernel
theorem dX0_divideBy_55 : decode cX0_divideBy 55 = .ok (.invokestatic 22, 3) := by decide +kernel
theorem dX0_divideBy_58 : decode cX0_divideBy 58 = .ok (.ifCond .ne 17, 3) := by decide +kernel
theorem dX0_divideBy_61 : decode cX0_divideBy 61 = .ok (.lload_n 3, 1) := by decide +kernel
theorem dX0_divideBy_62 : decode cX0_divideBy 62 = .ok (.lload_n 1, 1) := by decide +kernel
theorem dX0_divideBy_63 : decode cX0_divideBy 63 = .ok (.lsub, 1) := by decide +kernel
theorem dX0_divideBy_64 : decode cX0_divideBy 64 = .ok (.lstore_n 3, 1) := by decide +kernel
theorem dX0_divideBy_65 : decode cX0_divideBy 65 = .ok (.aload_n 0, 1) := by decide +kernel
theorem dX0_divideBy_66 : decode cX0_divideBy 66 = .ok (.dup, 1) := by decide +kernel
theorem dX0_divideBy_67 : decode cX0_divideBy 67 = .ok (.getfield 13, 3) := by decide +kernel
theorem dX0_divideBy_70 : decode cX0_divideBy 70 = .ok (.lconst 1, 1) := by decide +kernel
theorem dX0_divideBy_71 : decode cX0_divideBy 71 = .ok (.lor, 1) := by decide +kernel
theorem dX0_divideBy_72 : decode cX0_divideBy 72 = .ok (.putfield 13, 3) := by decide +kernel
theorem dX0_divideBy_75 : decode cX0_divideBy 75 = .ok (.iinc 5 1, 3) := by decide +kernel
theorem dX0_divideBy_78 : decode cX0_divideBy 78 = .ok (.goto (-73), 3) := by decide +kernel
theorem dX0_divideBy_81 : decode cX0_divideBy 81 = .ok (.lload_n 3, 1) := by decide +kernel
theorem dX0_divideBy_82 : decode cX0_divideBy 82 = .ok (.lreturn, 1) := by decide +kernel
set_option maxRecDepth 20000 in
theorem ggX0_orderTo_X0_unsignedLess : GoodIn wsX0_orderTo wsX0_unsignedLess := goodIn_r _ [6, 7] (by decide +kernel) (by decide +kernel)
set_option maxRecDepth 20000 in
theorem gX0_orderTo_X0_unsignedLess : GoodIn wsX0_orderTo (va_wsS RX0 22 yX0_unsignedLess wsX0_unsignedLess) := goodIn_app (goodIn_of _ (by decide +kernel)) ggX0_orderTo_X0_unsignedLess
theorem dX0_orderTo_0 : decode cX0_orderTo 0 = .ok (.aload_n 0, 1) := by decide +kernel
theorem dX0_orderTo_1 : decode cX0_orderTo 1 = .ok (.getfield 9, 3) := by decide +kernel
theorem dX0_orderTo_4 : decode cX0_orderTo 4 = .ok (.aload_n 1, 1) := by decide +kernel
theorem dX0_orderTo_5 : decode cX0_orderTo 5 = .ok (.getfield 9, 3) := by decide +kernel
theorem dX0_orderTo_8 : decode cX0_orderTo 8 = .ok (.lcmp, 1) := by decide +kernel
theorem dX0_orderTo_9 : decode cX0_orderTo 9 = .ok (.ifCond .eq 21, 3) := by decide +kernel
theorem dX0_orderTo_12 : decode cX0_orderTo 12 = .ok (.aload_n 0, 1) := by decide +kernel
theorem dX0_orderTo_13 : decode cX0_orderTo 13 = .ok (.getfield 9, 3) := by decide +kernel
theorem dX0_orderTo_16 : decode cX0_orderTo 16 = .ok (.aload_n 1, 1) := by decide +kernel
theorem dX0_orderTo_17 : decode cX0_orderTo 17 = .ok (.getfield 9, 3) := by decide +kernel
theorem dX0_orderTo_20 : decode cX0_orderTo 20 = .ok (.lcmp, 1) := by decide +kernel
theorem dX0_orderTo_21 : decode cX0_orderTo 21 = .ok (.ifCond .ge 7, 3) := by decide +kernel
theorem dX0_orderTo_24 : decode cX0_orderTo 24 = .ok (.iconst (-1), 1) := by decide +kernel
theorem dX0_orderTo_25 : decode cX0_orderTo 25 = .ok (.goto 4, 3) := by decide +kernel
theorem dX0_orderTo_28 : decode cX0_orderTo 28 = .ok (.iconst 1, 1) := by decide +kernel
theorem dX0_orderTo_29 : decode cX0_orderTo 29 = .ok (.ireturn, 1) := by decide +kernel
theorem dX0_orderTo_30 : decode cX0_orderTo 30 = .ok (.aload_n 0, 1) := by decide +kernel
theorem dX0_orderTo_31 : decode cX0_orderTo 31 = .ok (.getfield 13, 3) := by decide +kernel
theorem dX0_orderTo_34 : decode cX0_orderTo 34 = .ok (.aload_n 1, 1) := by decide +kernel
theorem dX0_orderTo_35 : decode cX0_orderTo 35 = .ok (.getfield 13, 3) := by decide +kernel
theorem dX0_orderTo_38 : decode cX0_orderTo 38 = .ok (.lcmp, 1) := by decide +kernel
theorem dX0_orderTo_39 : decode cX0_orderTo 39 = .ok (.ifCond .eq 23, 3) := by decide +kernel
theorem dX0_orderTo_42 : decode cX0_orderTo 42 = .ok (.aload_n 0, 1) := by decide +kernel
theorem dX0_orderTo_43 : decode cX0_orderTo 43 = .ok (.getfield 13, 3) := by decide +kernel
theorem dX0_orderTo_46 : decode cX0_orderTo 46 = .ok (.aload_n 1, 1) := by decide +kernel
theorem dX0_orderTo_47 : decode cX0_orderTo 47 = .ok (.getfield 13, 3) := by decide +kernel
theorem dX0_orderTo_50 : decode cX0_orderTo 50 = .ok (.invokestatic 22, 3) := by decide +kernel
theorem dX0_orderTo_53 : decode cX0_orderTo 53 = .ok (.ifCond .eq 7, 3) := by decide +kernel
theorem dX0_orderTo_56 : decode cX0_orderTo 56 = .ok (.iconst (-1), 1) := by decide +kernel
theorem dX0_orderTo_57 : decode cX0_orderTo 57 = .ok (.goto 4, 3) := by decide +kernel
theorem dX0_orderTo_60 : decode cX0_orderTo 60 = .ok (.iconst 1, 1) := by decide +kernel
theorem dX0_orderTo_61 : decode cX0_orderTo 61 = .ok (.ireturn, 1) := by decide +kernel
theorem dX0_orderTo_62 : decode cX0_orderTo 62 = .ok (.iconst 0, 1) := by decide +kernel
theorem dX0_orderTo_63 : decode cX0_orderTo 63 = .ok (.ireturn, 1) := by decide +kernel
theorem dX0_isNegative_0 : decode cX0_isNegative 0 = .ok (.aload_n 0, 1) := by decide +kernel
theorem dX0_isNegative_1 : decode cX0_isNegative 1 = .ok (.getfield 9, 3) := by decide +kernel
theorem dX0_isNegative_4 : decode cX0_isNegative 4 = .ok (.lconst 0, 1) := by decide +kernel
theorem dX0_isNegative_5 : decode cX0_isNegative 5 = .ok (.lcmp, 1) := by decide +kernel
theorem dX0_isNegative_6 : decode cX0_isNegative 6 = .ok (.ifCond .ge 7, 3) := by decide +kernel
theorem dX0_isNegative_9 : decode cX0_isNegative 9 = .ok (.iconst 1, 1) := by decide +kernel
theorem dX0_isNegative_10 : decode cX0_isNegative 10 = .ok (.goto 4, 3) := by decide +kernel
theorem dX0_isNegative_13 : decode cX0_isNegative 13 = .ok (.iconst 0, 1) := by decide +kernel
theorem dX0_isNegative_14 : decode cX0_isNegative 14 = .ok (.ireturn, 1) := by decide +kernel
theorem dX0_fitsLong_0 : decode cX0_fitsLong 0 = .ok (.aload_n 0, 1) := by decide +kernel
theorem dX0_fitsLong_1 : decode cX0_fitsLong 1 = .ok (.getfield 9, 3) := by decide +kernel
theorem dX0_fitsLong_4 : decode cX0_fitsLong 4 = .ok (.aload_n 0, 1) := by decide +kernel
theorem dX0_fitsLong_5 : decode cX0_fitsLong 5 = .ok (.getfield 13, 3) := by decide +kernel
theorem dX0_fitsLong_8 : decode cX0_fitsLong 8 = .ok (.bipush 63, 2) := by decide +kernel
theorem dX0_fitsLong_10 : decode cX0_fitsLong 10 = .ok (.lshr, 1) := by decide +kernel
theorem dX0_fitsLong_11 : decode cX0_fitsLong 11 = .ok (.lcmp, 1) := by decide +kernel
theorem dX0_fitsLong_12 : decode cX0_fitsLong 12 = .ok (.ifCond .ne 7, 3) := by decide +kernel
theorem dX0_fitsLong_15 : decode cX0_fitsLong 15 = .ok (.iconst 1, 1) := by decide +kernel
theorem dX0_fitsLong_16 : decode cX0_fitsLong 16 = .ok (.goto 4, 3) := by decide +kernel
theorem dX0_fitsLong_19 : decode cX0_fitsLong 19 = .ok (.iconst 0, 1) := by decide +kernel
theorem dX0_fitsLong_20 : decode cX0_fitsLong 20 = .ok (.ireturn, 1) := by decide +kernel
theorem dX0_lowWord_0 : decode cX0_lowWord 0 = .ok (.aload_n 0, 1) := by decide +kernel
theorem dX0_lowWord_1 : decode cX0_lowWord 1 = .ok (.getfield 13, 3) := by decide +kernel
theorem dX0_lowWord_4 : decode cX0_lowWord 4 = .ok (.lreturn, 1) := by decide +kernel
theorem dX0_unsignedLess_0 : decode cX0_unsignedLess 0 = .ok (.lload_n 0, 1) := by decide +kernel
theorem dX0_unsignedLess_1 : decode cX0_unsignedLess 1 = .ok (.ldc2_w 35, 3) := by decide +kernel
theorem dX0_unsignedLess_4 : decode cX0_unsignedLess 4 = .ok (.lxor, 1) := by decide +kernel
theorem dX0_unsignedLess_5 : decode cX0_unsignedLess 5 = .ok (.lload_n 2, 1) := by decide +kernel
theorem dX0_unsignedLess_6 : decode cX0_unsignedLess 6 = .ok (.ldc2_w 35, 3) := by decide +kernel
theorem dX0_unsignedLess_9 : decode cX0_unsignedLess 9 = .ok (.lxor, 1) := by decide +kernel
theorem dX0_unsignedLess_10 : decode cX0_unsignedLess 10 = .ok (.lcmp, 1) := by decide +kernel
theorem dX0_unsignedLess_11 : decode cX0_unsignedLess 11 = .ok (.ifCond .ge 7, 3) := by decide +kernel
theorem dX0_unsignedLess_14 : decode cX0_unsignedLess 14 = .ok (.iconst 1, 1) := by decide +kernel
theorem dX0_unsignedLess_15 : decode cX0_unsignedLess 15 = .ok (.goto 4, 3) := by decide +kernel
theorem dX0_unsignedLess_18 : decode cX0_unsignedLess 18 = .ok (.iconst 0, 1) := by decide +kernel
theorem dX0_unsignedLess_19 : decode cX0_unsignedLess 19 = .ok (.ireturn, 1) := by decide +kernel
set_option maxRecDepth 20000 in
theorem ggX1_init_X0_init : GoodIn wsX1_init wsX0_init := goodIn_r _ [16, 17, 2, 3] (by decide +kernel) (by decide +kernel)
set_option maxRecDepth 20000 in
theorem gX1_init_X0_init_n19 : GoodIn wsX1_init (wsX0_init) := ggX1_init_X0_init
set_option maxRecDepth 20000 in
theorem ggX1_init_X0_becomeProduct : GoodIn wsX1_init wsX0_becomeProduct := goodIn_r _ [21, 22, 23, 24, 30, 31] (by decide +kernel) (by decide +kernel)
set_option maxRecDepth 20000 in
theorem gX1_init_X0_becomeProduct : GoodIn wsX1_init (wsV RX1 26 RX0 yX0_becomeProduct wsX0_becomeProduct) := goodIn_app (goodIn_of _ (by decide +kernel)) ggX1_init_X0_becomeProduct
theorem dX1_init_0 : decode cX1_init 0 = .ok (.aload_n 0, 1) := by decide +kernel
theorem dX1_init_1 : decode cX1_init 1 = .ok (.invokespecial 3, 3) := by decide +kernel
theorem dX1_init_4 : decode cX1_init 4 = .ok (.aload_n 0, 1) := by decide +kernel
theorem dX1_init_5 : decode cX1_init 5 = .ok (.bipush 8, 2) := by decide +kernel
theorem dX1_init_7 : decode cX1_init 7 = .ok (.newarray .long, 2) := by decide +kernel
theorem dX1_init_9 : decode cX1_init 9 = .ok (.putfield 9, 3) := by decide +kernel
theorem dX1_init_12 : decode cX1_init 12 = .ok (.aload_n 0, 1) := by decide +kernel
theorem dX1_init_13 : decode cX1_init 13 = .ok (.iconst 4, 1) := by decide +kernel
theorem dX1_init_14 : decode cX1_init 14 = .ok (.anewarray 13, 3) := by decide +kernel
theorem dX1_init_17 : decode cX1_init 17 = .ok (.putfield 15, 3) := by decide +kernel
theorem dX1_init_20 : decode cX1_init 20 = .ok (.iconst 0, 1) := by decide +kernel
theorem dX1_init_21 : decode cX1_init 21 = .ok (.istore_n 1, 1) := by decide +kernel
theorem dX1_init_22 : decode cX1_init 22 = .ok (.iload_n 1, 1) := by decide +kernel
theorem dX1_init_23 : decode cX1_init 23 = .ok (.iconst 4, 1) := by decide +kernel
theorem dX1_init_24 : decode cX1_init 24 = .ok (.if_icmp .ge 22, 3) := by decide +kernel
theorem dX1_init_27 : decode cX1_init 27 = .ok (.aload_n 0, 1) := by decide +kernel
theorem dX1_init_28 : decode cX1_init 28 = .ok (.getfield 15, 3) := by decide +kernel
theorem dX1_init_31 : decode cX1_init 31 = .ok (.iload_n 1, 1) := by decide +kernel
theorem dX1_init_32 : decode cX1_init 32 = .ok (.new 13, 3) := by decide +kernel
theorem dX1_init_35 : decode cX1_init 35 = .ok (.dup, 1) := by decide +kernel
theorem dX1_init_36 : decode cX1_init 36 = .ok (.invokespecial 19, 3) := by decide +kernel
theorem dX1_init_39 : decode cX1_init 39 = .ok (.aastore, 1) := by decide +kernel
theorem dX1_init_40 : decode cX1_init 40 = .ok (.iinc 1 1, 3) := by decide +kernel
theorem dX1_init_43 : decode cX1_init 43 = .ok (.goto (-21), 3) := by decide +kernel
theorem dX1_init_46 : decode cX1_init 46 = .ok (.aload_n 0, 1) := by decide +kernel
theorem dX1_init_47 : decode cX1_init 47 = .ok (.new 13, 3) := by decide +kernel
theorem dX1_init_50 : decode cX1_init 50 = .ok (.dup, 1) := by decide +kernel
theorem dX1_init_51 : decode cX1_init 51 = .ok (.invokespecial 19, 3) := by decide +kernel
theorem dX1_init_54 : decode cX1_init 54 = .ok (.putfield 20, 3) := by decide +kernel
theorem dX1_init_57 : decode cX1_init 57 = .ok (.aload_n 0, 1) := by decide +kernel
theorem dX1_init_58 : decode cX1_init 58 = .ok (.getfield 20, 3) := by decide +kernel
theorem dX1_init_61 : decode cX1_init 61 = .ok (.ldc2_w 24, 3) := by decide +kernel
theorem dX1_init_64 : decode cX1_init 64 = .ok (.ldc2_w 24, 3) := by decide +kernel
theorem dX1_init_67 : decode cX1_init 67 = .ok (.invokevirtual 26, 3) := by decide +kernel
theorem dX1_init_70 : decode cX1_init 70 = .ok (.aload_n 0, 1) := by decide +kernel
theorem dX1_init_71 : decode cX1_init 71 = .ok (.new 13, 3) := by decide +kernel
theorem dX1_init_74 : decode cX1_init 74 = .ok (.dup, 1) := by decide +kernel
theorem dX1_init_75 : decode cX1_init 75 = .ok (.invokespecial 19, 3) := by decide +kernel
theorem dX1_init_78 : decode cX1_init 78 = .ok (.putfield 30, 3) := by decide +kernel
theorem dX1_init_81 : decode cX1_init 81 = .ok (.aload_n 0, 1) := by decide +kernel
theorem dX1_init_82 : decode cX1_init 82 = .ok (.getfield 30, 3) := by decide +kernel
theorem dX1_init_85 : decode cX1_init 85 = .ok (.ldc2_w 33, 3) := by decide +kernel
theorem dX1_init_88 : decode cX1_init 88 = .ok (.ldc2_w 24, 3) := by decide +kernel
theorem dX1_init_91 : decode cX1_init 91 = .ok (.invokevirtual 26, 3) := by decide +kernel
theorem dX1_init_94 : decode cX1_init 94 = .ok (.aload_n 0, 1) := by decide +kernel
theorem dX1_init_95 : decode cX1_init 95 = .ok (.new 13, 3) := by decide +kernel
theorem dX1_init_98 : decode cX1_init 98 = .ok (.dup, 1) := by decide +kernel
theorem dX1_init_99 : decode cX1_init 99 = .ok (.invokespecial 19, 3) := by decide +kernel
theorem dX1_init_102 : decode cX1_init 102 = .ok (.putfield 35, 3) := by decide +kernel
theorem dX1_init_105 : decode cX1_init 105 = .ok (.return_, 1) := by decide +kernel
set_option maxRecDepth 20000 in
theorem ggX1_set_X1_isRegister : GoodIn wsX1_set wsX1_isRegister := goodIn_r _ [5] (by decide +kernel) (by decide +kernel)
set_option maxRecDepth 20000 in
theorem gX1_set_X1_isRegister : GoodIn wsX1_set (va_wsS RX1 38 yX1_isRegister wsX1_isRegister) := goodIn_app (goodIn_of _ (by decide +kernel)) ggX1_set_X1_isRegister
theorem dX1_set_0 : decode cX1_set 0 = .ok (.iload_n 1, 1) := by decide +kernel
theorem dX1_set_1 : decode cX1_set 1 = .ok (.invokestatic 38, 3) := by decide +kernel
theorem dX1_set_4 : decode cX1_set 4 = .ok (.ifCond .ne 5, 3) := by decide +kernel
theorem dX1_set_7 : decode cX1_set 7 = .ok (.iconst 0, 1) := by decide +kernel
theorem dX1_set_8 : decode cX1_set 8 = .ok (.ireturn, 1) := by decide +kernel
theorem dX1_set_9 : decode cX1_set 9 = .ok (.aload_n 0, 1) := by decide +kernel
theorem dX1_set_10 : decode cX1_set 10 = .ok (.getfield 9, 3) := by decide +kernel
theorem dX1_set_13 : decode cX1_set 13 = .ok (.iload_n 1, 1) := by decide +kernel
theorem dX1_set_14 : decode cX1_set 14 = .ok (.lload_n 2, 1) := by decide +kernel
theorem dX1_set_15 : decode cX1_set 15 = .ok (.lastore, 1) := by decide +kernel
theorem dX1_set_16 : decode cX1_set 16 = .ok (.iconst 1, 1) := by decide +kernel
theorem dX1_set_17 : decode cX1_set 17 = .ok (.ireturn, 1) := by decide +kernel
set_option maxRecDepth 20000 in
theorem ggX1_get_X1_isRegister : GoodIn wsX1_get wsX1_isRegister := goodIn_r _ [5] (by decide +kernel) (by decide +kernel)
set_option maxRecDepth 20000 in
theorem gX1_get_X1_isRegister : GoodIn wsX1_get (va_wsS RX1 38 yX1_isRegister wsX1_isRegister) := goodIn_app (goodIn_of _ (by decide +kernel)) ggX1_get_X1_isRegister
theorem dX1_get_0 : decode cX1_get 0 = .ok (.iload_n 1, 1) := by decide +kernel
theorem dX1_get_1 : decode cX1_get 1 = .ok (.invokestatic 38, 3) := by decide +kernel
theorem dX1_get_4 : decode cX1_get 4 = .ok (.ifCond .eq 12, 3) := by decide +kernel
theorem dX1_get_7 : decode cX1_get 7 = .ok (.aload_n 0, 1) := by decide +kernel
theorem dX1_get_8 : decode cX1_get 8 = .ok (.getfield 9, 3) := by decide +kernel
theorem dX1_get_11 : decode cX1_get 11 = .ok (.iload_n 1, 1) := by decide +kernel
theorem dX1_get_12 : decode cX1_get 12 = .ok (.laload, 1) := by decide +kernel
theorem dX1_get_13 : decode cX1_get 13 = .ok (.goto 4, 3) := by decide +kernel
theorem dX1_get_16 : decode cX1_get 16 = .ok (.lconst 0, 1) := by decide +kernel
theorem dX1_get_17 : decode cX1_get 17 = .ok (.lreturn, 1) := by decide +kernel
set_option maxRecDepth 20000 in
theorem ggX1_add_X1_isRegister : GoodIn wsX1_add wsX1_isRegister := goodIn_r _ [6] (by decide +kernel) (by decide +kernel)
set_option maxRecDepth 20000 in
theorem gX1_add_X1_isRegister : GoodIn wsX1_add (va_wsS RX1 38 yX1_isRegister wsX1_isRegister) := goodIn_app (goodIn_of _ (by decide +kernel)) ggX1_add_X1_isRegister
set_option maxRecDepth 20000 in
theorem ggX1_add_X0_become : GoodIn wsX1_add wsX0_become := goodIn_r _ [11, 12, 13, 47, 48] (by decide +kernel) (by decide +kernel)
set_option maxRecDepth 20000 in
theorem gX1_add_X0_become : GoodIn wsX1_add (wsV RX1 42 RX0 yX0_become wsX0_become) := goodIn_app (goodIn_of _ (by decide +kernel)) ggX1_add_X0_become
set_option maxRecDepth 20000 in
theorem ggX1_add_X0_increase : GoodIn wsX1_add wsX0_increase := goodIn_r _ [17, 18, 19, 20, 10, 21, 13, 12, 22, 23, 24, 25, 47, 48] (by decide +kernel) (by decide +kernel)
set_option maxRecDepth 20000 in
theorem gX1_add_X0_increase : GoodIn wsX1_add (wsV RX1 46 RX0 yX0_increase wsX0_increase) := goodIn_app (goodIn_of _ (by decide +kernel)) ggX1_add_X0_increase
set_option maxRecDepth 20000 in
theorem ggX1_add_X1_keepInRegister : GoodIn wsX1_add wsX1_keepInRegister := goodIn_r _ [29, 1, 2, 30, 31, 32, 10, 33, 12, 13, 34, 35, 36, 37, 38, 39, 40, 41, 42, 43, 44, 45, 46, 47, 48] (by decide +kernel) (by decide +kernel)
set_option maxRecDepth 20000 in
theorem gX1_add_X1_keepInRegister : GoodIn wsX1_add (wsV RX1 49 RX1 yX1_keepInRegister wsX1_keepInRegister) := goodIn_app (goodIn_of _ (by decide +kernel)) ggX1_add_X1_keepInRegister
theorem dX1_add_0 : decode cX1_add 0 = .ok (.iload_n 1, 1) := by decide +kernel
theorem dX1_add_1 : decode cX1_add 1 = .ok (.invokestatic 38, 3) := by decide +kernel
theorem dX1_add_4 : decode cX1_add 4 = .ok (.ifCond .ne 5, 3) := by decide +kernel
theorem dX1_add_7 : decode cX1_add 7 = .ok (.iconst (-1), 1) := by decide +kernel
theorem dX1_add_8 : decode cX1_add 8 = .ok (.ireturn, 1) := by decide +kernel
theorem dX1_add_9 : decode cX1_add 9 = .ok (.aload_n 0, 1) := by decide +kernel
theorem dX1_add_10 : decode cX1_add 10 = .ok (.getfield 35, 3) := by decide +kernel
theorem dX1_add_13 : decode cX1_add 13 = .ok (.aload_n 0, 1) := by decide +kernel
theorem dX1_add_14 : decode cX1_add 14 = .ok (.getfield 9, 3) := by decide +kernel
theorem dX1_add_17 : decode cX1_add 17 = .ok (.iload_n 1, 1) := by decide +kernel
theorem dX1_add_18 : decode cX1_add 18 = .ok (.laload, 1) := by decide +kernel
theorem dX1_add_19 : decode cX1_add 19 = .ok (.invokevirtual 42, 3) := by decide +kernel
theorem dX1_add_22 : decode cX1_add 22 = .ok (.aload_n 0, 1) := by decide +kernel
theorem dX1_add_23 : decode cX1_add 23 = .ok (.getfield 35, 3) := by decide +kernel
theorem dX1_add_26 : decode cX1_add 26 = .ok (.lload_n 2, 1) := by decide +kernel
theorem dX1_add_27 : decode cX1_add 27 = .ok (.invokevirtual 46, 3) := by decide +kernel
theorem dX1_add_30 : decode cX1_add 30 = .ok (.aload_n 0, 1) := by decide +kernel
theorem dX1_add_31 : decode cX1_add 31 = .ok (.iload_n 1, 1) := by decide +kernel
theorem dX1_add_32 : decode cX1_add 32 = .ok (.invokevirtual 49, 3) := by decide +kernel
theorem dX1_add_35 : decode cX1_add 35 = .ok (.ireturn, 1) := by decide +kernel
set_option maxRecDepth 20000 in
theorem ggX1_subtract_X1_isRegister : GoodIn wsX1_subtract wsX1_isRegister := goodIn_r _ [6] (by decide +kernel) (by decide +kernel)
set_option maxRecDepth 20000 in
theorem gX1_subtract_X1_isRegister : GoodIn wsX1_subtract (va_wsS RX1 38 yX1_isRegister wsX1_isRegister) := goodIn_app (goodIn_of _ (by decide +kernel)) ggX1_subtract_X1_isRegister
set_option maxRecDepth 20000 in
theorem ggX1_subtract_X0_become : GoodIn wsX1_subtract wsX0_become := goodIn_r _ [11, 12, 13, 52, 53] (by decide +kernel) (by decide +kernel)
set_option maxRecDepth 20000 in
theorem gX1_subtract_X0_become : GoodIn wsX1_subtract (wsV RX1 42 RX0 yX0_become wsX0_become) := goodIn_app (goodIn_of _ (by decide +kernel)) ggX1_subtract_X0_become
set_option maxRecDepth 20000 in
theorem ggX1_subtract_X0_negate : GoodIn wsX1_subtract wsX0_negate := goodIn_r _ [17, 13, 12, 18, 52, 53] (by decide +kernel) (by decide +kernel)
set_option maxRecDepth 20000 in
theorem gX1_subtract_X0_negate : GoodIn wsX1_subtract (wsV RX1 53 RX0 yX0_negate wsX0_negate) := goodIn_app (goodIn_of _ (by decide +kernel)) ggX1_subtract_X0_negate
set_option maxRecDepth 20000 in
theorem ggX1_subtract_X0_increase : GoodIn wsX1_subtract wsX0_increase := goodIn_r _ [22, 23, 24, 25, 10, 26, 13, 12, 27, 28, 29, 30, 52, 53] (by decide +kernel) (by decide +kernel)
set_option maxRecDepth 20000 in
theorem gX1_subtract_X0_increase : GoodIn wsX1_subtract (wsV RX1 46 RX0 yX0_increase wsX0_increase) := goodIn_app (goodIn_of _ (by decide +kernel)) ggX1_subtract_X0_increase
set_option maxRecDepth 20000 in
theorem ggX1_subtract_X1_keepInRegister : GoodIn wsX1_subtract wsX1_keepInRegister := goodIn_r _ [34, 1, 2, 35, 36, 37, 10, 38, 12, 13, 39, 40, 41, 42, 43, 44, 45, 46, 47, 48, 49, 50, 51, 52, 53] (by decide +kernel) (by decide +kernel)
set_option maxRecDepth 20000 in
theorem gX1_subtract_X1_keepInRegister : GoodIn wsX1_subtract (wsV RX1 49 RX1 yX1_keepInRegister wsX1_keepInRegister) := goodIn_app (goodIn_of _ (by decide +kernel)) ggX1_subtract_X1_keepInRegister
theorem dX1_subtract_0 : decode cX1_subtract 0 = .ok (.iload_n 1, 1) := by decide +kernel
theorem dX1_subtract_1 : decode cX1_subtract 1 = .ok (.invokestatic 38, 3) := by decide +kernel
theorem dX1_subtract_4 : decode cX1_subtract 4 = .ok (.ifCond .ne 5, 3) := by decide +kernel
theorem dX1_subtract_7 : decode cX1_subtract 7 = .ok (.iconst (-1), 1) := by decide +kernel
theorem dX1_subtract_8 : decode cX1_subtract 8 = .ok (.ireturn, 1) := by decide +kernel
theorem dX1_subtract_9 : decode cX1_subtract 9 = .ok (.aload_n 0, 1) := by decide +kernel
theorem dX1_subtract_10 : decode cX1_subtract 10 = .ok (.getfield 35, 3) := by decide +kernel
theorem dX1_subtract_13 : decode cX1_subtract 13 = .ok (.lload_n 2, 1) := by decide +kernel
theorem dX1_subtract_14 : decode cX1_subtract 14 = .ok (.invokevirtual 42, 3) := by decide +kernel
theorem dX1_subtract_17 : decode cX1_subtract 17 = .ok (.aload_n 0, 1) := by decide +kernel
theorem dX1_subtract_18 : decode cX1_subtract 18 = .ok (.getfield 35, 3) := by decide +kernel
theorem dX1_subtract_21 : decode cX1_subtract 21 = .ok (.invokevirtual 53, 3) := by decide +kernel
theorem dX1_subtract_24 : decode cX1_subtract 24 = .ok (.aload_n 0, 1) := by decide +kernel
theorem dX1_subtract_25 : decode cX1_subtract 25 = .ok (.getfield 35, 3) := by decide +kernel
theorem dX1_subtract_28 : decode cX1_subtract 28 = .ok (.aload_n 0, 1) := by decide +kernel
theorem dX1_subtract_29 : decode cX1_subtract 29 = .ok (.getfield 9, 3) := by decide +kernel
theorem dX1_subtract_32 : decode cX1_subtract 32 = .ok (.iload_n 1, 1) := by decide +kernel
theorem dX1_subtract_33 : decode cX1_subtract 33 = .ok (.laload, 1) := by decide +kernel
theorem dX1_subtract_34 : decode cX1_subtract 34 = .ok (.invokevirtual 46, 3) := by decide +kernel
theorem dX1_subtract_37 : decode cX1_subtract 37 = .ok (.aload_n 0, 1) := by decide +kernel
theorem dX1_subtract_38 : decode cX1_subtract 38 = .ok (.iload_n 1, 1) := by decide +kernel
theorem dX1_subtract_39 : decode cX1_subtract 39 = .ok (.invokevirtual 49, 3) := by decide +kernel
theorem dX1_subtract_42 : decode cX1_subtract 42 = .ok (.ireturn, 1) := by decide +kernel
set_option maxRecDepth 20000 in
theorem ggX1_times_X1_isRegister : GoodIn wsX1_times wsX1_isRegister := goodIn_r _ [6] (by decide +kernel) (by decide +kernel)
set_option maxRecDepth 20000 in
theorem gX1_times_X1_isRegister : GoodIn wsX1_times (va_wsS RX1 38 yX1_isRegister wsX1_isRegister) := goodIn_app (goodIn_of _ (by decide +kernel)) ggX1_times_X1_isRegister
set_option maxRecDepth 20000 in
theorem ggX1_times_X0_becomeProduct : GoodIn wsX1_times wsX0_becomeProduct := goodIn_r _ [11, 12, 13, 14, 36, 37] (by decide +kernel) (by decide +kernel)
set_option maxRecDepth 20000 in
theorem gX1_times_X0_becomeProduct : GoodIn wsX1_times (wsV RX1 26 RX0 yX0_becomeProduct wsX0_becomeProduct) := goodIn_app (goodIn_of _ (by decide +kernel)) ggX1_times_X0_becomeProduct
set_option maxRecDepth 20000 in
theorem ggX1_times_X1_keepInRegister : GoodIn wsX1_times wsX1_keepInRegister := goodIn_r _ [18, 1, 2, 19, 20, 21, 10, 22, 13, 14, 23, 24, 25, 26, 27, 28, 29, 30, 31, 32, 33, 34, 35, 36, 37] (by decide +kernel) (by decide +kernel)
set_option maxRecDepth 20000 in
theorem gX1_times_X1_keepInRegister : GoodIn wsX1_times (wsV RX1 49 RX1 yX1_keepInRegister wsX1_keepInRegister) := goodIn_app (goodIn_of _ (by decide +kernel)) ggX1_times_X1_keepInRegister
theorem dX1_times_0 : decode cX1_times 0 = .ok (.iload_n 1, 1) := by decide +kernel
theorem dX1_times_1 : decode cX1_times 1 = .ok (.invokestatic 38, 3) := by decide +kernel
theorem dX1_times_4 : decode cX1_times 4 = .ok (.ifCond .ne 5, 3) := by decide +kernel
theorem dX1_times_7 : decode cX1_times 7 = .ok (.iconst (-1), 1) := by decide +kernel
theorem dX1_times_8 : decode cX1_times 8 = .ok (.ireturn, 1) := by decide +kernel
theorem dX1_times_9 : decode cX1_times 9 = .ok (.aload_n 0, 1) := by decide +kernel
theorem dX1_times_10 : decode cX1_times 10 = .ok (.getfield 35, 3) := by decide +kernel
theorem dX1_times_13 : decode cX1_times 13 = .ok (.aload_n 0, 1) := by decide +kernel
theorem dX1_times_14 : decode cX1_times 14 = .ok (.getfield 9, 3) := by decide +kernel
theorem dX1_times_17 : decode cX1_times 17 = .ok (.iload_n 1, 1) := by decide +kernel
theorem dX1_times_18 : decode cX1_times 18 = .ok (.laload, 1) := by decide +kernel
theorem dX1_times_19 : decode cX1_times 19 = .ok (.lload_n 2, 1) := by decide +kernel
theorem dX1_times_20 : decode cX1_times 20 = .ok (.invokevirtual 26, 3) := by decide +kernel
theorem dX1_times_23 : decode cX1_times 23 = .ok (.aload_n 0, 1) := by decide +kernel
theorem dX1_times_24 : decode cX1_times 24 = .ok (.iload_n 1, 1) := by decide +kernel
theorem dX1_times_25 : decode cX1_times 25 = .ok (.invokevirtual 49, 3) := by decide +kernel
theorem dX1_times_28 : decode cX1_times 28 = .ok (.ireturn, 1) := by decide +kernel
set_option maxRecDepth 20000 in
theorem ggX1_share_X1_isRegister : GoodIn wsX1_share wsX1_isRegister := goodIn_r _ [6] (by decide +kernel) (by decide +kernel)
set_option maxRecDepth 20000 in
theorem gX1_share_X1_isRegister : GoodIn wsX1_share (va_wsS RX1 38 yX1_isRegister wsX1_isRegister) := goodIn_app (goodIn_of _ (by decide +kernel)) ggX1_share_X1_isRegister
set_option maxRecDepth 20000 in
theorem ggX1_share_X1_isWay : GoodIn wsX1_share wsX1_isWay := goodIn_r _ [9] (by decide +kernel) (by decide +kernel)
set_option maxRecDepth 20000 in
theorem gX1_share_X1_isWay : GoodIn wsX1_share (va_wsS RX1 56 yX1_isWay wsX1_isWay) := goodIn_app (goodIn_of _ (by decide +kernel)) ggX1_share_X1_isWay
set_option maxRecDepth 20000 in
theorem ggX1_share_X0_becomeProduct : GoodIn wsX1_share wsX0_becomeProduct := goodIn_r _ [14, 15, 16, 17, 73, 74] (by decide +kernel) (by decide +kernel)
set_option maxRecDepth 20000 in
theorem gX1_share_X0_becomeProduct : GoodIn wsX1_share (wsV RX1 26 RX0 yX0_becomeProduct wsX0_becomeProduct) := goodIn_app (goodIn_of _ (by decide +kernel)) ggX1_share_X0_becomeProduct
set_option maxRecDepth 20000 in
theorem ggX1_share_X1_divideOutcome : GoodIn wsX1_share wsX1_divideOutcome := goodIn_r _ [21, 1, 22, 23, 24, 13, 25, 16, 26, 27, 28, 29, 30, 31, 32, 33, 34, 17, 35, 36, 37, 38, 39, 40, 41, 42, 43, 44, 45, 5, 46, 47, 48, 49, 50, 51, 52, 53, 54, 55, 68, 69, 70, 71, 72, 73, 74] (by decide +kernel) (by decide +kernel)
set_option maxRecDepth 20000 in
theorem gX1_share_X1_divideOutcome : GoodIn wsX1_share (wsV RX1 59 RX1 yX1_divideOutcome wsX1_divideOutcome) := goodIn_app (goodIn_of _ (by decide +kernel)) ggX1_share_X1_divideOutcome
set_option maxRecDepth 20000 in
theorem ggX1_share_X1_keepInRegister : GoodIn wsX1_share wsX1_keepInRegister := goodIn_r _ [59, 1, 2, 60, 61, 62, 13, 63, 16, 17, 22, 23, 24, 25, 64, 65, 66, 67, 68, 69, 70, 71, 72, 73, 74] (by decide +kernel) (by decide +kernel)
set_option maxRecDepth 20000 in
theorem gX1_share_X1_keepInRegister : GoodIn wsX1_share (wsV RX1 49 RX1 yX1_keepInRegister wsX1_keepInRegister) := goodIn_app (goodIn_of _ (by decide +kernel)) ggX1_share_X1_keepInRegister
theorem dX1_share_0 : decode cX1_share 0 = .ok (.iload_n 1, 1) := by decide +kernel
theorem dX1_share_1 : decode cX1_share 1 = .ok (.invokestatic 38, 3) := by decide +kernel
theorem dX1_share_4 : decode cX1_share 4 = .ok (.ifCond .eq 11, 3) := by decide +kernel
theorem dX1_share_7 : decode cX1_share 7 = .ok (.iload 6, 2) := by decide +kernel
theorem dX1_share_9 : decode cX1_share 9 = .ok (.invokestatic 56, 3) := by decide +kernel
theorem dX1_share_12 : decode cX1_share 12 = .ok (.ifCond .ne 5, 3) := by decide +kernel
theorem dX1_share_15 : decode cX1_share 15 = .ok (.iconst (-1), 1) := by decide +kernel
theorem dX1_share_16 : decode cX1_share 16 = .ok (.ireturn, 1) := by decide +kernel
theorem dX1_share_17 : decode cX1_share 17 = .ok (.lload 4, 2) := by decide +kernel
theorem dX1_share_19 : decode cX1_share 19 = .ok (.lconst 0, 1) := by decide +kernel
theorem dX1_share_20 : decode cX1_share 20 = .ok (.lcmp, 1) := by decide +kernel
theorem dX1_share_21 : decode cX1_share 21 = .ok (.ifCond .ne 5, 3) := by decide +kernel
theorem dX1_share_24 : decode cX1_share 24 = .ok (.iconst 3, 1) := by decide +kernel
theorem dX1_share_25 : decode cX1_share 25 = .ok (.ireturn, 1) := by decide +kernel
theorem dX1_share_26 : decode cX1_share 26 = .ok (.aload_n 0, 1) := by decide +kernel
theorem dX1_share_27 : decode cX1_share 27 = .ok (.getfield 35, 3) := by decide +kernel
theorem dX1_share_30 : decode cX1_share 30 = .ok (.aload_n 0, 1) := by decide +kernel
theorem dX1_share_31 : decode cX1_share 31 = .ok (.getfield 9, 3) := by decide +kernel
theorem dX1_share_34 : decode cX1_share 34 = .ok (.iload_n 1, 1) := by decide +kernel
theorem dX1_share_35 : decode cX1_share 35 = .ok (.laload, 1) := by decide +kernel
theorem dX1_share_36 : decode cX1_share 36 = .ok (.lload_n 2, 1) := by decide +kernel
theorem dX1_share_37 : decode cX1_share 37 = .ok (.invokevirtual 26, 3) := by decide +kernel
theorem dX1_share_40 : decode cX1_share 40 = .ok (.aload_n 0, 1) := by decide +kernel
theorem dX1_share_41 : decode cX1_share 41 = .ok (.lload 4, 2) := by decide +kernel
theorem dX1_share_43 : decode cX1_share 43 = .ok (.iload 6, 2) := by decide +kernel
theorem dX1_share_45 : decode cX1_share 45 = .ok (.invokevirtual 59, 3) := by decide +kernel
theorem dX1_share_48 : decode cX1_share 48 = .ok (.aload_n 0, 1) := by decide +kernel
theorem dX1_share_49 : decode cX1_share 49 = .ok (.iload_n 1, 1) := by decide +kernel
theorem dX1_share_50 : decode cX1_share 50 = .ok (.invokevirtual 49, 3) := by decide +kernel
theorem dX1_share_53 : decode cX1_share 53 = .ok (.ireturn, 1) := by decide +kernel
set_option maxRecDepth 20000 in
theorem ggX1_enter_X1_isTally : GoodIn wsX1_enter wsX1_isTally := goodIn_r _ [7] (by decide +kernel) (by decide +kernel)
set_option maxRecDepth 20000 in
theorem gX1_enter_X1_isTally : GoodIn wsX1_enter (va_wsS RX1 63 yX1_isTally wsX1_isTally) := goodIn_app (goodIn_of _ (by decide +kernel)) ggX1_enter_X1_isTally
set_option maxRecDepth 20000 in
theorem ggX1_enter_X1_isRegister : GoodIn wsX1_enter wsX1_isRegister := goodIn_r _ [10] (by decide +kernel) (by decide +kernel)
set_option maxRecDepth 20000 in
theorem gX1_enter_X1_isRegister : GoodIn wsX1_enter (va_wsS RX1 38 yX1_isRegister wsX1_isRegister) := goodIn_app (goodIn_of _ (by decide +kernel)) ggX1_enter_X1_isRegister
set_option maxRecDepth 20000 in
theorem ggX1_enter_X0_becomeProduct : GoodIn wsX1_enter wsX0_becomeProduct := goodIn_r _ [15, 16, 17, 18, 50, 51] (by decide +kernel) (by decide +kernel)
set_option maxRecDepth 20000 in
theorem gX1_enter_X0_becomeProduct : GoodIn wsX1_enter (wsV RX1 26 RX0 yX0_becomeProduct wsX0_becomeProduct) := goodIn_app (goodIn_of _ (by decide +kernel)) ggX1_enter_X0_becomeProduct
set_option maxRecDepth 20000 in
theorem ggX1_enter_X0_increase_ : GoodIn wsX1_enter wsX0_increase_ := goodIn_r _ [22, 17, 18, 23, 24, 25, 14, 26, 27, 28, 29, 30, 50, 51] (by decide +kernel) (by decide +kernel)
set_option maxRecDepth 20000 in
theorem gX1_enter_X0_increase_ : GoodIn wsX1_enter (wsV RX1 66 RX0 yX0_increase_ wsX0_increase_) := goodIn_app (goodIn_of _ (by decide +kernel)) ggX1_enter_X0_increase_
set_option maxRecDepth 20000 in
theorem ggX1_enter_X1_keepInTally : GoodIn wsX1_enter wsX1_keepInTally := goodIn_r _ [34, 1, 35, 36, 3, 37, 38, 39, 14, 40, 17, 18, 27, 28, 29, 30, 41, 42, 43, 44, 45, 46, 47, 48, 49, 50, 51] (by decide +kernel) (by decide +kernel)
set_option maxRecDepth 20000 in
theorem gX1_enter_X1_keepInTally : GoodIn wsX1_enter (wsV RX1 69 RX1 yX1_keepInTally wsX1_keepInTally) := goodIn_app (goodIn_of _ (by decide +kernel)) ggX1_enter_X1_keepInTally
theorem dX1_enter_0 : decode cX1_enter 0 = .ok (.iload_n 1, 1) := by decide +kernel
theorem dX1_enter_1 : decode cX1_enter 1 = .ok (.invokestatic 63, 3) := by decide +kernel
theorem dX1_enter_4 : decode cX1_enter 4 = .ok (.ifCond .eq 10, 3) := by decide +kernel
theorem dX1_enter_7 : decode cX1_enter 7 = .ok (.iload_n 2, 1) := by decide +kernel
theorem dX1_enter_8 : decode cX1_enter 8 = .ok (.invokestatic 38, 3) := by decide +kernel
theorem dX1_enter_11 : decode cX1_enter 11 = .ok (.ifCond .ne 5, 3) := by decide +kernel
theorem dX1_enter_14 : decode cX1_enter 14 = .ok (.iconst (-1), 1) := by decide +kernel
theorem dX1_enter_15 : decode cX1_enter 15 = .ok (.ireturn, 1) := by decide +kernel
theorem dX1_enter_16 : decode cX1_enter 16 = .ok (.aload_n 0, 1) := by decide +kernel
theorem dX1_enter_17 : decode cX1_enter 17 = .ok (.getfield 35, 3) := by decide +kernel
theorem dX1_enter_20 : decode cX1_enter 20 = .ok (.aload_n 0, 1) := by decide +kernel
theorem dX1_enter_21 : decode cX1_enter 21 = .ok (.getfield 9, 3) := by decide +kernel
theorem dX1_enter_24 : decode cX1_enter 24 = .ok (.iload_n 2, 1) := by decide +kernel
theorem dX1_enter_25 : decode cX1_enter 25 = .ok (.laload, 1) := by decide +kernel
theorem dX1_enter_26 : decode cX1_enter 26 = .ok (.lload_n 3, 1) := by decide +kernel
theorem dX1_enter_27 : decode cX1_enter 27 = .ok (.invokevirtual 26, 3) := by decide +kernel
theorem dX1_enter_30 : decode cX1_enter 30 = .ok (.aload_n 0, 1) := by decide +kernel
theorem dX1_enter_31 : decode cX1_enter 31 = .ok (.getfield 35, 3) := by decide +kernel
theorem dX1_enter_34 : decode cX1_enter 34 = .ok (.aload_n 0, 1) := by decide +kernel
theorem dX1_enter_35 : decode cX1_enter 35 = .ok (.getfield 15, 3) := by decide +kernel
theorem dX1_enter_38 : decode cX1_enter 38 = .ok (.iload_n 1, 1) := by decide +kernel
theorem dX1_enter_39 : decode cX1_enter 39 = .ok (.aaload, 1) := by decide +kernel
theorem dX1_enter_40 : decode cX1_enter 40 = .ok (.invokevirtual 66, 3) := by decide +kernel
theorem dX1_enter_43 : decode cX1_enter 43 = .ok (.aload_n 0, 1) := by decide +kernel
theorem dX1_enter_44 : decode cX1_enter 44 = .ok (.iload_n 1, 1) := by decide +kernel
theorem dX1_enter_45 : decode cX1_enter 45 = .ok (.invokevirtual 69, 3) := by decide +kernel
theorem dX1_enter_48 : decode cX1_enter 48 = .ok (.ireturn, 1) := by decide +kernel
set_option maxRecDepth 20000 in
theorem ggX1_merge_X1_isTally : GoodIn wsX1_merge wsX1_isTally := goodIn_r _ [6] (by decide +kernel) (by decide +kernel)
set_option maxRecDepth 20000 in
theorem gX1_merge_X1_isTally : GoodIn wsX1_merge (va_wsS RX1 63 yX1_isTally wsX1_isTally) := goodIn_app (goodIn_of _ (by decide +kernel)) ggX1_merge_X1_isTally
set_option maxRecDepth 20000 in
theorem ggX1_merge_X0_become_ : GoodIn wsX1_merge wsX0_become_ := goodIn_r _ [11, 12, 13, 41, 42] (by decide +kernel) (by decide +kernel)
set_option maxRecDepth 20000 in
theorem gX1_merge_X0_become_ : GoodIn wsX1_merge (wsV RX1 72 RX0 yX0_become_ wsX0_become_) := goodIn_app (goodIn_of _ (by decide +kernel)) ggX1_merge_X0_become_
set_option maxRecDepth 20000 in
theorem ggX1_merge_X0_increase_ : GoodIn wsX1_merge wsX0_increase_ := goodIn_r _ [17, 12, 13, 18, 19, 20, 10, 21, 22, 23, 24, 25, 41, 42] (by decide +kernel) (by decide +kernel)
set_option maxRecDepth 20000 in
theorem gX1_merge_X0_increase_ : GoodIn wsX1_merge (wsV RX1 66 RX0 yX0_increase_ wsX0_increase_) := goodIn_app (goodIn_of _ (by decide +kernel)) ggX1_merge_X0_increase_
set_option maxRecDepth 20000 in
theorem ggX1_merge_X1_keepInTally : GoodIn wsX1_merge wsX1_keepInTally := goodIn_r _ [29, 1, 30, 31, 2, 32, 33, 34, 10, 35, 12, 13, 22, 23, 24, 25, 7, 8, 9, 11, 36, 37, 38, 39, 40, 41, 42] (by decide +kernel) (by decide +kernel)
set_option maxRecDepth 20000 in
theorem gX1_merge_X1_keepInTally : GoodIn wsX1_merge (wsV RX1 69 RX1 yX1_keepInTally wsX1_keepInTally) := goodIn_app (goodIn_of _ (by decide +kernel)) ggX1_merge_X1_keepInTally
theorem dX1_merge_0 : decode cX1_merge 0 = .ok (.iload_n 1, 1) := by decide +kernel
theorem dX1_merge_1 : decode cX1_merge 1 = .ok (.invokestatic 63, 3) := by decide +kernel
theorem dX1_merge_4 : decode cX1_merge 4 = .ok (.ifCond .eq 10, 3) := by decide +kernel
theorem dX1_merge_7 : decode cX1_merge 7 = .ok (.iload_n 2, 1) := by decide +kernel
theorem dX1_merge_8 : decode cX1_merge 8 = .ok (.invokestatic 63, 3) := by decide +kernel
theorem dX1_merge_11 : decode cX1_merge 11 = .ok (.ifCond .ne 5, 3) := by decide +kernel
theorem dX1_merge_14 : decode cX1_merge 14 = .ok (.iconst (-1), 1) := by decide +kernel
theorem dX1_merge_15 : decode cX1_merge 15 = .ok (.ireturn, 1) := by decide +kernel
theorem dX1_merge_16 : decode cX1_merge 16 = .ok (.aload_n 0, 1) := by decide +kernel
theorem dX1_merge_17 : decode cX1_merge 17 = .ok (.getfield 35, 3) := by decide +kernel
theorem dX1_merge_20 : decode cX1_merge 20 = .ok (.aload_n 0, 1) := by decide +kernel
theorem dX1_merge_21 : decode cX1_merge 21 = .ok (.getfield 15, 3) := by decide +kernel
theorem dX1_merge_24 : decode cX1_merge 24 = .ok (.iload_n 1, 1) := by decide +kernel
theorem dX1_merge_25 : decode cX1_merge 25 = .ok (.aaload, 1) := by decide +kernel
theorem dX1_merge_26 : decode cX1_merge 26 = .ok (.invokevirtual 72, 3) := by decide +kernel
theorem dX1_merge_29 : decode cX1_merge 29 = .ok (.aload_n 0, 1) := by decide +kernel
theorem dX1_merge_30 : decode cX1_merge 30 = .ok (.getfield 35, 3) := by decide +kernel
theorem dX1_merge_33 : decode cX1_merge 33 = .ok (.aload_n 0, 1) := by decide +kernel
theorem dX1_merge_34 : decode cX1_merge 34 = .ok (.getfield 15, 3) := by decide +kernel
theorem dX1_merge_37 : decode cX1_merge 37 = .ok (.iload_n 2, 1) := by decide +kernel
theorem dX1_merge_38 : decode cX1_merge 38 = .ok (.aaload, 1) := by decide +kernel
theorem dX1_merge_39 : decode cX1_merge 39 = .ok (.invokevirtual 66, 3) := by decide +kernel
theorem dX1_merge_42 : decode cX1_merge 42 = .ok (.aload_n 0, 1) := by decide +kernel
theorem dX1_merge_43 : decode cX1_merge 43 = .ok (.iload_n 1, 1) := by decide +kernel
theorem dX1_merge_44 : decode cX1_merge 44 = .ok (.invokevirtual 69, 3) := by decide +kernel
theorem dX1_merge_47 : decode cX1_merge 47 = .ok (.ireturn, 1) := by decide +kernel
set_option maxRecDepth 20000 in
theorem ggX1_split_X1_isTally : GoodIn wsX1_split wsX1_isTally := goodIn_r _ [7] (by decide +kernel) (by decide +kernel)
set_option maxRecDepth 20000 in
theorem gX1_split_X1_isTally : GoodIn wsX1_split (va_wsS RX1 63 yX1_isTally wsX1_isTally) := goodIn_app (goodIn_of _ (by decide +kernel)) ggX1_split_X1_isTally
set_option maxRecDepth 20000 in
theorem ggX1_split_X1_isRegister : GoodIn wsX1_split wsX1_isRegister := goodIn_r _ [10] (by decide +kernel) (by decide +kernel)
set_option maxRecDepth 20000 in
theorem gX1_split_X1_isRegister : GoodIn wsX1_split (va_wsS RX1 38 yX1_isRegister wsX1_isRegister) := goodIn_app (goodIn_of _ (by decide +kernel)) ggX1_split_X1_isRegister
set_option maxRecDepth 20000 in
theorem ggX1_split_X0_isNegative : GoodIn wsX1_split wsX0_isNegative := goodIn_r _ [15, 16, 42, 43] (by decide +kernel) (by decide +kernel)
set_option maxRecDepth 20000 in
theorem gX1_split_X0_isNegative : GoodIn wsX1_split (wsV RX1 74 RX0 yX0_isNegative wsX0_isNegative) := goodIn_app (goodIn_of _ (by decide +kernel)) ggX1_split_X0_isNegative
set_option maxRecDepth 20000 in
theorem ggX1_split_X0_dropSign : GoodIn wsX1_split wsX0_dropSign := goodIn_r _ [20, 21, 12, 13, 14, 15, 16, 22, 23, 24, 25, 26, 27, 42, 43] (by decide +kernel) (by decide +kernel)
set_option maxRecDepth 20000 in
theorem gX1_split_X0_dropSign : GoodIn wsX1_split (wsV RX1 78 RX0 yX0_dropSign wsX0_dropSign) := goodIn_app (goodIn_of _ (by decide +kernel)) ggX1_split_X0_dropSign
set_option maxRecDepth 20000 in
theorem ggX1_split_X0_divideBy : GoodIn wsX1_split wsX0_divideBy := goodIn_r _ [31, 16, 26, 32, 33, 14, 34, 35, 42, 43] (by decide +kernel) (by decide +kernel)
set_option maxRecDepth 20000 in
theorem gX1_split_X0_divideBy : GoodIn wsX1_split (wsV RX1 81 RX0 yX0_divideBy wsX0_divideBy) := goodIn_app (goodIn_of _ (by decide +kernel)) ggX1_split_X0_divideBy
set_option maxRecDepth 20000 in
theorem ggX1_split_X0_negate : GoodIn wsX1_split wsX0_negate := goodIn_r _ [25, 26, 16, 27, 42, 43] (by decide +kernel) (by decide +kernel)
set_option maxRecDepth 20000 in
theorem gX1_split_X0_negate : GoodIn wsX1_split (wsV RX1 53 RX0 yX0_negate wsX0_negate) := goodIn_app (goodIn_of _ (by decide +kernel)) ggX1_split_X0_negate
theorem dX1_split_0 : decode cX1_split 0 = .ok (.iload_n 1, 1) := by decide +kernel
theorem dX1_split_1 : decode cX1_split 1 = .ok (.invokestatic 63, 3) := by decide +kernel
theorem dX1_split_4 : decode cX1_split 4 = .ok (.ifCond .eq 25, 3) := by decide +kernel
theorem dX1_split_7 : decode cX1_split 7 = .ok (.iload 4, 2) := by decide +kernel
theorem dX1_split_9 : decode cX1_split 9 = .ok (.invokestatic 38, 3) := by decide +kernel
theorem dX1_split_12 : decode cX1_split 12 = .ok (.ifCond .eq 17, 3) := by decide +kernel
theorem dX1_split_15 : decode cX1_split 15 = .ok (.lload_n 2, 1) := by decide +kernel
theorem dX1_split_16 : decode cX1_split 16 = .ok (.lconst 0, 1) := by decide +kernel
theorem dX1_split_17 : decode cX1_split 17 = .ok (.lcmp, 1) := by decide +kernel
theorem dX1_split_18 : decode cX1_split 18 = .ok (.ifCond .lt 11, 3) := by decide +kernel
theorem dX1_split_21 : decode cX1_split 21 = .ok (.lload_n 2, 1) := by decide +kernel
theorem dX1_split_22 : decode cX1_split 22 = .ok (.ldc2_w 24, 3) := by decide +kernel
theorem dX1_split_25 : decode cX1_split 25 = .ok (.lcmp, 1) := by decide +kernel
theorem dX1_split_26 : decode cX1_split 26 = .ok (.ifCond .le 5, 3) := by decide +kernel
theorem dX1_split_29 : decode cX1_split 29 = .ok (.iconst (-1), 1) := by decide +kernel
theorem dX1_split_30 : decode cX1_split 30 = .ok (.ireturn, 1) := by decide +kernel
theorem dX1_split_31 : decode cX1_split 31 = .ok (.lload_n 2, 1) := by decide +kernel
theorem dX1_split_32 : decode cX1_split 32 = .ok (.lconst 0, 1) := by decide +kernel
theorem dX1_split_33 : decode cX1_split 33 = .ok (.lcmp, 1) := by decide +kernel
theorem dX1_split_34 : decode cX1_split 34 = .ok (.ifCond .ne 5, 3) := by decide +kernel
theorem dX1_split_37 : decode cX1_split 37 = .ok (.iconst 3, 1) := by decide +kernel
theorem dX1_split_38 : decode cX1_split 38 = .ok (.ireturn, 1) := by decide +kernel
theorem dX1_split_39 : decode cX1_split 39 = .ok (.aload_n 0, 1) := by decide +kernel
theorem dX1_split_40 : decode cX1_split 40 = .ok (.getfield 15, 3) := by decide +kernel
theorem dX1_split_43 : decode cX1_split 43 = .ok (.iload_n 1, 1) := by decide +kernel
theorem dX1_split_44 : decode cX1_split 44 = .ok (.aaload, 1) := by decide +kernel
theorem dX1_split_45 : decode cX1_split 45 = .ok (.astore 5, 2) := by decide +kernel
theorem dX1_split_47 : decode cX1_split 47 = .ok (.aload 5, 2) := by decide +kernel
theorem dX1_split_49 : decode cX1_split 49 = .ok (.invokevirtual 74, 3) := by decide +kernel
theorem dX1_split_52 : decode cX1_split 52 = .ok (.istore 6, 2) := by decide +kernel
theorem dX1_split_54 : decode cX1_split 54 = .ok (.aload 5, 2) := by decide +kernel
theorem dX1_split_56 : decode cX1_split 56 = .ok (.invokevirtual 78, 3) := by decide +kernel
theorem dX1_split_59 : decode cX1_split 59 = .ok (.aload 5, 2) := by decide +kernel
theorem dX1_split_61 : decode cX1_split 61 = .ok (.lload_n 2, 1) := by decide +kernel
theorem dX1_split_62 : decode cX1_split 62 = .ok (.invokevirtual 81, 3) := by decide +kernel
theorem dX1_split_65 : decode cX1_split 65 = .ok (.lstore 7, 2) := by decide +kernel
theorem dX1_split_67 : decode cX1_split 67 = .ok (.iload 6, 2) := by decide +kernel
theorem dX1_split_69 : decode cX1_split 69 = .ok (.ifCond .eq 13, 3) := by decide +kernel
theorem dX1_split_72 : decode cX1_split 72 = .ok (.aload 5, 2) := by decide +kernel
theorem dX1_split_74 : decode cX1_split 74 = .ok (.invokevirtual 53, 3) := by decide +kernel
theorem dX1_split_77 : decode cX1_split 77 = .ok (.lload 7, 2) := by decide +kernel
theorem dX1_split_79 : decode cX1_split 79 = .ok (.lneg, 1) := by decide +kernel
theorem dX1_split_80 : decode cX1_split 80 = .ok (.lstore 7, 2) := by decide +kernel
theorem dX1_split_82 : decode cX1_split 82 = .ok (.aload_n 0, 1) := by decide +kernel
theorem dX1_split_83 : decode cX1_split 83 = .ok (.getfield 9, 3) := by decide +kernel
theorem dX1_split_86 : decode cX1_split 86 = .ok (.iload 4, 2) := by decide +kernel
theorem dX1_split_88 : decode cX1_split 88 = .ok (.lload 7, 2) := by decide +kernel
theorem dX1_split_90 : decode cX1_split 90 = .ok (.lastore, 1) := by decide +kernel
theorem dX1_split_91 : decode cX1_split 91 = .ok (.iconst 0, 1) := by decide +kernel
theorem dX1_split_92 : decode cX1_split 92 = .ok (.ireturn, 1) := by decide +kernel
set_option maxRecDepth 20000 in
theorem ggX1_take_X1_isTally : GoodIn wsX1_take wsX1_isTally := goodIn_r _ [6] (by decide +kernel) (by decide +kernel)
set_option maxRecDepth 20000 in
theorem gX1_take_X1_isTally : GoodIn wsX1_take (va_wsS RX1 63 yX1_isTally wsX1_isTally) := goodIn_app (goodIn_of _ (by decide +kernel)) ggX1_take_X1_isTally
set_option maxRecDepth 20000 in
theorem ggX1_take_X1_isRegister : GoodIn wsX1_take wsX1_isRegister := goodIn_r _ [9] (by decide +kernel) (by decide +kernel)
set_option maxRecDepth 20000 in
theorem gX1_take_X1_isRegister : GoodIn wsX1_take (va_wsS RX1 38 yX1_isRegister wsX1_isRegister) := goodIn_app (goodIn_of _ (by decide +kernel)) ggX1_take_X1_isRegister
set_option maxRecDepth 20000 in
theorem ggX1_take_X0_become_ : GoodIn wsX1_take wsX0_become_ := goodIn_r _ [14, 15, 16, 39, 40] (by decide +kernel) (by decide +kernel)
set_option maxRecDepth 20000 in
theorem gX1_take_X0_become_ : GoodIn wsX1_take (wsV RX1 72 RX0 yX0_become_ wsX0_become_) := goodIn_app (goodIn_of _ (by decide +kernel)) ggX1_take_X0_become_
set_option maxRecDepth 20000 in
theorem ggX1_take_X1_keepInRegister : GoodIn wsX1_take wsX1_keepInRegister := goodIn_r _ [20, 1, 21, 22, 23, 24, 13, 25, 15, 16, 26, 27, 28, 29, 30, 31, 32, 33, 34, 35, 36, 37, 38, 39, 40] (by decide +kernel) (by decide +kernel)
set_option maxRecDepth 20000 in
theorem gX1_take_X1_keepInRegister : GoodIn wsX1_take (wsV RX1 49 RX1 yX1_keepInRegister wsX1_keepInRegister) := goodIn_app (goodIn_of _ (by decide +kernel)) ggX1_take_X1_keepInRegister
theorem dX1_take_0 : decode cX1_take 0 = .ok (.iload_n 1, 1) := by decide +kernel
theorem dX1_take_1 : decode cX1_take 1 = .ok (.invokestatic 63, 3) := by decide +kernel
theorem dX1_take_4 : decode cX1_take 4 = .ok (.ifCond .eq 10, 3) := by decide +kernel
theorem dX1_take_7 : decode cX1_take 7 = .ok (.iload_n 2, 1) := by decide +kernel
theorem dX1_take_8 : decode cX1_take 8 = .ok (.invokestatic 38, 3) := by decide +kernel
theorem dX1_take_11 : decode cX1_take 11 = .ok (.ifCond .ne 5, 3) := by decide +kernel
theorem dX1_take_14 : decode cX1_take 14 = .ok (.iconst (-1), 1) := by decide +kernel
theorem dX1_take_15 : decode cX1_take 15 = .ok (.ireturn, 1) := by decide +kernel
theorem dX1_take_16 : decode cX1_take 16 = .ok (.aload_n 0, 1) := by decide +kernel
theorem dX1_take_17 : decode cX1_take 17 = .ok (.getfield 35, 3) := by decide +kernel
theorem dX1_take_20 : decode cX1_take 20 = .ok (.aload_n 0, 1) := by decide +kernel
theorem dX1_take_21 : decode cX1_take 21 = .ok (.getfield 15, 3) := by decide +kernel
theorem dX1_take_24 : decode cX1_take 24 = .ok (.iload_n 1, 1) := by decide +kernel
theorem dX1_take_25 : decode cX1_take 25 = .ok (.aaload, 1) := by decide +kernel
theorem dX1_take_26 : decode cX1_take 26 = .ok (.invokevirtual 72, 3) := by decide +kernel
theorem dX1_take_29 : decode cX1_take 29 = .ok (.aload_n 0, 1) := by decide +kernel
theorem dX1_take_30 : decode cX1_take 30 = .ok (.iload_n 2, 1) := by decide +kernel
theorem dX1_take_31 : decode cX1_take 31 = .ok (.invokevirtual 49, 3) := by decide +kernel
theorem dX1_take_34 : decode cX1_take 34 = .ok (.ireturn, 1) := by decide +kernel
set_option maxRecDepth 20000 in
theorem ggX1_clear_X1_isTally : GoodIn wsX1_clear wsX1_isTally := goodIn_r _ [5] (by decide +kernel) (by decide +kernel)
set_option maxRecDepth 20000 in
theorem gX1_clear_X1_isTally : GoodIn wsX1_clear (va_wsS RX1 63 yX1_isTally wsX1_isTally) := goodIn_app (goodIn_of _ (by decide +kernel)) ggX1_clear_X1_isTally
set_option maxRecDepth 20000 in
theorem ggX1_clear_X0_become : GoodIn wsX1_clear wsX0_become := goodIn_r _ [10, 11, 12, 18, 19] (by decide +kernel) (by decide +kernel)
set_option maxRecDepth 20000 in
theorem gX1_clear_X0_become : GoodIn wsX1_clear (wsV RX1 42 RX0 yX0_become wsX0_become) := goodIn_app (goodIn_of _ (by decide +kernel)) ggX1_clear_X0_become
theorem dX1_clear_0 : decode cX1_clear 0 = .ok (.iload_n 1, 1) := by decide +kernel
theorem dX1_clear_1 : decode cX1_clear 1 = .ok (.invokestatic 63, 3) := by decide +kernel
theorem dX1_clear_4 : decode cX1_clear 4 = .ok (.ifCond .ne 5, 3) := by decide +kernel
theorem dX1_clear_7 : decode cX1_clear 7 = .ok (.iconst 0, 1) := by decide +kernel
theorem dX1_clear_8 : decode cX1_clear 8 = .ok (.ireturn, 1) := by decide +kernel
theorem dX1_clear_9 : decode cX1_clear 9 = .ok (.aload_n 0, 1) := by decide +kernel
theorem dX1_clear_10 : decode cX1_clear 10 = .ok (.getfield 15, 3) := by decide +kernel
theorem dX1_clear_13 : decode cX1_clear 13 = .ok (.iload_n 1, 1) := by decide +kernel
theorem dX1_clear_14 : decode cX1_clear 14 = .ok (.aaload, 1) := by decide +kernel
theorem dX1_clear_15 : decode cX1_clear 15 = .ok (.lconst 0, 1) := by decide +kernel
theorem dX1_clear_16 : decode cX1_clear 16 = .ok (.invokevirtual 42, 3) := by decide +kernel
theorem dX1_clear_19 : decode cX1_clear 19 = .ok (.iconst 1, 1) := by decide +kernel
theorem dX1_clear_20 : decode cX1_clear 20 = .ok (.ireturn, 1) := by decide +kernel
set_option maxRecDepth 20000 in
theorem ggX1_compare_X1_isTally : GoodIn wsX1_compare wsX1_isTally := goodIn_r _ [5] (by decide +kernel) (by decide +kernel)
set_option maxRecDepth 20000 in
theorem gX1_compare_X1_isTally : GoodIn wsX1_compare (va_wsS RX1 63 yX1_isTally wsX1_isTally) := goodIn_app (goodIn_of _ (by decide +kernel)) ggX1_compare_X1_isTally
set_option maxRecDepth 20000 in
theorem ggX1_compare_X0_orderTo : GoodIn wsX1_compare wsX0_orderTo := goodIn_r _ [10, 11, 12, 13, 14, 9, 15, 16, 22, 23] (by decide +kernel) (by decide +kernel)
set_option maxRecDepth 20000 in
theorem gX1_compare_X0_orderTo : GoodIn wsX1_compare (wsV RX1 85 RX0 yX0_orderTo wsX0_orderTo) := goodIn_app (goodIn_of _ (by decide +kernel)) ggX1_compare_X0_orderTo
theorem dX1_compare_0 : decode cX1_compare 0 = .ok (.iload_n 1, 1) := by decide +kernel
theorem dX1_compare_1 : decode cX1_compare 1 = .ok (.invokestatic 63, 3) := by decide +kernel
theorem dX1_compare_4 : decode cX1_compare 4 = .ok (.ifCond .eq 10, 3) := by decide +kernel
theorem dX1_compare_7 : decode cX1_compare 7 = .ok (.iload_n 2, 1) := by decide +kernel
theorem dX1_compare_8 : decode cX1_compare 8 = .ok (.invokestatic 63, 3) := by decide +kernel
theorem dX1_compare_11 : decode cX1_compare 11 = .ok (.ifCond .ne 6, 3) := by decide +kernel
theorem dX1_compare_14 : decode cX1_compare 14 = .ok (.bipush (-2), 2) := by decide +kernel
theorem dX1_compare_16 : decode cX1_compare 16 = .ok (.ireturn, 1) := by decide +kernel
theorem dX1_compare_17 : decode cX1_compare 17 = .ok (.aload_n 0, 1) := by decide +kernel
theorem dX1_compare_18 : decode cX1_compare 18 = .ok (.getfield 15, 3) := by decide +kernel
theorem dX1_compare_21 : decode cX1_compare 21 = .ok (.iload_n 1, 1) := by decide +kernel
theorem dX1_compare_22 : decode cX1_compare 22 = .ok (.aaload, 1) := by decide +kernel
theorem dX1_compare_23 : decode cX1_compare 23 = .ok (.aload_n 0, 1) := by decide +kernel
theorem dX1_compare_24 : decode cX1_compare 24 = .ok (.getfield 15, 3) := by decide +kernel
theorem dX1_compare_27 : decode cX1_compare 27 = .ok (.iload_n 2, 1) := by decide +kernel
theorem dX1_compare_28 : decode cX1_compare 28 = .ok (.aaload, 1) := by decide +kernel
theorem dX1_compare_29 : decode cX1_compare 29 = .ok (.invokevirtual 85, 3) := by decide +kernel
theorem dX1_compare_32 : decode cX1_compare 32 = .ok (.ireturn, 1) := by decide +kernel
set_option maxRecDepth 20000 in
theorem ggX1_digits_X1_isTally : GoodIn wsX1_digits wsX1_isTally := goodIn_r _ [5] (by decide +kernel) (by decide +kernel)
set_option maxRecDepth 20000 in
theorem gX1_digits_X1_isTally : GoodIn wsX1_digits (va_wsS RX1 63 yX1_isTally wsX1_isTally) := goodIn_app (goodIn_of _ (by decide +kernel)) ggX1_digits_X1_isTally
set_option maxRecDepth 20000 in
theorem ggX1_digits_X1_upperHalf : GoodIn wsX1_digits wsX1_upperHalf := goodIn_r _ [9, 10, 11, 12, 13, 14, 15, 16, 17, 18, 19, 20, 21, 22, 23, 24, 25, 26, 27, 28, 29, 30, 31, 32, 33, 34, 35, 36, 37, 38, 39, 40, 41, 42, 43, 53, 54, 55, 56, 57, 58, 59] (by decide +kernel) (by decide +kernel)
set_option maxRecDepth 20000 in
theorem gX1_digits_X1_upperHalf : GoodIn wsX1_digits (wsV RX1 89 RX1 yX1_upperHalf wsX1_upperHalf) := goodIn_app (goodIn_of _ (by decide +kernel)) ggX1_digits_X1_upperHalf
set_option maxRecDepth 20000 in
theorem ggX1_digits_X1_decimalLength : GoodIn wsX1_digits wsX1_decimalLength := goodIn_r _ [46, 47] (by decide +kernel) (by decide +kernel)
set_option maxRecDepth 20000 in
theorem gX1_digits_X1_decimalLength : GoodIn wsX1_digits (va_wsS RX1 93 yX1_decimalLength wsX1_decimalLength) := goodIn_app (goodIn_of _ (by decide +kernel)) ggX1_digits_X1_decimalLength
set_option maxRecDepth 20000 in
theorem ggX1_digits_X1_lowerHalf : GoodIn wsX1_digits wsX1_lowerHalf := goodIn_r _ [51, 10, 11, 12, 13, 14, 15, 16, 17, 18, 19, 20, 21, 22, 23, 24, 25, 26, 27, 28, 29, 30, 31, 32, 33, 34, 35, 36, 37, 38, 39, 53, 54, 55, 56, 57, 58, 59] (by decide +kernel) (by decide +kernel)
set_option maxRecDepth 20000 in
theorem gX1_digits_X1_lowerHalf : GoodIn wsX1_digits (wsV RX1 97 RX1 yX1_lowerHalf wsX1_lowerHalf) := goodIn_app (goodIn_of _ (by decide +kernel)) ggX1_digits_X1_lowerHalf
set_option maxRecDepth 20000 in
theorem ggX1_digits_X0_isNegative : GoodIn wsX1_digits wsX0_isNegative := goodIn_r _ [26, 17, 58, 59] (by decide +kernel) (by decide +kernel)
set_option maxRecDepth 20000 in
theorem gX1_digits_X0_isNegative : GoodIn wsX1_digits (wsV RX1 74 RX0 yX0_isNegative wsX0_isNegative) := goodIn_app (goodIn_of _ (by decide +kernel)) ggX1_digits_X0_isNegative
theorem dX1_digits_0 : decode cX1_digits 0 = .ok (.iload_n 1, 1) := by decide +kernel
theorem dX1_digits_1 : decode cX1_digits 1 = .ok (.invokestatic 63, 3) := by decide +kernel
theorem dX1_digits_4 : decode cX1_digits 4 = .ok (.ifCond .ne 5, 3) := by decide +kernel
theorem dX1_digits_7 : decode cX1_digits 7 = .ok (.iconst 0, 1) := by decide +kernel
theorem dX1_digits_8 : decode cX1_digits 8 = .ok (.ireturn, 1) := by decide +kernel
theorem dX1_digits_9 : decode cX1_digits 9 = .ok (.aload_n 0, 1) := by decide +kernel
theorem dX1_digits_10 : decode cX1_digits 10 = .ok (.aload_n 0, 1) := by decide +kernel
theorem dX1_digits_11 : decode cX1_digits 11 = .ok (.getfield 15, 3) := by decide +kernel
theorem dX1_digits_14 : decode cX1_digits 14 = .ok (.iload_n 1, 1) := by decide +kernel
theorem dX1_digits_15 : decode cX1_digits 15 = .ok (.aaload, 1) := by decide +kernel
theorem dX1_digits_16 : decode cX1_digits 16 = .ok (.invokevirtual 89, 3) := by decide +kernel
theorem dX1_digits_19 : decode cX1_digits 19 = .ok (.lstore_n 2, 1) := by decide +kernel
theorem dX1_digits_20 : decode cX1_digits 20 = .ok (.lload_n 2, 1) := by decide +kernel
theorem dX1_digits_21 : decode cX1_digits 21 = .ok (.lconst 0, 1) := by decide +kernel
theorem dX1_digits_22 : decode cX1_digits 22 = .ok (.lcmp, 1) := by decide +kernel
theorem dX1_digits_23 : decode cX1_digits 23 = .ok (.ifCond .le 13, 3) := by decide +kernel
theorem dX1_digits_26 : decode cX1_digits 26 = .ok (.bipush 18, 2) := by decide +kernel
theorem dX1_digits_28 : decode cX1_digits 28 = .ok (.lload_n 2, 1) := by decide +kernel
theorem dX1_digits_29 : decode cX1_digits 29 = .ok (.invokestatic 93, 3) := by decide +kernel
theorem dX1_digits_32 : decode cX1_digits 32 = .ok (.iadd, 1) := by decide +kernel
theorem dX1_digits_33 : decode cX1_digits 33 = .ok (.goto 16, 3) := by decide +kernel
theorem dX1_digits_36 : decode cX1_digits 36 = .ok (.aload_n 0, 1) := by decide +kernel
theorem dX1_digits_37 : decode cX1_digits 37 = .ok (.aload_n 0, 1) := by decide +kernel
theorem dX1_digits_38 : decode cX1_digits 38 = .ok (.getfield 15, 3) := by decide +kernel
theorem dX1_digits_41 : decode cX1_digits 41 = .ok (.iload_n 1, 1) := by decide +kernel
theorem dX1_digits_42 : decode cX1_digits 42 = .ok (.aaload, 1) := by decide +kernel
theorem dX1_digits_43 : decode cX1_digits 43 = .ok (.invokevirtual 97, 3) := by decide +kernel
theorem dX1_digits_46 : decode cX1_digits 46 = .ok (.invokestatic 93, 3) := by decide +kernel
theorem dX1_digits_49 : decode cX1_digits 49 = .ok (.istore 4, 2) := by decide +kernel
theorem dX1_digits_51 : decode cX1_digits 51 = .ok (.aload_n 0, 1) := by decide +kernel
theorem dX1_digits_52 : decode cX1_digits 52 = .ok (.getfield 15, 3) := by decide +kernel
theorem dX1_digits_55 : decode cX1_digits 55 = .ok (.iload_n 1, 1) := by decide +kernel
theorem dX1_digits_56 : decode cX1_digits 56 = .ok (.aaload, 1) := by decide +kernel
theorem dX1_digits_57 : decode cX1_digits 57 = .ok (.invokevirtual 74, 3) := by decide +kernel
theorem dX1_digits_60 : decode cX1_digits 60 = .ok (.ifCond .eq 9, 3) := by decide +kernel
theorem dX1_digits_63 : decode cX1_digits 63 = .ok (.iload 4, 2) := by decide +kernel
theorem dX1_digits_65 : decode cX1_digits 65 = .ok (.ineg, 1) := by decide +kernel
theorem dX1_digits_66 : decode cX1_digits 66 = .ok (.goto 5, 3) := by decide +kernel
theorem dX1_digits_69 : decode cX1_digits 69 = .ok (.iload 4, 2) := by decide +kernel
theorem dX1_digits_71 : decode cX1_digits 71 = .ok (.ireturn, 1) := by decide +kernel
set_option maxRecDepth 20000 in
theorem ggX1_digit_X1_isTally : GoodIn wsX1_digit wsX1_isTally := goodIn_r _ [5] (by decide +kernel) (by decide +kernel)
set_option maxRecDepth 20000 in
theorem gX1_digit_X1_isTally : GoodIn wsX1_digit (va_wsS RX1 63 yX1_isTally wsX1_isTally) := goodIn_app (goodIn_of _ (by decide +kernel)) ggX1_digit_X1_isTally
set_option maxRecDepth 20000 in
theorem ggX1_digit_X1_lowerHalf : GoodIn wsX1_digit wsX1_lowerHalf := goodIn_r _ [9, 10, 11, 12, 13, 14, 15, 16, 17, 18, 19, 20, 21, 22, 23, 24, 25, 26, 27, 28, 29, 30, 31, 32, 33, 34, 35, 36, 37, 38, 39, 52, 53, 54, 55, 56, 57, 58] (by decide +kernel) (by decide +kernel)
set_option maxRecDepth 20000 in
theorem gX1_digit_X1_lowerHalf : GoodIn wsX1_digit (wsV RX1 97 RX1 yX1_lowerHalf wsX1_lowerHalf) := goodIn_app (goodIn_of _ (by decide +kernel)) ggX1_digit_X1_lowerHalf
set_option maxRecDepth 20000 in
theorem ggX1_digit_X1_decimalDigit : GoodIn wsX1_digit wsX1_decimalDigit := goodIn_r _ [42, 43] (by decide +kernel) (by decide +kernel)
set_option maxRecDepth 20000 in
theorem gX1_digit_X1_decimalDigit : GoodIn wsX1_digit (va_wsS RX1 100 yX1_decimalDigit wsX1_decimalDigit) := goodIn_app (goodIn_of _ (by decide +kernel)) ggX1_digit_X1_decimalDigit
set_option maxRecDepth 20000 in
theorem ggX1_digit_X1_upperHalf : GoodIn wsX1_digit wsX1_upperHalf := goodIn_r _ [47, 10, 11, 12, 13, 14, 15, 16, 17, 18, 19, 20, 21, 22, 23, 24, 25, 26, 27, 28, 29, 30, 31, 32, 33, 34, 35, 36, 37, 38, 39, 48, 49, 50, 51, 52, 53, 54, 55, 56, 57, 58] (by decide +kernel) (by decide +kernel)
set_option maxRecDepth 20000 in
theorem gX1_digit_X1_upperHalf : GoodIn wsX1_digit (wsV RX1 89 RX1 yX1_upperHalf wsX1_upperHalf) := goodIn_app (goodIn_of _ (by decide +kernel)) ggX1_digit_X1_upperHalf
theorem dX1_digit_0 : decode cX1_digit 0 = .ok (.iload_n 1, 1) := by decide +kernel
theorem dX1_digit_1 : decode cX1_digit 1 = .ok (.invokestatic 63, 3) := by decide +kernel
theorem dX1_digit_4 : decode cX1_digit 4 = .ok (.ifCond .eq 13, 3) := by decide +kernel
theorem dX1_digit_7 : decode cX1_digit 7 = .ok (.iload_n 2, 1) := by decide +kernel
theorem dX1_digit_8 : decode cX1_digit 8 = .ok (.ifCond .lt 9, 3) := by decide +kernel
theorem dX1_digit_11 : decode cX1_digit 11 = .ok (.iload_n 2, 1) := by decide +kernel
theorem dX1_digit_12 : decode cX1_digit 12 = .ok (.bipush 36, 2) := by decide +kernel
theorem dX1_digit_14 : decode cX1_digit 14 = .ok (.if_icmp .lt 5, 3) := by decide +kernel
theorem dX1_digit_17 : decode cX1_digit 17 = .ok (.iconst (-1), 1) := by decide +kernel
theorem dX1_digit_18 : decode cX1_digit 18 = .ok (.ireturn, 1) := by decide +kernel
theorem dX1_digit_19 : decode cX1_digit 19 = .ok (.iload_n 2, 1) := by decide +kernel
theorem dX1_digit_20 : decode cX1_digit 20 = .ok (.bipush 18, 2) := by decide +kernel
theorem dX1_digit_22 : decode cX1_digit 22 = .ok (.if_icmp .ge 20, 3) := by decide +kernel
theorem dX1_digit_25 : decode cX1_digit 25 = .ok (.aload_n 0, 1) := by decide +kernel
theorem dX1_digit_26 : decode cX1_digit 26 = .ok (.aload_n 0, 1) := by decide +kernel
theorem dX1_digit_27 : decode cX1_digit 27 = .ok (.getfield 15, 3) := by decide +kernel
theorem dX1_digit_30 : decode cX1_digit 30 = .ok (.iload_n 1, 1) := by decide +kernel
theorem dX1_digit_31 : decode cX1_digit 31 = .ok (.aaload, 1) := by decide +kernel
theorem dX1_digit_32 : decode cX1_digit 32 = .ok (.invokevirtual 97, 3) := by decide +kernel
theorem dX1_digit_35 : decode cX1_digit 35 = .ok (.iload_n 2, 1) := by decide +kernel
theorem dX1_digit_36 : decode cX1_digit 36 = .ok (.invokestatic 100, 3) := by decide +kernel
theorem dX1_digit_39 : decode cX1_digit 39 = .ok (.goto 20, 3) := by decide +kernel
theorem dX1_digit_42 : decode cX1_digit 42 = .ok (.aload_n 0, 1) := by decide +kernel
theorem dX1_digit_43 : decode cX1_digit 43 = .ok (.aload_n 0, 1) := by decide +kernel
theorem dX1_digit_44 : decode cX1_digit 44 = .ok (.getfield 15, 3) := by decide +kernel
theorem dX1_digit_47 : decode cX1_digit 47 = .ok (.iload_n 1, 1) := by decide +kernel
theorem dX1_digit_48 : decode cX1_digit 48 = .ok (.aaload, 1) := by decide +kernel
theorem dX1_digit_49 : decode cX1_digit 49 = .ok (.invokevirtual 89, 3) := by decide +kernel
theorem dX1_digit_52 : decode cX1_digit 52 = .ok (.iload_n 2, 1) := by decide +kernel
theorem dX1_digit_53 : decode cX1_digit 53 = .ok (.bipush 18, 2) := by decide +kernel
theorem dX1_digit_55 : decode cX1_digit 55 = .ok (.isub, 1) := by decide +kernel
theorem dX1_digit_56 : decode cX1_digit 56 = .ok (.invokestatic 100, 3) := by decide +kernel
theorem dX1_digit_59 : decode cX1_digit 59 = .ok (.ireturn, 1) := by decide +kernel
theorem dX1_isRegister_0 : decode cX1_isRegister 0 = .ok (.iload_n 0, 1) := by decide +kernel
theorem dX1_isRegister_1 : decode cX1_isRegister 1 = .ok (.ifCond .lt 13, 3) := by decide +kernel
theorem dX1_isRegister_4 : decode cX1_isRegister 4 = .ok (.iload_n 0, 1) := by decide +kernel
theorem dX1_isRegister_5 : decode cX1_isRegister 5 = .ok (.bipush 8, 2) := by decide +kernel
theorem dX1_isRegister_7 : decode cX1_isRegister 7 = .ok (.if_icmp .ge 7, 3) := by decide +kernel
theorem dX1_isRegister_10 : decode cX1_isRegister 10 = .ok (.iconst 1, 1) := by decide +kernel
theorem dX1_isRegister_11 : decode cX1_isRegister 11 = .ok (.goto 4, 3) := by decide +kernel
theorem dX1_isRegister_14 : decode cX1_isRegister 14 = .ok (.iconst 0, 1) := by decide +kernel
theorem dX1_isRegister_15 : decode cX1_isRegister 15 = .ok (.ireturn, 1) := by decide +kernel
theorem dX1_isTally_0 : decode cX1_isTally 0 = .ok (.iload_n 0, 1) := by decide +kernel
theorem dX1_isTally_1 : decode cX1_isTally 1 = .ok (.ifCond .lt 12, 3) := by decide +kernel
theorem dX1_isTally_4 : decode cX1_isTally 4 = .ok (.iload_n 0, 1) := by decide +kernel
theorem dX1_isTally_5 : decode cX1_isTally 5 = .ok (.iconst 4, 1) := by decide +kernel
theorem dX1_isTally_6 : decode cX1_isTally 6 = .ok (.if_icmp .ge 7, 3) := by decide +kernel
theorem dX1_isTally_9 : decode cX1_isTally 9 = .ok (.iconst 1, 1) := by decide +kernel
theorem dX1_isTally_10 : decode cX1_isTally 10 = .ok (.goto 4, 3) := by decide +kernel
theorem dX1_isTally_13 : decode cX1_isTally 13 = .ok (.iconst 0, 1) := by decide +kernel
theorem dX1_isTally_14 : decode cX1_isTally 14 = .ok (.ireturn, 1) := by decide +kernel
theorem dX1_isWay_0 : decode cX1_isWay 0 = .ok (.iload_n 0, 1) := by decide +kernel
theorem dX1_isWay_1 : decode cX1_isWay 1 = .ok (.ifCond .lt 12, 3) := by decide +kernel
theorem dX1_isWay_4 : decode cX1_isWay 4 = .ok (.iload_n 0, 1) := by decide +kernel
theorem dX1_isWay_5 : decode cX1_isWay 5 = .ok (.iconst 3, 1) := by decide +kernel
theorem dX1_isWay_6 : decode cX1_isWay 6 = .ok (.if_icmp .gt 7, 3) := by decide +kernel
theorem dX1_isWay_9 : decode cX1_isWay 9 = .ok (.iconst 1, 1) := by decide +kernel
theorem dX1_isWay_10 : decode cX1_isWay 10 = .ok (.goto 4, 3) := by decide +kernel
theorem dX1_isWay_13 : decode cX1_isWay 13 = .ok (.iconst 0, 1) := by decide +kernel
theorem dX1_isWay_14 : decode cX1_isWay 14 = .ok (.ireturn, 1) := by decide +kernel
set_option maxRecDepth 20000 in
theorem ggX1_keepInRegister_X0_fitsLong : GoodIn wsX1_keepInRegister wsX0_fitsLong := goodIn_r _ [7, 8, 9, 23, 24] (by decide +kernel) (by decide +kernel)
set_option maxRecDepth 20000 in
theorem gX1_keepInRegister_X0_fitsLong : GoodIn wsX1_keepInRegister (wsV RX1 104 RX0 yX0_fitsLong wsX0_fitsLong) := goodIn_app (goodIn_of _ (by decide +kernel)) ggX1_keepInRegister_X0_fitsLong
set_option maxRecDepth 20000 in
theorem ggX1_keepInRegister_X0_isNegative : GoodIn wsX1_keepInRegister wsX0_isNegative := goodIn_r _ [13, 8, 23, 24] (by decide +kernel) (by decide +kernel)
set_option maxRecDepth 20000 in
theorem gX1_keepInRegister_X0_isNegative : GoodIn wsX1_keepInRegister (wsV RX1 74 RX0 yX0_isNegative wsX0_isNegative) := goodIn_app (goodIn_of _ (by decide +kernel)) ggX1_keepInRegister_X0_isNegative
set_option maxRecDepth 20000 in
theorem ggX1_keepInRegister_X0_lowWord : GoodIn wsX1_keepInRegister wsX0_lowWord := goodIn_r _ [17, 9, 23, 24] (by decide +kernel) (by decide +kernel)
set_option maxRecDepth 20000 in
theorem gX1_keepInRegister_X0_lowWord : GoodIn wsX1_keepInRegister (wsV RX1 107 RX0 yX0_lowWord wsX0_lowWord) := goodIn_app (goodIn_of _ (by decide +kernel)) ggX1_keepInRegister_X0_lowWord
theorem dX1_keepInRegister_0 : decode cX1_keepInRegister 0 = .ok (.aload_n 0, 1) := by decide +kernel
theorem dX1_keepInRegister_1 : decode cX1_keepInRegister 1 = .ok (.getfield 35, 3) := by decide +kernel
theorem dX1_keepInRegister_4 : decode cX1_keepInRegister 4 = .ok (.invokevirtual 104, 3) := by decide +kernel
theorem dX1_keepInRegister_7 : decode cX1_keepInRegister 7 = .ok (.ifCond .ne 19, 3) := by decide +kernel
theorem dX1_keepInRegister_10 : decode cX1_keepInRegister 10 = .ok (.aload_n 0, 1) := by decide +kernel
theorem dX1_keepInRegister_11 : decode cX1_keepInRegister 11 = .ok (.getfield 35, 3) := by decide +kernel
theorem dX1_keepInRegister_14 : decode cX1_keepInRegister 14 = .ok (.invokevirtual 74, 3) := by decide +kernel
theorem dX1_keepInRegister_17 : decode cX1_keepInRegister 17 = .ok (.ifCond .eq 7, 3) := by decide +kernel
theorem dX1_keepInRegister_20 : decode cX1_keepInRegister 20 = .ok (.iconst 2, 1) := by decide +kernel
theorem dX1_keepInRegister_21 : decode cX1_keepInRegister 21 = .ok (.goto 4, 3) := by decide +kernel
theorem dX1_keepInRegister_24 : decode cX1_keepInRegister 24 = .ok (.iconst 1, 1) := by decide +kernel
theorem dX1_keepInRegister_25 : decode cX1_keepInRegister 25 = .ok (.ireturn, 1) := by decide +kernel
theorem dX1_keepInRegister_26 : decode cX1_keepInRegister 26 = .ok (.aload_n 0, 1) := by decide +kernel
theorem dX1_keepInRegister_27 : decode cX1_keepInRegister 27 = .ok (.getfield 9, 3) := by decide +kernel
theorem dX1_keepInRegister_30 : decode cX1_keepInRegister 30 = .ok (.iload_n 1, 1) := by decide +kernel
theorem dX1_keepInRegister_31 : decode cX1_keepInRegister 31 = .ok (.aload_n 0, 1) := by decide +kernel
theorem dX1_keepInRegister_32 : decode cX1_keepInRegister 32 = .ok (.getfield 35, 3) := by decide +kernel
theorem dX1_keepInRegister_35 : decode cX1_keepInRegister 35 = .ok (.invokevirtual 107, 3) := by decide +kernel
theorem dX1_keepInRegister_38 : decode cX1_keepInRegister 38 = .ok (.lastore, 1) := by decide +kernel
theorem dX1_keepInRegister_39 : decode cX1_keepInRegister 39 = .ok (.iconst 0, 1) := by decide +kernel
theorem dX1_keepInRegister_40 : decode cX1_keepInRegister 40 = .ok (.ireturn, 1) := by decide +kernel
set_option maxRecDepth 20000 in
theorem ggX1_keepInTally_X0_orderTo : GoodIn wsX1_keepInTally wsX0_orderTo := goodIn_r _ [9, 10, 11, 12, 13, 8, 14, 15, 25, 26] (by decide +kernel) (by decide +kernel)
set_option maxRecDepth 20000 in
theorem gX1_keepInTally_X0_orderTo : GoodIn wsX1_keepInTally (wsV RX1 85 RX0 yX0_orderTo wsX0_orderTo) := goodIn_app (goodIn_of _ (by decide +kernel)) ggX1_keepInTally_X0_orderTo
set_option maxRecDepth 20000 in
theorem ggX1_keepInTally_X0_become_ : GoodIn wsX1_keepInTally wsX0_become_ := goodIn_r _ [19, 10, 11, 25, 26] (by decide +kernel) (by decide +kernel)
set_option maxRecDepth 20000 in
theorem gX1_keepInTally_X0_become_ : GoodIn wsX1_keepInTally (wsV RX1 72 RX0 yX0_become_ wsX0_become_) := goodIn_app (goodIn_of _ (by decide +kernel)) ggX1_keepInTally_X0_become_
theorem dX1_keepInTally_0 : decode cX1_keepInTally 0 = .ok (.aload_n 0, 1) := by decide +kernel
theorem dX1_keepInTally_1 : decode cX1_keepInTally 1 = .ok (.getfield 35, 3) := by decide +kernel
theorem dX1_keepInTally_4 : decode cX1_keepInTally 4 = .ok (.aload_n 0, 1) := by decide +kernel
theorem dX1_keepInTally_5 : decode cX1_keepInTally 5 = .ok (.getfield 20, 3) := by decide +kernel
theorem dX1_keepInTally_8 : decode cX1_keepInTally 8 = .ok (.invokevirtual 85, 3) := by decide +kernel
theorem dX1_keepInTally_11 : decode cX1_keepInTally 11 = .ok (.ifCond .lt 5, 3) := by decide +kernel
theorem dX1_keepInTally_14 : decode cX1_keepInTally 14 = .ok (.iconst 1, 1) := by decide +kernel
theorem dX1_keepInTally_15 : decode cX1_keepInTally 15 = .ok (.ireturn, 1) := by decide +kernel
theorem dX1_keepInTally_16 : decode cX1_keepInTally 16 = .ok (.aload_n 0, 1) := by decide +kernel
theorem dX1_keepInTally_17 : decode cX1_keepInTally 17 = .ok (.getfield 35, 3) := by decide +kernel
theorem dX1_keepInTally_20 : decode cX1_keepInTally 20 = .ok (.aload_n 0, 1) := by decide +kernel
theorem dX1_keepInTally_21 : decode cX1_keepInTally 21 = .ok (.getfield 30, 3) := by decide +kernel
theorem dX1_keepInTally_24 : decode cX1_keepInTally 24 = .ok (.invokevirtual 85, 3) := by decide +kernel
theorem dX1_keepInTally_27 : decode cX1_keepInTally 27 = .ok (.ifCond .gt 5, 3) := by decide +kernel
theorem dX1_keepInTally_30 : decode cX1_keepInTally 30 = .ok (.iconst 2, 1) := by decide +kernel
theorem dX1_keepInTally_31 : decode cX1_keepInTally 31 = .ok (.ireturn, 1) := by decide +kernel
theorem dX1_keepInTally_32 : decode cX1_keepInTally 32 = .ok (.aload_n 0, 1) := by decide +kernel
theorem dX1_keepInTally_33 : decode cX1_keepInTally 33 = .ok (.getfield 15, 3) := by decide +kernel
theorem dX1_keepInTally_36 : decode cX1_keepInTally 36 = .ok (.iload_n 1, 1) := by decide +kernel
theorem dX1_keepInTally_37 : decode cX1_keepInTally 37 = .ok (.aaload, 1) := by decide +kernel
theorem dX1_keepInTally_38 : decode cX1_keepInTally 38 = .ok (.aload_n 0, 1) := by decide +kernel
theorem dX1_keepInTally_39 : decode cX1_keepInTally 39 = .ok (.getfield 35, 3) := by decide +kernel
theorem dX1_keepInTally_42 : decode cX1_keepInTally 42 = .ok (.invokevirtual 72, 3) := by decide +kernel
theorem dX1_keepInTally_45 : decode cX1_keepInTally 45 = .ok (.iconst 0, 1) := by decide +kernel
theorem dX1_keepInTally_46 : decode cX1_keepInTally 46 = .ok (.ireturn, 1) := by decide +kernel
set_option maxRecDepth 20000 in
theorem ggX1_divideOutcome_X0_isNegative : GoodIn wsX1_divideOutcome wsX0_isNegative := goodIn_r _ [6, 7, 45, 46] (by decide +kernel) (by decide +kernel)
set_option maxRecDepth 20000 in
theorem gX1_divideOutcome_X0_isNegative : GoodIn wsX1_divideOutcome (wsV RX1 74 RX0 yX0_isNegative wsX0_isNegative) := goodIn_app (goodIn_of _ (by decide +kernel)) ggX1_divideOutcome_X0_isNegative
set_option maxRecDepth 20000 in
theorem ggX1_divideOutcome_X0_dropSign : GoodIn wsX1_divideOutcome wsX0_dropSign := goodIn_r _ [11, 12, 3, 4, 5, 6, 7, 13, 14, 15, 16, 17, 18, 45, 46] (by decide +kernel) (by decide +kernel)
set_option maxRecDepth 20000 in
theorem gX1_divideOutcome_X0_dropSign : GoodIn wsX1_divideOutcome (wsV RX1 78 RX0 yX0_dropSign wsX0_dropSign) := goodIn_app (goodIn_of _ (by decide +kernel)) ggX1_divideOutcome_X0_dropSign
set_option maxRecDepth 20000 in
theorem ggX1_divideOutcome_X0_divideBy : GoodIn wsX1_divideOutcome wsX0_divideBy := goodIn_r _ [22, 7, 17, 23, 24, 5, 25, 26, 45, 46] (by decide +kernel) (by decide +kernel)
set_option maxRecDepth 20000 in
theorem gX1_divideOutcome_X0_divideBy : GoodIn wsX1_divideOutcome (wsV RX1 81 RX0 yX0_divideBy wsX0_divideBy) := goodIn_app (goodIn_of _ (by decide +kernel)) ggX1_divideOutcome_X0_divideBy
set_option maxRecDepth 20000 in
theorem ggX1_divideOutcome_X1_roundsAwayFromZero : GoodIn wsX1_divideOutcome wsX1_roundsAwayFromZero := goodIn_r _ [30] (by decide +kernel) (by decide +kernel)
set_option maxRecDepth 20000 in
theorem gX1_divideOutcome_X1_roundsAwayFromZero : GoodIn wsX1_divideOutcome (va_wsS RX1 111 yX1_roundsAwayFromZero wsX1_roundsAwayFromZero) := goodIn_app (goodIn_of _ (by decide +kernel)) ggX1_divideOutcome_X1_roundsAwayFromZero
set_option maxRecDepth 20000 in
theorem ggX1_divideOutcome_X0_increase : GoodIn wsX1_divideOutcome wsX0_increase := goodIn_r _ [34, 35, 36, 37, 5, 38, 17, 7, 23, 24, 25, 26, 45, 46] (by decide +kernel) (by decide +kernel)
set_option maxRecDepth 20000 in
theorem gX1_divideOutcome_X0_increase : GoodIn wsX1_divideOutcome (wsV RX1 46 RX0 yX0_increase wsX0_increase) := goodIn_app (goodIn_of _ (by decide +kernel)) ggX1_divideOutcome_X0_increase
set_option maxRecDepth 20000 in
theorem ggX1_divideOutcome_X0_negate : GoodIn wsX1_divideOutcome wsX0_negate := goodIn_r _ [16, 17, 7, 18, 45, 46] (by decide +kernel) (by decide +kernel)
set_option maxRecDepth 20000 in
theorem gX1_divideOutcome_X0_negate : GoodIn wsX1_divideOutcome (wsV RX1 53 RX0 yX0_negate wsX0_negate) := goodIn_app (goodIn_of _ (by decide +kernel)) ggX1_divideOutcome_X0_negate
theorem dX1_divideOutcome_0 : decode cX1_divideOutcome 0 = .ok (.aload_n 0, 1) := by decide +kernel
theorem dX1_divideOutcome_1 : decode cX1_divideOutcome 1 = .ok (.getfield 35, 3) := by decide +kernel
theorem dX1_divideOutcome_4 : decode cX1_divideOutcome 4 = .ok (.invokevirtual 74, 3) := by decide +kernel
theorem dX1_divideOutcome_7 : decode cX1_divideOutcome 7 = .ok (.lload_n 1, 1) := by decide +kernel
theorem dX1_divideOutcome_8 : decode cX1_divideOutcome 8 = .ok (.lconst 0, 1) := by decide +kernel
theorem dX1_divideOutcome_9 : decode cX1_divideOutcome 9 = .ok (.lcmp, 1) := by decide +kernel
theorem dX1_divideOutcome_10 : decode cX1_divideOutcome 10 = .ok (.ifCond .ge 7, 3) := by decide +kernel
theorem dX1_divideOutcome_13 : decode cX1_divideOutcome 13 = .ok (.iconst 1, 1) := by decide +kernel
theorem dX1_divideOutcome_14 : decode cX1_divideOutcome 14 = .ok (.goto 4, 3) := by decide +kernel
theorem dX1_divideOutcome_17 : decode cX1_divideOutcome 17 = .ok (.iconst 0, 1) := by decide +kernel
theorem dX1_divideOutcome_18 : decode cX1_divideOutcome 18 = .ok (.if_icmp .eq 7, 3) := by decide +kernel
theorem dX1_divideOutcome_21 : decode cX1_divideOutcome 21 = .ok (.iconst 1, 1) := by decide +kernel
theorem dX1_divideOutcome_22 : decode cX1_divideOutcome 22 = .ok (.goto 4, 3) := by decide +kernel
theorem dX1_divideOutcome_25 : decode cX1_divideOutcome 25 = .ok (.iconst 0, 1) := by decide +kernel
theorem dX1_divideOutcome_26 : decode cX1_divideOutcome 26 = .ok (.istore 4, 2) := by decide +kernel
theorem dX1_divideOutcome_28 : decode cX1_divideOutcome 28 = .ok (.lload_n 1, 1) := by decide +kernel
theorem dX1_divideOutcome_29 : decode cX1_divideOutcome 29 = .ok (.lconst 0, 1) := by decide +kernel
theorem dX1_divideOutcome_30 : decode cX1_divideOutcome 30 = .ok (.lcmp, 1) := by decide +kernel
theorem dX1_divideOutcome_31 : decode cX1_divideOutcome 31 = .ok (.ifCond .ge 8, 3) := by decide +kernel
theorem dX1_divideOutcome_34 : decode cX1_divideOutcome 34 = .ok (.lload_n 1, 1) := by decide +kernel
theorem dX1_divideOutcome_35 : decode cX1_divideOutcome 35 = .ok (.lneg, 1) := by decide +kernel
theorem dX1_divideOutcome_36 : decode cX1_divideOutcome 36 = .ok (.goto 4, 3) := by decide +kernel
theorem dX1_divideOutcome_39 : decode cX1_divideOutcome 39 = .ok (.lload_n 1, 1) := by decide +kernel
theorem dX1_divideOutcome_40 : decode cX1_divideOutcome 40 = .ok (.lstore 5, 2) := by decide +kernel
theorem dX1_divideOutcome_42 : decode cX1_divideOutcome 42 = .ok (.aload_n 0, 1) := by decide +kernel
theorem dX1_divideOutcome_43 : decode cX1_divideOutcome 43 = .ok (.getfield 35, 3) := by decide +kernel
theorem dX1_divideOutcome_46 : decode cX1_divideOutcome 46 = .ok (.invokevirtual 78, 3) := by decide +kernel
theorem dX1_divideOutcome_49 : decode cX1_divideOutcome 49 = .ok (.aload_n 0, 1) := by decide +kernel
theorem dX1_divideOutcome_50 : decode cX1_divideOutcome 50 = .ok (.getfield 35, 3) := by decide +kernel
theorem dX1_divideOutcome_53 : decode cX1_divideOutcome 53 = .ok (.lload 5, 2) := by decide +kernel
theorem dX1_divideOutcome_55 : decode cX1_divideOutcome 55 = .ok (.invokevirtual 81, 3) := by decide +kernel
theorem dX1_divideOutcome_58 : decode cX1_divideOutcome 58 = .ok (.lstore 7, 2) := by decide +kernel
theorem dX1_divideOutcome_60 : decode cX1_divideOutcome 60 = .ok (.lload 7, 2) := by decide +kernel
theorem dX1_divideOutcome_62 : decode cX1_divideOutcome 62 = .ok (.lload 5, 2) := by decide +kernel
theorem dX1_divideOutcome_64 : decode cX1_divideOutcome 64 = .ok (.iload 4, 2) := by decide +kernel
theorem dX1_divideOutcome_66 : decode cX1_divideOutcome 66 = .ok (.iload_n 3, 1) := by decide +kernel
theorem dX1_divideOutcome_67 : decode cX1_divideOutcome 67 = .ok (.invokestatic 111, 3) := by decide +kernel
theorem dX1_divideOutcome_70 : decode cX1_divideOutcome 70 = .ok (.ifCond .eq 11, 3) := by decide +kernel
theorem dX1_divideOutcome_73 : decode cX1_divideOutcome 73 = .ok (.aload_n 0, 1) := by decide +kernel
theorem dX1_divideOutcome_74 : decode cX1_divideOutcome 74 = .ok (.getfield 35, 3) := by decide +kernel
theorem dX1_divideOutcome_77 : decode cX1_divideOutcome 77 = .ok (.lconst 1, 1) := by decide +kernel
theorem dX1_divideOutcome_78 : decode cX1_divideOutcome 78 = .ok (.invokevirtual 46, 3) := by decide +kernel
theorem dX1_divideOutcome_81 : decode cX1_divideOutcome 81 = .ok (.iload 4, 2) := by decide +kernel
theorem dX1_divideOutcome_83 : decode cX1_divideOutcome 83 = .ok (.ifCond .eq 10, 3) := by decide +kernel
theorem dX1_divideOutcome_86 : decode cX1_divideOutcome 86 = .ok (.aload_n 0, 1) := by decide +kernel
theorem dX1_divideOutcome_87 : decode cX1_divideOutcome 87 = .ok (.getfield 35, 3) := by decide +kernel
theorem dX1_divideOutcome_90 : decode cX1_divideOutcome 90 = .ok (.invokevirtual 53, 3) := by decide +kernel
theorem dX1_divideOutcome_93 : decode cX1_divideOutcome 93 = .ok (.return_, 1) := by decide +kernel
theorem dX1_roundsAwayFromZero_0 : decode cX1_roundsAwayFromZero 0 = .ok (.iload 5, 2) := by decide +kernel
theorem dX1_roundsAwayFromZero_2 : decode cX1_roundsAwayFromZero 2 = .ok (.tableswitch 62 0 2 #[26, 43, 60], 26) := by decide +kernel
theorem dX1_roundsAwayFromZero_28 : decode cX1_roundsAwayFromZero 28 = .ok (.iload 4, 2) := by decide +kernel
theorem dX1_roundsAwayFromZero_30 : decode cX1_roundsAwayFromZero 30 = .ok (.ifCond .eq 13, 3) := by decide +kernel
theorem dX1_roundsAwayFromZero_33 : decode cX1_roundsAwayFromZero 33 = .ok (.lload_n 0, 1) := by decide +kernel
theorem dX1_roundsAwayFromZero_34 : decode cX1_roundsAwayFromZero 34 = .ok (.lconst 0, 1) := by decide +kernel
theorem dX1_roundsAwayFromZero_35 : decode cX1_roundsAwayFromZero 35 = .ok (.lcmp, 1) := by decide +kernel
theorem dX1_roundsAwayFromZero_36 : decode cX1_roundsAwayFromZero 36 = .ok (.ifCond .eq 7, 3) := by decide +kernel
theorem dX1_roundsAwayFromZero_39 : decode cX1_roundsAwayFromZero 39 = .ok (.iconst 1, 1) := by decide +kernel
theorem dX1_roundsAwayFromZero_40 : decode cX1_roundsAwayFromZero 40 = .ok (.goto 4, 3) := by decide +kernel
theorem dX1_roundsAwayFromZero_43 : decode cX1_roundsAwayFromZero 43 = .ok (.iconst 0, 1) := by decide +kernel
theorem dX1_roundsAwayFromZero_44 : decode cX1_roundsAwayFromZero 44 = .ok (.ireturn, 1) := by decide +kernel
theorem dX1_roundsAwayFromZero_45 : decode cX1_roundsAwayFromZero 45 = .ok (.iload 4, 2) := by decide +kernel
theorem dX1_roundsAwayFromZero_47 : decode cX1_roundsAwayFromZero 47 = .ok (.ifCond .ne 13, 3) := by decide +kernel
theorem dX1_roundsAwayFromZero_50 : decode cX1_roundsAwayFromZero 50 = .ok (.lload_n 0, 1) := by decide +kernel
theorem dX1_roundsAwayFromZero_51 : decode cX1_roundsAwayFromZero 51 = .ok (.lconst 0, 1) := by decide +kernel
theorem dX1_roundsAwayFromZero_52 : decode cX1_roundsAwayFromZero 52 = .ok (.lcmp, 1) := by decide +kernel
theorem dX1_roundsAwayFromZero_53 : decode cX1_roundsAwayFromZero 53 = .ok (.ifCond .eq 7, 3) := by decide +kernel
theorem dX1_roundsAwayFromZero_56 : decode cX1_roundsAwayFromZero 56 = .ok (.iconst 1, 1) := by decide +kernel
theorem dX1_roundsAwayFromZero_57 : decode cX1_roundsAwayFromZero 57 = .ok (.goto 4, 3) := by decide +kernel
theorem dX1_roundsAwayFromZero_60 : decode cX1_roundsAwayFromZero 60 = .ok (.iconst 0, 1) := by decide +kernel
theorem dX1_roundsAwayFromZero_61 : decode cX1_roundsAwayFromZero 61 = .ok (.ireturn, 1) := by decide +kernel
theorem dX1_roundsAwayFromZero_62 : decode cX1_roundsAwayFromZero 62 = .ok (.iconst 0, 1) := by decide +kernel
theorem dX1_roundsAwayFromZero_63 : decode cX1_roundsAwayFromZero 63 = .ok (.ireturn, 1) := by decide +kernel
theorem dX1_roundsAwayFromZero_64 : decode cX1_roundsAwayFromZero 64 = .ok (.lload_n 0, 1) := by decide +kernel
theorem dX1_roundsAwayFromZero_65 : decode cX1_roundsAwayFromZero 65 = .ok (.lload_n 2, 1) := by decide +kernel
theorem dX1_roundsAwayFromZero_66 : decode cX1_roundsAwayFromZero 66 = .ok (.lconst 1, 1) := by decide +kernel
theorem dX1_roundsAwayFromZero_67 : decode cX1_roundsAwayFromZero 67 = .ok (.lsub, 1) := by decide +kernel
theorem dX1_roundsAwayFromZero_68 : decode cX1_roundsAwayFromZero 68 = .ok (.lload_n 0, 1) := by decide +kernel
theorem dX1_roundsAwayFromZero_69 : decode cX1_roundsAwayFromZero 69 = .ok (.lsub, 1) := by decide +kernel
theorem dX1_roundsAwayFromZero_70 : decode cX1_roundsAwayFromZero 70 = .ok (.lcmp, 1) := by decide +kernel
theorem dX1_roundsAwayFromZero_71 : decode cX1_roundsAwayFromZero 71 = .ok (.ifCond .le 7, 3) := by decide +kernel
theorem dX1_roundsAwayFromZero_74 : decode cX1_roundsAwayFromZero 74 = .ok (.iconst 1, 1) := by decide +kernel
theorem dX1_roundsAwayFromZero_75 : decode cX1_roundsAwayFromZero 75 = .ok (.goto 4, 3) := by decide +kernel
theorem dX1_roundsAwayFromZero_78 : decode cX1_roundsAwayFromZero 78 = .ok (.iconst 0, 1) := by decide +kernel
theorem dX1_roundsAwayFromZero_79 : decode cX1_roundsAwayFromZero 79 = .ok (.ireturn, 1) := by decide +kernel
set_option maxRecDepth 20000 in
theorem ggX1_lowerHalf_X0_become_ : GoodIn wsX1_lowerHalf wsX0_become_ := goodIn_r _ [7, 8, 9, 36, 37] (by decide +kernel) (by decide +kernel)
set_option maxRecDepth 20000 in
theorem gX1_lowerHalf_X0_become_ : GoodIn wsX1_lowerHalf (wsV RX1 72 RX0 yX0_become_ wsX0_become_) := goodIn_app (goodIn_of _ (by decide +kernel)) ggX1_lowerHalf_X0_become_
set_option maxRecDepth 20000 in
theorem ggX1_lowerHalf_X0_dropSign : GoodIn wsX1_lowerHalf wsX0_dropSign := goodIn_r _ [13, 14, 15, 16, 6, 17, 8, 18, 19, 20, 21, 9, 22, 36, 37] (by decide +kernel) (by decide +kernel)
set_option maxRecDepth 20000 in
theorem gX1_lowerHalf_X0_dropSign : GoodIn wsX1_lowerHalf (wsV RX1 78 RX0 yX0_dropSign wsX0_dropSign) := goodIn_app (goodIn_of _ (by decide +kernel)) ggX1_lowerHalf_X0_dropSign
set_option maxRecDepth 20000 in
theorem ggX1_lowerHalf_X0_divideBy : GoodIn wsX1_lowerHalf wsX0_divideBy := goodIn_r _ [26, 8, 9, 27, 28, 6, 29, 30, 36, 37] (by decide +kernel) (by decide +kernel)
set_option maxRecDepth 20000 in
theorem gX1_lowerHalf_X0_divideBy : GoodIn wsX1_lowerHalf (wsV RX1 81 RX0 yX0_divideBy wsX0_divideBy) := goodIn_app (goodIn_of _ (by decide +kernel)) ggX1_lowerHalf_X0_divideBy
theorem dX1_lowerHalf_0 : decode cX1_lowerHalf 0 = .ok (.aload_n 0, 1) := by decide +kernel
theorem dX1_lowerHalf_1 : decode cX1_lowerHalf 1 = .ok (.getfield 35, 3) := by decide +kernel
theorem dX1_lowerHalf_4 : decode cX1_lowerHalf 4 = .ok (.aload_n 1, 1) := by decide +kernel
theorem dX1_lowerHalf_5 : decode cX1_lowerHalf 5 = .ok (.invokevirtual 72, 3) := by decide +kernel
theorem dX1_lowerHalf_8 : decode cX1_lowerHalf 8 = .ok (.aload_n 0, 1) := by decide +kernel
theorem dX1_lowerHalf_9 : decode cX1_lowerHalf 9 = .ok (.getfield 35, 3) := by decide +kernel
theorem dX1_lowerHalf_12 : decode cX1_lowerHalf 12 = .ok (.invokevirtual 78, 3) := by decide +kernel
theorem dX1_lowerHalf_15 : decode cX1_lowerHalf 15 = .ok (.aload_n 0, 1) := by decide +kernel
theorem dX1_lowerHalf_16 : decode cX1_lowerHalf 16 = .ok (.getfield 35, 3) := by decide +kernel
theorem dX1_lowerHalf_19 : decode cX1_lowerHalf 19 = .ok (.ldc2_w 24, 3) := by decide +kernel
theorem dX1_lowerHalf_22 : decode cX1_lowerHalf 22 = .ok (.invokevirtual 81, 3) := by decide +kernel
theorem dX1_lowerHalf_25 : decode cX1_lowerHalf 25 = .ok (.lreturn, 1) := by decide +kernel
set_option maxRecDepth 20000 in
theorem ggX1_upperHalf_X0_become_ : GoodIn wsX1_upperHalf wsX0_become_ := goodIn_r _ [7, 8, 9, 40, 41] (by decide +kernel) (by decide +kernel)
set_option maxRecDepth 20000 in
theorem gX1_upperHalf_X0_become_ : GoodIn wsX1_upperHalf (wsV RX1 72 RX0 yX0_become_ wsX0_become_) := goodIn_app (goodIn_of _ (by decide +kernel)) ggX1_upperHalf_X0_become_
set_option maxRecDepth 20000 in
theorem ggX1_upperHalf_X0_dropSign : GoodIn wsX1_upperHalf wsX0_dropSign := goodIn_r _ [13, 14, 15, 16, 6, 17, 8, 18, 19, 20, 21, 9, 22, 40, 41] (by decide +kernel) (by decide +kernel)
set_option maxRecDepth 20000 in
theorem gX1_upperHalf_X0_dropSign : GoodIn wsX1_upperHalf (wsV RX1 78 RX0 yX0_dropSign wsX0_dropSign) := goodIn_app (goodIn_of _ (by decide +kernel)) ggX1_upperHalf_X0_dropSign
set_option maxRecDepth 20000 in
theorem ggX1_upperHalf_X0_divideBy : GoodIn wsX1_upperHalf wsX0_divideBy := goodIn_r _ [26, 8, 9, 27, 28, 6, 29, 30, 40, 41] (by decide +kernel) (by decide +kernel)
set_option maxRecDepth 20000 in
theorem gX1_upperHalf_X0_divideBy : GoodIn wsX1_upperHalf (wsV RX1 81 RX0 yX0_divideBy wsX0_divideBy) := goodIn_app (goodIn_of _ (by decide +kernel)) ggX1_upperHalf_X0_divideBy
set_option maxRecDepth 20000 in
theorem ggX1_upperHalf_X0_lowWord : GoodIn wsX1_upperHalf wsX0_lowWord := goodIn_r _ [34, 9, 40, 41] (by decide +kernel) (by decide +kernel)
set_option maxRecDepth 20000 in
theorem gX1_upperHalf_X0_lowWord : GoodIn wsX1_upperHalf (wsV RX1 107 RX0 yX0_lowWord wsX0_lowWord) := goodIn_app (goodIn_of _ (by decide +kernel)) ggX1_upperHalf_X0_lowWord
theorem dX1_upperHalf_0 : decode cX1_upperHalf 0 = .ok (.aload_n 0, 1) := by decide +kernel
theorem dX1_upperHalf_1 : decode cX1_upperHalf 1 = .ok (.getfield 35, 3) := by decide +kernel
theorem dX1_upperHalf_4 : decode cX1_upperHalf 4 = .ok (.aload_n 1, 1) := by decide +kernel
theorem dX1_upperHalf_5 : decode cX1_upperHalf 5 = .ok (.invokevirtual 72, 3) := by decide +kernel
theorem dX1_upperHalf_8 : decode cX1_upperHalf 8 = .ok (.aload_n 0, 1) := by decide +kernel
theorem dX1_upperHalf_9 : decode cX1_upperHalf 9 = .ok (.getfield 35, 3) := by decide +kernel
theorem dX1_upperHalf_12 : decode cX1_upperHalf 12 = .ok (.invokevirtual 78, 3) := by decide +kernel
theorem dX1_upperHalf_15 : decode cX1_upperHalf 15 = .ok (.aload_n 0, 1) := by decide +kernel
theorem dX1_upperHalf_16 : decode cX1_upperHalf 16 = .ok (.getfield 35, 3) := by decide +kernel
theorem dX1_upperHalf_19 : decode cX1_upperHalf 19 = .ok (.ldc2_w 24, 3) := by decide +kernel
theorem dX1_upperHalf_22 : decode cX1_upperHalf 22 = .ok (.invokevirtual 81, 3) := by decide +kernel
theorem dX1_upperHalf_25 : decode cX1_upperHalf 25 = .ok (.pop2, 1) := by decide +kernel
theorem dX1_upperHalf_26 : decode cX1_upperHalf 26 = .ok (.aload_n 0, 1) := by decide +kernel
theorem dX1_upperHalf_27 : decode cX1_upperHalf 27 = .ok (.getfield 35, 3) := by decide +kernel
theorem dX1_upperHalf_30 : decode cX1_upperHalf 30 = .ok (.invokevirtual 107, 3) := by decide +kernel
theorem dX1_upperHalf_33 : decode cX1_upperHalf 33 = .ok (.lreturn, 1) := by decide +kernel
theorem dX1_decimalLength_0 : decode cX1_decimalLength 0 = .ok (.iconst 1, 1) := by decide +kernel
theorem dX1_decimalLength_1 : decode cX1_decimalLength 1 = .ok (.istore_n 2, 1) := by decide +kernel
theorem dX1_decimalLength_2 : decode cX1_decimalLength 2 = .ok (.ldc2_w 115, 3) := by decide +kernel
theorem dX1_decimalLength_5 : decode cX1_decimalLength 5 = .ok (.lstore_n 3, 1) := by decide +kernel
theorem dX1_decimalLength_6 : decode cX1_decimalLength 6 = .ok (.iload_n 2, 1) := by decide +kernel
theorem dX1_decimalLength_7 : decode cX1_decimalLength 7 = .ok (.bipush 18, 2) := by decide +kernel
theorem dX1_decimalLength_9 : decode cX1_decimalLength 9 = .ok (.if_icmp .ge 21, 3) := by decide +kernel
theorem dX1_decimalLength_12 : decode cX1_decimalLength 12 = .ok (.lload_n 0, 1) := by decide +kernel
theorem dX1_decimalLength_13 : decode cX1_decimalLength 13 = .ok (.lload_n 3, 1) := by decide +kernel
theorem dX1_decimalLength_14 : decode cX1_decimalLength 14 = .ok (.lcmp, 1) := by decide +kernel
theorem dX1_decimalLength_15 : decode cX1_decimalLength 15 = .ok (.ifCond .lt 15, 3) := by decide +kernel
theorem dX1_decimalLength_18 : decode cX1_decimalLength 18 = .ok (.lload_n 3, 1) := by decide +kernel
theorem dX1_decimalLength_19 : decode cX1_decimalLength 19 = .ok (.ldc2_w 115, 3) := by decide +kernel
theorem dX1_decimalLength_22 : decode cX1_decimalLength 22 = .ok (.lmul, 1) := by decide +kernel
theorem dX1_decimalLength_23 : decode cX1_decimalLength 23 = .ok (.lstore_n 3, 1) := by decide +kernel
theorem dX1_decimalLength_24 : decode cX1_decimalLength 24 = .ok (.iinc 2 1, 3) := by decide +kernel
theorem dX1_decimalLength_27 : decode cX1_decimalLength 27 = .ok (.goto (-21), 3) := by decide +kernel
theorem dX1_decimalLength_30 : decode cX1_decimalLength 30 = .ok (.iload_n 2, 1) := by decide +kernel
theorem dX1_decimalLength_31 : decode cX1_decimalLength 31 = .ok (.ireturn, 1) := by decide +kernel
theorem dX1_decimalDigit_0 : decode cX1_decimalDigit 0 = .ok (.lload_n 0, 1) := by decide +kernel
theorem dX1_decimalDigit_1 : decode cX1_decimalDigit 1 = .ok (.lstore_n 3, 1) := by decide +kernel
theorem dX1_decimalDigit_2 : decode cX1_decimalDigit 2 = .ok (.iconst 0, 1) := by decide +kernel
theorem dX1_decimalDigit_3 : decode cX1_decimalDigit 3 = .ok (.istore 5, 2) := by decide +kernel
theorem dX1_decimalDigit_5 : decode cX1_decimalDigit 5 = .ok (.iload 5, 2) := by decide +kernel
theorem dX1_decimalDigit_7 : decode cX1_decimalDigit 7 = .ok (.iload_n 2, 1) := by decide +kernel
theorem dX1_decimalDigit_8 : decode cX1_decimalDigit 8 = .ok (.if_icmp .ge 15, 3) := by decide +kernel
theorem dX1_decimalDigit_11 : decode cX1_decimalDigit 11 = .ok (.lload_n 3, 1) := by decide +kernel
theorem dX1_decimalDigit_12 : decode cX1_decimalDigit 12 = .ok (.ldc2_w 115, 3) := by decide +kernel
theorem dX1_decimalDigit_15 : decode cX1_decimalDigit 15 = .ok (.ldiv, 1) := by decide +kernel
theorem dX1_decimalDigit_16 : decode cX1_decimalDigit 16 = .ok (.lstore_n 3, 1) := by decide +kernel
theorem dX1_decimalDigit_17 : decode cX1_decimalDigit 17 = .ok (.iinc 5 1, 3) := by decide +kernel
theorem dX1_decimalDigit_20 : decode cX1_decimalDigit 20 = .ok (.goto (-15), 3) := by decide +kernel
theorem dX1_decimalDigit_23 : decode cX1_decimalDigit 23 = .ok (.lload_n 3, 1) := by decide +kernel
theorem dX1_decimalDigit_24 : decode cX1_decimalDigit 24 = .ok (.ldc2_w 115, 3) := by decide +kernel
theorem dX1_decimalDigit_27 : decode cX1_decimalDigit 27 = .ok (.lrem, 1) := by decide +kernel
theorem dX1_decimalDigit_28 : decode cX1_decimalDigit 28 = .ok (.l2i, 1) := by decide +kernel
theorem dX1_decimalDigit_29 : decode cX1_decimalDigit 29 = .ok (.ireturn, 1) := by decide +kernel
theorem dX2_init_0 : decode cX2_init 0 = .ok (.aload_n 0, 1) := by decide +kernel
theorem dX2_init_1 : decode cX2_init 1 = .ok (.invokespecial 1, 3) := by decide +kernel
theorem dX2_init_4 : decode cX2_init 4 = .ok (.aload_n 0, 1) := by decide +kernel
theorem dX2_init_5 : decode cX2_init 5 = .ok (.bipush 8, 2) := by decide +kernel
theorem dX2_init_7 : decode cX2_init 7 = .ok (.newarray .long, 2) := by decide +kernel
theorem dX2_init_9 : decode cX2_init 9 = .ok (.putfield 7, 3) := by decide +kernel
theorem dX2_init_12 : decode cX2_init 12 = .ok (.aload_n 0, 1) := by decide +kernel
theorem dX2_init_13 : decode cX2_init 13 = .ok (.sipush 160, 3) := by decide +kernel
theorem dX2_init_16 : decode cX2_init 16 = .ok (.newarray .int, 2) := by decide +kernel
theorem dX2_init_18 : decode cX2_init 18 = .ok (.putfield 13, 3) := by decide +kernel
theorem dX2_init_21 : decode cX2_init 21 = .ok (.aload_n 0, 1) := by decide +kernel
theorem dX2_init_22 : decode cX2_init 22 = .ok (.iconst 4, 1) := by decide +kernel
theorem dX2_init_23 : decode cX2_init 23 = .ok (.newarray .boolean, 2) := by decide +kernel
theorem dX2_init_25 : decode cX2_init 25 = .ok (.putfield 17, 3) := by decide +kernel
theorem dX2_init_28 : decode cX2_init 28 = .ok (.aload_n 0, 1) := by decide +kernel
theorem dX2_init_29 : decode cX2_init 29 = .ok (.bipush 80, 2) := by decide +kernel
theorem dX2_init_31 : decode cX2_init 31 = .ok (.newarray .int, 2) := by decide +kernel
theorem dX2_init_33 : decode cX2_init 33 = .ok (.putfield 21, 3) := by decide +kernel
theorem dX2_init_36 : decode cX2_init 36 = .ok (.aload_n 0, 1) := by decide +kernel
theorem dX2_init_37 : decode cX2_init 37 = .ok (.bipush 80, 2) := by decide +kernel
theorem dX2_init_39 : decode cX2_init 39 = .ok (.newarray .int, 2) := by decide +kernel
theorem dX2_init_41 : decode cX2_init 41 = .ok (.putfield 24, 3) := by decide +kernel
theorem dX2_init_44 : decode cX2_init 44 = .ok (.aload_n 0, 1) := by decide +kernel
theorem dX2_init_45 : decode cX2_init 45 = .ok (.bipush 80, 2) := by decide +kernel
theorem dX2_init_47 : decode cX2_init 47 = .ok (.newarray .int, 2) := by decide +kernel
theorem dX2_init_49 : decode cX2_init 49 = .ok (.putfield 27, 3) := by decide +kernel
theorem dX2_init_52 : decode cX2_init 52 = .ok (.aload_n 0, 1) := by decide +kernel
theorem dX2_init_53 : decode cX2_init 53 = .ok (.bipush 80, 2) := by decide +kernel
theorem dX2_init_55 : decode cX2_init 55 = .ok (.newarray .int, 2) := by decide +kernel
theorem dX2_init_57 : decode cX2_init 57 = .ok (.putfield 30, 3) := by decide +kernel
theorem dX2_init_60 : decode cX2_init 60 = .ok (.return_, 1) := by decide +kernel
theorem dX2_isRegister_0 : decode cX2_isRegister 0 = .ok (.iload_n 0, 1) := by decide +kernel
theorem dX2_isRegister_1 : decode cX2_isRegister 1 = .ok (.ifCond .lt 13, 3) := by decide +kernel
theorem dX2_isRegister_4 : decode cX2_isRegister 4 = .ok (.iload_n 0, 1) := by decide +kernel
theorem dX2_isRegister_5 : decode cX2_isRegister 5 = .ok (.bipush 8, 2) := by decide +kernel
theorem dX2_isRegister_7 : decode cX2_isRegister 7 = .ok (.if_icmp .ge 7, 3) := by decide +kernel
theorem dX2_isRegister_10 : decode cX2_isRegister 10 = .ok (.iconst 1, 1) := by decide +kernel
theorem dX2_isRegister_11 : decode cX2_isRegister 11 = .ok (.goto 4, 3) := by decide +kernel
theorem dX2_isRegister_14 : decode cX2_isRegister 14 = .ok (.iconst 0, 1) := by decide +kernel
theorem dX2_isRegister_15 : decode cX2_isRegister 15 = .ok (.ireturn, 1) := by decide +kernel
set_option maxRecDepth 20000 in
theorem ggX2_set_X2_isRegister : GoodIn wsX2_set wsX2_isRegister := goodIn_r _ [5] (by decide +kernel) (by decide +kernel)
set_option maxRecDepth 20000 in
theorem gX2_set_X2_isRegister : GoodIn wsX2_set (va_wsS RX2 33 yX2_isRegister wsX2_isRegister) := goodIn_app (goodIn_of _ (by decide +kernel)) ggX2_set_X2_isRegister
theorem dX2_set_0 : decode cX2_set 0 = .ok (.iload_n 1, 1) := by decide +kernel
theorem dX2_set_1 : decode cX2_set 1 = .ok (.invokestatic 33, 3) := by decide +kernel
theorem dX2_set_4 : decode cX2_set 4 = .ok (.ifCond .ne 5, 3) := by decide +kernel
theorem dX2_set_7 : decode cX2_set 7 = .ok (.iconst 0, 1) := by decide +kernel
theorem dX2_set_8 : decode cX2_set 8 = .ok (.ireturn, 1) := by decide +kernel
theorem dX2_set_9 : decode cX2_set 9 = .ok (.aload_n 0, 1) := by decide +kernel
theorem dX2_set_10 : decode cX2_set 10 = .ok (.getfield 7, 3) := by decide +kernel
theorem dX2_set_13 : decode cX2_set 13 = .ok (.iload_n 1, 1) := by decide +kernel
theorem dX2_set_14 : decode cX2_set 14 = .ok (.lload_n 2, 1) := by decide +kernel
theorem dX2_set_15 : decode cX2_set 15 = .ok (.lastore, 1) := by decide +kernel
theorem dX2_set_16 : decode cX2_set 16 = .ok (.iconst 1, 1) := by decide +kernel
theorem dX2_set_17 : decode cX2_set 17 = .ok (.ireturn, 1) := by decide +kernel
set_option maxRecDepth 20000 in
theorem ggL_law_X1_init : GoodIn wsL_law wsX1_init := goodIn_r _ [8, 9, 10, 11, 12, 13, 14, 15, 16, 17, 18, 19, 20, 21, 22, 23, 24, 25, 26, 27, 28, 29, 30, 31, 32, 203, 204, 205, 206, 207, 216, 217] (by decide +kernel) (by decide +kernel)
set_option maxRecDepth 20000 in
theorem gL_law_X1_init : GoodIn wsL_law (wsX1_init) := ggL_law_X1_init
set_option maxRecDepth 20000 in
theorem ggL_law_X2_init : GoodIn wsL_law wsX2_init := goodIn_r _ [35, 36, 10, 11, 12, 37, 38, 39, 40, 41, 42, 43, 44, 45, 208, 209, 210, 211, 212, 213, 214, 215] (by decide +kernel) (by decide +kernel)
set_option maxRecDepth 20000 in
theorem gL_law_X2_init : GoodIn wsL_law (wsX2_init) := ggL_law_X2_init
set_option maxRecDepth 20000 in
theorem ggL_law_X1_set : GoodIn wsL_law wsX1_set := goodIn_r _ [49, 13, 50, 51, 2, 52, 203, 204, 205, 206, 207] (by decide +kernel) (by decide +kernel)
set_option maxRecDepth 20000 in
theorem gL_law_X1_set : GoodIn wsL_law (wsV RL 15 RX1 yX1_set wsX1_set) := goodIn_app (goodIn_of _ (by decide +kernel)) ggL_law_X1_set
set_option maxRecDepth 20000 in
theorem ggL_law_X2_set : GoodIn wsL_law wsX2_set := goodIn_r _ [56, 37, 57, 58, 5, 59, 208, 209, 210, 211, 212, 213, 214, 215] (by decide +kernel) (by decide +kernel)
set_option maxRecDepth 20000 in
theorem gL_law_X2_set : GoodIn wsL_law (wsV RL 19 RX2 yX2_set wsX2_set) := goodIn_app (goodIn_of _ (by decide +kernel)) ggL_law_X2_set
set_option maxRecDepth 20000 in
theorem ggL_law_X1_get : GoodIn wsL_law wsX1_get := goodIn_r _ [63, 13, 50, 51, 2, 52, 203, 204, 205, 206, 207] (by decide +kernel) (by decide +kernel)
set_option maxRecDepth 20000 in
theorem gL_law_X1_get : GoodIn wsL_law (wsV RL 20 RX1 yX1_get wsX1_get) := goodIn_app (goodIn_of _ (by decide +kernel)) ggL_law_X1_get
set_option maxRecDepth 20000 in
theorem ggL_law_X1_add : GoodIn wsL_law wsX1_add := goodIn_r _ [67, 22, 13, 50, 51, 2, 52, 68, 69, 70, 17, 71, 31, 32, 72, 73, 74, 75, 76, 77, 78, 79, 80, 81, 82, 83, 84, 85, 86, 87, 88, 89, 90, 91, 92, 93, 94, 95, 96, 97, 98, 99, 203, 204, 205, 206, 207, 216, 217] (by decide +kernel) (by decide +kernel)
set_option maxRecDepth 20000 in
theorem gL_law_X1_add : GoodIn wsL_law (wsV RL 25 RX1 yX1_add wsX1_add) := goodIn_app (goodIn_of _ (by decide +kernel)) ggL_law_X1_add
set_option maxRecDepth 20000 in
theorem ggL_law_X1_subtract : GoodIn wsL_law wsX1_subtract := goodIn_r _ [103, 22, 13, 50, 51, 2, 52, 68, 69, 70, 17, 71, 31, 32, 104, 105, 106, 107, 108, 72, 73, 74, 75, 76, 77, 78, 79, 80, 81, 82, 83, 84, 85, 86, 87, 88, 89, 90, 91, 92, 93, 94, 95, 96, 97, 98, 99, 203, 204, 205, 206, 207, 216, 217] (by decide +kernel) (by decide +kernel)
set_option maxRecDepth 20000 in
theorem gL_law_X1_subtract : GoodIn wsL_law (wsV RL 30 RX1 yX1_subtract wsX1_subtract) := goodIn_app (goodIn_of _ (by decide +kernel)) ggL_law_X1_subtract
set_option maxRecDepth 20000 in
theorem ggL_law_X1_times : GoodIn wsL_law wsX1_times := goodIn_r _ [112, 22, 13, 50, 51, 2, 52, 26, 27, 28, 17, 29, 30, 31, 32, 84, 85, 86, 87, 88, 89, 90, 91, 92, 93, 94, 95, 96, 97, 98, 99, 203, 204, 205, 206, 207, 216, 217] (by decide +kernel) (by decide +kernel)
set_option maxRecDepth 20000 in
theorem gL_law_X1_times : GoodIn wsL_law (wsV RL 34 RX1 yX1_times wsX1_times) := goodIn_app (goodIn_of _ (by decide +kernel)) ggL_law_X1_times
set_option maxRecDepth 20000 in
theorem ggL_law_X1_share : GoodIn wsL_law wsX1_share := goodIn_r _ [116, 22, 13, 50, 51, 2, 52, 117, 118, 119, 26, 27, 28, 17, 29, 30, 31, 32, 120, 121, 122, 123, 92, 93, 94, 95, 124, 125, 126, 127, 128, 129, 105, 106, 107, 108, 130, 131, 132, 133, 80, 81, 82, 83, 134, 135, 136, 72, 73, 74, 75, 76, 77, 78, 79, 104, 84, 85, 86, 87, 88, 89, 90, 91, 96, 97, 98, 99, 203, 204, 205, 206, 207, 216, 217] (by decide +kernel) (by decide +kernel)
set_option maxRecDepth 20000 in
theorem gL_law_X1_share : GoodIn wsL_law (wsV RL 38 RX1 yX1_share wsX1_share) := goodIn_app (goodIn_of _ (by decide +kernel)) ggL_law_X1_share
set_option maxRecDepth 20000 in
theorem ggL_law_X1_enter : GoodIn wsL_law wsX1_enter := goodIn_r _ [140, 22, 13, 15, 141, 142, 2, 143, 50, 51, 52, 26, 27, 28, 17, 29, 30, 31, 32, 144, 145, 146, 147, 76, 77, 78, 79, 80, 81, 82, 83, 148, 149, 150, 151, 18, 20, 152, 153, 154, 155, 156, 157, 158, 159, 203, 204, 205, 206, 207, 216, 217] (by decide +kernel) (by decide +kernel)
set_option maxRecDepth 20000 in
theorem gL_law_X1_enter : GoodIn wsL_law (wsV RL 43 RX1 yX1_enter wsX1_enter) := goodIn_app (goodIn_of _ (by decide +kernel)) ggL_law_X1_enter
set_option maxRecDepth 20000 in
theorem ggL_law_X1_merge : GoodIn wsL_law wsX1_merge := goodIn_r _ [163, 22, 15, 141, 142, 2, 143, 156, 157, 158, 17, 159, 31, 32, 144, 145, 146, 147, 76, 77, 78, 79, 80, 81, 82, 83, 148, 149, 150, 151, 18, 20, 152, 153, 154, 155, 203, 204, 205, 206, 207, 216, 217] (by decide +kernel) (by decide +kernel)
set_option maxRecDepth 20000 in
theorem gL_law_X1_merge : GoodIn wsL_law (wsV RL 48 RX1 yX1_merge wsX1_merge) := goodIn_app (goodIn_of _ (by decide +kernel)) ggL_law_X1_merge
set_option maxRecDepth 20000 in
theorem ggL_law_X1_split : GoodIn wsL_law wsX1_split := goodIn_r _ [167, 19, 15, 13, 141, 142, 2, 143, 50, 51, 52, 92, 93, 94, 17, 95, 31, 124, 125, 126, 127, 128, 129, 105, 106, 107, 32, 108, 130, 131, 132, 133, 80, 81, 82, 83, 104, 203, 204, 205, 206, 207, 216, 217] (by decide +kernel) (by decide +kernel)
set_option maxRecDepth 20000 in
theorem gL_law_X1_split : GoodIn wsL_law (wsV RL 53 RX1 yX1_split wsX1_split) := goodIn_app (goodIn_of _ (by decide +kernel)) ggL_law_X1_split
set_option maxRecDepth 20000 in
theorem ggL_law_X1_take : GoodIn wsL_law wsX1_take := goodIn_r _ [171, 22, 15, 141, 142, 2, 143, 50, 51, 52, 156, 157, 158, 17, 159, 31, 32, 84, 85, 86, 87, 13, 88, 89, 90, 91, 92, 93, 94, 95, 96, 97, 98, 99, 203, 204, 205, 206, 207, 216, 217] (by decide +kernel) (by decide +kernel)
set_option maxRecDepth 20000 in
theorem gL_law_X1_take : GoodIn wsL_law (wsV RL 58 RX1 yX1_take wsX1_take) := goodIn_app (goodIn_of _ (by decide +kernel)) ggL_law_X1_take
set_option maxRecDepth 20000 in
theorem ggL_law_X1_clear : GoodIn wsL_law wsX1_clear := goodIn_r _ [175, 15, 141, 142, 2, 143, 68, 69, 70, 17, 71, 31, 32, 203, 204, 205, 206, 207, 216, 217] (by decide +kernel) (by decide +kernel)
set_option maxRecDepth 20000 in
theorem gL_law_X1_clear : GoodIn wsL_law (wsV RL 62 RX1 yX1_clear wsX1_clear) := goodIn_app (goodIn_of _ (by decide +kernel)) ggL_law_X1_clear
set_option maxRecDepth 20000 in
theorem ggL_law_X1_compare : GoodIn wsL_law wsX1_compare := goodIn_r _ [179, 15, 141, 142, 2, 143, 152, 153, 154, 17, 155, 31, 32, 80, 81, 82, 83, 203, 204, 205, 206, 207, 216, 217] (by decide +kernel) (by decide +kernel)
set_option maxRecDepth 20000 in
theorem gL_law_X1_compare : GoodIn wsL_law (wsV RL 67 RX1 yX1_compare wsX1_compare) := goodIn_app (goodIn_of _ (by decide +kernel)) ggL_law_X1_compare
set_option maxRecDepth 20000 in
theorem ggL_law_X1_digits : GoodIn wsL_law wsX1_digits := goodIn_r _ [183, 15, 141, 142, 2, 143, 184, 185, 186, 187, 22, 19, 156, 157, 158, 17, 159, 31, 32, 124, 125, 126, 127, 128, 93, 94, 95, 129, 105, 106, 107, 108, 130, 131, 132, 133, 80, 81, 82, 83, 96, 97, 98, 99, 188, 189, 190, 191, 192, 193, 194, 195, 92, 203, 204, 205, 206, 207, 216, 217] (by decide +kernel) (by decide +kernel)
set_option maxRecDepth 20000 in
theorem gL_law_X1_digits : GoodIn wsL_law (wsV RL 71 RX1 yX1_digits wsX1_digits) := goodIn_app (goodIn_of _ (by decide +kernel)) ggL_law_X1_digits
set_option maxRecDepth 20000 in
theorem ggL_law_X1_digit : GoodIn wsL_law wsX1_digit := goodIn_r _ [199, 15, 141, 142, 2, 143, 192, 193, 194, 195, 22, 19, 156, 157, 158, 17, 159, 31, 32, 124, 125, 126, 127, 128, 93, 94, 95, 129, 105, 106, 107, 108, 130, 131, 132, 133, 80, 81, 82, 83, 200, 201, 202, 191, 184, 185, 186, 187, 96, 97, 98, 99, 203, 204, 205, 206, 207, 216, 217] (by decide +kernel) (by decide +kernel)
set_option maxRecDepth 20000 in
theorem gL_law_X1_digit : GoodIn wsL_law (wsV RL 76 RX1 yX1_digit wsX1_digit) := goodIn_app (goodIn_of _ (by decide +kernel)) ggL_law_X1_digit
theorem dL_law_0 : decode cL_law 0 = .ok (.new 7, 3) := by decide +kernel
theorem dL_law_3 : decode cL_law 3 = .ok (.dup, 1) := by decide +kernel
theorem dL_law_4 : decode cL_law 4 = .ok (.invokespecial 9, 3) := by decide +kernel
theorem dL_law_7 : decode cL_law 7 = .ok (.astore_n 1, 1) := by decide +kernel
theorem dL_law_8 : decode cL_law 8 = .ok (.new 10, 3) := by decide +kernel
theorem dL_law_11 : decode cL_law 11 = .ok (.dup, 1) := by decide +kernel
theorem dL_law_12 : decode cL_law 12 = .ok (.invokespecial 12, 3) := by decide +kernel
theorem dL_law_15 : decode cL_law 15 = .ok (.astore_n 2, 1) := by decide +kernel
theorem dL_law_16 : decode cL_law 16 = .ok (.iconst 0, 1) := by decide +kernel
theorem dL_law_17 : decode cL_law 17 = .ok (.istore_n 3, 1) := by decide +kernel
theorem dL_law_18 : decode cL_law 18 = .ok (.iload_n 3, 1) := by decide +kernel
theorem dL_law_19 : decode cL_law 19 = .ok (.aload_n 0, 1) := by decide +kernel
theorem dL_law_20 : decode cL_law 20 = .ok (.arraylength, 1) := by decide +kernel
theorem dL_law_21 : decode cL_law 21 = .ok (.bipush 7, 2) := by decide +kernel
theorem dL_law_23 : decode cL_law 23 = .ok (.isub, 1) := by decide +kernel
theorem dL_law_24 : decode cL_law 24 = .ok (.if_icmp .gt 801, 3) := by decide +kernel
theorem dL_law_27 : decode cL_law 27 = .ok (.aload_n 0, 1) := by decide +kernel
theorem dL_law_28 : decode cL_law 28 = .ok (.iload_n 3, 1) := by decide +kernel
theorem dL_law_29 : decode cL_law 29 = .ok (.iaload, 1) := by decide +kernel
theorem dL_law_30 : decode cL_law 30 = .ok (.bipush 15, 2) := by decide +kernel
theorem dL_law_32 : decode cL_law 32 = .ok (.iand, 1) := by decide +kernel
theorem dL_law_33 : decode cL_law 33 = .ok (.tableswitch 786 0 13 #[71, 134, 158, 221, 284, 347, 462, 535, 568, 641, 674, 697, 730, 753], 71) := by decide +kernel
theorem dL_law_104 : decode cL_law 104 = .ok (.aload_n 1, 1) := by decide +kernel
theorem dL_law_105 : decode cL_law 105 = .ok (.aload_n 0, 1) := by decide +kernel
theorem dL_law_106 : decode cL_law 106 = .ok (.iload_n 3, 1) := by decide +kernel
theorem dL_law_107 : decode cL_law 107 = .ok (.iconst 1, 1) := by decide +kernel
theorem dL_law_108 : decode cL_law 108 = .ok (.iadd, 1) := by decide +kernel
theorem dL_law_109 : decode cL_law 109 = .ok (.iaload, 1) := by decide +kernel
theorem dL_law_110 : decode cL_law 110 = .ok (.aload_n 0, 1) := by decide +kernel
theorem dL_law_111 : decode cL_law 111 = .ok (.iload_n 3, 1) := by decide +kernel
theorem dL_law_112 : decode cL_law 112 = .ok (.iconst 2, 1) := by decide +kernel
theorem dL_law_113 : decode cL_law 113 = .ok (.iadd, 1) := by decide +kernel
theorem dL_law_114 : decode cL_law 114 = .ok (.iaload, 1) := by decide +kernel
theorem dL_law_115 : decode cL_law 115 = .ok (.i2l, 1) := by decide +kernel
theorem dL_law_116 : decode cL_law 116 = .ok (.bipush 32, 2) := by decide +kernel
theorem dL_law_118 : decode cL_law 118 = .ok (.lshl, 1) := by decide +kernel
theorem dL_law_119 : decode cL_law 119 = .ok (.aload_n 0, 1) := by decide +kernel
theorem dL_law_120 : decode cL_law 120 = .ok (.iload_n 3, 1) := by decide +kernel
theorem dL_law_121 : decode cL_law 121 = .ok (.iconst 3, 1) := by decide +kernel
theorem dL_law_122 : decode cL_law 122 = .ok (.iadd, 1) := by decide +kernel
theorem dL_law_123 : decode cL_law 123 = .ok (.iaload, 1) := by decide +kernel
theorem dL_law_124 : decode cL_law 124 = .ok (.i2l, 1) := by decide +kernel
theorem dL_law_125 : decode cL_law 125 = .ok (.ldc2_w 13, 3) := by decide +kernel
theorem dL_law_128 : decode cL_law 128 = .ok (.land, 1) := by decide +kernel
theorem dL_law_129 : decode cL_law 129 = .ok (.lor, 1) := by decide +kernel
theorem dL_law_130 : decode cL_law 130 = .ok (.invokevirtual 15, 3) := by decide +kernel
theorem dL_law_133 : decode cL_law 133 = .ok (.aload_n 2, 1) := by decide +kernel
theorem dL_law_134 : decode cL_law 134 = .ok (.aload_n 0, 1) := by decide +kernel
theorem dL_law_135 : decode cL_law 135 = .ok (.iload_n 3, 1) := by decide +kernel
theorem dL_law_136 : decode cL_law 136 = .ok (.iconst 1, 1) := by decide +kernel
theorem dL_law_137 : decode cL_law 137 = .ok (.iadd, 1) := by decide +kernel
theorem dL_law_138 : decode cL_law 138 = .ok (.iaload, 1) := by decide +kernel
theorem dL_law_139 : decode cL_law 139 = .ok (.aload_n 0, 1) := by decide +kernel
theorem dL_law_140 : decode cL_law 140 = .ok (.iload_n 3, 1) := by decide +kernel
theorem dL_law_141 : decode cL_law 141 = .ok (.iconst 2, 1) := by decide +kernel
theorem dL_law_142 : decode cL_law 142 = .ok (.iadd, 1) := by decide +kernel
theorem dL_law_143 : decode cL_law 143 = .ok (.iaload, 1) := by decide +kernel
theorem dL_law_144 : decode cL_law 144 = .ok (.i2l, 1) := by decide +kernel
theorem dL_law_145 : decode cL_law 145 = .ok (.bipush 32, 2) := by decide +kernel
theorem dL_law_147 : decode cL_law 147 = .ok (.lshl, 1) := by decide +kernel
theorem dL_law_148 : decode cL_law 148 = .ok (.aload_n 0, 1) := by decide +kernel
theorem dL_law_149 : decode cL_law 149 = .ok (.iload_n 3, 1) := by decide +kernel
theorem dL_law_150 : decode cL_law 150 = .ok (.iconst 3, 1) := by decide +kernel
theorem dL_law_151 : decode cL_law 151 = .ok (.iadd, 1) := by decide +kernel
theorem dL_law_152 : decode cL_law 152 = .ok (.iaload, 1) := by decide +kernel
theorem dL_law_153 : decode cL_law 153 = .ok (.i2l, 1) := by decide +kernel
theorem dL_law_154 : decode cL_law 154 = .ok (.ldc2_w 13, 3) := by decide +kernel
theorem dL_law_157 : decode cL_law 157 = .ok (.land, 1) := by decide +kernel
theorem dL_law_158 : decode cL_law 158 = .ok (.lor, 1) := by decide +kernel
theorem dL_law_159 : decode cL_law 159 = .ok (.invokevirtual 19, 3) := by decide +kernel
theorem dL_law_162 : decode cL_law 162 = .ok (.if_icmp .eq 657, 3) := by decide +kernel
theorem dL_law_165 : decode cL_law 165 = .ok (.iconst 0, 1) := by decide +kernel
theorem dL_law_166 : decode cL_law 166 = .ok (.ireturn, 1) := by decide +kernel
theorem dL_law_167 : decode cL_law 167 = .ok (.aload_n 1, 1) := by decide +kernel
theorem dL_law_168 : decode cL_law 168 = .ok (.aload_n 0, 1) := by decide +kernel
theorem dL_law_169 : decode cL_law 169 = .ok (.iload_n 3, 1) := by decide +kernel
theorem dL_law_170 : decode cL_law 170 = .ok (.iconst 1, 1) := by decide +kernel
theorem dL_law_171 : decode cL_law 171 = .ok (.iadd, 1) := by decide +kernel
theorem dL_law_172 : decode cL_law 172 = .ok (.iaload, 1) := by decide +kernel
theorem dL_law_173 : decode cL_law 173 = .ok (.invokevirtual 20, 3) := by decide +kernel
theorem dL_law_176 : decode cL_law 176 = .ok (.aload_n 2, 1) := by decide +kernel
theorem dL_law_177 : decode cL_law 177 = .ok (.aload_n 0, 1) := by decide +kernel
theorem dL_law_178 : decode cL_law 178 = .ok (.iload_n 3, 1) := by decide +kernel
theorem dL_law_179 : decode cL_law 179 = .ok (.iconst 1, 1) := by decide +kernel
theorem dL_law_180 : decode cL_law 180 = .ok (.iadd, 1) := by decide +kernel
theorem dL_law_181 : decode cL_law 181 = .ok (.iaload, 1) := by decide +kernel
theorem dL_law_182 : decode cL_law 182 = .ok (.invokevirtual 24, 3) := by decide +kernel
theorem dL_law_185 : decode cL_law 185 = .ok (.lcmp, 1) := by decide +kernel
theorem dL_law_186 : decode cL_law 186 = .ok (.ifCond .eq 633, 3) := by decide +kernel
theorem dL_law_189 : decode cL_law 189 = .ok (.iconst 0, 1) := by decide +kernel
theorem dL_law_190 : decode cL_law 190 = .ok (.ireturn, 1) := by decide +kernel
theorem dL_law_191 : decode cL_law 191 = .ok (.aload_n 1, 1) := by decide +kernel
theorem dL_law_192 : decode cL_law 192 = .ok (.aload_n 0, 1) := by decide +kernel
theorem dL_law_193 : decode cL_law 193 = .ok (.iload_n 3, 1) := by decide +kernel
theorem dL_law_194 : decode cL_law 194 = .ok (.iconst 1, 1) := by decide +kernel
theorem dL_law_195 : decode cL_law 195 = .ok (.iadd, 1) := by decide +kernel
theorem dL_law_196 : decode cL_law 196 = .ok (.iaload, 1) := by decide +kernel
theorem dL_law_197 : decode cL_law 197 = .ok (.aload_n 0, 1) := by decide +kernel
theorem dL_law_198 : decode cL_law 198 = .ok (.iload_n 3, 1) := by decide +kernel
theorem dL_law_199 : decode cL_law 199 = .ok (.iconst 2, 1) := by decide +kernel
theorem dL_law_200 : decode cL_law 200 = .ok (.iadd, 1) := by decide +kernel
theorem dL_law_201 : decode cL_law 201 = .ok (.iaload, 1) := by decide +kernel
theorem dL_law_202 : decode cL_law 202 = .ok (.i2l, 1) := by decide +kernel
theorem dL_law_203 : decode cL_law 203 = .ok (.bipush 32, 2) := by decide +kernel
theorem dL_law_205 : decode cL_law 205 = .ok (.lshl, 1) := by decide +kernel
theorem dL_law_206 : decode cL_law 206 = .ok (.aload_n 0, 1) := by decide +kernel
theorem dL_law_207 : decode cL_law 207 = .ok (.iload_n 3, 1) := by decide +kernel
theorem dL_law_208 : decode cL_law 208 = .ok (.iconst 3, 1) := by decide +kernel
theorem dL_law_209 : decode cL_law 209 = .ok (.iadd, 1) := by decide +kernel
theorem dL_law_210 : decode cL_law 210 = .ok (.iaload, 1) := by decide +kernel
theorem dL_law_211 : decode cL_law 211 = .ok (.i2l, 1) := by decide +kernel
theorem dL_law_212 : decode cL_law 212 = .ok (.ldc2_w 13, 3) := by decide +kernel
theorem dL_law_215 : decode cL_law 215 = .ok (.land, 1) := by decide +kernel
theorem dL_law_216 : decode cL_law 216 = .ok (.lor, 1) := by decide +kernel
theorem dL_law_217 : decode cL_law 217 = .ok (.invokevirtual 25, 3) := by decide +kernel
theorem dL_law_220 : decode cL_law 220 = .ok (.aload_n 2, 1) := by decide +kernel
theorem dL_law_221 : decode cL_law 221 = .ok (.aload_n 0, 1) := by decide +kernel
theorem dL_law_222 : decode cL_law 222 = .ok (.iload_n 3, 1) := by decide +kernel
theorem dL_law_223 : decode cL_law 223 = .ok (.iconst 1, 1) := by decide +kernel
theorem dL_law_224 : decode cL_law 224 = .ok (.iadd, 1) := by decide +kernel
theorem dL_law_225 : decode cL_law 225 = .ok (.iaload, 1) := by decide +kernel
theorem dL_law_226 : decode cL_law 226 = .ok (.aload_n 0, 1) := by decide +kernel
theorem dL_law_227 : decode cL_law 227 = .ok (.iload_n 3, 1) := by decide +kernel
theorem dL_law_228 : decode cL_law 228 = .ok (.iconst 2, 1) := by decide +kernel
theorem dL_law_229 : decode cL_law 229 = .ok (.iadd, 1) := by decide +kernel
theorem dL_law_230 : decode cL_law 230 = .ok (.iaload, 1) := by decide +kernel
theorem dL_law_231 : decode cL_law 231 = .ok (.i2l, 1) := by decide +kernel
theorem dL_law_232 : decode cL_law 232 = .ok (.bipush 32, 2) := by decide +kernel
theorem dL_law_234 : decode cL_law 234 = .ok (.lshl, 1) := by decide +kernel
theorem dL_law_235 : decode cL_law 235 = .ok (.aload_n 0, 1) := by decide +kernel
theorem dL_law_236 : decode cL_law 236 = .ok (.iload_n 3, 1) := by decide +kernel
theorem dL_law_237 : decode cL_law 237 = .ok (.iconst 3, 1) := by decide +kernel
theorem dL_law_238 : decode cL_law 238 = .ok (.iadd, 1) := by decide +kernel
theorem dL_law_239 : decode cL_law 239 = .ok (.iaload, 1) := by decide +kernel
theorem dL_law_240 : decode cL_law 240 = .ok (.i2l, 1) := by decide +kernel
theorem dL_law_241 : decode cL_law 241 = .ok (.ldc2_w 13, 3) := by decide +kernel
theorem dL_law_244 : decode cL_law 244 = .ok (.land, 1) := by decide +kernel
theorem dL_law_245 : decode cL_law 245 = .ok (.lor, 1) := by decide +kernel
theorem dL_law_246 : decode cL_law 246 = .ok (.invokevirtual 29, 3) := by decide +kernel
theorem dL_law_249 : decode cL_law 249 = .ok (.if_icmp .eq 570, 3) := by decide +kernel
theorem dL_law_252 : decode cL_law 252 = .ok (.iconst 0, 1) := by decide +kernel
theorem dL_law_253 : decode cL_law 253 = .ok (.ireturn, 1) := by decide +kernel
theorem dL_law_254 : decode cL_law 254 = .ok (.aload_n 1, 1) := by decide +kernel
theorem dL_law_255 : decode cL_law 255 = .ok (.aload_n 0, 1) := by decide +kernel
theorem dL_law_256 : decode cL_law 256 = .ok (.iload_n 3, 1) := by decide +kernel
theorem dL_law_257 : decode cL_law 257 = .ok (.iconst 1, 1) := by decide +kernel
theorem dL_law_258 : decode cL_law 258 = .ok (.iadd, 1) := by decide +kernel
theorem dL_law_259 : decode cL_law 259 = .ok (.iaload, 1) := by decide +kernel
theorem dL_law_260 : decode cL_law 260 = .ok (.aload_n 0, 1) := by decide +kernel
theorem dL_law_261 : decode cL_law 261 = .ok (.iload_n 3, 1) := by decide +kernel
theorem dL_law_262 : decode cL_law 262 = .ok (.iconst 2, 1) := by decide +kernel
theorem dL_law_263 : decode cL_law 263 = .ok (.iadd, 1) := by decide +kernel
theorem dL_law_264 : decode cL_law 264 = .ok (.iaload, 1) := by decide +kernel
theorem dL_law_265 : decode cL_law 265 = .ok (.i2l, 1) := by decide +kernel
theorem dL_law_266 : decode cL_law 266 = .ok (.bipush 32, 2) := by decide +kernel
theorem dL_law_268 : decode cL_law 268 = .ok (.lshl, 1) := by decide +kernel
theorem dL_law_269 : decode cL_law 269 = .ok (.aload_n 0, 1) := by decide +kernel
theorem dL_law_270 : decode cL_law 270 = .ok (.iload_n 3, 1) := by decide +kernel
theorem dL_law_271 : decode cL_law 271 = .ok (.iconst 3, 1) := by decide +kernel
theorem dL_law_272 : decode cL_law 272 = .ok (.iadd, 1) := by decide +kernel
theorem dL_law_273 : decode cL_law 273 = .ok (.iaload, 1) := by decide +kernel
theorem dL_law_274 : decode cL_law 274 = .ok (.i2l, 1) := by decide +kernel
theorem dL_law_275 : decode cL_law 275 = .ok (.ldc2_w 13, 3) := by decide +kernel
theorem dL_law_278 : decode cL_law 278 = .ok (.land, 1) := by decide +kernel
theorem dL_law_279 : decode cL_law 279 = .ok (.lor, 1) := by decide +kernel
theorem dL_law_280 : decode cL_law 280 = .ok (.invokevirtual 30, 3) := by decide +kernel
theorem dL_law_283 : decode cL_law 283 = .ok (.aload_n 2, 1) := by decide +kernel
theorem dL_law_284 : decode cL_law 284 = .ok (.aload_n 0, 1) := by decide +kernel
theorem dL_law_285 : decode cL_law 285 = .ok (.iload_n 3, 1) := by decide +kernel
theorem dL_law_286 : decode cL_law 286 = .ok (.iconst 1, 1) := by decide +kernel
theorem dL_law_287 : decode cL_law 287 = .ok (.iadd, 1) := by decide +kernel
theorem dL_law_288 : decode cL_law 288 = .ok (.iaload, 1) := by decide +kernel
theorem dL_law_289 : decode cL_law 289 = .ok (.aload_n 0, 1) := by decide +kernel
theorem dL_law_290 : decode cL_law 290 = .ok (.iload_n 3, 1) := by decide +kernel
theorem dL_law_291 : decode cL_law 291 = .ok (.iconst 2, 1) := by decide +kernel
theorem dL_law_292 : decode cL_law 292 = .ok (.iadd, 1) := by decide +kernel
theorem dL_law_293 : decode cL_law 293 = .ok (.iaload, 1) := by decide +kernel
theorem dL_law_294 : decode cL_law 294 = .ok (.i2l, 1) := by decide +kernel
theorem dL_law_295 : decode cL_law 295 = .ok (.bipush 32, 2) := by decide +kernel
theorem dL_law_297 : decode cL_law 297 = .ok (.lshl, 1) := by decide +kernel
theorem dL_law_298 : decode cL_law 298 = .ok (.aload_n 0, 1) := by decide +kernel
theorem dL_law_299 : decode cL_law 299 = .ok (.iload_n 3, 1) := by decide +kernel
theorem dL_law_300 : decode cL_law 300 = .ok (.iconst 3, 1) := by decide +kernel
theorem dL_law_301 : decode cL_law 301 = .ok (.iadd, 1) := by decide +kernel
theorem dL_law_302 : decode cL_law 302 = .ok (.iaload, 1) := by decide +kernel
theorem dL_law_303 : decode cL_law 303 = .ok (.i2l, 1) := by decide +kernel
theorem dL_law_304 : decode cL_law 304 = .ok (.ldc2_w 13, 3) := by decide +kernel
theorem dL_law_307 : decode cL_law 307 = .ok (.land, 1) := by decide +kernel
theorem dL_law_308 : decode cL_law 308 = .ok (.lor, 1) := by decide +kernel
theorem dL_law_309 : decode cL_law 309 = .ok (.invokevirtual 33, 3) := by decide +kernel
theorem dL_law_312 : decode cL_law 312 = .ok (.if_icmp .eq 507, 3) := by decide +kernel
theorem dL_law_315 : decode cL_law 315 = .ok (.iconst 0, 1) := by decide +kernel
theorem dL_law_316 : decode cL_law 316 = .ok (.ireturn, 1) := by decide +kernel
theorem dL_law_317 : decode cL_law 317 = .ok (.aload_n 1, 1) := by decide +kernel
theorem dL_law_318 : decode cL_law 318 = .ok (.aload_n 0, 1) := by decide +kernel
theorem dL_law_319 : decode cL_law 319 = .ok (.iload_n 3, 1) := by decide +kernel
theorem dL_law_320 : decode cL_law 320 = .ok (.iconst 1, 1) := by decide +kernel
theorem dL_law_321 : decode cL_law 321 = .ok (.iadd, 1) := by decide +kernel
theorem dL_law_322 : decode cL_law 322 = .ok (.iaload, 1) := by decide +kernel
theorem dL_law_323 : decode cL_law 323 = .ok (.aload_n 0, 1) := by decide +kernel
theorem dL_law_324 : decode cL_law 324 = .ok (.iload_n 3, 1) := by decide +kernel
theorem dL_law_325 : decode cL_law 325 = .ok (.iconst 2, 1) := by decide +kernel
theorem dL_law_326 : decode cL_law 326 = .ok (.iadd, 1) := by decide +kernel
theorem dL_law_327 : decode cL_law 327 = .ok (.iaload, 1) := by decide +kernel
theorem dL_law_328 : decode cL_law 328 = .ok (.i2l, 1) := by decide +kernel
theorem dL_law_329 : decode cL_law 329 = .ok (.bipush 32, 2) := by decide +kernel
theorem dL_law_331 : decode cL_law 331 = .ok (.lshl, 1) := by decide +kernel
theorem dL_law_332 : decode cL_law 332 = .ok (.aload_n 0, 1) := by decide +kernel
theorem dL_law_333 : decode cL_law 333 = .ok (.iload_n 3, 1) := by decide +kernel
theorem dL_law_334 : decode cL_law 334 = .ok (.iconst 3, 1) := by decide +kernel
theorem dL_law_335 : decode cL_law 335 = .ok (.iadd, 1) := by decide +kernel
theorem dL_law_336 : decode cL_law 336 = .ok (.iaload, 1) := by decide +kernel
theorem dL_law_337 : decode cL_law 337 = .ok (.i2l, 1) := by decide +kernel
theorem dL_law_338 : decode cL_law 338 = .ok (.ldc2_w 13, 3) := by decide +kernel
theorem dL_law_341 : decode cL_law 341 = .ok (.land, 1) := by decide +kernel
theorem dL_law_342 : decode cL_law 342 = .ok (.lor, 1) := by decide +kernel
theorem dL_law_343 : decode cL_law 343 = .ok (.invokevirtual 34, 3) := by decide +kernel
theorem dL_law_346 : decode cL_law 346 = .ok (.aload_n 2, 1) := by decide +kernel
theorem dL_law_347 : decode cL_law 347 = .ok (.aload_n 0, 1) := by decide +kernel
theorem dL_law_348 : decode cL_law 348 = .ok (.iload_n 3, 1) := by decide +kernel
theorem dL_law_349 : decode cL_law 349 = .ok (.iconst 1, 1) := by decide +kernel
theorem dL_law_350 : decode cL_law 350 = .ok (.iadd, 1) := by decide +kernel
theorem dL_law_351 : decode cL_law 351 = .ok (.iaload, 1) := by decide +kernel
theorem dL_law_352 : decode cL_law 352 = .ok (.aload_n 0, 1) := by decide +kernel
theorem dL_law_353 : decode cL_law 353 = .ok (.iload_n 3, 1) := by decide +kernel
theorem dL_law_354 : decode cL_law 354 = .ok (.iconst 2, 1) := by decide +kernel
theorem dL_law_355 : decode cL_law 355 = .ok (.iadd, 1) := by decide +kernel
theorem dL_law_356 : decode cL_law 356 = .ok (.iaload, 1) := by decide +kernel
theorem dL_law_357 : decode cL_law 357 = .ok (.i2l, 1) := by decide +kernel
theorem dL_law_358 : decode cL_law 358 = .ok (.bipush 32, 2) := by decide +kernel
theorem dL_law_360 : decode cL_law 360 = .ok (.lshl, 1) := by decide +kernel
theorem dL_law_361 : decode cL_law 361 = .ok (.aload_n 0, 1) := by decide +kernel
theorem dL_law_362 : decode cL_law 362 = .ok (.iload_n 3, 1) := by decide +kernel
theorem dL_law_363 : decode cL_law 363 = .ok (.iconst 3, 1) := by decide +kernel
theorem dL_law_364 : decode cL_law 364 = .ok (.iadd, 1) := by decide +kernel
theorem dL_law_365 : decode cL_law 365 = .ok (.iaload, 1) := by decide +kernel
theorem dL_law_366 : decode cL_law 366 = .ok (.i2l, 1) := by decide +kernel
theorem dL_law_367 : decode cL_law 367 = .ok (.ldc2_w 13, 3) := by decide +kernel
theorem dL_law_370 : decode cL_law 370 = .ok (.land, 1) := by decide +kernel
theorem dL_law_371 : decode cL_law 371 = .ok (.lor, 1) := by decide +kernel
theorem dL_law_372 : decode cL_law 372 = .ok (.invokevirtual 37, 3) := by decide +kernel
theorem dL_law_375 : decode cL_law 375 = .ok (.if_icmp .eq 444, 3) := by decide +kernel
theorem dL_law_378 : decode cL_law 378 = .ok (.iconst 0, 1) := by decide +kernel
theorem dL_law_379 : decode cL_law 379 = .ok (.ireturn, 1) := by decide +kernel
theorem dL_law_380 : decode cL_law 380 = .ok (.aload_n 1, 1) := by decide +kernel
theorem dL_law_381 : decode cL_law 381 = .ok (.aload_n 0, 1) := by decide +kernel
theorem dL_law_382 : decode cL_law 382 = .ok (.iload_n 3, 1) := by decide +kernel
theorem dL_law_383 : decode cL_law 383 = .ok (.iconst 1, 1) := by decide +kernel
theorem dL_law_384 : decode cL_law 384 = .ok (.iadd, 1) := by decide +kernel
theorem dL_law_385 : decode cL_law 385 = .ok (.iaload, 1) := by decide +kernel
theorem dL_law_386 : decode cL_law 386 = .ok (.aload_n 0, 1) := by decide +kernel
theorem dL_law_387 : decode cL_law 387 = .ok (.iload_n 3, 1) := by decide +kernel
theorem dL_law_388 : decode cL_law 388 = .ok (.iconst 2, 1) := by decide +kernel
theorem dL_law_389 : decode cL_law 389 = .ok (.iadd, 1) := by decide +kernel
theorem dL_law_390 : decode cL_law 390 = .ok (.iaload, 1) := by decide +kernel
theorem dL_law_391 : decode cL_law 391 = .ok (.i2l, 1) := by decide +kernel
theorem dL_law_392 : decode cL_law 392 = .ok (.bipush 32, 2) := by decide +kernel
theorem dL_law_394 : decode cL_law 394 = .ok (.lshl, 1) := by decide +kernel
theorem dL_law_395 : decode cL_law 395 = .ok (.aload_n 0, 1) := by decide +kernel
theorem dL_law_396 : decode cL_law 396 = .ok (.iload_n 3, 1) := by decide +kernel
theorem dL_law_397 : decode cL_law 397 = .ok (.iconst 3, 1) := by decide +kernel
theorem dL_law_398 : decode cL_law 398 = .ok (.iadd, 1) := by decide +kernel
theorem dL_law_399 : decode cL_law 399 = .ok (.iaload, 1) := by decide +kernel
theorem dL_law_400 : decode cL_law 400 = .ok (.i2l, 1) := by decide +kernel
theorem dL_law_401 : decode cL_law 401 = .ok (.ldc2_w 13, 3) := by decide +kernel
theorem dL_law_404 : decode cL_law 404 = .ok (.land, 1) := by decide +kernel
theorem dL_law_405 : decode cL_law 405 = .ok (.lor, 1) := by decide +kernel
theorem dL_law_406 : decode cL_law 406 = .ok (.aload_n 0, 1) := by decide +kernel
theorem dL_law_407 : decode cL_law 407 = .ok (.iload_n 3, 1) := by decide +kernel
theorem dL_law_408 : decode cL_law 408 = .ok (.iconst 4, 1) := by decide +kernel
theorem dL_law_409 : decode cL_law 409 = .ok (.iadd, 1) := by decide +kernel
theorem dL_law_410 : decode cL_law 410 = .ok (.iaload, 1) := by decide +kernel
theorem dL_law_411 : decode cL_law 411 = .ok (.i2l, 1) := by decide +kernel
theorem dL_law_412 : decode cL_law 412 = .ok (.bipush 32, 2) := by decide +kernel
theorem dL_law_414 : decode cL_law 414 = .ok (.lshl, 1) := by decide +kernel
theorem dL_law_415 : decode cL_law 415 = .ok (.aload_n 0, 1) := by decide +kernel
theorem dL_law_416 : decode cL_law 416 = .ok (.iload_n 3, 1) := by decide +kernel
theorem dL_law_417 : decode cL_law 417 = .ok (.iconst 5, 1) := by decide +kernel
theorem dL_law_418 : decode cL_law 418 = .ok (.iadd, 1) := by decide +kernel
theorem dL_law_419 : decode cL_law 419 = .ok (.iaload, 1) := by decide +kernel
theorem dL_law_420 : decode cL_law 420 = .ok (.i2l, 1) := by decide +kernel
theorem dL_law_421 : decode cL_law 421 = .ok (.ldc2_w 13, 3) := by decide +kernel
theorem dL_law_424 : decode cL_law 424 = .ok (.land, 1) := by decide +kernel
theorem dL_law_425 : decode cL_law 425 = .ok (.lor, 1) := by decide +kernel
theorem dL_law_426 : decode cL_law 426 = .ok (.aload_n 0, 1) := by decide +kernel
theorem dL_law_427 : decode cL_law 427 = .ok (.iload_n 3, 1) := by decide +kernel
theorem dL_law_428 : decode cL_law 428 = .ok (.bipush 6, 2) := by decide +kernel
theorem dL_law_430 : decode cL_law 430 = .ok (.iadd, 1) := by decide +kernel
theorem dL_law_431 : decode cL_law 431 = .ok (.iaload, 1) := by decide +kernel
theorem dL_law_432 : decode cL_law 432 = .ok (.invokevirtual 38, 3) := by decide +kernel
theorem dL_law_435 : decode cL_law 435 = .ok (.aload_n 2, 1) := by decide +kernel
theorem dL_law_436 : decode cL_law 436 = .ok (.aload_n 0, 1) := by decide +kernel
theorem dL_law_437 : decode cL_law 437 = .ok (.iload_n 3, 1) := by decide +kernel
theorem dL_law_438 : decode cL_law 438 = .ok (.iconst 1, 1) := by decide +kernel
theorem dL_law_439 : decode cL_law 439 = .ok (.iadd, 1) := by decide +kernel
theorem dL_law_440 : decode cL_law 440 = .ok (.iaload, 1) := by decide +kernel
theorem dL_law_441 : decode cL_law 441 = .ok (.aload_n 0, 1) := by decide +kernel
theorem dL_law_442 : decode cL_law 442 = .ok (.iload_n 3, 1) := by decide +kernel
theorem dL_law_443 : decode cL_law 443 = .ok (.iconst 2, 1) := by decide +kernel
theorem dL_law_444 : decode cL_law 444 = .ok (.iadd, 1) := by decide +kernel
theorem dL_law_445 : decode cL_law 445 = .ok (.iaload, 1) := by decide +kernel
theorem dL_law_446 : decode cL_law 446 = .ok (.i2l, 1) := by decide +kernel
theorem dL_law_447 : decode cL_law 447 = .ok (.bipush 32, 2) := by decide +kernel
theorem dL_law_449 : decode cL_law 449 = .ok (.lshl, 1) := by decide +kernel
theorem dL_law_450 : decode cL_law 450 = .ok (.aload_n 0, 1) := by decide +kernel
theorem dL_law_451 : decode cL_law 451 = .ok (.iload_n 3, 1) := by decide +kernel
theorem dL_law_452 : decode cL_law 452 = .ok (.iconst 3, 1) := by decide +kernel
theorem dL_law_453 : decode cL_law 453 = .ok (.iadd, 1) := by decide +kernel
theorem dL_law_454 : decode cL_law 454 = .ok (.iaload, 1) := by decide +kernel
theorem dL_law_455 : decode cL_law 455 = .ok (.i2l, 1) := by decide +kernel
theorem dL_law_456 : decode cL_law 456 = .ok (.ldc2_w 13, 3) := by decide +kernel
theorem dL_law_459 : decode cL_law 459 = .ok (.land, 1) := by decide +kernel
theorem dL_law_460 : decode cL_law 460 = .ok (.lor, 1) := by decide +kernel
theorem dL_law_461 : decode cL_law 461 = .ok (.aload_n 0, 1) := by decide +kernel
theorem dL_law_462 : decode cL_law 462 = .ok (.iload_n 3, 1) := by decide +kernel
theorem dL_law_463 : decode cL_law 463 = .ok (.iconst 4, 1) := by decide +kernel
theorem dL_law_464 : decode cL_law 464 = .ok (.iadd, 1) := by decide +kernel
theorem dL_law_465 : decode cL_law 465 = .ok (.iaload, 1) := by decide +kernel
theorem dL_law_466 : decode cL_law 466 = .ok (.i2l, 1) := by decide +kernel
theorem dL_law_467 : decode cL_law 467 = .ok (.bipush 32, 2) := by decide +kernel
theorem dL_law_469 : decode cL_law 469 = .ok (.lshl, 1) := by decide +kernel
theorem dL_law_470 : decode cL_law 470 = .ok (.aload_n 0, 1) := by decide +kernel
theorem dL_law_471 : decode cL_law 471 = .ok (.iload_n 3, 1) := by decide +kernel
theorem dL_law_472 : decode cL_law 472 = .ok (.iconst 5, 1) := by decide +kernel
theorem dL_law_473 : decode cL_law 473 = .ok (.iadd, 1) := by decide +kernel
theorem dL_law_474 : decode cL_law 474 = .ok (.iaload, 1) := by decide +kernel
theorem dL_law_475 : decode cL_law 475 = .ok (.i2l, 1) := by decide +kernel
theorem dL_law_476 : decode cL_law 476 = .ok (.ldc2_w 13, 3) := by decide +kernel
theorem dL_law_479 : decode cL_law 479 = .ok (.land, 1) := by decide +kernel
theorem dL_law_480 : decode cL_law 480 = .ok (.lor, 1) := by decide +kernel
theorem dL_law_481 : decode cL_law 481 = .ok (.aload_n 0, 1) := by decide +kernel
theorem dL_law_482 : decode cL_law 482 = .ok (.iload_n 3, 1) := by decide +kernel
theorem dL_law_483 : decode cL_law 483 = .ok (.bipush 6, 2) := by decide +kernel
theorem dL_law_485 : decode cL_law 485 = .ok (.iadd, 1) := by decide +kernel
theorem dL_law_486 : decode cL_law 486 = .ok (.iaload, 1) := by decide +kernel
theorem dL_law_487 : decode cL_law 487 = .ok (.invokevirtual 42, 3) := by decide +kernel
theorem dL_law_490 : decode cL_law 490 = .ok (.if_icmp .eq 329, 3) := by decide +kernel
theorem dL_law_493 : decode cL_law 493 = .ok (.iconst 0, 1) := by decide +kernel
theorem dL_law_494 : decode cL_law 494 = .ok (.ireturn, 1) := by decide +kernel
theorem dL_law_495 : decode cL_law 495 = .ok (.aload_n 1, 1) := by decide +kernel
theorem dL_law_496 : decode cL_law 496 = .ok (.aload_n 0, 1) := by decide +kernel
theorem dL_law_497 : decode cL_law 497 = .ok (.iload_n 3, 1) := by decide +kernel
theorem dL_law_498 : decode cL_law 498 = .ok (.iconst 1, 1) := by decide +kernel
theorem dL_law_499 : decode cL_law 499 = .ok (.iadd, 1) := by decide +kernel
theorem dL_law_500 : decode cL_law 500 = .ok (.iaload, 1) := by decide +kernel
theorem dL_law_501 : decode cL_law 501 = .ok (.aload_n 0, 1) := by decide +kernel
theorem dL_law_502 : decode cL_law 502 = .ok (.iload_n 3, 1) := by decide +kernel
theorem dL_law_503 : decode cL_law 503 = .ok (.iconst 2, 1) := by decide +kernel
theorem dL_law_504 : decode cL_law 504 = .ok (.iadd, 1) := by decide +kernel
theorem dL_law_505 : decode cL_law 505 = .ok (.iaload, 1) := by decide +kernel
theorem dL_law_506 : decode cL_law 506 = .ok (.aload_n 0, 1) := by decide +kernel
theorem dL_law_507 : decode cL_law 507 = .ok (.iload_n 3, 1) := by decide +kernel
theorem dL_law_508 : decode cL_law 508 = .ok (.iconst 3, 1) := by decide +kernel
theorem dL_law_509 : decode cL_law 509 = .ok (.iadd, 1) := by decide +kernel
theorem dL_law_510 : decode cL_law 510 = .ok (.iaload, 1) := by decide +kernel
theorem dL_law_511 : decode cL_law 511 = .ok (.i2l, 1) := by decide +kernel
theorem dL_law_512 : decode cL_law 512 = .ok (.bipush 32, 2) := by decide +kernel
theorem dL_law_514 : decode cL_law 514 = .ok (.lshl, 1) := by decide +kernel
theorem dL_law_515 : decode cL_law 515 = .ok (.aload_n 0, 1) := by decide +kernel
theorem dL_law_516 : decode cL_law 516 = .ok (.iload_n 3, 1) := by decide +kernel
theorem dL_law_517 : decode cL_law 517 = .ok (.iconst 4, 1) := by decide +kernel
theorem dL_law_518 : decode cL_law 518 = .ok (.iadd, 1) := by decide +kernel
theorem dL_law_519 : decode cL_law 519 = .ok (.iaload, 1) := by decide +kernel
theorem dL_law_520 : decode cL_law 520 = .ok (.i2l, 1) := by decide +kernel
theorem dL_law_521 : decode cL_law 521 = .ok (.ldc2_w 13, 3) := by decide +kernel
theorem dL_law_524 : decode cL_law 524 = .ok (.land, 1) := by decide +kernel
theorem dL_law_525 : decode cL_law 525 = .ok (.lor, 1) := by decide +kernel
theorem dL_law_526 : decode cL_law 526 = .ok (.invokevirtual 43, 3) := by decide +kernel
theorem dL_law_529 : decode cL_law 529 = .ok (.aload_n 2, 1) := by decide +kernel
theorem dL_law_530 : decode cL_law 530 = .ok (.aload_n 0, 1) := by decide +kernel
theorem dL_law_531 : decode cL_law 531 = .ok (.iload_n 3, 1) := by decide +kernel
theorem dL_law_532 : decode cL_law 532 = .ok (.iconst 1, 1) := by decide +kernel
theorem dL_law_533 : decode cL_law 533 = .ok (.iadd, 1) := by decide +kernel
theorem dL_law_534 : decode cL_law 534 = .ok (.iaload, 1) := by decide +kernel
theorem dL_law_535 : decode cL_law 535 = .ok (.aload_n 0, 1) := by decide +kernel
theorem dL_law_536 : decode cL_law 536 = .ok (.iload_n 3, 1) := by decide +kernel
theorem dL_law_537 : decode cL_law 537 = .ok (.iconst 2, 1) := by decide +kernel
theorem dL_law_538 : decode cL_law 538 = .ok (.iadd, 1) := by decide +kernel
theorem dL_law_539 : decode cL_law 539 = .ok (.iaload, 1) := by decide +kernel
theorem dL_law_540 : decode cL_law 540 = .ok (.aload_n 0, 1) := by decide +kernel
theorem dL_law_541 : decode cL_law 541 = .ok (.iload_n 3, 1) := by decide +kernel
theorem dL_law_542 : decode cL_law 542 = .ok (.iconst 3, 1) := by decide +kernel
theorem dL_law_543 : decode cL_law 543 = .ok (.iadd, 1) := by decide +kernel
theorem dL_law_544 : decode cL_law 544 = .ok (.iaload, 1) := by decide +kernel
theorem dL_law_545 : decode cL_law 545 = .ok (.i2l, 1) := by decide +kernel
theorem dL_law_546 : decode cL_law 546 = .ok (.bipush 32, 2) := by decide +kernel
theorem dL_law_548 : decode cL_law 548 = .ok (.lshl, 1) := by decide +kernel
theorem dL_law_549 : decode cL_law 549 = .ok (.aload_n 0, 1) := by decide +kernel
theorem dL_law_550 : decode cL_law 550 = .ok (.iload_n 3, 1) := by decide +kernel
theorem dL_law_551 : decode cL_law 551 = .ok (.iconst 4, 1) := by decide +kernel
theorem dL_law_552 : decode cL_law 552 = .ok (.iadd, 1) := by decide +kernel
theorem dL_law_553 : decode cL_law 553 = .ok (.iaload, 1) := by decide +kernel
theorem dL_law_554 : decode cL_law 554 = .ok (.i2l, 1) := by decide +kernel
theorem dL_law_555 : decode cL_law 555 = .ok (.ldc2_w 13, 3) := by decide +kernel
theorem dL_law_558 : decode cL_law 558 = .ok (.land, 1) := by decide +kernel
theorem dL_law_559 : decode cL_law 559 = .ok (.lor, 1) := by decide +kernel
theorem dL_law_560 : decode cL_law 560 = .ok (.invokevirtual 47, 3) := by decide +kernel
theorem dL_law_563 : decode cL_law 563 = .ok (.if_icmp .eq 256, 3) := by decide +kernel
theorem dL_law_566 : decode cL_law 566 = .ok (.iconst 0, 1) := by decide +kernel
theorem dL_law_567 : decode cL_law 567 = .ok (.ireturn, 1) := by decide +kernel
theorem dL_law_568 : decode cL_law 568 = .ok (.aload_n 1, 1) := by decide +kernel
theorem dL_law_569 : decode cL_law 569 = .ok (.aload_n 0, 1) := by decide +kernel
theorem dL_law_570 : decode cL_law 570 = .ok (.iload_n 3, 1) := by decide +kernel
theorem dL_law_571 : decode cL_law 571 = .ok (.iconst 1, 1) := by decide +kernel
theorem dL_law_572 : decode cL_law 572 = .ok (.iadd, 1) := by decide +kernel
theorem dL_law_573 : decode cL_law 573 = .ok (.iaload, 1) := by decide +kernel
theorem dL_law_574 : decode cL_law 574 = .ok (.aload_n 0, 1) := by decide +kernel
theorem dL_law_575 : decode cL_law 575 = .ok (.iload_n 3, 1) := by decide +kernel
theorem dL_law_576 : decode cL_law 576 = .ok (.iconst 2, 1) := by decide +kernel
theorem dL_law_577 : decode cL_law 577 = .ok (.iadd, 1) := by decide +kernel
theorem dL_law_578 : decode cL_law 578 = .ok (.iaload, 1) := by decide +kernel
theorem dL_law_579 : decode cL_law 579 = .ok (.invokevirtual 48, 3) := by decide +kernel
theorem dL_law_582 : decode cL_law 582 = .ok (.aload_n 2, 1) := by decide +kernel
theorem dL_law_583 : decode cL_law 583 = .ok (.aload_n 0, 1) := by decide +kernel
theorem dL_law_584 : decode cL_law 584 = .ok (.iload_n 3, 1) := by decide +kernel
theorem dL_law_585 : decode cL_law 585 = .ok (.iconst 1, 1) := by decide +kernel
theorem dL_law_586 : decode cL_law 586 = .ok (.iadd, 1) := by decide +kernel
theorem dL_law_587 : decode cL_law 587 = .ok (.iaload, 1) := by decide +kernel
theorem dL_law_588 : decode cL_law 588 = .ok (.aload_n 0, 1) := by decide +kernel
theorem dL_law_589 : decode cL_law 589 = .ok (.iload_n 3, 1) := by decide +kernel
theorem dL_law_590 : decode cL_law 590 = .ok (.iconst 2, 1) := by decide +kernel
theorem dL_law_591 : decode cL_law 591 = .ok (.iadd, 1) := by decide +kernel
theorem dL_law_592 : decode cL_law 592 = .ok (.iaload, 1) := by decide +kernel
theorem dL_law_593 : decode cL_law 593 = .ok (.invokevirtual 52, 3) := by decide +kernel
theorem dL_law_596 : decode cL_law 596 = .ok (.if_icmp .eq 223, 3) := by decide +kernel
theorem dL_law_599 : decode cL_law 599 = .ok (.iconst 0, 1) := by decide +kernel
theorem dL_law_600 : decode cL_law 600 = .ok (.ireturn, 1) := by decide +kernel
theorem dL_law_601 : decode cL_law 601 = .ok (.aload_n 1, 1) := by decide +kernel
theorem dL_law_602 : decode cL_law 602 = .ok (.aload_n 0, 1) := by decide +kernel
theorem dL_law_603 : decode cL_law 603 = .ok (.iload_n 3, 1) := by decide +kernel
theorem dL_law_604 : decode cL_law 604 = .ok (.iconst 1, 1) := by decide +kernel
theorem dL_law_605 : decode cL_law 605 = .ok (.iadd, 1) := by decide +kernel
theorem dL_law_606 : decode cL_law 606 = .ok (.iaload, 1) := by decide +kernel
theorem dL_law_607 : decode cL_law 607 = .ok (.aload_n 0, 1) := by decide +kernel
theorem dL_law_608 : decode cL_law 608 = .ok (.iload_n 3, 1) := by decide +kernel
theorem dL_law_609 : decode cL_law 609 = .ok (.iconst 2, 1) := by decide +kernel
theorem dL_law_610 : decode cL_law 610 = .ok (.iadd, 1) := by decide +kernel
theorem dL_law_611 : decode cL_law 611 = .ok (.iaload, 1) := by decide +kernel
theorem dL_law_612 : decode cL_law 612 = .ok (.i2l, 1) := by decide +kernel
theorem dL_law_613 : decode cL_law 613 = .ok (.bipush 32, 2) := by decide +kernel
theorem dL_law_615 : decode cL_law 615 = .ok (.lshl, 1) := by decide +kernel
theorem dL_law_616 : decode cL_law 616 = .ok (.aload_n 0, 1) := by decide +kernel
theorem dL_law_617 : decode cL_law 617 = .ok (.iload_n 3, 1) := by decide +kernel
theorem dL_law_618 : decode cL_law 618 = .ok (.iconst 3, 1) := by decide +kernel
theorem dL_law_619 : decode cL_law 619 = .ok (.iadd, 1) := by decide +kernel
theorem dL_law_620 : decode cL_law 620 = .ok (.iaload, 1) := by decide +kernel
theorem dL_law_621 : decode cL_law 621 = .ok (.i2l, 1) := by decide +kernel
theorem dL_law_622 : decode cL_law 622 = .ok (.ldc2_w 13, 3) := by decide +kernel
theorem dL_law_625 : decode cL_law 625 = .ok (.land, 1) := by decide +kernel
theorem dL_law_626 : decode cL_law 626 = .ok (.lor, 1) := by decide +kernel
theorem dL_law_627 : decode cL_law 627 = .ok (.aload_n 0, 1) := by decide +kernel
theorem dL_law_628 : decode cL_law 628 = .ok (.iload_n 3, 1) := by decide +kernel
theorem dL_law_629 : decode cL_law 629 = .ok (.iconst 4, 1) := by decide +kernel
theorem dL_law_630 : decode cL_law 630 = .ok (.iadd, 1) := by decide +kernel
theorem dL_law_631 : decode cL_law 631 = .ok (.iaload, 1) := by decide +kernel
theorem dL_law_632 : decode cL_law 632 = .ok (.invokevirtual 53, 3) := by decide +kernel
theorem dL_law_635 : decode cL_law 635 = .ok (.aload_n 2, 1) := by decide +kernel
theorem dL_law_636 : decode cL_law 636 = .ok (.aload_n 0, 1) := by decide +kernel
theorem dL_law_637 : decode cL_law 637 = .ok (.iload_n 3, 1) := by decide +kernel
theorem dL_law_638 : decode cL_law 638 = .ok (.iconst 1, 1) := by decide +kernel
theorem dL_law_639 : decode cL_law 639 = .ok (.iadd, 1) := by decide +kernel
theorem dL_law_640 : decode cL_law 640 = .ok (.iaload, 1) := by decide +kernel
theorem dL_law_641 : decode cL_law 641 = .ok (.aload_n 0, 1) := by decide +kernel
theorem dL_law_642 : decode cL_law 642 = .ok (.iload_n 3, 1) := by decide +kernel
theorem dL_law_643 : decode cL_law 643 = .ok (.iconst 2, 1) := by decide +kernel
theorem dL_law_644 : decode cL_law 644 = .ok (.iadd, 1) := by decide +kernel
theorem dL_law_645 : decode cL_law 645 = .ok (.iaload, 1) := by decide +kernel
theorem dL_law_646 : decode cL_law 646 = .ok (.i2l, 1) := by decide +kernel
theorem dL_law_647 : decode cL_law 647 = .ok (.bipush 32, 2) := by decide +kernel
theorem dL_law_649 : decode cL_law 649 = .ok (.lshl, 1) := by decide +kernel
theorem dL_law_650 : decode cL_law 650 = .ok (.aload_n 0, 1) := by decide +kernel
theorem dL_law_651 : decode cL_law 651 = .ok (.iload_n 3, 1) := by decide +kernel
theorem dL_law_652 : decode cL_law 652 = .ok (.iconst 3, 1) := by decide +kernel
theorem dL_law_653 : decode cL_law 653 = .ok (.iadd, 1) := by decide +kernel
theorem dL_law_654 : decode cL_law 654 = .ok (.iaload, 1) := by decide +kernel
theorem dL_law_655 : decode cL_law 655 = .ok (.i2l, 1) := by decide +kernel
theorem dL_law_656 : decode cL_law 656 = .ok (.ldc2_w 13, 3) := by decide +kernel
theorem dL_law_659 : decode cL_law 659 = .ok (.land, 1) := by decide +kernel
theorem dL_law_660 : decode cL_law 660 = .ok (.lor, 1) := by decide +kernel
theorem dL_law_661 : decode cL_law 661 = .ok (.aload_n 0, 1) := by decide +kernel
theorem dL_law_662 : decode cL_law 662 = .ok (.iload_n 3, 1) := by decide +kernel
theorem dL_law_663 : decode cL_law 663 = .ok (.iconst 4, 1) := by decide +kernel
theorem dL_law_664 : decode cL_law 664 = .ok (.iadd, 1) := by decide +kernel
theorem dL_law_665 : decode cL_law 665 = .ok (.iaload, 1) := by decide +kernel
theorem dL_law_666 : decode cL_law 666 = .ok (.invokevirtual 57, 3) := by decide +kernel
theorem dL_law_669 : decode cL_law 669 = .ok (.if_icmp .eq 150, 3) := by decide +kernel
theorem dL_law_672 : decode cL_law 672 = .ok (.iconst 0, 1) := by decide +kernel
theorem dL_law_673 : decode cL_law 673 = .ok (.ireturn, 1) := by decide +kernel
theorem dL_law_674 : decode cL_law 674 = .ok (.aload_n 1, 1) := by decide +kernel
theorem dL_law_675 : decode cL_law 675 = .ok (.aload_n 0, 1) := by decide +kernel
theorem dL_law_676 : decode cL_law 676 = .ok (.iload_n 3, 1) := by decide +kernel
theorem dL_law_677 : decode cL_law 677 = .ok (.iconst 1, 1) := by decide +kernel
theorem dL_law_678 : decode cL_law 678 = .ok (.iadd, 1) := by decide +kernel
theorem dL_law_679 : decode cL_law 679 = .ok (.iaload, 1) := by decide +kernel
theorem dL_law_680 : decode cL_law 680 = .ok (.aload_n 0, 1) := by decide +kernel
theorem dL_law_681 : decode cL_law 681 = .ok (.iload_n 3, 1) := by decide +kernel
theorem dL_law_682 : decode cL_law 682 = .ok (.iconst 2, 1) := by decide +kernel
theorem dL_law_683 : decode cL_law 683 = .ok (.iadd, 1) := by decide +kernel
theorem dL_law_684 : decode cL_law 684 = .ok (.iaload, 1) := by decide +kernel
theorem dL_law_685 : decode cL_law 685 = .ok (.invokevirtual 58, 3) := by decide +kernel
theorem dL_law_688 : decode cL_law 688 = .ok (.aload_n 2, 1) := by decide +kernel
theorem dL_law_689 : decode cL_law 689 = .ok (.aload_n 0, 1) := by decide +kernel
theorem dL_law_690 : decode cL_law 690 = .ok (.iload_n 3, 1) := by decide +kernel
theorem dL_law_691 : decode cL_law 691 = .ok (.iconst 1, 1) := by decide +kernel
theorem dL_law_692 : decode cL_law 692 = .ok (.iadd, 1) := by decide +kernel
theorem dL_law_693 : decode cL_law 693 = .ok (.iaload, 1) := by decide +kernel
theorem dL_law_694 : decode cL_law 694 = .ok (.aload_n 0, 1) := by decide +kernel
theorem dL_law_695 : decode cL_law 695 = .ok (.iload_n 3, 1) := by decide +kernel
theorem dL_law_696 : decode cL_law 696 = .ok (.iconst 2, 1) := by decide +kernel
theorem dL_law_697 : decode cL_law 697 = .ok (.iadd, 1) := by decide +kernel
theorem dL_law_698 : decode cL_law 698 = .ok (.iaload, 1) := by decide +kernel
theorem dL_law_699 : decode cL_law 699 = .ok (.invokevirtual 61, 3) := by decide +kernel
theorem dL_law_702 : decode cL_law 702 = .ok (.if_icmp .eq 117, 3) := by decide +kernel
theorem dL_law_705 : decode cL_law 705 = .ok (.iconst 0, 1) := by decide +kernel
theorem dL_law_706 : decode cL_law 706 = .ok (.ireturn, 1) := by decide +kernel
theorem dL_law_707 : decode cL_law 707 = .ok (.aload_n 1, 1) := by decide +kernel
theorem dL_law_708 : decode cL_law 708 = .ok (.aload_n 0, 1) := by decide +kernel
theorem dL_law_709 : decode cL_law 709 = .ok (.iload_n 3, 1) := by decide +kernel
theorem dL_law_710 : decode cL_law 710 = .ok (.iconst 1, 1) := by decide +kernel
theorem dL_law_711 : decode cL_law 711 = .ok (.iadd, 1) := by decide +kernel
theorem dL_law_712 : decode cL_law 712 = .ok (.iaload, 1) := by decide +kernel
theorem dL_law_713 : decode cL_law 713 = .ok (.invokevirtual 62, 3) := by decide +kernel
theorem dL_law_716 : decode cL_law 716 = .ok (.aload_n 2, 1) := by decide +kernel
theorem dL_law_717 : decode cL_law 717 = .ok (.aload_n 0, 1) := by decide +kernel
theorem dL_law_718 : decode cL_law 718 = .ok (.iload_n 3, 1) := by decide +kernel
theorem dL_law_719 : decode cL_law 719 = .ok (.iconst 1, 1) := by decide +kernel
theorem dL_law_720 : decode cL_law 720 = .ok (.iadd, 1) := by decide +kernel
theorem dL_law_721 : decode cL_law 721 = .ok (.iaload, 1) := by decide +kernel
theorem dL_law_722 : decode cL_law 722 = .ok (.invokevirtual 66, 3) := by decide +kernel
theorem dL_law_725 : decode cL_law 725 = .ok (.if_icmp .eq 94, 3) := by decide +kernel
theorem dL_law_728 : decode cL_law 728 = .ok (.iconst 0, 1) := by decide +kernel
theorem dL_law_729 : decode cL_law 729 = .ok (.ireturn, 1) := by decide +kernel
theorem dL_law_730 : decode cL_law 730 = .ok (.aload_n 1, 1) := by decide +kernel
theorem dL_law_731 : decode cL_law 731 = .ok (.aload_n 0, 1) := by decide +kernel
theorem dL_law_732 : decode cL_law 732 = .ok (.iload_n 3, 1) := by decide +kernel
theorem dL_law_733 : decode cL_law 733 = .ok (.iconst 1, 1) := by decide +kernel
theorem dL_law_734 : decode cL_law 734 = .ok (.iadd, 1) := by decide +kernel
theorem dL_law_735 : decode cL_law 735 = .ok (.iaload, 1) := by decide +kernel
theorem dL_law_736 : decode cL_law 736 = .ok (.aload_n 0, 1) := by decide +kernel
theorem dL_law_737 : decode cL_law 737 = .ok (.iload_n 3, 1) := by decide +kernel
theorem dL_law_738 : decode cL_law 738 = .ok (.iconst 2, 1) := by decide +kernel
theorem dL_law_739 : decode cL_law 739 = .ok (.iadd, 1) := by decide +kernel
theorem dL_law_740 : decode cL_law 740 = .ok (.iaload, 1) := by decide +kernel
theorem dL_law_741 : decode cL_law 741 = .ok (.invokevirtual 67, 3) := by decide +kernel
theorem dL_law_744 : decode cL_law 744 = .ok (.aload_n 2, 1) := by decide +kernel
theorem dL_law_745 : decode cL_law 745 = .ok (.aload_n 0, 1) := by decide +kernel
theorem dL_law_746 : decode cL_law 746 = .ok (.iload_n 3, 1) := by decide +kernel
theorem dL_law_747 : decode cL_law 747 = .ok (.iconst 1, 1) := by decide +kernel
theorem dL_law_748 : decode cL_law 748 = .ok (.iadd, 1) := by decide +kernel
theorem dL_law_749 : decode cL_law 749 = .ok (.iaload, 1) := by decide +kernel
theorem dL_law_750 : decode cL_law 750 = .ok (.aload_n 0, 1) := by decide +kernel
theorem dL_law_751 : decode cL_law 751 = .ok (.iload_n 3, 1) := by decide +kernel
theorem dL_law_752 : decode cL_law 752 = .ok (.iconst 2, 1) := by decide +kernel
theorem dL_law_753 : decode cL_law 753 = .ok (.iadd, 1) := by decide +kernel
theorem dL_law_754 : decode cL_law 754 = .ok (.iaload, 1) := by decide +kernel
theorem dL_law_755 : decode cL_law 755 = .ok (.invokevirtual 70, 3) := by decide +kernel
theorem dL_law_758 : decode cL_law 758 = .ok (.if_icmp .eq 61, 3) := by decide +kernel
theorem dL_law_761 : decode cL_law 761 = .ok (.iconst 0, 1) := by decide +kernel
theorem dL_law_762 : decode cL_law 762 = .ok (.ireturn, 1) := by decide +kernel
theorem dL_law_763 : decode cL_law 763 = .ok (.aload_n 1, 1) := by decide +kernel
theorem dL_law_764 : decode cL_law 764 = .ok (.aload_n 0, 1) := by decide +kernel
theorem dL_law_765 : decode cL_law 765 = .ok (.iload_n 3, 1) := by decide +kernel
theorem dL_law_766 : decode cL_law 766 = .ok (.iconst 1, 1) := by decide +kernel
theorem dL_law_767 : decode cL_law 767 = .ok (.iadd, 1) := by decide +kernel
theorem dL_law_768 : decode cL_law 768 = .ok (.iaload, 1) := by decide +kernel
theorem dL_law_769 : decode cL_law 769 = .ok (.invokevirtual 71, 3) := by decide +kernel
theorem dL_law_772 : decode cL_law 772 = .ok (.aload_n 2, 1) := by decide +kernel
theorem dL_law_773 : decode cL_law 773 = .ok (.aload_n 0, 1) := by decide +kernel
theorem dL_law_774 : decode cL_law 774 = .ok (.iload_n 3, 1) := by decide +kernel
theorem dL_law_775 : decode cL_law 775 = .ok (.iconst 1, 1) := by decide +kernel
theorem dL_law_776 : decode cL_law 776 = .ok (.iadd, 1) := by decide +kernel
theorem dL_law_777 : decode cL_law 777 = .ok (.iaload, 1) := by decide +kernel
theorem dL_law_778 : decode cL_law 778 = .ok (.invokevirtual 75, 3) := by decide +kernel
theorem dL_law_781 : decode cL_law 781 = .ok (.if_icmp .eq 38, 3) := by decide +kernel
theorem dL_law_784 : decode cL_law 784 = .ok (.iconst 0, 1) := by decide +kernel
theorem dL_law_785 : decode cL_law 785 = .ok (.ireturn, 1) := by decide +kernel
theorem dL_law_786 : decode cL_law 786 = .ok (.aload_n 1, 1) := by decide +kernel
theorem dL_law_787 : decode cL_law 787 = .ok (.aload_n 0, 1) := by decide +kernel
theorem dL_law_788 : decode cL_law 788 = .ok (.iload_n 3, 1) := by decide +kernel
theorem dL_law_789 : decode cL_law 789 = .ok (.iconst 1, 1) := by decide +kernel
theorem dL_law_790 : decode cL_law 790 = .ok (.iadd, 1) := by decide +kernel
theorem dL_law_791 : decode cL_law 791 = .ok (.iaload, 1) := by decide +kernel
theorem dL_law_792 : decode cL_law 792 = .ok (.aload_n 0, 1) := by decide +kernel
theorem dL_law_793 : decode cL_law 793 = .ok (.iload_n 3, 1) := by decide +kernel
theorem dL_law_794 : decode cL_law 794 = .ok (.iconst 2, 1) := by decide +kernel
theorem dL_law_795 : decode cL_law 795 = .ok (.iadd, 1) := by decide +kernel
theorem dL_law_796 : decode cL_law 796 = .ok (.iaload, 1) := by decide +kernel
theorem dL_law_797 : decode cL_law 797 = .ok (.invokevirtual 76, 3) := by decide +kernel
theorem dL_law_800 : decode cL_law 800 = .ok (.aload_n 2, 1) := by decide +kernel
theorem dL_law_801 : decode cL_law 801 = .ok (.aload_n 0, 1) := by decide +kernel
theorem dL_law_802 : decode cL_law 802 = .ok (.iload_n 3, 1) := by decide +kernel
theorem dL_law_803 : decode cL_law 803 = .ok (.iconst 1, 1) := by decide +kernel
theorem dL_law_804 : decode cL_law 804 = .ok (.iadd, 1) := by decide +kernel
theorem dL_law_805 : decode cL_law 805 = .ok (.iaload, 1) := by decide +kernel
theorem dL_law_806 : decode cL_law 806 = .ok (.aload_n 0, 1) := by decide +kernel
theorem dL_law_807 : decode cL_law 807 = .ok (.iload_n 3, 1) := by decide +kernel
theorem dL_law_808 : decode cL_law 808 = .ok (.iconst 2, 1) := by decide +kernel
theorem dL_law_809 : decode cL_law 809 = .ok (.iadd, 1) := by decide +kernel
theorem dL_law_810 : decode cL_law 810 = .ok (.iaload, 1) := by decide +kernel
theorem dL_law_811 : decode cL_law 811 = .ok (.invokevirtual 79, 3) := by decide +kernel
theorem dL_law_814 : decode cL_law 814 = .ok (.if_icmp .eq 5, 3) := by decide +kernel
theorem dL_law_817 : decode cL_law 817 = .ok (.iconst 0, 1) := by decide +kernel
theorem dL_law_818 : decode cL_law 818 = .ok (.ireturn, 1) := by decide +kernel
theorem dL_law_819 : decode cL_law 819 = .ok (.iinc 3 7, 3) := by decide +kernel
theorem dL_law_822 : decode cL_law 822 = .ok (.goto (-804), 3) := by decide +kernel
theorem dL_law_825 : decode cL_law 825 = .ok (.iconst 1, 1) := by decide +kernel
theorem dL_law_826 : decode cL_law 826 = .ok (.ireturn, 1) := by decide +kernel
abbrev vwCl : List vw_C := [(RX0, TX0, 2), (RX1, TX1, 5), (RX2, TX2, 8)]
end
section
/-! ===== Int64 as an unsigned number: uN x ===== -/
def uN (x : Int64) : Nat := x.toUInt64.toNat
theorem uN_lt (x : Int64) : uN x < 18446744073709551616 := x.toUInt64.toNat_lt
theorem uN_inj {x y : Int64} (h : uN x = uN y) : x = y := congrArg UInt64.toInt64 (UInt64.toNat_inj.mp h)
theorem uN_add (x y : Int64) : uN (x + y) = (uN x + uN y) % 18446744073709551616 := by
  show (x.toUInt64 + y.toUInt64).toNat = _
  exact UInt64.toNat_add _ _
theorem uN_mul (x y : Int64) : uN (x * y) = (uN x * uN y) % 18446744073709551616 := by
  show (x.toUInt64 * y.toUInt64).toNat = _
  exact UInt64.toNat_mul _ _
theorem uN_shl (x : Int64) : uN (x <<< ((1 : Int32).toInt64 &&& 63)) = (2 * uN x) % 18446744073709551616 := by
  have h : (((1 : Int32).toInt64 &&& 63).toBitVec.smod 64).toNat = 1 := by decide
  show (x.toBitVec <<< (((1 : Int32).toInt64 &&& 63).toBitVec.smod 64).toNat).toNat = _
  rw [h, BitVec.toNat_shiftLeft, Nat.shiftLeft_eq, Nat.mul_comm]
  rfl
theorem uN_shr (x : Int64) (s : UInt64) : uN (x.toUInt64 >>> s).toInt64 = uN x / 2 ^ (s.toNat % 64) := by
  show (x.toUInt64 >>> s).toNat = _
  rw [UInt64.toNat_shiftRight, Nat.shiftRight_eq_div_pow]
  rfl
theorem uN_s32 (x : Int64) : uN (x.toUInt64 >>> ((32 : Int32).toInt64.toUInt64 &&& Int64.toUInt64 63)).toInt64 = uN x / 4294967296 := by
  have h : ((32 : Int32).toInt64.toUInt64 &&& Int64.toUInt64 63).toNat % 64 = 32 := by decide
  rw [uN_shr, h]
theorem uN_s63 (x : Int64) : uN (x.toUInt64 >>> ((63 : Int32).toInt64.toUInt64 &&& Int64.toUInt64 63)).toInt64 = uN x / 9223372036854775808 := by
  have h : ((63 : Int32).toInt64.toUInt64 &&& Int64.toUInt64 63).toNat % 64 = 63 := by decide
  rw [uN_shr, h]
theorem uN_lo (x : Int64) : uN (x &&& 4294967295) = uN x % 4294967296 := by
  show (x.toUInt64 &&& Int64.toUInt64 4294967295).toNat = _
  rw [UInt64.toNat_and]
  exact Nat.and_two_pow_sub_one_eq_mod _ 32
theorem uN_bit (x : Int64) : (x &&& 1) = 0 ↔ uN x % 2 = 0 := by
  have h : uN (x &&& 1) = uN x % 2 := by
    show (x.toUInt64 &&& Int64.toUInt64 1).toNat = _
    rw [UInt64.toNat_and]
    exact Nat.and_two_pow_sub_one_eq_mod _ 1
  rw [← h]
  exact ⟨fun z => by rw [z]; rfl, fun z => uN_inj (z.trans rfl)⟩
theorem uN_or {x y : Int64} (hy : uN y < 2) : uN ((x <<< ((1 : Int32).toInt64 &&& 63)) ||| y) = (2 * uN x) % 18446744073709551616 + uN y := by
  have h1 : uN ((x <<< ((1 : Int32).toInt64 &&& 63)) ||| y) = uN (x <<< ((1 : Int32).toInt64 &&& 63)) ||| uN y := UInt64.toNat_or _ _
  have h2 : (2 * uN x) % 18446744073709551616 = 2 ^ 1 * (uN x % 9223372036854775808) := by omega
  rw [h1, uN_shl, h2]
  exact (Nat.two_pow_add_eq_or_of_lt (i := 1) hy _).symm
theorem nat_xor {a : Nat} (h : a < 18446744073709551616) : a ^^^ 2 ^ 63 = (a + 9223372036854775808) % 18446744073709551616 := by
  have h1 : (a ^^^ 2 ^ 63) % 2 ^ 63 = a % 2 ^ 63 := by rw [Nat.xor_mod_two_pow, Nat.mod_self, Nat.xor_zero]
  have h2 : (a ^^^ 2 ^ 63) / 2 ^ 63 = (a / 2 ^ 63) ^^^ 1 := by rw [Nat.xor_div_two_pow, Nat.div_self (Nat.two_pow_pos 63)]
  have h3 : a / 2 ^ 63 = 0 ∨ a / 2 ^ 63 = 1 := by omega
  generalize a ^^^ 2 ^ 63 = t at h1 h2
  rcases h3 with h3 | h3
  · rw [h3] at h2
    have h2 : t / 2 ^ 63 = 1 := h2
    omega
  · rw [h3] at h2
    have h2 : t / 2 ^ 63 = 0 := h2
    omega
theorem uN_xor (x : Int64) : uN (x ^^^ (-9223372036854775808)) = (uN x + 9223372036854775808) % 18446744073709551616 := by
  rw [← nat_xor (uN_lt x)]
  exact UInt64.toNat_xor _ _
theorem uN_int (x : Int64) : x.toInt = if 2 * uN x < 18446744073709551616 then (uN x : Int) else (uN x : Int) - 18446744073709551616 := BitVec.toInt_eq_toNat_cond _
theorem uN_le (x y : Int64) : (x ^^^ (-9223372036854775808)) ≤ (y ^^^ (-9223372036854775808)) ↔ uN x ≤ uN y := by
  have hx := uN_lt x
  have hy := uN_lt y
  rw [Int64.le_iff_toInt_le, uN_int, uN_int, uN_xor, uN_xor]
  omega
theorem uN_sk (x : Int64) {k : Nat} (hk : k < 64) : uN (x.toUInt64 >>> ((nI k).toInt64.toUInt64 &&& Int64.toUInt64 63)).toInt64 = uN x / 2 ^ k := by
  have h : ((nI k).toInt64.toUInt64 &&& Int64.toUInt64 63).toNat % 64 = k := by
    rw [nI_l (by omega), UInt64.toNat_and]
    have e : (lN k).toUInt64.toNat = k % 2 ^ 64 := rfl
    have e2 : (Int64.toUInt64 63).toNat = 2 ^ 6 - 1 := by decide
    rw [e, e2, Nat.and_two_pow_sub_one_eq_mod]
    omega
  rw [uN_shr, h]
/-! numbers: a word without a sign (uN), a number of 128 bits as an Int by its two words (zh, zl) -/
theorem un_c (x : Int64) : (uN x : Int) = x.toInt % 18446744073709551616 := by
  have h := uN_lt x
  rw [uN_int]; split <;> omega
theorem un_eq {x : Int64} {z : Int} (h : (uN x : Int) = z % 18446744073709551616) (h1 : -9223372036854775808 ≤ z) (h2 : z < 9223372036854775808) : x.toInt = z := by
  have h0 := uN_lt x
  rw [uN_int]; split <;> omega
theorem un_lo (x : Int64) : -9223372036854775808 ≤ x.toInt := by
  have h0 := uN_lt x
  rw [uN_int]; split <;> omega
theorem un_hi (x : Int64) : x.toInt < 9223372036854775808 := by
  have h0 := uN_lt x
  rw [uN_int]; split <;> omega
theorem un_0 : uN 0 = 0 := by decide
theorem un_1 : uN 1 = 1 := by decide
theorem un_add (x y : Int64) : (uN (x + y) : Int) = (x.toInt + y.toInt) % 18446744073709551616 := by
  have h := uN_add x y
  have h1 := un_c x
  have h2 := un_c y
  omega
theorem un_neg (x : Int64) : (uN (-x) : Int) = (-x.toInt) % 18446744073709551616 := by
  have h := uN_add (-x) x
  rw [Int64.add_left_neg, un_0] at h
  have h1 := uN_lt (-x)
  have h2 := uN_lt x
  have h3 := un_c x
  omega
theorem un_sub (x y : Int64) : (uN (x - y) : Int) = (x.toInt - y.toInt) % 18446744073709551616 := by
  rw [Int64.sub_eq_add_neg]
  have h := uN_add x (-y)
  have h1 := un_c x
  have h2 := un_neg y
  omega
theorem un_mul (x y : Int64) : (uN (x * y) : Int) = (x.toInt * y.toInt) % 18446744073709551616 := by
  have h := uN_mul x y
  have h1 := un_c x
  have h2 := un_c y
  rw [h, Int.natCast_emod, Int.natCast_mul, h1, h2]
  exact (Int.mul_emod _ _ _).symm
theorem un_not (x : Int64) : (uN (x ^^^ (-1)) : Int) = (-x.toInt - 1) % 18446744073709551616 := by
  have e : x ^^^ (-1) = ~~~x := by
    apply Int64.toBitVec_inj.mp
    show x.toBitVec ^^^ BitVec.allOnes 64 = ~~~x.toBitVec
    exact BitVec.xor_allOnes
  have h1 : uN (~~~x) = 18446744073709551615 - uN x := by
    show (~~~x.toBitVec).toNat = _
    rw [BitVec.toNat_not]
    rfl
  rw [e, h1]
  have h2 := uN_lt x
  have h3 := un_c x
  omega
theorem sr_k (a s : Int64) (k : Nat) (hs : (s.toBitVec.smod 64).toNat = k) : (a >>> s).toInt = a.toInt >>> k := by
  show (a.toBitVec.sshiftRight (s.toBitVec.smod 64).toNat).toInt = _
  rw [hs, BitVec.toInt_sshiftRight]
  rfl
theorem sr63 (x : Int64) : (x >>> ((63 : Int32).toInt64 &&& 63)).toInt = x.toInt / 9223372036854775808 := by
  rw [sr_k _ _ 63 (by decide), Int.shiftRight_eq_div_pow]
  rfl
theorem sr32 (x : Int64) : (x >>> ((32 : Int32).toInt64 &&& 63)).toInt = x.toInt / 4294967296 := by
  rw [sr_k _ _ 32 (by decide), Int.shiftRight_eq_div_pow]
  rfl
theorem lo32 (x : Int64) : (x &&& 4294967295).toInt = x.toInt % 4294967296 := by
  have h := uN_lo x
  have h1 := un_c x
  refine un_eq ?_ ?_ ?_ <;> omega
/-- the two words of a number -/
def zh (z : Int) : Int64 := Int64.ofInt (z / 18446744073709551616)
def zl (z : Int) : Int64 := Int64.ofInt z
/-- a number of 128 bits -/
def zR (z : Int) : Prop := -170141183460469231731687303715884105728 ≤ z ∧ z < 170141183460469231731687303715884105728
theorem zl_un (z : Int) : (uN (zl z) : Int) = z % 18446744073709551616 := by
  rw [un_c]
  show (Int64.ofInt z).toInt % _ = _
  rw [Int64.toInt_ofInt]
  exact Int.bmod_emod
theorem zh_int {z : Int} (h : zR z) : (zh z).toInt = z / 18446744073709551616 := by
  obtain ⟨h1, h2⟩ := h
  exact Int64.toInt_ofInt_of_le (by omega) (by omega)
theorem zz_of {h w : Int64} {z : Int} (e : h.toInt * 18446744073709551616 + (uN w : Int) = z) : h = zh z ∧ w = zl z := by
  have hw := uN_lt w
  constructor
  · show h = Int64.ofInt (z / 18446744073709551616)
    rw [show z / 18446744073709551616 = h.toInt by omega, Int64.ofInt_toInt]
  · apply uN_inj
    have := zl_un z
    omega
theorem zz_val {z : Int} (h : zR z) : (zh z).toInt * 18446744073709551616 + (uN (zl z) : Int) = z := by
  rw [zh_int h, zl_un]; omega
theorem w_long (v : Int64) : v >>> ((63 : Int32).toInt64 &&& 63) = zh v.toInt ∧ v = zl v.toInt := by
  refine zz_of ?_
  rw [sr63]
  have h1 := un_c v
  have h2 := un_lo v
  have h3 := un_hi v
  omega
theorem w_add {z y : Int} {h2 w2 c : Int64} (hz : zR z) (e2 : h2.toInt * 18446744073709551616 + (uN w2 : Int) = y) (hs : zR (z + y)) (hc : (uN (zl z + w2) < uN w2 ∧ c = 1) ∨ (¬ uN (zl z + w2) < uN w2 ∧ c = 0)) : zh z + h2 + c = zh (z + y) ∧ zl z + w2 = zl (z + y) := by
  obtain ⟨s1, s2⟩ := hs
  refine zz_of ?_
  have a1 := zh_int hz
  have a2 := zl_un z
  have a3 := uN_add (zl z) w2
  have a4 := uN_lt w2
  have a5 := uN_lt (zl z)
  have b1 := un_add (zh z) h2
  have b2 := un_c (zh z + h2)
  have b3 := un_add (zh z + h2) c
  rcases hc with ⟨k1, rfl⟩ | ⟨k1, rfl⟩
  · have c1 : (1 : Int64).toInt = 1 := by decide
    have b4 : (zh z + h2 + 1).toInt = z / 18446744073709551616 + h2.toInt + 1 := un_eq (by omega) (by omega) (by omega)
    omega
  · have c1 : (0 : Int64).toInt = 0 := by decide
    have b4 : (zh z + h2 + 0).toInt = z / 18446744073709551616 + h2.toInt := un_eq (by omega) (by omega) (by omega)
    omega
theorem w_neg0 {z : Int} (hz : zR z) (hs : zR (-z)) (h0 : -(zl z) = 0) : -(zh z) = zh (-z) ∧ -(zl z) = zl (-z) := by
  obtain ⟨s1, s2⟩ := hs
  refine zz_of ?_
  have a1 := zh_int hz
  have a2 := zl_un z
  have a3 := un_neg (zl z)
  have a6 := un_c (zl z)
  have a4 := un_neg (zh z)
  have a5 : uN (-(zl z)) = 0 := by rw [h0]; exact un_0
  have b4 : (-(zh z)).toInt = -(z / 18446744073709551616) := un_eq (by omega) (by omega) (by omega)
  omega
theorem w_neg1 {z : Int} (hz : zR z) (hs : zR (-z)) (h0 : ¬ -(zl z) = 0) : zh z ^^^ (-1) = zh (-z) ∧ -(zl z) = zl (-z) := by
  obtain ⟨s1, s2⟩ := hs
  refine zz_of ?_
  have a1 := zh_int hz
  have a2 := zl_un z
  have a3 := un_neg (zl z)
  have a6 := un_c (zl z)
  have a4 := un_not (zh z)
  have a5 : ¬ uN (-(zl z)) = 0 := fun q => h0 (uN_inj (q.trans un_0.symm))
  have b4 : (zh z ^^^ (-1)).toInt = -(z / 18446744073709551616) - 1 := un_eq (by omega) (by omega) (by omega)
  omega
theorem mul_rng {p t a b c : Int} (h1 : -a ≤ p) (h2 : p ≤ b) (h3 : 0 ≤ t) (h4 : t ≤ c) (ha : 0 ≤ a) (hb : 0 ≤ b) : -(a * c) ≤ p * t ∧ p * t ≤ b * c := by
  have e1 : -a * t ≤ p * t := Int.mul_le_mul_of_nonneg_right h1 h3
  have e2 : p * t ≤ b * t := Int.mul_le_mul_of_nonneg_right h2 h3
  have e3 : a * t ≤ a * c := Int.mul_le_mul_of_nonneg_left h4 ha
  have e4 : b * t ≤ b * c := Int.mul_le_mul_of_nonneg_left h4 hb
  rw [Int.neg_mul] at e1
  omega
theorem ti_add {x y : Int64} (h1 : -9223372036854775808 ≤ x.toInt + y.toInt) (h2 : x.toInt + y.toInt < 9223372036854775808) : (x + y).toInt = x.toInt + y.toInt := un_eq (un_add x y) h1 h2
theorem ti_mul {x y : Int64} (h1 : -9223372036854775808 ≤ x.toInt * y.toInt) (h2 : x.toInt * y.toInt < 9223372036854775808) : (x * y).toInt = x.toInt * y.toInt := un_eq (un_mul x y) h1 h2
theorem ring_id (x y z w A : Int) : (x * A + y) * (z * A + w) = x * z * (A * A) + (x * w + y * z) * A + y * w := by
  have h1 : x * A * (z * A) = x * z * (A * A) := by rw [Int.mul_assoc, Int.mul_left_comm A z A, ← Int.mul_assoc]
  have h2 : x * A * w = x * w * A := by rw [Int.mul_assoc, Int.mul_comm A w, ← Int.mul_assoc]
  have h3 : y * (z * A) = y * z * A := (Int.mul_assoc y z A).symm
  rw [Int.add_mul, Int.mul_add, Int.mul_add, Int.add_mul, h1, h2, h3]
  omega
theorem mul_c1 {Y V : Int} (y1 : -9223372034707292160 ≤ Y) (y2 : Y ≤ 9223372030412324865) (v1 : 0 ≤ V) (v2 : V ≤ 18446744065119617025) : -9223372036854775808 ≤ Y + V / 4294967296 ∧ Y + V / 4294967296 < 9223372036854775808 := by omega
theorem mul_c2 {Z k : Int} (y1 : -9223372034707292160 ≤ Z) (y2 : Z ≤ 9223372030412324865) (v1 : 0 ≤ k) (v2 : k < 4294967296) : -9223372036854775808 ≤ Z + k ∧ Z + k < 9223372036854775808 := by omega
theorem mul_c3 {X m c : Int} (x1 : -4611686018427387904 ≤ X) (x2 : X ≤ 4611686018427387904) (m1 : -9223372036854775808 ≤ m) (m2 : m < 9223372036854775808) (c1 : -9223372036854775808 ≤ c) (c2 : c < 9223372036854775808) : -9223372036854775808 ≤ X + m / 4294967296 ∧ X + m / 4294967296 < 9223372036854775808 ∧ -9223372036854775808 ≤ X + m / 4294967296 + c / 4294967296 ∧ X + m / 4294967296 + c / 4294967296 < 9223372036854775808 := by omega
theorem mul_c4 {X Y Z V P m c : Int} (hm : m = Y + V / 4294967296) (hc : c = Z + m % 4294967296) (hP : P = X * 18446744073709551616 + (Y + Z) * 4294967296 + V) : (X + m / 4294967296 + c / 4294967296) * 18446744073709551616 + P % 18446744073709551616 = P := by omega
theorem mul_sp (x : Int) (h1 : -9223372036854775808 ≤ x) (h2 : x < 9223372036854775808) : x = x / 4294967296 * 4294967296 + x % 4294967296 ∧ -2147483648 ≤ x / 4294967296 ∧ x / 4294967296 ≤ 2147483647 ∧ 0 ≤ x % 4294967296 ∧ x % 4294967296 ≤ 4294967295 := by omega
theorem mul_xz {x z : Int} (xl : -2147483648 ≤ x) (xh : x ≤ 2147483647) (zl1 : -2147483648 ≤ z) (zh1 : z ≤ 2147483647) : -4611686018427387904 ≤ x * z ∧ x * z ≤ 4611686018427387904 := by
  by_cases q : 0 ≤ z
  · have := mul_rng xl xh q zh1 (by decide) (by decide)
    omega
  · have := mul_rng xl xh (t := -z) (c := 2147483648) (by omega) (by omega) (by decide) (by decide)
    rw [Int.mul_neg] at this
    omega
theorem mul_xw {x w : Int} (xl : -2147483648 ≤ x) (xh : x ≤ 2147483647) (wl : 0 ≤ w) (wh : w ≤ 4294967295) : -9223372034707292160 ≤ x * w ∧ x * w ≤ 9223372030412324865 := by
  have := mul_rng xl xh wl wh (by decide) (by decide)
  omega
theorem mul_yw {y w : Int} (yl : 0 ≤ y) (yh : y ≤ 4294967295) (wl : 0 ≤ w) (wh : w ≤ 4294967295) : 0 ≤ y * w ∧ y * w ≤ 18446744065119617025 := by
  have := mul_rng (a := 0) (by omega) yh wl wh (by decide) (by decide)
  omega
theorem ush_ti {x : Int64} {V : Int} (h : (uN x : Int) = V) : ((x.toUInt64 >>> ((32 : Int32).toInt64.toUInt64 &&& Int64.toUInt64 63)).toInt64).toInt = V / 4294967296 := by
  have h1 := uN_s32 x
  have h2 := uN_lt x
  exact un_eq (by omega) (by omega) (by omega)
theorem un_mulp {x y : Int64} {V : Int} (h : x.toInt * y.toInt = V) (v1 : 0 ≤ V) (v2 : V ≤ 18446744065119617025) : (uN (x * y) : Int) = V := by
  have h1 := un_mul x y
  rw [h] at h1
  omega
theorem w_mul (a b : Int64) {x y z w mi cr : Int64} (hx : x = a >>> ((32 : Int32).toInt64 &&& 63)) (hy : y = a &&& 4294967295) (hz : z = b >>> ((32 : Int32).toInt64 &&& 63)) (hw : w = b &&& 4294967295)
    (hm : mi = x * w + ((y * w).toUInt64 >>> ((32 : Int32).toInt64.toUInt64 &&& Int64.toUInt64 63)).toInt64) (hc : cr = y * z + (mi &&& 4294967295)) :
    x * z + (mi >>> ((32 : Int32).toInt64 &&& 63)) + (cr >>> ((32 : Int32).toInt64 &&& 63)) = zh (a.toInt * b.toInt) ∧ a * b = zl (a.toInt * b.toInt) := by
  have x1 : x.toInt = a.toInt / 4294967296 := by rw [hx, sr32]
  have y1 : y.toInt = a.toInt % 4294967296 := by rw [hy, lo32]
  have z1 : z.toInt = b.toInt / 4294967296 := by rw [hz, sr32]
  have w1 : w.toInt = b.toInt % 4294967296 := by rw [hw, lo32]
  obtain ⟨ea, a1, a2, a3, a4⟩ := mul_sp a.toInt (un_lo a) (un_hi a)
  obtain ⟨eb, b1, b2, b3, b4⟩ := mul_sp b.toInt (un_lo b) (un_hi b)
  rw [← x1] at a1 a2
  rw [← y1] at a3 a4
  rw [← z1] at b1 b2
  rw [← w1] at b3 b4
  rw [← x1, ← y1] at ea
  rw [← z1, ← w1] at eb
  have rXZ := mul_xz a1 a2 b1 b2
  have rXW := mul_xw a1 a2 b3 b4
  have rZY := mul_xw b1 b2 a3 a4
  rw [Int.mul_comm z.toInt y.toInt] at rZY
  have rYW := mul_yw a3 a4 b3 b4
  have pe : a.toInt * b.toInt = x.toInt * z.toInt * 18446744073709551616 + (x.toInt * w.toInt + y.toInt * z.toInt) * 4294967296 + y.toInt * w.toInt := by
    rw [ea, eb, ring_id]
    rfl
  have tV := ush_ti (un_mulp (x := y) (y := w) rfl rYW.1 rYW.2)
  have tXW : (x * w).toInt = x.toInt * w.toInt := ti_mul (by clear pe tV ea eb; omega) (by clear pe tV ea eb; omega)
  have tYZ : (y * z).toInt = y.toInt * z.toInt := ti_mul (by clear pe tV ea eb; omega) (by clear pe tV ea eb; omega)
  have tXZ : (x * z).toInt = x.toInt * z.toInt := ti_mul (by clear pe tV ea eb; omega) (by clear pe tV ea eb; omega)
  have c1 := mul_c1 rXW.1 rXW.2 rYW.1 rYW.2
  have mt : mi.toInt = x.toInt * w.toInt + y.toInt * w.toInt / 4294967296 := by
    rw [hm, ti_add (by rw [tXW, tV]; exact c1.1) (by rw [tXW, tV]; exact c1.2), tXW, tV]
  have kl := lo32 mi
  have k0 : 0 ≤ (mi &&& 4294967295).toInt ∧ (mi &&& 4294967295).toInt < 4294967296 := by rw [kl]; exact ⟨Int.emod_nonneg _ (by decide), Int.emod_lt_of_pos _ (by decide)⟩
  have c2 := mul_c2 rZY.1 rZY.2 k0.1 k0.2
  have ct : cr.toInt = y.toInt * z.toInt + mi.toInt % 4294967296 := by
    rw [hc, ti_add (by rw [tYZ]; exact c2.1) (by rw [tYZ]; exact c2.2), tYZ, kl]
  have c3 := mul_c3 rXZ.1 rXZ.2 (un_lo mi) (un_hi mi) (un_lo cr) (un_hi cr)
  have s1 : (x * z + (mi >>> ((32 : Int32).toInt64 &&& 63))).toInt = x.toInt * z.toInt + mi.toInt / 4294967296 := by
    rw [ti_add (by rw [tXZ, sr32]; exact c3.1) (by rw [tXZ, sr32]; exact c3.2.1), tXZ, sr32]
  have s2 : (x * z + (mi >>> ((32 : Int32).toInt64 &&& 63)) + (cr >>> ((32 : Int32).toInt64 &&& 63))).toInt = x.toInt * z.toInt + mi.toInt / 4294967296 + cr.toInt / 4294967296 := by
    rw [ti_add (by rw [s1, sr32]; exact c3.2.2.1) (by rw [s1, sr32]; exact c3.2.2.2), s1, sr32]
  refine zz_of ?_
  rw [s2, un_mul]
  exact mul_c4 mt ct pe
/-- unsigned order, by the sign bit turned -/
theorem un_less (x y : Int64) : (x ^^^ (-9223372036854775808)) < (y ^^^ (-9223372036854775808)) ↔ uN x < uN y := by
  have hx := uN_lt x
  have hy := uN_lt y
  rw [Int64.lt_iff_toInt_lt, uN_int, uN_int, uN_xor, uN_xor]
  omega
theorem w_isneg {z : Int} (hz : zR z) : (0 ≤ zh z) ↔ ¬ z < 0 := by
  rw [Int64.le_iff_toInt_le, zh_int hz]
  have : (0 : Int64).toInt = 0 := by decide
  omega
theorem w_fits {z : Int} (hz : zR z) : (zh z = zl z >>> ((63 : Int32).toInt64 &&& 63)) ↔ (-9223372036854775808 ≤ z ∧ z < 9223372036854775808) := by
  obtain ⟨h1, h2⟩ := id hz
  rw [← Int64.toInt_inj, zh_int hz, sr63]
  have a := zl_un z
  have b := un_c (zl z)
  have c := un_lo (zl z)
  have d := un_hi (zl z)
  constructor
  · intro h; omega
  · intro h; omega
theorem w_low {z : Int} (h1 : -9223372036854775808 ≤ z) (h2 : z < 9223372036854775808) : (zl z).toInt = z := un_eq (zl_un z) h1 h2
theorem w_lt {z y : Int} (hz : zR z) (hy : zR y) : (zh z < zh y) ↔ z / 18446744073709551616 < y / 18446744073709551616 := by
  rw [Int64.lt_iff_toInt_lt, zh_int hz, zh_int hy]
theorem w_he {z y : Int} (hz : zR z) (hy : zR y) : (zh z = zh y) ↔ z / 18446744073709551616 = y / 18446744073709551616 := by
  rw [← Int64.toInt_inj, zh_int hz, zh_int hy]
theorem w_le (z y : Int) : (zl z = zl y) ↔ z % 18446744073709551616 = y % 18446744073709551616 := by
  have a := zl_un z
  have b := zl_un y
  constructor
  · intro h; rw [h] at a; omega
  · intro h; exact uN_inj (by omega)
theorem w_ll (z y : Int) : (uN (zl z) < uN (zl y)) ↔ z % 18446744073709551616 < y % 18446744073709551616 := by
  have a := zl_un z
  have b := zl_un y
  omega
/-! long division, bit by bit -/
def dvI (D N i V R : Nat) : Prop := ∃ T Q, V = T * 2 ^ i + Q ∧ T < 2 ^ (128 - i) ∧ Q < 2 ^ i ∧ N = (Q * D + R) * 2 ^ (128 - i) + T ∧ R < D
theorem dv_0 {D N : Nat} (hD : 0 < D) (hN : N < 2 ^ 128) : dvI D N 0 N 0 := ⟨N, 0, by omega, hN, by decide, by omega, hD⟩
theorem dv_end {D N V R : Nat} (h : dvI D N 128 V R) : V = N / D ∧ R = N % D := by
  obtain ⟨T, Q, h1, h2, h3, h4, h5⟩ := h
  have e : 2 ^ (128 - 128) = 1 := rfl
  rw [e] at h2 h4
  have t0 : T = 0 := by omega
  subst t0
  have e1 : V = Q := by omega
  have e2 : N = R + D * V := by rw [e1, Nat.mul_comm D Q]; omega
  rw [e2]
  constructor
  · rw [Nat.add_mul_div_left _ _ (by omega), Nat.div_eq_of_lt h5]; omega
  · rw [Nat.add_mul_mod_self_left, Nat.mod_eq_of_lt h5]
theorem nm2 (Q D R E T b : Nat) : (Q * D + R) * (2 * E) + (b * E + T) = (2 * Q * D + (2 * R + b)) * E + T := by
  have h1 : (Q * D + R) * (2 * E) = 2 * (Q * D * E) + 2 * (R * E) := by rw [Nat.add_mul, Nat.mul_left_comm, Nat.mul_left_comm R 2 E]
  have h2 : (2 * Q * D + (2 * R + b)) * E = 2 * (Q * D * E) + (2 * (R * E) + b * E) := by rw [Nat.add_mul, Nat.add_mul, Nat.mul_assoc 2 Q D, Nat.mul_assoc 2 (Q * D) E, Nat.mul_assoc 2 R E]
  omega
theorem nm3 {Q D R b : Nat} (h : D ≤ 2 * R + b) : (2 * Q + 1) * D + (2 * R + b - D) = 2 * Q * D + (2 * R + b) := by
  rw [Nat.add_mul, Nat.one_mul]
  omega
theorem dv_go {D N E F T' Q R V b : Nat} (hN : N = (Q * D + R) * (2 * E) + (b * E + T')) (hV : V = 2 * (T' * F) + 2 * Q) (hT : T' < E) (hQ : Q < F) (hR : R < D) (hb : b ≤ 1) :
    (2 * R + b < D → ∃ T Q1, V = T * (2 * F) + Q1 ∧ T < E ∧ Q1 < 2 * F ∧ N = (Q1 * D + (2 * R + b)) * E + T ∧ 2 * R + b < D) ∧ (D ≤ 2 * R + b → ∃ T Q1, V + 1 = T * (2 * F) + Q1 ∧ T < E ∧ Q1 < 2 * F ∧ N = (Q1 * D + (2 * R + b - D)) * E + T ∧ 2 * R + b - D < D) := by
  refine ⟨fun hd => ⟨T', 2 * Q, ?_, hT, by omega, ?_, hd⟩, fun hd => ⟨T', 2 * Q + 1, ?_, hT, by omega, ?_, by omega⟩⟩
  · rw [hV, Nat.mul_left_comm T' 2 F]
  · rw [hN, nm2]
  · rw [hV, Nat.mul_left_comm T' 2 F]; omega
  · rw [hN, nm2, nm3 hd]
theorem dv_step {D N i V R : Nat} (hi : i < 128) (h : dvI D N i V R) :
    (2 * R + V / 2 ^ 127 < D → dvI D N (i + 1) (2 * V % 2 ^ 128) (2 * R + V / 2 ^ 127)) ∧ (D ≤ 2 * R + V / 2 ^ 127 → dvI D N (i + 1) (2 * V % 2 ^ 128 + 1) (2 * R + V / 2 ^ 127 - D)) := by
  obtain ⟨T, Q, h1, h2, h3, h4, h5⟩ := h
  have e1 : 2 ^ (128 - i) = 2 * 2 ^ (127 - i) := by rw [show 128 - i = (127 - i) + 1 by omega, Nat.pow_succ, Nat.mul_comm]
  have e2 : 2 ^ (i + 1) = 2 * 2 ^ i := by rw [Nat.pow_succ, Nat.mul_comm]
  have e3 : 128 - (i + 1) = 127 - i := by omega
  have e4 : 2 ^ (127 - i) * 2 ^ i = 170141183460469231731687303715884105728 := by rw [← Nat.pow_add, show 127 - i + i = 127 by omega]
  have e5 : (2 : Nat) ^ 128 = 340282366920938463463374607431768211456 := by decide
  have e6 : (2 : Nat) ^ 127 = 170141183460469231731687303715884105728 := by decide
  rw [e1] at h2 h4
  unfold dvI
  rw [e2, e3, e5, e6]
  clear e1 e2 e3 e5 e6
  generalize 2 ^ (127 - i) = E at *
  generalize 2 ^ i = F at *
  by_cases hT : T < E
  · have k1 : T * F + F ≤ E * F := by
      have := Nat.mul_le_mul_right F (show T + 1 ≤ E by omega)
      rw [Nat.add_mul, Nat.one_mul] at this
      exact this
    have k2 : V / 170141183460469231731687303715884105728 = 0 := by omega
    have k3 : 2 * V % 340282366920938463463374607431768211456 = 2 * (T * F) + 2 * Q := by omega
    rw [k2, k3]
    exact dv_go (by rw [h4]; omega) rfl hT h3 h5 (by omega)
  · obtain ⟨T', rfl⟩ : ∃ T', T = E + T' := ⟨T - E, by omega⟩
    have k1 : T' * F + F ≤ E * F := by
      have := Nat.mul_le_mul_right F (show T' + 1 ≤ E by omega)
      rw [Nat.add_mul, Nat.one_mul] at this
      exact this
    rw [Nat.add_mul] at h1
    have k2 : V / 170141183460469231731687303715884105728 = 1 := by omega
    have k3 : 2 * V % 340282366920938463463374607431768211456 = 2 * (T' * F) + 2 * Q := by omega
    rw [k2, k3]
    exact dv_go (by rw [h4, Nat.one_mul]) rfl (by omega) h3 h5 (by omega)
/-- one step of the loop over the machine's words -/
theorem dv_words {hi lo r : Int64} {D : Nat} (hr : uN r < D) (hD : D ≤ 9223372036854775808) :
    uN ((r <<< ((1 : Int32).toInt64 &&& 63)) ||| (hi.toUInt64 >>> ((63 : Int32).toInt64.toUInt64 &&& Int64.toUInt64 63)).toInt64) = 2 * uN r + (uN hi * 18446744073709551616 + uN lo) / 2 ^ 127 ∧
    uN ((hi <<< ((1 : Int32).toInt64 &&& 63)) ||| (lo.toUInt64 >>> ((63 : Int32).toInt64.toUInt64 &&& Int64.toUInt64 63)).toInt64) * 18446744073709551616 + uN (lo <<< ((1 : Int32).toInt64 &&& 63)) = 2 * (uN hi * 18446744073709551616 + uN lo) % 2 ^ 128 := by
  have a := uN_lt hi
  have b := uN_lt lo
  have e5 : (2 : Nat) ^ 128 = 340282366920938463463374607431768211456 := by decide
  have e6 : (2 : Nat) ^ 127 = 170141183460469231731687303715884105728 := by decide
  rw [uN_or (by rw [uN_s63]; omega), uN_or (by rw [uN_s63]; omega), uN_s63, uN_s63, uN_shl, e5, e6]
  constructor <;> omega
theorem dv_or (x : Int64) : uN ((x <<< ((1 : Int32).toInt64 &&& 63)) ||| 1) = uN (x <<< ((1 : Int32).toInt64 &&& 63)) + 1 := by
  rw [uN_or (by rw [un_1]; omega), uN_shl, un_1]
theorem w_lv (v : Int64) : (v >>> ((63 : Int32).toInt64 &&& 63)).toInt * 18446744073709551616 + (uN v : Int) = v.toInt := by
  rw [sr63]
  have h1 := un_c v
  have h2 := un_lo v
  have h3 := un_hi v
  omega
theorem w_hle {z y : Int} (hz : zR z) (hy : zR y) : (zh z ≤ zh y) ↔ z / 18446744073709551616 ≤ y / 18446744073709551616 := by
  rw [Int64.le_iff_toInt_le, zh_int hz, zh_int hy]
/-- the words at the start and the end of the division -/
theorem dv_in {z : Int} (h0 : 0 ≤ z) (hz : zR z) : uN (zh z) * 18446744073709551616 + uN (zl z) = z.toNat := by
  have a := zz_val hz
  have b := zh_int hz
  have c := un_c (zh z)
  obtain ⟨h1, h2⟩ := hz
  omega
theorem dv_out {hi lo : Int64} {q : Nat} (h : uN hi * 18446744073709551616 + uN lo = q) (hq : q < 170141183460469231731687303715884105728) : hi = zh (q : Int) ∧ lo = zl (q : Int) := by
  refine zz_of ?_
  have a := uN_lt lo
  have b : hi.toInt = (uN hi : Int) := un_eq (by omega) (by omega) (by omega)
  omega
end
section
abbrev ciW : Nat := 0
abbrev ciE : Nat := 1
abbrev ciM : Nat := 2
abbrev RWide : String := RX0
/-! contracts over a whole world: ws is any list of cells; what a method needs of it is said by index -/
abbrev xT : Type := List (ClassId × FieldType)
def xb_P (D : va_G) (tys : xT) (ws : va_W) (sz : Nat) (U : State) : Prop := U.heap.size = sz ∧ va_P D vwCl ws U.heap ∧ va_K D vwCl tys U ∧ va_D (fun _ => True) ws
def xb_B (D : va_G) (tys : xT) (A : Nat → Prop) (ws : va_W) (t : State) : Prop := va_P D vwCl ws t.heap ∧ va_K D vwCl tys t ∧ va_D A ws
abbrev xQ : Type := (Nat → Prop) → Array Value → State → Outcome → State → Prop
def xQi (D : va_G) (tys : xT) (post : Int32 → va_W → Prop) : xQ := fun A => va_Qi post (xb_B D tys A) A
def xQl (D : va_G) (tys : xT) (post : Int64 → va_W → Prop) : xQ := fun A => va_Ql post (xb_B D tys A) A
def xQv (D : va_G) (tys : xT) (post : va_W → Prop) : xQ := fun A => va_Qv post (xb_B D tys A) A
/-- a method's contract over the world ws -/
def xM (l : Launch) (y : MethodName) (wsy : List Cond) (rm : Room) (D : va_G) (tys : xT) (ws : va_W) (sz : Nat) (avs : List Value) (QQ : xQ) (mc ms : Nat) : Prop :=
  Met l y wsy rm (va_Pc avs (xb_P D tys ws sz)) (QQ (va_A ws sz)) mc ms (va_A ws sz)
theorem xb_blind {D : va_G} {tys : xT} {ws : va_W} {sz : Nat} {av : List Value} : FrameBlind (va_Pc av (xb_P D tys ws sz)) := fun a U g mk q => by
  obtain ⟨q0, q1, qP, qK, qD⟩ := q
  exact ⟨q0, q1, qP, va_K.moved (u := U) (U := U.calling g mk a) (Vm.Alike.refl U.vm) qK, qD⟩
theorem xb_fr {A : Nat → Prop} {ws : va_W} {H0 H : Heap} {locs : List Loc} (hD : va_D A ws) (hS : va_S A H0 H locs) (hA : ∀ q : Nat, H0.size ≤ q → A q) : ∀ q, va_A ws H.size q → A q := fun q h => by
  rcases h with ⟨k, e, h⟩ | h
  · exact hD.2 k (q, e) h
  · exact hA q (Nat.le_trans hS.1 h)
section XB
variable {p : Program} {l : Launch} {e : Env} {R : Room} {s : State} {m : MethodId} {args : Array Value} {below : List Frame} {meth : Method} {c : Code} {H : Heap} {locs : List Loc} {cells slots : Nat} {Q : State → Prop}
variable {D : va_G} {tys : xT} {ws : va_W} {A : Nat → Prop} {y : MethodName} {wsy : List Cond} {rm : Room} {mc ms : Nat} {avs : List Value}
/-- the entry of a method -/
theorem xb_m {sz : Nat} {QQ : xQ} {cc : ByteArray} {maxL : Nat} {ret : Option FieldType} {ws' : List Cond} (hy : plainName y.cls = true) (hw : wsy = Cond.code y cc maxL ret :: ws') (hn : (lg_sl avs).length ≤ maxL)
    (body : ∀ (p : Program) (e : Env) (s : State) (m : MethodId) (below : List Frame) (meth : Method) (c : Code) (A : Nat → Prop) (ls : Array Slot), p.tables.exec = Jvm.exec → c.code = cc → meth.sig.returnType = ret → c.maxLocals = maxL → s.vm.findClass y.cls = some m.cls → (∀ w ∈ wsy, w.before avs.toArray s = true) → meth.locks = false → meth.name = y.name → (∀ q : Nat, s.heap.size ≤ q → A q) → va_P D vwCl ws s.heap → va_K D vwCl tys s → va_D A ws → va_S A s.heap s.heap [] → lv_has ls maxL (lv_args 0 avs) →
      W p l e rm s m avs.toArray below meth c s.heap [] 0 0 (MQ below (QQ A) avs.toArray s mc ms A) (F0 m 0 ls [])) : xM l y wsy rm D tys ws sz avs QQ mc ms := by
  refine Met.ofW (cc := cc) (maxL := maxL) (ret := ret) hy hw ?_
  intro p e s m args below meth c s₁ B hml hv
  obtain ⟨rfl, hsz, hP, hK, hD0⟩ := hv
  subst hsz
  have hl := lv_entry avs (n := maxL) hn
  rw [lg_entry_eq]
  exact body p e s m below meth c _ _ B.exec B.bytes B.returns hml (findClass_of_methodNamed B.named) (atoms_spec (ws := wsy) B.pre) B.notSynchronized (name_of_methodNamed B.named B.method).1 (fun q h => Or.inr h) hP hK hD0.self va_S.rf hl
theorem xb_pv {C : String} {b ci k : Nat} {q : vw_C} {fs : List Value} {As : List Value} (hP : va_P D vwCl ws H) (hK : va_K D vwCl tys s) (hD : va_D A ws) (hc : vwCl[ci]? = some q) (hC : q.1 = C) (he : ws[k]? = some (b, .inr (ci, fs))) : PreV s H C b (va_Pc (.ref b :: As) (xb_P D tys ws H.size)) As := by
  subst hC
  exact ⟨xb_blind, va_recv hK hP hc he, fun U hU hW => ⟨rfl, by rw [hU], by rw [hU]; exact hP, va_K.moved hW.alike hK, hD.weaken (fun _ _ _ _ => trivial)⟩⟩
theorem xb_ps {av As : List Value} (ha : av = As) (hP : va_P D vwCl ws H) (hK : va_K D vwCl tys s) (hD : va_D A ws) : PreS s H (va_Pc av (xb_P D tys ws H.size)) As := by
  subst ha
  exact ⟨xb_blind, fun U hU hW => ⟨rfl, by rw [hU], by rw [hU]; exact hP, va_K.moved hW.alike hK, hD.weaken (fun _ _ _ _ => trivial)⟩⟩
variable {pc : Nat} {ls : Array Slot} {rest st0 : List Value} {a : Array Value} {H0 : Heap} {free : Addr → Prop}
theorem xb_ri {post : Int32 → va_W → Prop} (hr : va_Run p l e R s m args below meth c H locs cells slots mc ms (F0 m pc ls st0) rest (xQi D tys post (va_A ws H.size) a) (va_A ws H.size)) (hD : va_D A ws) (hS : va_S A H0 H locs) (hA : ∀ q : Nat, H0.size ≤ q → A q)
    (kk : ∀ (r : Int32) (ws1 : va_W) (H1 : Heap) (locs1 : List Loc), post r ws1 → va_P D vwCl ws1 H1 → va_D A ws1 → va_S A H0 H1 locs1 → W p l e R s m args below meth c H1 locs1 (cells + mc) (slots + ms) Q (F0 m (pc + 3) ls (.int r :: rest))) : W p l e R s m args below meth c H locs cells slots Q (F0 m pc ls st0) := by
  have hF := xb_fr hD hS hA
  refine va_calli hr hS (fun q _ h => hF q h) hF (fun r u t H1 locs1 ht hvm hp hB hz hk hS1 => ?_)
  obtain ⟨hP1, hK1, hD1⟩ := hB
  rw [ht] at hP1
  exact kk r u H1 locs1 hp hP1 (hD1.weaken (fun _ q _ h => hF q.1 h)) hS1
theorem xb_rl {post : Int64 → va_W → Prop} (hr : va_Run p l e R s m args below meth c H locs cells slots mc ms (F0 m pc ls st0) rest (xQl D tys post (va_A ws H.size) a) (va_A ws H.size)) (hD : va_D A ws) (hS : va_S A H0 H locs) (hA : ∀ q : Nat, H0.size ≤ q → A q)
    (kk : ∀ (r : Int64) (ws1 : va_W) (H1 : Heap) (locs1 : List Loc), post r ws1 → va_P D vwCl ws1 H1 → va_D A ws1 → va_S A H0 H1 locs1 → W p l e R s m args below meth c H1 locs1 (cells + mc) (slots + ms) Q (F0 m (pc + 3) ls (.long r :: rest))) : W p l e R s m args below meth c H locs cells slots Q (F0 m pc ls st0) := by
  have hF := xb_fr hD hS hA
  refine va_calll hr hS (fun q _ h => hF q h) hF (fun r u t H1 locs1 ht hvm hp hB hz hk hS1 => ?_)
  obtain ⟨hP1, hK1, hD1⟩ := hB
  rw [ht] at hP1
  exact kk r u H1 locs1 hp hP1 (hD1.weaken (fun _ q _ h => hF q.1 h)) hS1
theorem xb_rv {post : va_W → Prop} (hr : va_Run p l e R s m args below meth c H locs cells slots mc ms (F0 m pc ls st0) rest (xQv D tys post (va_A ws H.size) a) (va_A ws H.size)) (hD : va_D A ws) (hS : va_S A H0 H locs) (hA : ∀ q : Nat, H0.size ≤ q → A q)
    (kk : ∀ (ws1 : va_W) (H1 : Heap) (locs1 : List Loc), post ws1 → va_P D vwCl ws1 H1 → va_D A ws1 → va_S A H0 H1 locs1 → W p l e R s m args below meth c H1 locs1 (cells + mc) (slots + ms) Q (F0 m (pc + 3) ls rest)) : W p l e R s m args below meth c H locs cells slots Q (F0 m pc ls st0) := by
  have hF := xb_fr hD hS hA
  refine va_callv hr hS (fun q _ h => hF q h) hF (fun u t H1 locs1 ht hvm hp hB hz hk hS1 => ?_)
  obtain ⟨hP1, hK1, hD1⟩ := hB
  rw [ht] at hP1
  exact kk u H1 locs1 hp hP1 (hD1.weaken (fun _ q _ h => hF q.1 h)) hS1
/-- the ends of a method -/
theorem xb_ir {post : Int32 → va_W → Prop} {cc : ByteArray} {v : Int32} (hx : p.tables.exec = Jvm.exec) (hb : c.code = cc) (hr : meth.sig.returnType = some .int) (hlocks : meth.locks = false) (hP : va_P D vwCl ws H) (hK : va_K D vwCl tys s) (hD : va_D A ws) (hS : va_S A s.heap H locs) (hdg : decode cc pc = .ok (.ireturn, 1)) (hp : post v ws) :
    W p l e R s m args below meth c H locs cells slots (MQ below (xQi D tys post A) args s cells slots A) (F0 m pc ls [.int v]) :=
  W.iret hx hb hr (fun t ht hW => ⟨⟨v, ws, rfl, hp, by rw [ht]; exact hP, va_K.moved hW.alike hK, hD⟩, hS.F ht⟩) hS.2.2 hdg hlocks
theorem xb_zr {post : Int32 → va_W → Prop} {cc : ByteArray} {v : Int32} (hx : p.tables.exec = Jvm.exec) (hb : c.code = cc) (hr : meth.sig.returnType = some .boolean) (hlocks : meth.locks = false) (hP : va_P D vwCl ws H) (hK : va_K D vwCl tys s) (hD : va_D A ws) (hS : va_S A s.heap H locs) (hdg : decode cc pc = .ok (.ireturn, 1)) (hn : narrow .boolean (.int v) = .int v) (hp : post v ws) :
    W p l e R s m args below meth c H locs cells slots (MQ below (xQi D tys post A) args s cells slots A) (F0 m pc ls [.int v]) :=
  W.zret hx hb hr hn (fun t ht hW => ⟨⟨v, ws, rfl, hp, by rw [ht]; exact hP, va_K.moved hW.alike hK, hD⟩, hS.F ht⟩) hS.2.2 hdg hlocks
theorem xb_lr {post : Int64 → va_W → Prop} {cc : ByteArray} {v : Int64} (hx : p.tables.exec = Jvm.exec) (hb : c.code = cc) (hr : meth.sig.returnType = some .long) (hlocks : meth.locks = false) (hP : va_P D vwCl ws H) (hK : va_K D vwCl tys s) (hD : va_D A ws) (hS : va_S A s.heap H locs) (hdg : decode cc pc = .ok (.lreturn, 1)) (hp : post v ws) :
    W p l e R s m args below meth c H locs cells slots (MQ below (xQl D tys post A) args s cells slots A) (F0 m pc ls [.long v]) :=
  W.lret hx hb hr (fun t ht hW => ⟨⟨v, ws, rfl, hp, by rw [ht]; exact hP, va_K.moved hW.alike hK, hD⟩, hS.F ht⟩) hS.2.2 hdg hlocks
theorem xb_vr {post : va_W → Prop} {cc : ByteArray} (hx : p.tables.exec = Jvm.exec) (hb : c.code = cc) (hr : meth.sig.returnType = none) (hlocks : meth.locks = false) (hP : va_P D vwCl ws H) (hK : va_K D vwCl tys s) (hD : va_D A ws) (hS : va_S A s.heap H locs) (hdg : decode cc pc = .ok (.return_, 1)) (hp : post ws) :
    W p l e R s m args below meth c H locs cells slots (MQ below (xQv D tys post A) args s cells slots A) (F0 m pc ls []) :=
  W.vret hx hb hr (fun t ht hW => ⟨⟨ws, rfl, hp, by rw [ht]; exact hP, va_K.moved hW.alike hK, hD⟩, hS.F ht⟩) hS.2.2 hdg hlocks
end XB
theorem sgS {ws : va_W} {k : Nat} {x v : Nat × va_E} (h : ws[k]? = some x) : (ws.set k v)[k]? = some v := List.getElem?_set_self (List.getElem?_eq_some_iff.mp h).1
theorem sgN {ws : va_W} {k j : Nat} {v : Nat × va_E} (h : j ≠ k) : (ws.set k v)[j]? = ws[j]? := List.getElem?_set_ne (Ne.symm h)
/-- an answer that is a truth value -/
theorem bz_0 {P : Prop} [Decidable P] {r : Int32} (h : r = if P then 1 else 0) (c : r = 0) : ¬ P := fun q => by rw [if_pos q] at h; rw [h] at c; exact absurd c (by decide)
theorem bz_1 {P : Prop} [Decidable P] {r : Int32} (h : r = if P then 1 else 0) (c : ¬ r = 0) : P := by
  by_cases q : P
  · exact q
  · rw [if_neg q] at h; exact absurd h c
theorem bz_x {P : Prop} [Decidable P] {r : Int32} (h : r = if P then 1 else 0) (c : r = 1) : P := by
  by_cases q : P
  · exact q
  · rw [if_neg q] at h; rw [h] at c; exact absurd c (by decide)
theorem bz_y {P : Prop} [Decidable P] {r : Int32} (h : r = if P then 1 else 0) (c : ¬ r = 1) : ¬ P := fun q => by rw [if_pos q] at h; exact c h
end
section
/-! the desk: its cells by index, its registers rf, its tallies tv, what stands in its outcome -/
abbrev wdI (z : Int) : va_E := .inr (ciW, [.long (zh z), .long (zl z)])
theorem wd_eq {ws : va_W} {k h0 : Nat} {h w : Int64} {z : Int} (e : h = zh z ∧ w = zl z) : ws.set k (h0, .inr (ciW, [.long h, .long w])) = ws.set k (h0, wdI z) := by rw [e.1, e.2]
def xd (w0 ws : va_W) (tys : xT) (ad : Nat → Nat) (cA : Nat → ClassId) (g : Nat → Option Nat) (rf : Nat → Int64) (tv : Nat → Int) (o : Int) : Prop :=
  ws[0]? = some (ad 0, .inr (ciE, [.ref (ad 1), .ref (ad 2), .ref (ad 7), .ref (ad 8), .ref (ad 9)])) ∧ ws[1]? = some (ad 1, .inl (cA 0, 8, .inr (.inl rf))) ∧ ws[2]? = some (ad 2, .inl (cA 1, 4, .inr (.inr (.inr (.inr g))))) ∧
  ws[7]? = some (ad 7, wdI 1000000000000000000000000000000000000) ∧ ws[8]? = some (ad 8, wdI (-1000000000000000000000000000000000000)) ∧ ws[9]? = some (ad 9, wdI o) ∧
  (∀ j, j < 4 → ws[3 + j]? = some (ad (3 + j), wdI (tv j)) ∧ g j = some (ad (3 + j)) ∧ -1000000000000000000000000000000000000 < tv j ∧ tv j < 1000000000000000000000000000000000000) ∧ (∀ j, 10 ≤ j → ws[j]? = w0[j]?) ∧ tys[0]? = some (cA 0, .long) ∧ tys[1]? = some (cA 1, .object RWide)
section XD
variable {w0 ws ws1 : va_W} {tys : xT} {ad : Nat → Nat} {cA : Nat → ClassId} {g : Nat → Option Nat} {rf : Nat → Int64} {tv : Nat → Int} {o : Int}
theorem xd_a0 (X : xd w0 ws tys ad cA g rf tv o) : ws[0]? = some (ad 0, .inr (ciE, [.ref (ad 1), .ref (ad 2), .ref (ad 7), .ref (ad 8), .ref (ad 9)])) := X.1
theorem xd_a1 (X : xd w0 ws tys ad cA g rf tv o) : ws[1]? = some (ad 1, .inl (cA 0, 8, .inr (.inl rf))) := X.2.1
theorem xd_a2 (X : xd w0 ws tys ad cA g rf tv o) : ws[2]? = some (ad 2, .inl (cA 1, 4, .inr (.inr (.inr (.inr g))))) := X.2.2.1
theorem xd_a7 (X : xd w0 ws tys ad cA g rf tv o) : ws[7]? = some (ad 7, wdI 1000000000000000000000000000000000000) := X.2.2.2.1
theorem xd_a8 (X : xd w0 ws tys ad cA g rf tv o) : ws[8]? = some (ad 8, wdI (-1000000000000000000000000000000000000)) := X.2.2.2.2.1
theorem xd_a9 (X : xd w0 ws tys ad cA g rf tv o) : ws[9]? = some (ad 9, wdI o) := X.2.2.2.2.2.1
theorem xd_tl (X : xd w0 ws tys ad cA g rf tv o) {j : Nat} (h : j < 4) : ws[3 + j]? = some (ad (3 + j), wdI (tv j)) := (X.2.2.2.2.2.2.1 j h).1
theorem xd_gj (X : xd w0 ws tys ad cA g rf tv o) {j : Nat} (h : j < 4) : g j = some (ad (3 + j)) := (X.2.2.2.2.2.2.1 j h).2.1
theorem xd_lo (X : xd w0 ws tys ad cA g rf tv o) {j : Nat} (h : j < 4) : -1000000000000000000000000000000000000 < tv j := (X.2.2.2.2.2.2.1 j h).2.2.1
theorem xd_hi (X : xd w0 ws tys ad cA g rf tv o) {j : Nat} (h : j < 4) : tv j < 1000000000000000000000000000000000000 := (X.2.2.2.2.2.2.1 j h).2.2.2
theorem xd_zr (X : xd w0 ws tys ad cA g rf tv o) {j : Nat} (h : j < 4) : zR (tv j) := by
  have a := xd_lo X h
  have b := xd_hi X h
  constructor <;> omega
theorem xd_rest (X : xd w0 ws tys ad cA g rf tv o) : ∀ j, 10 ≤ j → ws[j]? = w0[j]? := X.2.2.2.2.2.2.2.1
theorem xd_t0 (X : xd w0 ws tys ad cA g rf tv o) : tys[0]? = some (cA 0, .long) := X.2.2.2.2.2.2.2.2.1
theorem xd_t1 (X : xd w0 ws tys ad cA g rf tv o) : tys[1]? = some (cA 1, .object RWide) := X.2.2.2.2.2.2.2.2.2
theorem xd_setO (X : xd w0 ws tys ad cA g rf tv o) {o1 : Int} (h : ws1 = ws.set 9 (ad 9, wdI o1)) : xd w0 ws1 tys ad cA g rf tv o1 := by
  subst h
  obtain ⟨h0, h1, h2, h7, h8, h9, ht, hr, hy⟩ := X
  refine ⟨by rw [sgN (by decide)]; exact h0, by rw [sgN (by decide)]; exact h1, by rw [sgN (by decide)]; exact h2, by rw [sgN (by decide)]; exact h7, by rw [sgN (by decide)]; exact h8, sgS h9, fun j hj => ?_, fun j hj => ?_, hy⟩
  · rw [sgN (by omega)]; exact ht j hj
  · rw [sgN (by omega)]; exact hr j hj
theorem xd_setT (X : xd w0 ws tys ad cA g rf tv o) {i : Nat} (hi : i < 4) {z : Int} (z1 : -1000000000000000000000000000000000000 < z) (z2 : z < 1000000000000000000000000000000000000) (h : ws1 = ws.set (3 + i) (ad (3 + i), wdI z)) : xd w0 ws1 tys ad cA g rf (va_up tv i z) o := by
  subst h
  obtain ⟨h0, h1, h2, h7, h8, h9, ht, hr, hy⟩ := X
  refine ⟨by rw [sgN (by omega)]; exact h0, by rw [sgN (by omega)]; exact h1, by rw [sgN (by omega)]; exact h2, by rw [sgN (by omega)]; exact h7, by rw [sgN (by omega)]; exact h8, by rw [sgN (by omega)]; exact h9, fun j hj => ?_, fun j hj => ?_, hy⟩
  · obtain ⟨t1, t2, t3, t4⟩ := ht j hj
    by_cases e : j = i
    · subst e
      rw [show va_up tv j z j = z from if_pos rfl]
      exact ⟨sgS t1, t2, z1, z2⟩
    · rw [show va_up tv i z j = tv j from if_neg e, sgN (by omega)]
      exact ⟨t1, t2, t3, t4⟩
  · rw [sgN (by omega)]; exact hr j hj
theorem xd_setR (X : xd w0 ws tys ad cA g rf tv o) {rf1 : Nat → Int64} (h : ws1 = ws.set 1 (ad 1, .inl (cA 0, 8, .inr (.inl rf1)))) : xd w0 ws1 tys ad cA g rf1 tv o := by
  subst h
  obtain ⟨h0, h1, h2, h7, h8, h9, ht, hr, hy⟩ := X
  refine ⟨by rw [sgN (by decide)]; exact h0, sgS h1, by rw [sgN (by decide)]; exact h2, by rw [sgN (by decide)]; exact h7, by rw [sgN (by decide)]; exact h8, by rw [sgN (by decide)]; exact h9, fun j hj => ?_, fun j hj => ?_, hy⟩
  · rw [sgN (by omega)]; exact ht j hj
  · rw [sgN (by omega)]; exact hr j hj
end XD
theorem in8 {r : Int32} (h : ¬ r < 0 ∧ r < 8) : vp_in r 8 := by
  obtain ⟨h1, h2⟩ := h
  rw [Int32.lt_iff_toInt_lt] at h1 h2
  have e0 : (0 : Int32).toInt = 0 := by decide
  have e8 : (8 : Int32).toInt = 8 := by decide
  exact vp_in_iff.mpr (by omega)
theorem in4 {r : Int32} (h : ¬ r < 0 ∧ r < 4) : vp_in r 4 := by
  obtain ⟨h1, h2⟩ := h
  rw [Int32.lt_iff_toInt_lt] at h1 h2
  have e0 : (0 : Int32).toInt = 0 := by decide
  have e8 : (4 : Int32).toInt = 4 := by decide
  exact vp_in_iff.mpr (by omega)
theorem vin_lt {r : Int32} {n : Nat} (h : vp_in r n) : r.toNatClampNeg < n := Nat.not_le.mp fun q => h (Or.inr q)
/-! what the document asks, as functions of the state (registers, tallies) -/
abbrev sS : Type := (Nat → Int64) × (Nat → Int)
abbrev okR (r : Int32) : Prop := ¬ r < 0 ∧ r < 8
abbrev okT (t : Int32) : Prop := ¬ t < 0 ∧ t < 4
abbrev okW (w : Int32) : Prop := ¬ w < 0 ∧ ¬ 3 < w
def sp_kR (S : sS) (r : Int32) (v : Int) : Int32 × sS := if v < -9223372036854775808 then (2, S) else if 9223372036854775808 ≤ v then (1, S) else (0, (vp_updL S.1 r.toNatClampNeg (zl v), S.2))
def sp_kT (S : sS) (t : Int32) (v : Int) : Int32 × sS := if 1000000000000000000000000000000000000 ≤ v then (1, S) else if v ≤ -1000000000000000000000000000000000000 then (2, S) else (0, (S.1, va_up S.2 t.toNatClampNeg v))
def sp_set (S : sS) (r : Int32) (v : Int64) : Int32 × sS := if okR r then (1, (vp_updL S.1 r.toNatClampNeg v, S.2)) else (0, S)
def sp_get (S : sS) (r : Int32) : Int64 := if okR r then S.1 r.toNatClampNeg else 0
def sp_add (S : sS) (r : Int32) (v : Int64) : Int32 × sS := if okR r then sp_kR S r ((S.1 r.toNatClampNeg).toInt + v.toInt) else (-1, S)
def sp_sub (S : sS) (r : Int32) (v : Int64) : Int32 × sS := if okR r then sp_kR S r ((S.1 r.toNatClampNeg).toInt - v.toInt) else (-1, S)
def sp_times (S : sS) (r : Int32) (v : Int64) : Int32 × sS := if okR r then sp_kR S r ((S.1 r.toNatClampNeg).toInt * v.toInt) else (-1, S)
/-- does a quotient's size go up by one? r: what is left over, d: the divisor's size; ng: is the quotient below 0 -/
abbrev rq_up (r d : Nat) (ng : Prop) (w : Int32) : Prop := (w = 0 ∧ ng ∧ r ≠ 0) ∨ (w = 1 ∧ ¬ ng ∧ r ≠ 0) ∨ (w = 3 ∧ d ≤ 2 * r)
abbrev rq_ng (n d : Int) : Prop := ¬ ((n < 0) ↔ (d < 0))
/-- the size of a rounded quotient -/
def rq_sz (n d : Int) (w : Int32) : Int := ((n.natAbs / d.natAbs : Nat) : Int) + (if rq_up (n.natAbs % d.natAbs) d.natAbs (rq_ng n d) w then 1 else 0)
def rq (n d : Int) (w : Int32) : Int := if rq_ng n d then -(rq_sz n d w) else rq_sz n d w
def sp_share (S : sS) (r : Int32) (b c : Int64) (w : Int32) : Int32 × sS := if okR r ∧ okW w then (if c = 0 then (3, S) else sp_kR S r (rq ((S.1 r.toNatClampNeg).toInt * b.toInt) c.toInt w)) else (-1, S)
def sp_enter (S : sS) (t r : Int32) (v : Int64) : Int32 × sS := if okT t ∧ okR r then sp_kT S t ((S.1 r.toNatClampNeg).toInt * v.toInt + S.2 t.toNatClampNeg) else (-1, S)
def sp_merge (S : sS) (t u : Int32) : Int32 × sS := if okT t ∧ okT u then sp_kT S t (S.2 t.toNatClampNeg + S.2 u.toNatClampNeg) else (-1, S)
def sp_split (S : sS) (t : Int32) (d : Int64) (r : Int32) : Int32 × sS := if okT t ∧ okR r ∧ ¬ d < 0 ∧ ¬ 1000000000000000000 < d then (if d = 0 then (3, S) else (0, (vp_updL S.1 r.toNatClampNeg (zl ((S.2 t.toNatClampNeg).tmod d.toInt)), va_up S.2 t.toNatClampNeg ((S.2 t.toNatClampNeg).tdiv d.toInt)))) else (-1, S)
def sp_take (S : sS) (t r : Int32) : Int32 × sS := if okT t ∧ okR r then sp_kR S r (S.2 t.toNatClampNeg) else (-1, S)
def sp_clear (S : sS) (t : Int32) : Int32 × sS := if okT t then (1, (S.1, va_up S.2 t.toNatClampNeg 0)) else (0, S)
def sp_ord (a b : Int) : Int32 := if a < b then -1 else if a = b then 0 else 1
def sp_cmp (S : sS) (t u : Int32) : Int32 := if okT t ∧ okT u then sp_ord (S.2 t.toNatClampNeg) (S.2 u.toNatClampNeg) else -2
/-- L is the number of digits of n -/
def sLen (n L : Nat) : Prop := 1 ≤ L ∧ n < 10 ^ L ∧ (L = 1 ∨ 10 ^ (L - 1) ≤ n)
theorem sLen_u {n L K : Nat} (h : sLen n L) (k : sLen n K) : L = K := by
  obtain ⟨h1, h2, h3⟩ := h
  obtain ⟨k1, k2, k3⟩ := k
  rcases Nat.lt_trichotomy L K with q | q | q
  · rcases k3 with z | z
    · omega
    · have := Nat.pow_le_pow_right (show 0 < 10 by decide) (show L ≤ K - 1 by omega)
      omega
  · exact q
  · rcases h3 with z | z
    · omega
    · have := Nat.pow_le_pow_right (show 0 < 10 by decide) (show K ≤ L - 1 by omega)
      omega
def sp_digits (S : sS) (t : Int32) (a : Int32) : Prop := if okT t then ∃ L, sLen (S.2 t.toNatClampNeg).natAbs L ∧ L ≤ 36 ∧ a = (if S.2 t.toNatClampNeg < 0 then -nI L else nI L) else a = 0
def sp_digit (S : sS) (t k : Int32) : Int32 := if okT t ∧ ¬ k < 0 ∧ k < 36 then nI ((S.2 t.toNatClampNeg).natAbs / 10 ^ k.toNatClampNeg % 10) else -1
end
section
-- the rows of ExactDesk$Wide (laid by wip/whole/gen_wide.py)
theorem dv_nlt {z : Int} (hz : zR z) : z.toNat < 2 ^ 128 := by
  obtain ⟨z1, z2⟩ := hz
  have e5 : (2 : Nat) ^ 128 = 340282366920938463463374607431768211456 := by decide
  omega
theorem set_same {ws : va_W} {k : Nat} {x : Nat × va_E} (h : ws[k]? = some x) : ws.set k x = ws := by
  obtain ⟨h1, h2⟩ := List.getElem?_eq_some_iff.mp h
  rw [← h2]
  exact List.set_getElem_self h1
theorem dv_sub {x d : Int64} (h : uN d ≤ uN x) : uN (x - d) = uN x - uN d := by
  have a := un_sub x d
  have b := un_c x
  have c := un_c d
  have e := uN_lt x
  omega
theorem dv_fin {ws ws1 : va_W} {k h0 i : Nat} {hi lo r d : Int64} {z : Int} {x5 : Int32} (hw : ws1 = ws.set k (h0, .inr (ciW, [.long hi, .long lo]))) (h0z : 0 ≤ z) (hz : zR z) (hd0 : 0 < uN d) (hI : dvI (uN d) z.toNat i (uN hi * 18446744073709551616 + uN lo) (uN r)) (c : (128 : Int32) ≤ x5) (h1 : i ≤ 128) (ex : x5 = nI i) : ws1 = ws.set k (h0, wdI (z / (uN d : Int))) ∧ (uN r : Int) = z % (uN d : Int) := by
  have hi8 : i = 128 := by
    rw [ex] at c
    have c2 : nI 128 ≤ nI i := c
    have := (nI_leI (by omega) (by omega)).mp c2
    omega
  subst hi8
  obtain ⟨q1, q2⟩ := dv_end hI
  have ez : ((z.toNat : Nat) : Int) = z := by omega
  have e1 : ((z.toNat / uN d : Nat) : Int) = z / (uN d : Int) := by rw [Int.natCast_ediv, ez]
  have e2 : ((z.toNat % uN d : Nat) : Int) = z % (uN d : Int) := by rw [Int.natCast_emod, ez]
  obtain ⟨z1, z2⟩ := hz
  have hle : z.toNat / uN d ≤ z.toNat := Nat.div_le_self _ _
  refine ⟨?_, ?_⟩
  · rw [hw, ← e1]
    exact wd_eq (dv_out q1 (by omega))
  · rw [q2]; exact e2
set_option maxHeartbeats 4000000 in
set_option maxRecDepth 100000 in
theorem cW_uless (l : Launch) (D : va_G) {tys : xT} {ws : va_W} {sz : Nat} (a b : Int64) : xM l yX0_unsignedLess wsX0_unsignedLess ({ frames := 0, cells := 0, slots := 0, locals := 0 }) D tys ws sz [.long a, .long b] (xQi D tys (fun r w => r = (if uN a < uN b then 1 else 0) ∧ ws = w)) 0 0 := by
  refine xb_m (cc := cX0_unsignedLess) (maxL := 4) (ret := (some .boolean)) (by decide) rfl (Nat.le_of_ble_eq_true rfl) ?_
  intro p e s m below meth c A ls hx hb hr hml hown hts hlocks hnm hA hP hK hD hS hl
  have hl : lv_has ls 4 [(0, .long a), (2, .long b)] := hl
  have hown : s.vm.findClass RX0 = some m.cls := hown
  refine lv_lload_n hx hb dX0_unsignedLess_0 rfl (lv_at hl 0 rfl) ?_
  refine lv_ldc2 (v := (-9223372036854775808)) hx hb hown (hts (.constantLong RX0 35 (-9223372036854775808)) (by decide +kernel)) dX0_unsignedLess_1 ?_
  refine lv_lxor hx hb dX0_unsignedLess_4 ?_
  refine lv_lload_n hx hb dX0_unsignedLess_5 rfl (lv_at hl 1 rfl) ?_
  refine lv_ldc2 (v := (-9223372036854775808)) hx hb hown (hts (.constantLong RX0 35 (-9223372036854775808)) (by decide +kernel)) dX0_unsignedLess_6 ?_
  refine lv_lxor hx hb dX0_unsignedLess_9 ?_
  refine W.lcmp hx hb dX0_unsignedLess_10 ?_
  refine lv_if_ge (tgt := 18) hx hb dX0_unsignedLess_11 (by decide) (fun c11 => ?_) (fun c11 => ?_)
  · rw [lg_cmp_ge] at c11
    refine lv_iconst (v := 0) hx hb dX0_unsignedLess_18 (by decide) ?_
    exact xb_zr hx hb hr hlocks hP hK hD hS dX0_unsignedLess_19 rfl (⟨by rw [uN_le] at c11; rw [if_neg (by omega)], rfl⟩)
  · rw [lg_cmp_ge] at c11
    refine lv_iconst (v := 1) hx hb dX0_unsignedLess_14 (by decide) ?_
    refine lv_goto (tgt := 19) hx hb dX0_unsignedLess_15 (by decide) ?_
    exact xb_zr hx hb hr hlocks hP hK hD hS dX0_unsignedLess_19 rfl (⟨by rw [uN_le] at c11; rw [if_pos (by omega)], rfl⟩)
set_option maxHeartbeats 4000000 in
set_option maxRecDepth 100000 in
theorem cW_becomeL (l : Launch) (D : va_G) {tys : xT} {ws : va_W} {sz : Nat} {k h0 : Nat} {fh fl : Int64} (hk : ws[k]? = some (h0, .inr (ciW, [.long fh, .long fl]))) (v : Int64) : xM l yX0_become wsX0_become ({ frames := 0, cells := 0, slots := 0, locals := 0 }) D tys ws sz [.ref h0, .long v] (xQv D tys (fun w => w = ws.set k (h0, wdI v.toInt))) 0 0 := by
  refine xb_m (cc := cX0_become) (maxL := 3) (ret := none) (by decide) rfl (Nat.le_of_ble_eq_true rfl) ?_
  intro p e s m below meth c A ls hx hb hr hml hown hts hlocks hnm hA hP hK hD hS hl
  have hl : lv_has ls 3 [(0, .ref h0), (1, .long v)] := hl
  have hown : s.vm.findClass RX0 = some m.cls := hown
  refine lv_aload_n hx hb dX0_become_0 rfl (lv_at hl 0 rfl) ?_
  refine lv_lload_n hx hb dX0_become_1 rfl (lv_at hl 1 rfl) ?_
  refine lv_bipush (v := 63) hx hb dX0_become_2 (by decide) ?_
  refine lv_lshr hx hb dX0_become_4 rfl ?_
  refine va_put (D := D) (ci := ciW) (v := .long (v >>> ((63 : Int32).toInt64 &&& 63))) (ty := .long) (C := RX0) (T := TX0) (N := 2) hx hb hts (by decide +kernel) tyX0 tyX0_ok nmX0 hown hK hP hD hS k hk rfl 0 (by decide) (hts (.fieldLink RX0 9 "ExactDesk$Wide" "high" "J") (by decide +kernel)) (fun _ h9 => h9) rfl (by decide +kernel) rfl rfl (Nat.le_of_ble_eq_true rfl) dX0_become_5 (fun H locs hP hD hS => ?_)
  obtain ⟨ws1, hws1⟩ : ∃ q_, q_ = ws.set k (h0, .inr (ciW, [.long (v >>> ((63 : Int32).toInt64 &&& 63)), .long fl])) := ⟨_, rfl⟩
  have hP : va_P D vwCl ws1 H := by rw [hws1]; exact hP
  have hD : va_D A ws1 := by rw [hws1]; exact hD
  have hk : ws1[k]? = some (h0, .inr (ciW, [.long (v >>> ((63 : Int32).toInt64 &&& 63)), .long fl])) := by rw [hws1]; exact sgS hk
  refine lv_aload_n hx hb dX0_become_8 rfl (lv_at hl 0 rfl) ?_
  refine lv_lload_n hx hb dX0_become_9 rfl (lv_at hl 1 rfl) ?_
  refine va_put (D := D) (ci := ciW) (v := .long v) (ty := .long) (C := RX0) (T := TX0) (N := 2) hx hb hts (by decide +kernel) tyX0 tyX0_ok nmX0 hown hK hP hD hS k hk rfl 1 (by decide) (hts (.fieldLink RX0 13 "ExactDesk$Wide" "low" "J") (by decide +kernel)) (fun _ h9 => h9) rfl (by decide +kernel) rfl rfl (Nat.le_of_ble_eq_true rfl) dX0_become_10 (fun H locs hP hD hS => ?_)
  obtain ⟨ws2, hws2⟩ : ∃ q_, q_ = ws1.set k (h0, .inr (ciW, [.long (v >>> ((63 : Int32).toInt64 &&& 63)), .long v])) := ⟨_, rfl⟩
  have hP : va_P D vwCl ws2 H := by rw [hws2]; exact hP
  have hD : va_D A ws2 := by rw [hws2]; exact hD
  have hk : ws2[k]? = some (h0, .inr (ciW, [.long (v >>> ((63 : Int32).toInt64 &&& 63)), .long v])) := by rw [hws2]; exact sgS hk
  exact xb_vr hx hb hr hlocks hP hK hD hS dX0_become_13 (by rw [hws2, hws1, List.set_set]; exact wd_eq (w_long v))
set_option maxHeartbeats 4000000 in
set_option maxRecDepth 100000 in
theorem cW_becomeW (l : Launch) (D : va_G) {tys : xT} {ws : va_W} {sz : Nat} {k h0 : Nat} {z : Int} (hk : ws[k]? = some (h0, wdI z)) {k2 h1 : Nat} {y : Int} (hk2 : ws[k2]? = some (h1, wdI y)) (hne : k2 ≠ k) : xM l yX0_become_ wsX0_become_ ({ frames := 0, cells := 0, slots := 0, locals := 0 }) D tys ws sz [.ref h0, .ref h1] (xQv D tys (fun w => w = ws.set k (h0, wdI y))) 0 0 := by
  refine xb_m (cc := cX0_become_) (maxL := 2) (ret := none) (by decide) rfl (Nat.le_of_ble_eq_true rfl) ?_
  intro p e s m below meth c A ls hx hb hr hml hown hts hlocks hnm hA hP hK hD hS hl
  have hl : lv_has ls 2 [(0, .ref h0), (1, .ref h1)] := hl
  have hown : s.vm.findClass RX0 = some m.cls := hown
  refine lv_aload_n hx hb dX0_become__0 rfl (lv_at hl 0 rfl) ?_
  refine lv_aload_n hx hb dX0_become__1 rfl (lv_at hl 1 rfl) ?_
  refine va_get (D := D) (ci := ciW) (v := .long (zh y)) (C := RX0) (T := TX0) (N := 2) hx hb hts (by decide +kernel) hown hK hP k2 hk2 rfl 0 (by decide) (hts (.fieldLink RX0 9 "ExactDesk$Wide" "high" "J") (by decide +kernel)) (fun _ h9 => h9) rfl dX0_become__2 ?_
  refine va_put (D := D) (ci := ciW) (v := .long (zh y)) (ty := .long) (C := RX0) (T := TX0) (N := 2) hx hb hts (by decide +kernel) tyX0 tyX0_ok nmX0 hown hK hP hD hS k hk rfl 0 (by decide) (hts (.fieldLink RX0 9 "ExactDesk$Wide" "high" "J") (by decide +kernel)) (fun _ h9 => h9) rfl (by decide +kernel) rfl rfl (Nat.le_of_ble_eq_true rfl) dX0_become__5 (fun H locs hP hD hS => ?_)
  obtain ⟨ws1, hws1⟩ : ∃ q_, q_ = ws.set k (h0, .inr (ciW, [.long (zh y), .long (zl z)])) := ⟨_, rfl⟩
  have hP : va_P D vwCl ws1 H := by rw [hws1]; exact hP
  have hD : va_D A ws1 := by rw [hws1]; exact hD
  have hk : ws1[k]? = some (h0, .inr (ciW, [.long (zh y), .long (zl z)])) := by rw [hws1]; exact sgS hk
  have hk2 : ws1[k2]? = some (h1, .inr (ciW, [.long (zh y), .long (zl y)])) := by rw [hws1, sgN hne]; exact hk2
  refine lv_aload_n hx hb dX0_become__8 rfl (lv_at hl 0 rfl) ?_
  refine lv_aload_n hx hb dX0_become__9 rfl (lv_at hl 1 rfl) ?_
  refine va_get (D := D) (ci := ciW) (v := .long (zl y)) (C := RX0) (T := TX0) (N := 2) hx hb hts (by decide +kernel) hown hK hP k2 hk2 rfl 1 (by decide) (hts (.fieldLink RX0 13 "ExactDesk$Wide" "low" "J") (by decide +kernel)) (fun _ h9 => h9) rfl dX0_become__10 ?_
  refine va_put (D := D) (ci := ciW) (v := .long (zl y)) (ty := .long) (C := RX0) (T := TX0) (N := 2) hx hb hts (by decide +kernel) tyX0 tyX0_ok nmX0 hown hK hP hD hS k hk rfl 1 (by decide) (hts (.fieldLink RX0 13 "ExactDesk$Wide" "low" "J") (by decide +kernel)) (fun _ h9 => h9) rfl (by decide +kernel) rfl rfl (Nat.le_of_ble_eq_true rfl) dX0_become__13 (fun H locs hP hD hS => ?_)
  obtain ⟨ws2, hws2⟩ : ∃ q_, q_ = ws1.set k (h0, .inr (ciW, [.long (zh y), .long (zl y)])) := ⟨_, rfl⟩
  have hP : va_P D vwCl ws2 H := by rw [hws2]; exact hP
  have hD : va_D A ws2 := by rw [hws2]; exact hD
  have hk : ws2[k]? = some (h0, .inr (ciW, [.long (zh y), .long (zl y)])) := by rw [hws2]; exact sgS hk
  have hk2 : ws2[k2]? = some (h1, .inr (ciW, [.long (zh y), .long (zl y)])) := by rw [hws2, sgN hne]; exact hk2
  exact xb_vr hx hb hr hlocks hP hK hD hS dX0_become__16 (by rw [hws2, hws1, List.set_set])
set_option maxHeartbeats 4000000 in
set_option maxRecDepth 100000 in
theorem cW_prod (l : Launch) (D : va_G) {tys : xT} {ws : va_W} {sz : Nat} {k h0 : Nat} {fh fl : Int64} (hk : ws[k]? = some (h0, .inr (ciW, [.long fh, .long fl]))) (a b : Int64) : xM l yX0_becomeProduct wsX0_becomeProduct ({ frames := 0, cells := 0, slots := 0, locals := 0 }) D tys ws sz [.ref h0, .long a, .long b] (xQv D tys (fun w => w = ws.set k (h0, wdI (a.toInt * b.toInt)))) 0 0 := by
  refine xb_m (cc := cX0_becomeProduct) (maxL := 17) (ret := none) (by decide) rfl (Nat.le_of_ble_eq_true rfl) ?_
  intro p e s m below meth c A ls hx hb hr hml hown hts hlocks hnm hA hP hK hD hS hl
  have hl : lv_has ls 17 [(0, .ref h0), (1, .long a), (3, .long b)] := hl
  have hown : s.vm.findClass RX0 = some m.cls := hown
  refine lv_lload_n hx hb dX0_becomeProduct_0 rfl (lv_at hl 1 rfl) ?_
  refine lv_bipush (v := 32) hx hb dX0_becomeProduct_1 (by decide) ?_
  refine lv_lshr hx hb dX0_becomeProduct_3 rfl ?_
  refine lv_topl (fun x4 ex4 => ?_)
  refine lv_lstore (lv' := [(5, .long x4), (0, .ref h0), (1, .long a), (3, .long b)]) hx hb dX0_becomeProduct_4 hl (by decide) rfl (fun ls hl => ?_)
  refine lv_lload_n hx hb dX0_becomeProduct_6 rfl (lv_at hl 2 rfl) ?_
  refine lv_ldc2 (v := 4294967295) hx hb hown (hts (.constantLong RX0 16 (4294967295)) (by decide +kernel)) dX0_becomeProduct_7 ?_
  refine lv_land hx hb dX0_becomeProduct_10 ?_
  refine lv_topl (fun x11 ex11 => ?_)
  refine lv_lstore (lv' := [(7, .long x11), (5, .long x4), (0, .ref h0), (1, .long a), (3, .long b)]) hx hb dX0_becomeProduct_11 hl (by decide) rfl (fun ls hl => ?_)
  refine lv_lload_n hx hb dX0_becomeProduct_13 rfl (lv_at hl 4 rfl) ?_
  refine lv_bipush (v := 32) hx hb dX0_becomeProduct_14 (by decide) ?_
  refine lv_lshr hx hb dX0_becomeProduct_16 rfl ?_
  refine lv_topl (fun x17 ex17 => ?_)
  refine lv_lstore (lv' := [(9, .long x17), (7, .long x11), (5, .long x4), (0, .ref h0), (1, .long a), (3, .long b)]) hx hb dX0_becomeProduct_17 hl (by decide) rfl (fun ls hl => ?_)
  refine lv_lload_n hx hb dX0_becomeProduct_19 rfl (lv_at hl 5 rfl) ?_
  refine lv_ldc2 (v := 4294967295) hx hb hown (hts (.constantLong RX0 16 (4294967295)) (by decide +kernel)) dX0_becomeProduct_20 ?_
  refine lv_land hx hb dX0_becomeProduct_23 ?_
  refine lv_topl (fun x24 ex24 => ?_)
  refine lv_lstore (lv' := [(11, .long x24), (9, .long x17), (7, .long x11), (5, .long x4), (0, .ref h0), (1, .long a), (3, .long b)]) hx hb dX0_becomeProduct_24 hl (by decide) rfl (fun ls hl => ?_)
  refine lv_lload hx hb dX0_becomeProduct_26 (lv_at hl 3 rfl) ?_
  refine lv_lload hx hb dX0_becomeProduct_28 (lv_at hl 0 rfl) ?_
  refine lv_lmul hx hb dX0_becomeProduct_30 ?_
  refine lv_lload hx hb dX0_becomeProduct_31 (lv_at hl 2 rfl) ?_
  refine lv_lload hx hb dX0_becomeProduct_33 (lv_at hl 0 rfl) ?_
  refine lv_lmul hx hb dX0_becomeProduct_35 ?_
  refine lv_bipush (v := 32) hx hb dX0_becomeProduct_36 (by decide) ?_
  refine lv_lushr hx hb dX0_becomeProduct_38 rfl ?_
  refine lv_ladd hx hb dX0_becomeProduct_39 ?_
  refine lv_topl (fun x40 ex40 => ?_)
  refine lv_lstore (lv' := [(13, .long x40), (11, .long x24), (9, .long x17), (7, .long x11), (5, .long x4), (0, .ref h0), (1, .long a), (3, .long b)]) hx hb dX0_becomeProduct_40 hl (by decide) rfl (fun ls hl => ?_)
  refine lv_lload hx hb dX0_becomeProduct_42 (lv_at hl 3 rfl) ?_
  refine lv_lload hx hb dX0_becomeProduct_44 (lv_at hl 2 rfl) ?_
  refine lv_lmul hx hb dX0_becomeProduct_46 ?_
  refine lv_lload hx hb dX0_becomeProduct_47 (lv_at hl 0 rfl) ?_
  refine lv_ldc2 (v := 4294967295) hx hb hown (hts (.constantLong RX0 16 (4294967295)) (by decide +kernel)) dX0_becomeProduct_49 ?_
  refine lv_land hx hb dX0_becomeProduct_52 ?_
  refine lv_ladd hx hb dX0_becomeProduct_53 ?_
  refine lv_topl (fun x54 ex54 => ?_)
  refine lv_lstore (lv' := [(15, .long x54), (13, .long x40), (11, .long x24), (9, .long x17), (7, .long x11), (5, .long x4), (0, .ref h0), (1, .long a), (3, .long b)]) hx hb dX0_becomeProduct_54 hl (by decide) rfl (fun ls hl => ?_)
  refine lv_aload_n hx hb dX0_becomeProduct_56 rfl (lv_at hl 6 rfl) ?_
  refine lv_lload hx hb dX0_becomeProduct_57 (lv_at hl 5 rfl) ?_
  refine lv_lload hx hb dX0_becomeProduct_59 (lv_at hl 3 rfl) ?_
  refine lv_lmul hx hb dX0_becomeProduct_61 ?_
  refine lv_lload hx hb dX0_becomeProduct_62 (lv_at hl 1 rfl) ?_
  refine lv_bipush (v := 32) hx hb dX0_becomeProduct_64 (by decide) ?_
  refine lv_lshr hx hb dX0_becomeProduct_66 rfl ?_
  refine lv_ladd hx hb dX0_becomeProduct_67 ?_
  refine lv_lload hx hb dX0_becomeProduct_68 (lv_at hl 0 rfl) ?_
  refine lv_bipush (v := 32) hx hb dX0_becomeProduct_70 (by decide) ?_
  refine lv_lshr hx hb dX0_becomeProduct_72 rfl ?_
  refine lv_ladd hx hb dX0_becomeProduct_73 ?_
  refine va_put (D := D) (ci := ciW) (v := .long (((x4 * x17) + (x40 >>> ((32 : Int32).toInt64 &&& 63))) + (x54 >>> ((32 : Int32).toInt64 &&& 63)))) (ty := .long) (C := RX0) (T := TX0) (N := 2) hx hb hts (by decide +kernel) tyX0 tyX0_ok nmX0 hown hK hP hD hS k hk rfl 0 (by decide) (hts (.fieldLink RX0 9 "ExactDesk$Wide" "high" "J") (by decide +kernel)) (fun _ h9 => h9) rfl (by decide +kernel) rfl rfl (Nat.le_of_ble_eq_true rfl) dX0_becomeProduct_74 (fun H locs hP hD hS => ?_)
  obtain ⟨ws1, hws1⟩ : ∃ q_, q_ = ws.set k (h0, .inr (ciW, [.long (((x4 * x17) + (x40 >>> ((32 : Int32).toInt64 &&& 63))) + (x54 >>> ((32 : Int32).toInt64 &&& 63))), .long fl])) := ⟨_, rfl⟩
  have hP : va_P D vwCl ws1 H := by rw [hws1]; exact hP
  have hD : va_D A ws1 := by rw [hws1]; exact hD
  have hk : ws1[k]? = some (h0, .inr (ciW, [.long (((x4 * x17) + (x40 >>> ((32 : Int32).toInt64 &&& 63))) + (x54 >>> ((32 : Int32).toInt64 &&& 63))), .long fl])) := by rw [hws1]; exact sgS hk
  refine lv_aload_n hx hb dX0_becomeProduct_77 rfl (lv_at hl 6 rfl) ?_
  refine lv_lload_n hx hb dX0_becomeProduct_78 rfl (lv_at hl 7 rfl) ?_
  refine lv_lload_n hx hb dX0_becomeProduct_79 rfl (lv_at hl 8 rfl) ?_
  refine lv_lmul hx hb dX0_becomeProduct_80 ?_
  refine va_put (D := D) (ci := ciW) (v := .long (a * b)) (ty := .long) (C := RX0) (T := TX0) (N := 2) hx hb hts (by decide +kernel) tyX0 tyX0_ok nmX0 hown hK hP hD hS k hk rfl 1 (by decide) (hts (.fieldLink RX0 13 "ExactDesk$Wide" "low" "J") (by decide +kernel)) (fun _ h9 => h9) rfl (by decide +kernel) rfl rfl (Nat.le_of_ble_eq_true rfl) dX0_becomeProduct_81 (fun H locs hP hD hS => ?_)
  obtain ⟨ws2, hws2⟩ : ∃ q_, q_ = ws1.set k (h0, .inr (ciW, [.long (((x4 * x17) + (x40 >>> ((32 : Int32).toInt64 &&& 63))) + (x54 >>> ((32 : Int32).toInt64 &&& 63))), .long (a * b)])) := ⟨_, rfl⟩
  have hP : va_P D vwCl ws2 H := by rw [hws2]; exact hP
  have hD : va_D A ws2 := by rw [hws2]; exact hD
  have hk : ws2[k]? = some (h0, .inr (ciW, [.long (((x4 * x17) + (x40 >>> ((32 : Int32).toInt64 &&& 63))) + (x54 >>> ((32 : Int32).toInt64 &&& 63))), .long (a * b)])) := by rw [hws2]; exact sgS hk
  exact xb_vr hx hb hr hlocks hP hK hD hS dX0_becomeProduct_84 (by rw [hws2, hws1, List.set_set]; exact wd_eq (w_mul a b ex4 ex11 ex17 ex24 ex40 ex54))
set_option maxHeartbeats 4000000 in
set_option maxRecDepth 100000 in
theorem cW_addWords (l : Launch) (D : va_G) {tys : xT} {ws : va_W} {sz : Nat} {k h0 : Nat} {z : Int} (hk : ws[k]? = some (h0, wdI z)) {y : Int} {h2 w2 : Int64} (hz : zR z) (e2 : h2.toInt * 18446744073709551616 + (uN w2 : Int) = y) (hs : zR (z + y)) : xM l yX0_addWords wsX0_addWords ({ frames := 1, cells := 0, slots := 0, locals := 23 }) D tys ws sz [.ref h0, .long h2, .long w2] (xQv D tys (fun w => w = ws.set k (h0, wdI (z + y)))) 0 0 := by
  refine xb_m (cc := cX0_addWords) (maxL := 9) (ret := none) (by decide) rfl (Nat.le_of_ble_eq_true rfl) ?_
  intro p e s m below meth c A ls hx hb hr hml hown hts hlocks hnm hA hP hK hD hS hl
  have hl : lv_has ls 9 [(0, .ref h0), (1, .long h2), (3, .long w2)] := hl
  have hown : s.vm.findClass RX0 = some m.cls := hown
  refine lv_aload_n hx hb dX0_addWords_0 rfl (lv_at hl 0 rfl) ?_
  refine va_get (D := D) (ci := ciW) (v := .long (zl z)) (C := RX0) (T := TX0) (N := 2) hx hb hts (by decide +kernel) hown hK hP k hk rfl 1 (by decide) (hts (.fieldLink RX0 13 "ExactDesk$Wide" "low" "J") (by decide +kernel)) (fun _ h9 => h9) rfl dX0_addWords_1 ?_
  refine lv_lload_n hx hb dX0_addWords_4 rfl (lv_at hl 2 rfl) ?_
  refine lv_ladd hx hb dX0_addWords_5 ?_
  refine lv_lstore (lv' := [(5, .long ((zl z) + w2)), (0, .ref h0), (1, .long h2), (3, .long w2)]) hx hb dX0_addWords_6 hl (by decide) rfl (fun ls hl => ?_)
  refine lv_lload hx hb dX0_addWords_8 (lv_at hl 0 rfl) ?_
  refine lv_lload_n hx hb dX0_addWords_10 rfl (lv_at hl 3 rfl) ?_
  refine xb_ri (va_runS (As := [.long ((zl z) + w2), .long w2]) (rest := []) ⟨hx, hb, hml, hown, hts⟩ (cW_uless l D ((zl z) + w2) w2) (va_cwS 2 hts gX0_addWords_X0_unsignedLess rfl rfl rfl (by decide +kernel) ⟨Nat.le_of_ble_eq_true rfl, Nat.le_of_ble_eq_true rfl⟩) (xb_ps rfl hP hK hD) rfl rfl hl.1 rfl (lv_room (Nat.le_of_ble_eq_true rfl)) dX0_addWords_11 ⟨Nat.le_of_ble_eq_true rfl, Nat.le_of_ble_eq_true rfl⟩) hD hS hA (fun r11 ws1 H locs hws1 hP hD hS => ?_)
  obtain ⟨hr11, rfl⟩ := hws1
  refine lv_if_eq (tgt := 21) hx hb dX0_addWords_14 (by decide) (fun c14 => ?_) (fun c14 => ?_)
  · have c14 := bz_0 hr11 c14
    refine lv_lconst (v := 0) hx hb dX0_addWords_21 (by decide) ?_
    refine lv_lstore (lv' := [(7, .long 0), (5, .long ((zl z) + w2)), (0, .ref h0), (1, .long h2), (3, .long w2)]) hx hb dX0_addWords_22 hl (by decide) rfl (fun ls hl => ?_)
    refine lv_aload_n hx hb dX0_addWords_24 rfl (lv_at hl 2 rfl) ?_
    refine lv_aload_n hx hb dX0_addWords_25 rfl (lv_at hl 2 rfl) ?_
    refine va_get (D := D) (ci := ciW) (v := .long (zh z)) (C := RX0) (T := TX0) (N := 2) hx hb hts (by decide +kernel) hown hK hP k hk rfl 0 (by decide) (hts (.fieldLink RX0 9 "ExactDesk$Wide" "high" "J") (by decide +kernel)) (fun _ h9 => h9) rfl dX0_addWords_26 ?_
    refine lv_lload_n hx hb dX0_addWords_29 rfl (lv_at hl 3 rfl) ?_
    refine lv_ladd hx hb dX0_addWords_30 ?_
    refine lv_lload hx hb dX0_addWords_31 (lv_at hl 0 rfl) ?_
    refine lv_ladd hx hb dX0_addWords_33 ?_
    refine va_put (D := D) (ci := ciW) (v := .long (((zh z) + h2) + 0)) (ty := .long) (C := RX0) (T := TX0) (N := 2) hx hb hts (by decide +kernel) tyX0 tyX0_ok nmX0 hown hK hP hD hS k hk rfl 0 (by decide) (hts (.fieldLink RX0 9 "ExactDesk$Wide" "high" "J") (by decide +kernel)) (fun _ h9 => h9) rfl (by decide +kernel) rfl rfl (Nat.le_of_ble_eq_true rfl) dX0_addWords_34 (fun H locs hP hD hS => ?_)
    obtain ⟨ws2, hws2⟩ : ∃ q_, q_ = ws.set k (h0, .inr (ciW, [.long (((zh z) + h2) + 0), .long (zl z)])) := ⟨_, rfl⟩
    have hP : va_P D vwCl ws2 H := by rw [hws2]; exact hP
    have hD : va_D A ws2 := by rw [hws2]; exact hD
    have hk : ws2[k]? = some (h0, .inr (ciW, [.long (((zh z) + h2) + 0), .long (zl z)])) := by rw [hws2]; exact sgS hk
    refine lv_aload_n hx hb dX0_addWords_37 rfl (lv_at hl 2 rfl) ?_
    refine lv_lload hx hb dX0_addWords_38 (lv_at hl 1 rfl) ?_
    refine va_put (D := D) (ci := ciW) (v := .long ((zl z) + w2)) (ty := .long) (C := RX0) (T := TX0) (N := 2) hx hb hts (by decide +kernel) tyX0 tyX0_ok nmX0 hown hK hP hD hS k hk rfl 1 (by decide) (hts (.fieldLink RX0 13 "ExactDesk$Wide" "low" "J") (by decide +kernel)) (fun _ h9 => h9) rfl (by decide +kernel) rfl rfl (Nat.le_of_ble_eq_true rfl) dX0_addWords_40 (fun H locs hP hD hS => ?_)
    obtain ⟨ws3, hws3⟩ : ∃ q_, q_ = ws2.set k (h0, .inr (ciW, [.long (((zh z) + h2) + 0), .long ((zl z) + w2)])) := ⟨_, rfl⟩
    have hP : va_P D vwCl ws3 H := by rw [hws3]; exact hP
    have hD : va_D A ws3 := by rw [hws3]; exact hD
    have hk : ws3[k]? = some (h0, .inr (ciW, [.long (((zh z) + h2) + 0), .long ((zl z) + w2)])) := by rw [hws3]; exact sgS hk
    exact xb_vr hx hb hr hlocks hP hK hD hS dX0_addWords_43 (by rw [hws3, hws2, List.set_set]; exact wd_eq (w_add hz e2 hs (Or.inr ⟨c14, rfl⟩)))
  · have c14 := bz_1 hr11 c14
    refine lv_lconst (v := 1) hx hb dX0_addWords_17 (by decide) ?_
    refine lv_goto (tgt := 22) hx hb dX0_addWords_18 (by decide) ?_
    refine lv_lstore (lv' := [(7, .long 1), (5, .long ((zl z) + w2)), (0, .ref h0), (1, .long h2), (3, .long w2)]) hx hb dX0_addWords_22 hl (by decide) rfl (fun ls hl => ?_)
    refine lv_aload_n hx hb dX0_addWords_24 rfl (lv_at hl 2 rfl) ?_
    refine lv_aload_n hx hb dX0_addWords_25 rfl (lv_at hl 2 rfl) ?_
    refine va_get (D := D) (ci := ciW) (v := .long (zh z)) (C := RX0) (T := TX0) (N := 2) hx hb hts (by decide +kernel) hown hK hP k hk rfl 0 (by decide) (hts (.fieldLink RX0 9 "ExactDesk$Wide" "high" "J") (by decide +kernel)) (fun _ h9 => h9) rfl dX0_addWords_26 ?_
    refine lv_lload_n hx hb dX0_addWords_29 rfl (lv_at hl 3 rfl) ?_
    refine lv_ladd hx hb dX0_addWords_30 ?_
    refine lv_lload hx hb dX0_addWords_31 (lv_at hl 0 rfl) ?_
    refine lv_ladd hx hb dX0_addWords_33 ?_
    refine va_put (D := D) (ci := ciW) (v := .long (((zh z) + h2) + 1)) (ty := .long) (C := RX0) (T := TX0) (N := 2) hx hb hts (by decide +kernel) tyX0 tyX0_ok nmX0 hown hK hP hD hS k hk rfl 0 (by decide) (hts (.fieldLink RX0 9 "ExactDesk$Wide" "high" "J") (by decide +kernel)) (fun _ h9 => h9) rfl (by decide +kernel) rfl rfl (Nat.le_of_ble_eq_true rfl) dX0_addWords_34 (fun H locs hP hD hS => ?_)
    obtain ⟨ws2, hws2⟩ : ∃ q_, q_ = ws.set k (h0, .inr (ciW, [.long (((zh z) + h2) + 1), .long (zl z)])) := ⟨_, rfl⟩
    have hP : va_P D vwCl ws2 H := by rw [hws2]; exact hP
    have hD : va_D A ws2 := by rw [hws2]; exact hD
    have hk : ws2[k]? = some (h0, .inr (ciW, [.long (((zh z) + h2) + 1), .long (zl z)])) := by rw [hws2]; exact sgS hk
    refine lv_aload_n hx hb dX0_addWords_37 rfl (lv_at hl 2 rfl) ?_
    refine lv_lload hx hb dX0_addWords_38 (lv_at hl 1 rfl) ?_
    refine va_put (D := D) (ci := ciW) (v := .long ((zl z) + w2)) (ty := .long) (C := RX0) (T := TX0) (N := 2) hx hb hts (by decide +kernel) tyX0 tyX0_ok nmX0 hown hK hP hD hS k hk rfl 1 (by decide) (hts (.fieldLink RX0 13 "ExactDesk$Wide" "low" "J") (by decide +kernel)) (fun _ h9 => h9) rfl (by decide +kernel) rfl rfl (Nat.le_of_ble_eq_true rfl) dX0_addWords_40 (fun H locs hP hD hS => ?_)
    obtain ⟨ws3, hws3⟩ : ∃ q_, q_ = ws2.set k (h0, .inr (ciW, [.long (((zh z) + h2) + 1), .long ((zl z) + w2)])) := ⟨_, rfl⟩
    have hP : va_P D vwCl ws3 H := by rw [hws3]; exact hP
    have hD : va_D A ws3 := by rw [hws3]; exact hD
    have hk : ws3[k]? = some (h0, .inr (ciW, [.long (((zh z) + h2) + 1), .long ((zl z) + w2)])) := by rw [hws3]; exact sgS hk
    exact xb_vr hx hb hr hlocks hP hK hD hS dX0_addWords_43 (by rw [hws3, hws2, List.set_set]; exact wd_eq (w_add hz e2 hs (Or.inl ⟨c14, rfl⟩)))
set_option maxHeartbeats 4000000 in
set_option maxRecDepth 100000 in
theorem cW_incL (l : Launch) (D : va_G) {tys : xT} {ws : va_W} {sz : Nat} {k h0 : Nat} {z : Int} (hk : ws[k]? = some (h0, wdI z)) (v : Int64) (hz : zR z) (hs : zR (z + v.toInt)) : xM l yX0_increase wsX0_increase ({ frames := 2, cells := 0, slots := 0, locals := 51 }) D tys ws sz [.ref h0, .long v] (xQv D tys (fun w => w = ws.set k (h0, wdI (z + v.toInt)))) 0 0 := by
  refine xb_m (cc := cX0_increase) (maxL := 3) (ret := none) (by decide) rfl (Nat.le_of_ble_eq_true rfl) ?_
  intro p e s m below meth c A ls hx hb hr hml hown hts hlocks hnm hA hP hK hD hS hl
  have hl : lv_has ls 3 [(0, .ref h0), (1, .long v)] := hl
  have hown : s.vm.findClass RX0 = some m.cls := hown
  refine lv_aload_n hx hb dX0_increase_0 rfl (lv_at hl 0 rfl) ?_
  refine lv_lload_n hx hb dX0_increase_1 rfl (lv_at hl 1 rfl) ?_
  refine lv_bipush (v := 63) hx hb dX0_increase_2 (by decide) ?_
  refine lv_lshr hx hb dX0_increase_4 rfl ?_
  refine lv_lload_n hx hb dX0_increase_5 rfl (lv_at hl 1 rfl) ?_
  refine xb_rv (va_runV (As := [.long (v >>> ((63 : Int32).toInt64 &&& 63)), .long v]) (rest := []) ⟨hx, hb, hml, hown, hts⟩ (cW_addWords l D hk hz (w_lv v) hs) (cwV 2 hts gX0_increase_X0_addWords rfl rfl rfl (by decide +kernel) ⟨Nat.le_of_ble_eq_true rfl, Nat.le_of_ble_eq_true rfl⟩) (xb_pv hP hK hD rfl rfl hk) rfl rfl hl.1 rfl (lv_room (Nat.le_of_ble_eq_true rfl)) dX0_increase_6 ⟨Nat.le_of_ble_eq_true rfl, Nat.le_of_ble_eq_true rfl⟩) hD hS hA (fun ws1 H locs hws1 hP hD hS => ?_)
  exact xb_vr hx hb hr hlocks hP hK hD hS dX0_increase_9 (hws1)
set_option maxHeartbeats 4000000 in
set_option maxRecDepth 100000 in
theorem cW_incW (l : Launch) (D : va_G) {tys : xT} {ws : va_W} {sz : Nat} {k h0 : Nat} {z : Int} (hk : ws[k]? = some (h0, wdI z)) {k2 h1 : Nat} {y : Int} (hk2 : ws[k2]? = some (h1, wdI y)) (hz : zR z) (hy : zR y) (hs : zR (z + y)) : xM l yX0_increase_ wsX0_increase_ ({ frames := 2, cells := 0, slots := 0, locals := 51 }) D tys ws sz [.ref h0, .ref h1] (xQv D tys (fun w => w = ws.set k (h0, wdI (z + y)))) 0 0 := by
  refine xb_m (cc := cX0_increase_) (maxL := 2) (ret := none) (by decide) rfl (Nat.le_of_ble_eq_true rfl) ?_
  intro p e s m below meth c A ls hx hb hr hml hown hts hlocks hnm hA hP hK hD hS hl
  have hl : lv_has ls 2 [(0, .ref h0), (1, .ref h1)] := hl
  have hown : s.vm.findClass RX0 = some m.cls := hown
  refine lv_aload_n hx hb dX0_increase__0 rfl (lv_at hl 0 rfl) ?_
  refine lv_aload_n hx hb dX0_increase__1 rfl (lv_at hl 1 rfl) ?_
  refine va_get (D := D) (ci := ciW) (v := .long (zh y)) (C := RX0) (T := TX0) (N := 2) hx hb hts (by decide +kernel) hown hK hP k2 hk2 rfl 0 (by decide) (hts (.fieldLink RX0 9 "ExactDesk$Wide" "high" "J") (by decide +kernel)) (fun _ h9 => h9) rfl dX0_increase__2 ?_
  refine lv_aload_n hx hb dX0_increase__5 rfl (lv_at hl 1 rfl) ?_
  refine va_get (D := D) (ci := ciW) (v := .long (zl y)) (C := RX0) (T := TX0) (N := 2) hx hb hts (by decide +kernel) hown hK hP k2 hk2 rfl 1 (by decide) (hts (.fieldLink RX0 13 "ExactDesk$Wide" "low" "J") (by decide +kernel)) (fun _ h9 => h9) rfl dX0_increase__6 ?_
  refine xb_rv (va_runV (As := [.long (zh y), .long (zl y)]) (rest := []) ⟨hx, hb, hml, hown, hts⟩ (cW_addWords l D hk hz (zz_val hy) hs) (cwV 2 hts gX0_increase__X0_addWords rfl rfl rfl (by decide +kernel) ⟨Nat.le_of_ble_eq_true rfl, Nat.le_of_ble_eq_true rfl⟩) (xb_pv hP hK hD rfl rfl hk) rfl rfl hl.1 rfl (lv_room (Nat.le_of_ble_eq_true rfl)) dX0_increase__9 ⟨Nat.le_of_ble_eq_true rfl, Nat.le_of_ble_eq_true rfl⟩) hD hS hA (fun ws1 H locs hws1 hP hD hS => ?_)
  exact xb_vr hx hb hr hlocks hP hK hD hS dX0_increase__12 (hws1)
set_option maxHeartbeats 4000000 in
set_option maxRecDepth 100000 in
theorem cW_neg (l : Launch) (D : va_G) {tys : xT} {ws : va_W} {sz : Nat} {k h0 : Nat} {z : Int} (hk : ws[k]? = some (h0, wdI z)) (hz : zR z) (hs : zR (-z)) : xM l yX0_negate wsX0_negate ({ frames := 0, cells := 0, slots := 0, locals := 0 }) D tys ws sz [.ref h0] (xQv D tys (fun w => w = ws.set k (h0, wdI (-z)))) 0 0 := by
  refine xb_m (cc := cX0_negate) (maxL := 1) (ret := none) (by decide) rfl (Nat.le_of_ble_eq_true rfl) ?_
  intro p e s m below meth c A ls hx hb hr hml hown hts hlocks hnm hA hP hK hD hS hl
  have hl : lv_has ls 1 [(0, .ref h0)] := hl
  have hown : s.vm.findClass RX0 = some m.cls := hown
  refine lv_aload_n hx hb dX0_negate_0 rfl (lv_at hl 0 rfl) ?_
  refine lv_aload_n hx hb dX0_negate_1 rfl (lv_at hl 0 rfl) ?_
  refine va_get (D := D) (ci := ciW) (v := .long (zl z)) (C := RX0) (T := TX0) (N := 2) hx hb hts (by decide +kernel) hown hK hP k hk rfl 1 (by decide) (hts (.fieldLink RX0 13 "ExactDesk$Wide" "low" "J") (by decide +kernel)) (fun _ h9 => h9) rfl dX0_negate_2 ?_
  refine lv_lneg hx hb dX0_negate_5 ?_
  refine va_put (D := D) (ci := ciW) (v := .long (-(zl z))) (ty := .long) (C := RX0) (T := TX0) (N := 2) hx hb hts (by decide +kernel) tyX0 tyX0_ok nmX0 hown hK hP hD hS k hk rfl 1 (by decide) (hts (.fieldLink RX0 13 "ExactDesk$Wide" "low" "J") (by decide +kernel)) (fun _ h9 => h9) rfl (by decide +kernel) rfl rfl (Nat.le_of_ble_eq_true rfl) dX0_negate_6 (fun H locs hP hD hS => ?_)
  obtain ⟨ws1, hws1⟩ : ∃ q_, q_ = ws.set k (h0, .inr (ciW, [.long (zh z), .long (-(zl z))])) := ⟨_, rfl⟩
  have hP : va_P D vwCl ws1 H := by rw [hws1]; exact hP
  have hD : va_D A ws1 := by rw [hws1]; exact hD
  have hk : ws1[k]? = some (h0, .inr (ciW, [.long (zh z), .long (-(zl z))])) := by rw [hws1]; exact sgS hk
  refine lv_aload_n hx hb dX0_negate_9 rfl (lv_at hl 0 rfl) ?_
  refine lv_aload_n hx hb dX0_negate_10 rfl (lv_at hl 0 rfl) ?_
  refine va_get (D := D) (ci := ciW) (v := .long (-(zl z))) (C := RX0) (T := TX0) (N := 2) hx hb hts (by decide +kernel) hown hK hP k hk rfl 1 (by decide) (hts (.fieldLink RX0 13 "ExactDesk$Wide" "low" "J") (by decide +kernel)) (fun _ h9 => h9) rfl dX0_negate_11 ?_
  refine lv_lconst (v := 0) hx hb dX0_negate_14 (by decide) ?_
  refine W.lcmp hx hb dX0_negate_15 ?_
  refine lv_if_ne (tgt := 27) hx hb dX0_negate_16 (by decide) (fun c16 => ?_) (fun c16 => ?_)
  · rw [lg_cmp_eq] at c16
    refine lv_aload_n hx hb dX0_negate_27 rfl (lv_at hl 0 rfl) ?_
    refine va_get (D := D) (ci := ciW) (v := .long (zh z)) (C := RX0) (T := TX0) (N := 2) hx hb hts (by decide +kernel) hown hK hP k hk rfl 0 (by decide) (hts (.fieldLink RX0 9 "ExactDesk$Wide" "high" "J") (by decide +kernel)) (fun _ h9 => h9) rfl dX0_negate_28 ?_
    refine lv_ldc2 (v := (-1)) hx hb hown (hts (.constantLong RX0 26 (-1)) (by decide +kernel)) dX0_negate_31 ?_
    refine lv_lxor hx hb dX0_negate_34 ?_
    refine va_put (D := D) (ci := ciW) (v := .long ((zh z) ^^^ (-1))) (ty := .long) (C := RX0) (T := TX0) (N := 2) hx hb hts (by decide +kernel) tyX0 tyX0_ok nmX0 hown hK hP hD hS k hk rfl 0 (by decide) (hts (.fieldLink RX0 9 "ExactDesk$Wide" "high" "J") (by decide +kernel)) (fun _ h9 => h9) rfl (by decide +kernel) rfl rfl (Nat.le_of_ble_eq_true rfl) dX0_negate_35 (fun H locs hP hD hS => ?_)
    obtain ⟨ws2, hws2⟩ : ∃ q_, q_ = ws1.set k (h0, .inr (ciW, [.long ((zh z) ^^^ (-1)), .long (-(zl z))])) := ⟨_, rfl⟩
    have hP : va_P D vwCl ws2 H := by rw [hws2]; exact hP
    have hD : va_D A ws2 := by rw [hws2]; exact hD
    have hk : ws2[k]? = some (h0, .inr (ciW, [.long ((zh z) ^^^ (-1)), .long (-(zl z))])) := by rw [hws2]; exact sgS hk
    exact xb_vr hx hb hr hlocks hP hK hD hS dX0_negate_38 (by rw [hws2, hws1, List.set_set]; exact wd_eq (w_neg1 hz hs c16))
  · rw [lg_cmp_eq] at c16
    refine lv_aload_n hx hb dX0_negate_19 rfl (lv_at hl 0 rfl) ?_
    refine va_get (D := D) (ci := ciW) (v := .long (zh z)) (C := RX0) (T := TX0) (N := 2) hx hb hts (by decide +kernel) hown hK hP k hk rfl 0 (by decide) (hts (.fieldLink RX0 9 "ExactDesk$Wide" "high" "J") (by decide +kernel)) (fun _ h9 => h9) rfl dX0_negate_20 ?_
    refine lv_lneg hx hb dX0_negate_23 ?_
    refine lv_goto (tgt := 35) hx hb dX0_negate_24 (by decide) ?_
    refine va_put (D := D) (ci := ciW) (v := .long (-(zh z))) (ty := .long) (C := RX0) (T := TX0) (N := 2) hx hb hts (by decide +kernel) tyX0 tyX0_ok nmX0 hown hK hP hD hS k hk rfl 0 (by decide) (hts (.fieldLink RX0 9 "ExactDesk$Wide" "high" "J") (by decide +kernel)) (fun _ h9 => h9) rfl (by decide +kernel) rfl rfl (Nat.le_of_ble_eq_true rfl) dX0_negate_35 (fun H locs hP hD hS => ?_)
    obtain ⟨ws2, hws2⟩ : ∃ q_, q_ = ws1.set k (h0, .inr (ciW, [.long (-(zh z)), .long (-(zl z))])) := ⟨_, rfl⟩
    have hP : va_P D vwCl ws2 H := by rw [hws2]; exact hP
    have hD : va_D A ws2 := by rw [hws2]; exact hD
    have hk : ws2[k]? = some (h0, .inr (ciW, [.long (-(zh z)), .long (-(zl z))])) := by rw [hws2]; exact sgS hk
    exact xb_vr hx hb hr hlocks hP hK hD hS dX0_negate_38 (by rw [hws2, hws1, List.set_set]; exact wd_eq (w_neg0 hz hs c16))
set_option maxHeartbeats 4000000 in
set_option maxRecDepth 100000 in
theorem cW_isneg (l : Launch) (D : va_G) {tys : xT} {ws : va_W} {sz : Nat} {k h0 : Nat} {z : Int} (hk : ws[k]? = some (h0, wdI z)) (hz : zR z) : xM l yX0_isNegative wsX0_isNegative ({ frames := 0, cells := 0, slots := 0, locals := 0 }) D tys ws sz [.ref h0] (xQi D tys (fun r w => r = (if z < 0 then 1 else 0) ∧ ws = w)) 0 0 := by
  refine xb_m (cc := cX0_isNegative) (maxL := 1) (ret := (some .boolean)) (by decide) rfl (Nat.le_of_ble_eq_true rfl) ?_
  intro p e s m below meth c A ls hx hb hr hml hown hts hlocks hnm hA hP hK hD hS hl
  have hl : lv_has ls 1 [(0, .ref h0)] := hl
  have hown : s.vm.findClass RX0 = some m.cls := hown
  refine lv_aload_n hx hb dX0_isNegative_0 rfl (lv_at hl 0 rfl) ?_
  refine va_get (D := D) (ci := ciW) (v := .long (zh z)) (C := RX0) (T := TX0) (N := 2) hx hb hts (by decide +kernel) hown hK hP k hk rfl 0 (by decide) (hts (.fieldLink RX0 9 "ExactDesk$Wide" "high" "J") (by decide +kernel)) (fun _ h9 => h9) rfl dX0_isNegative_1 ?_
  refine lv_lconst (v := 0) hx hb dX0_isNegative_4 (by decide) ?_
  refine W.lcmp hx hb dX0_isNegative_5 ?_
  refine lv_if_ge (tgt := 13) hx hb dX0_isNegative_6 (by decide) (fun c6 => ?_) (fun c6 => ?_)
  · rw [lg_cmp_ge] at c6
    refine lv_iconst (v := 0) hx hb dX0_isNegative_13 (by decide) ?_
    exact xb_zr hx hb hr hlocks hP hK hD hS dX0_isNegative_14 rfl (⟨by rw [w_isneg hz] at c6; rw [if_neg (by omega)], rfl⟩)
  · rw [lg_cmp_ge] at c6
    refine lv_iconst (v := 1) hx hb dX0_isNegative_9 (by decide) ?_
    refine lv_goto (tgt := 14) hx hb dX0_isNegative_10 (by decide) ?_
    exact xb_zr hx hb hr hlocks hP hK hD hS dX0_isNegative_14 rfl (⟨by rw [w_isneg hz] at c6; rw [if_pos (by omega)], rfl⟩)
set_option maxHeartbeats 4000000 in
set_option maxRecDepth 100000 in
theorem cW_drop (l : Launch) (D : va_G) {tys : xT} {ws : va_W} {sz : Nat} {k h0 : Nat} {z : Int} (hk : ws[k]? = some (h0, wdI z)) (hz : zR z) (hs : zR (-z)) : xM l yX0_dropSign wsX0_dropSign ({ frames := 1, cells := 0, slots := 0, locals := 20 }) D tys ws sz [.ref h0] (xQv D tys (fun w => w = ws.set k (h0, wdI (z.natAbs : Int)))) 0 0 := by
  refine xb_m (cc := cX0_dropSign) (maxL := 1) (ret := none) (by decide) rfl (Nat.le_of_ble_eq_true rfl) ?_
  intro p e s m below meth c A ls hx hb hr hml hown hts hlocks hnm hA hP hK hD hS hl
  have hl : lv_has ls 1 [(0, .ref h0)] := hl
  have hown : s.vm.findClass RX0 = some m.cls := hown
  refine lv_aload_n hx hb dX0_dropSign_0 rfl (lv_at hl 0 rfl) ?_
  refine xb_ri (va_runV (As := []) (rest := []) ⟨hx, hb, hml, hown, hts⟩ (cW_isneg l D hk hz) (cwV 0 hts gX0_dropSign_X0_isNegative rfl rfl rfl (by decide +kernel) ⟨Nat.le_of_ble_eq_true rfl, Nat.le_of_ble_eq_true rfl⟩) (xb_pv hP hK hD rfl rfl hk) rfl rfl hl.1 rfl (lv_room (Nat.le_of_ble_eq_true rfl)) dX0_dropSign_1 ⟨Nat.le_of_ble_eq_true rfl, Nat.le_of_ble_eq_true rfl⟩) hD hS hA (fun r1 ws1 H locs hws1 hP hD hS => ?_)
  obtain ⟨hr1, rfl⟩ := hws1
  refine lv_if_eq (tgt := 11) hx hb dX0_dropSign_4 (by decide) (fun c4 => ?_) (fun c4 => ?_)
  · have c4 := bz_0 hr1 c4
    exact xb_vr hx hb hr hlocks hP hK hD hS dX0_dropSign_11 (by rw [show (z.natAbs : Int) = z by omega, set_same hk])
  · have c4 := bz_1 hr1 c4
    refine lv_aload_n hx hb dX0_dropSign_7 rfl (lv_at hl 0 rfl) ?_
    refine xb_rv (va_runV (As := []) (rest := []) ⟨hx, hb, hml, hown, hts⟩ (cW_neg l D hk hz hs) (cwV 0 hts gX0_dropSign_X0_negate rfl rfl rfl (by decide +kernel) ⟨Nat.le_of_ble_eq_true rfl, Nat.le_of_ble_eq_true rfl⟩) (xb_pv hP hK hD rfl rfl hk) rfl rfl hl.1 rfl (lv_room (Nat.le_of_ble_eq_true rfl)) dX0_dropSign_8 ⟨Nat.le_of_ble_eq_true rfl, Nat.le_of_ble_eq_true rfl⟩) hD hS hA (fun ws2 H locs hws2 hP hD hS => ?_)
    exact xb_vr hx hb hr hlocks hP hK hD hS dX0_dropSign_11 (by rw [show (z.natAbs : Int) = -z by omega]; exact hws2)
set_option maxHeartbeats 4000000 in
set_option maxRecDepth 100000 in
theorem cW_low (l : Launch) (D : va_G) {tys : xT} {ws : va_W} {sz : Nat} {k h0 : Nat} {z : Int} (hk : ws[k]? = some (h0, wdI z)) : xM l yX0_lowWord wsX0_lowWord ({ frames := 0, cells := 0, slots := 0, locals := 0 }) D tys ws sz [.ref h0] (xQl D tys (fun r w => r = zl z ∧ ws = w)) 0 0 := by
  refine xb_m (cc := cX0_lowWord) (maxL := 1) (ret := (some .long)) (by decide) rfl (Nat.le_of_ble_eq_true rfl) ?_
  intro p e s m below meth c A ls hx hb hr hml hown hts hlocks hnm hA hP hK hD hS hl
  have hl : lv_has ls 1 [(0, .ref h0)] := hl
  have hown : s.vm.findClass RX0 = some m.cls := hown
  refine lv_aload_n hx hb dX0_lowWord_0 rfl (lv_at hl 0 rfl) ?_
  refine va_get (D := D) (ci := ciW) (v := .long (zl z)) (C := RX0) (T := TX0) (N := 2) hx hb hts (by decide +kernel) hown hK hP k hk rfl 1 (by decide) (hts (.fieldLink RX0 13 "ExactDesk$Wide" "low" "J") (by decide +kernel)) (fun _ h9 => h9) rfl dX0_lowWord_1 ?_
  exact xb_lr hx hb hr hlocks hP hK hD hS dX0_lowWord_4 (⟨rfl, rfl⟩)
set_option maxHeartbeats 4000000 in
set_option maxRecDepth 100000 in
theorem cW_fits (l : Launch) (D : va_G) {tys : xT} {ws : va_W} {sz : Nat} {k h0 : Nat} {z : Int} (hk : ws[k]? = some (h0, wdI z)) (hz : zR z) : xM l yX0_fitsLong wsX0_fitsLong ({ frames := 0, cells := 0, slots := 0, locals := 0 }) D tys ws sz [.ref h0] (xQi D tys (fun r w => r = (if -9223372036854775808 ≤ z ∧ z < 9223372036854775808 then 1 else 0) ∧ ws = w)) 0 0 := by
  refine xb_m (cc := cX0_fitsLong) (maxL := 1) (ret := (some .boolean)) (by decide) rfl (Nat.le_of_ble_eq_true rfl) ?_
  intro p e s m below meth c A ls hx hb hr hml hown hts hlocks hnm hA hP hK hD hS hl
  have hl : lv_has ls 1 [(0, .ref h0)] := hl
  have hown : s.vm.findClass RX0 = some m.cls := hown
  refine lv_aload_n hx hb dX0_fitsLong_0 rfl (lv_at hl 0 rfl) ?_
  refine va_get (D := D) (ci := ciW) (v := .long (zh z)) (C := RX0) (T := TX0) (N := 2) hx hb hts (by decide +kernel) hown hK hP k hk rfl 0 (by decide) (hts (.fieldLink RX0 9 "ExactDesk$Wide" "high" "J") (by decide +kernel)) (fun _ h9 => h9) rfl dX0_fitsLong_1 ?_
  refine lv_aload_n hx hb dX0_fitsLong_4 rfl (lv_at hl 0 rfl) ?_
  refine va_get (D := D) (ci := ciW) (v := .long (zl z)) (C := RX0) (T := TX0) (N := 2) hx hb hts (by decide +kernel) hown hK hP k hk rfl 1 (by decide) (hts (.fieldLink RX0 13 "ExactDesk$Wide" "low" "J") (by decide +kernel)) (fun _ h9 => h9) rfl dX0_fitsLong_5 ?_
  refine lv_bipush (v := 63) hx hb dX0_fitsLong_8 (by decide) ?_
  refine lv_lshr hx hb dX0_fitsLong_10 rfl ?_
  refine W.lcmp hx hb dX0_fitsLong_11 ?_
  refine lv_if_ne (tgt := 19) hx hb dX0_fitsLong_12 (by decide) (fun c12 => ?_) (fun c12 => ?_)
  · rw [lg_cmp_eq] at c12
    refine lv_iconst (v := 0) hx hb dX0_fitsLong_19 (by decide) ?_
    exact xb_zr hx hb hr hlocks hP hK hD hS dX0_fitsLong_20 rfl (⟨by rw [w_fits hz] at c12; rw [if_neg c12], rfl⟩)
  · rw [lg_cmp_eq] at c12
    refine lv_iconst (v := 1) hx hb dX0_fitsLong_15 (by decide) ?_
    refine lv_goto (tgt := 20) hx hb dX0_fitsLong_16 (by decide) ?_
    exact xb_zr hx hb hr hlocks hP hK hD hS dX0_fitsLong_20 rfl (⟨by rw [w_fits hz] at c12; rw [if_pos c12], rfl⟩)
set_option maxHeartbeats 4000000 in
set_option maxRecDepth 100000 in
theorem cW_ord (l : Launch) (D : va_G) {tys : xT} {ws : va_W} {sz : Nat} {k h0 : Nat} {z : Int} (hk : ws[k]? = some (h0, wdI z)) {k2 h1 : Nat} {y : Int} (hk2 : ws[k2]? = some (h1, wdI y)) (hz : zR z) (hy : zR y) : xM l yX0_orderTo wsX0_orderTo ({ frames := 1, cells := 0, slots := 0, locals := 23 }) D tys ws sz [.ref h0, .ref h1] (xQi D tys (fun r w => r = sp_ord z y ∧ ws = w)) 0 0 := by
  refine xb_m (cc := cX0_orderTo) (maxL := 2) (ret := (some .int)) (by decide) rfl (Nat.le_of_ble_eq_true rfl) ?_
  intro p e s m below meth c A ls hx hb hr hml hown hts hlocks hnm hA hP hK hD hS hl
  have hl : lv_has ls 2 [(0, .ref h0), (1, .ref h1)] := hl
  have hown : s.vm.findClass RX0 = some m.cls := hown
  refine lv_aload_n hx hb dX0_orderTo_0 rfl (lv_at hl 0 rfl) ?_
  refine va_get (D := D) (ci := ciW) (v := .long (zh z)) (C := RX0) (T := TX0) (N := 2) hx hb hts (by decide +kernel) hown hK hP k hk rfl 0 (by decide) (hts (.fieldLink RX0 9 "ExactDesk$Wide" "high" "J") (by decide +kernel)) (fun _ h9 => h9) rfl dX0_orderTo_1 ?_
  refine lv_aload_n hx hb dX0_orderTo_4 rfl (lv_at hl 1 rfl) ?_
  refine va_get (D := D) (ci := ciW) (v := .long (zh y)) (C := RX0) (T := TX0) (N := 2) hx hb hts (by decide +kernel) hown hK hP k2 hk2 rfl 0 (by decide) (hts (.fieldLink RX0 9 "ExactDesk$Wide" "high" "J") (by decide +kernel)) (fun _ h9 => h9) rfl dX0_orderTo_5 ?_
  refine W.lcmp hx hb dX0_orderTo_8 ?_
  refine lv_if_eq (tgt := 30) hx hb dX0_orderTo_9 (by decide) (fun c9 => ?_) (fun c9 => ?_)
  · rw [lg_cmp_eq] at c9
    refine lv_aload_n hx hb dX0_orderTo_30 rfl (lv_at hl 0 rfl) ?_
    refine va_get (D := D) (ci := ciW) (v := .long (zl z)) (C := RX0) (T := TX0) (N := 2) hx hb hts (by decide +kernel) hown hK hP k hk rfl 1 (by decide) (hts (.fieldLink RX0 13 "ExactDesk$Wide" "low" "J") (by decide +kernel)) (fun _ h9 => h9) rfl dX0_orderTo_31 ?_
    refine lv_aload_n hx hb dX0_orderTo_34 rfl (lv_at hl 1 rfl) ?_
    refine va_get (D := D) (ci := ciW) (v := .long (zl y)) (C := RX0) (T := TX0) (N := 2) hx hb hts (by decide +kernel) hown hK hP k2 hk2 rfl 1 (by decide) (hts (.fieldLink RX0 13 "ExactDesk$Wide" "low" "J") (by decide +kernel)) (fun _ h9 => h9) rfl dX0_orderTo_35 ?_
    refine W.lcmp hx hb dX0_orderTo_38 ?_
    refine lv_if_eq (tgt := 62) hx hb dX0_orderTo_39 (by decide) (fun c39 => ?_) (fun c39 => ?_)
    · rw [lg_cmp_eq] at c39
      refine lv_iconst (v := 0) hx hb dX0_orderTo_62 (by decide) ?_
      exact xb_ir hx hb hr hlocks hP hK hD hS dX0_orderTo_63 (⟨by rw [w_he hz hy] at c9; rw [w_le] at c39; rw [sp_ord, if_neg (by omega), if_pos (by omega)], rfl⟩)
    · rw [lg_cmp_eq] at c39
      refine lv_aload_n hx hb dX0_orderTo_42 rfl (lv_at hl 0 rfl) ?_
      refine va_get (D := D) (ci := ciW) (v := .long (zl z)) (C := RX0) (T := TX0) (N := 2) hx hb hts (by decide +kernel) hown hK hP k hk rfl 1 (by decide) (hts (.fieldLink RX0 13 "ExactDesk$Wide" "low" "J") (by decide +kernel)) (fun _ h9 => h9) rfl dX0_orderTo_43 ?_
      refine lv_aload_n hx hb dX0_orderTo_46 rfl (lv_at hl 1 rfl) ?_
      refine va_get (D := D) (ci := ciW) (v := .long (zl y)) (C := RX0) (T := TX0) (N := 2) hx hb hts (by decide +kernel) hown hK hP k2 hk2 rfl 1 (by decide) (hts (.fieldLink RX0 13 "ExactDesk$Wide" "low" "J") (by decide +kernel)) (fun _ h9 => h9) rfl dX0_orderTo_47 ?_
      refine xb_ri (va_runS (As := [.long (zl z), .long (zl y)]) (rest := []) ⟨hx, hb, hml, hown, hts⟩ (cW_uless l D (zl z) (zl y)) (va_cwS 2 hts gX0_orderTo_X0_unsignedLess rfl rfl rfl (by decide +kernel) ⟨Nat.le_of_ble_eq_true rfl, Nat.le_of_ble_eq_true rfl⟩) (xb_ps rfl hP hK hD) rfl rfl hl.1 rfl (lv_room (Nat.le_of_ble_eq_true rfl)) dX0_orderTo_50 ⟨Nat.le_of_ble_eq_true rfl, Nat.le_of_ble_eq_true rfl⟩) hD hS hA (fun r50 ws1 H locs hws1 hP hD hS => ?_)
      obtain ⟨hr50, rfl⟩ := hws1
      refine lv_if_eq (tgt := 60) hx hb dX0_orderTo_53 (by decide) (fun c53 => ?_) (fun c53 => ?_)
      · have c53 := bz_0 hr50 c53
        refine lv_iconst (v := 1) hx hb dX0_orderTo_60 (by decide) ?_
        exact xb_ir hx hb hr hlocks hP hK hD hS dX0_orderTo_61 (⟨by rw [w_he hz hy] at c9; rw [w_le] at c39; rw [w_ll] at c53; rw [sp_ord, if_neg (by omega), if_neg (by omega)], rfl⟩)
      · have c53 := bz_1 hr50 c53
        refine lv_iconst (v := (-1)) hx hb dX0_orderTo_56 (by decide) ?_
        refine lv_goto (tgt := 61) hx hb dX0_orderTo_57 (by decide) ?_
        exact xb_ir hx hb hr hlocks hP hK hD hS dX0_orderTo_61 (⟨by rw [w_he hz hy] at c9; rw [w_le] at c39; rw [w_ll] at c53; rw [sp_ord, if_pos (by omega)], rfl⟩)
  · rw [lg_cmp_eq] at c9
    refine lv_aload_n hx hb dX0_orderTo_12 rfl (lv_at hl 0 rfl) ?_
    refine va_get (D := D) (ci := ciW) (v := .long (zh z)) (C := RX0) (T := TX0) (N := 2) hx hb hts (by decide +kernel) hown hK hP k hk rfl 0 (by decide) (hts (.fieldLink RX0 9 "ExactDesk$Wide" "high" "J") (by decide +kernel)) (fun _ h9 => h9) rfl dX0_orderTo_13 ?_
    refine lv_aload_n hx hb dX0_orderTo_16 rfl (lv_at hl 1 rfl) ?_
    refine va_get (D := D) (ci := ciW) (v := .long (zh y)) (C := RX0) (T := TX0) (N := 2) hx hb hts (by decide +kernel) hown hK hP k2 hk2 rfl 0 (by decide) (hts (.fieldLink RX0 9 "ExactDesk$Wide" "high" "J") (by decide +kernel)) (fun _ h9 => h9) rfl dX0_orderTo_17 ?_
    refine W.lcmp hx hb dX0_orderTo_20 ?_
    refine lv_if_ge (tgt := 28) hx hb dX0_orderTo_21 (by decide) (fun c21 => ?_) (fun c21 => ?_)
    · rw [lg_cmp_ge] at c21
      refine lv_iconst (v := 1) hx hb dX0_orderTo_28 (by decide) ?_
      exact xb_ir hx hb hr hlocks hP hK hD hS dX0_orderTo_29 (⟨by rw [w_he hz hy] at c9; rw [w_hle hy hz] at c21; rw [sp_ord, if_neg (by omega), if_neg (by omega)], rfl⟩)
    · rw [lg_cmp_ge] at c21
      refine lv_iconst (v := (-1)) hx hb dX0_orderTo_24 (by decide) ?_
      refine lv_goto (tgt := 29) hx hb dX0_orderTo_25 (by decide) ?_
      exact xb_ir hx hb hr hlocks hP hK hD hS dX0_orderTo_29 (⟨by rw [w_he hz hy] at c9; rw [w_hle hy hz] at c21; rw [sp_ord, if_pos (by omega)], rfl⟩)
set_option maxHeartbeats 4000000 in
set_option maxRecDepth 100000 in
theorem cW_div (l : Launch) (D : va_G) {tys : xT} {ws : va_W} {sz : Nat} {k h0 : Nat} {z : Int} (hk : ws[k]? = some (h0, wdI z)) (d : Int64) (h0z : 0 ≤ z) (hz : zR z) (hd0 : 0 < uN d) (hd : uN d ≤ 9223372036854775808) : xM l yX0_divideBy wsX0_divideBy ({ frames := 1, cells := 0, slots := 0, locals := 23 }) D tys ws sz [.ref h0, .long d] (xQl D tys (fun r w => w = ws.set k (h0, wdI (z / (uN d : Int))) ∧ (uN r : Int) = z % (uN d : Int))) 0 0 := by
  refine xb_m (cc := cX0_divideBy) (maxL := 6) (ret := (some .long)) (by decide) rfl (Nat.le_of_ble_eq_true rfl) ?_
  intro p e s m below meth c A ls hx hb hr hml hown hts hlocks hnm hA hP hK hD hS hl
  have hl : lv_has ls 6 [(0, .ref h0), (1, .long d)] := hl
  have hown : s.vm.findClass RX0 = some m.cls := hown
  have loop : ∀ (n i : Nat) (hi lo r : Int64) (x5 : Int32) (ws1 : va_W) (H : Heap) (locs : List Loc) (ls : Array Slot), i ≤ 128 → 128 < i + n → x5 = nI i → ws1 = ws.set k (h0, .inr (ciW, [.long hi, .long lo])) → dvI (uN d) z.toNat i (uN hi * 18446744073709551616 + uN lo) (uN r) → va_P D vwCl ws1 H → va_D A ws1 → va_S A s.heap H locs → lv_has ls 6 [(0, .ref h0), (1, .long d), (3, .long r), (5, .int x5)] → W p l e ({ frames := 1, cells := 0, slots := 0, locals := 23 }) s m [.ref h0, .long d].toArray below meth c H locs 0 0 (MQ below (xQl D tys (fun r w => w = ws.set k (h0, wdI (z / (uN d : Int))) ∧ (uN r : Int) = z % (uN d : Int)) A) [.ref h0, .long d].toArray s 0 0 A) (F0 m 5 ls []) := by
    intro n
    induction n with
    | zero =>
      intro i hi lo r x5 ws1 H locs ls h1 h2
      omega
    | succ n ih =>
      intro i hi lo r x5 ws1 H locs ls h1 h2 ex5 hws1 hI hP hD hS hl
      have hk : ws1[k]? = some (h0, .inr (ciW, [.long hi, .long lo])) := by rw [hws1]; exact sgS hk
      have hI_lt : uN r < uN d := by obtain ⟨T, Q, i1, i2, i3, i4, i5⟩ := hI; exact i5
      refine lv_iload hx hb dX0_divideBy_5 (lv_at hl 3 rfl) ?_
      refine lv_sipush (v := 128) hx hb dX0_divideBy_7 (by decide) ?_
      refine lv_icmp_ge (tgt := 81) hx hb dX0_divideBy_10 (by decide) (fun c10 => ?_) (fun c10 => ?_)
      · refine lv_lload_n hx hb dX0_divideBy_81 rfl (lv_at hl 2 rfl) ?_
        exact xb_lr hx hb hr hlocks hP hK hD hS dX0_divideBy_82 (dv_fin hws1 h0z hz hd0 hI c10 h1 ex5)
      · refine lv_lload_n hx hb dX0_divideBy_13 rfl (lv_at hl 2 rfl) ?_
        refine lv_iconst (v := 1) hx hb dX0_divideBy_14 (by decide) ?_
        refine lv_lshl hx hb dX0_divideBy_15 rfl ?_
        refine lv_aload_n hx hb dX0_divideBy_16 rfl (lv_at hl 0 rfl) ?_
        refine va_get (D := D) (ci := ciW) (v := .long hi) (C := RX0) (T := TX0) (N := 2) hx hb hts (by decide +kernel) hown hK hP k hk rfl 0 (by decide) (hts (.fieldLink RX0 9 "ExactDesk$Wide" "high" "J") (by decide +kernel)) (fun _ h9 => h9) rfl dX0_divideBy_17 ?_
        refine lv_bipush (v := 63) hx hb dX0_divideBy_20 (by decide) ?_
        refine lv_lushr hx hb dX0_divideBy_22 rfl ?_
        refine lv_lor hx hb dX0_divideBy_23 ?_
        refine lv_lstore_n (lv' := [(3, .long ((r <<< ((1 : Int32).toInt64 &&& 63)) ||| ((hi.toUInt64 >>> ((63 : Int32).toInt64.toUInt64 &&& Int64.toUInt64 63)).toInt64))), (0, .ref h0), (1, .long d), (5, .int x5)]) hx hb dX0_divideBy_24 rfl hl (by decide) rfl (fun ls hl => ?_)
        refine lv_aload_n hx hb dX0_divideBy_25 rfl (lv_at hl 1 rfl) ?_
        refine lv_aload_n hx hb dX0_divideBy_26 rfl (lv_at hl 1 rfl) ?_
        refine va_get (D := D) (ci := ciW) (v := .long hi) (C := RX0) (T := TX0) (N := 2) hx hb hts (by decide +kernel) hown hK hP k hk rfl 0 (by decide) (hts (.fieldLink RX0 9 "ExactDesk$Wide" "high" "J") (by decide +kernel)) (fun _ h9 => h9) rfl dX0_divideBy_27 ?_
        refine lv_iconst (v := 1) hx hb dX0_divideBy_30 (by decide) ?_
        refine lv_lshl hx hb dX0_divideBy_31 rfl ?_
        refine lv_aload_n hx hb dX0_divideBy_32 rfl (lv_at hl 1 rfl) ?_
        refine va_get (D := D) (ci := ciW) (v := .long lo) (C := RX0) (T := TX0) (N := 2) hx hb hts (by decide +kernel) hown hK hP k hk rfl 1 (by decide) (hts (.fieldLink RX0 13 "ExactDesk$Wide" "low" "J") (by decide +kernel)) (fun _ h9 => h9) rfl dX0_divideBy_33 ?_
        refine lv_bipush (v := 63) hx hb dX0_divideBy_36 (by decide) ?_
        refine lv_lushr hx hb dX0_divideBy_38 rfl ?_
        refine lv_lor hx hb dX0_divideBy_39 ?_
        refine va_put (D := D) (ci := ciW) (v := .long ((hi <<< ((1 : Int32).toInt64 &&& 63)) ||| ((lo.toUInt64 >>> ((63 : Int32).toInt64.toUInt64 &&& Int64.toUInt64 63)).toInt64))) (ty := .long) (C := RX0) (T := TX0) (N := 2) hx hb hts (by decide +kernel) tyX0 tyX0_ok nmX0 hown hK hP hD hS k hk rfl 0 (by decide) (hts (.fieldLink RX0 9 "ExactDesk$Wide" "high" "J") (by decide +kernel)) (fun _ h9 => h9) rfl (by decide +kernel) rfl rfl (Nat.le_of_ble_eq_true rfl) dX0_divideBy_40 (fun H locs hP hD hS => ?_)
        obtain ⟨ws2, hws2⟩ : ∃ q_, q_ = ws1.set k (h0, .inr (ciW, [.long ((hi <<< ((1 : Int32).toInt64 &&& 63)) ||| ((lo.toUInt64 >>> ((63 : Int32).toInt64.toUInt64 &&& Int64.toUInt64 63)).toInt64)), .long lo])) := ⟨_, rfl⟩
        have hP : va_P D vwCl ws2 H := by rw [hws2]; exact hP
        have hD : va_D A ws2 := by rw [hws2]; exact hD
        have hk : ws2[k]? = some (h0, .inr (ciW, [.long ((hi <<< ((1 : Int32).toInt64 &&& 63)) ||| ((lo.toUInt64 >>> ((63 : Int32).toInt64.toUInt64 &&& Int64.toUInt64 63)).toInt64)), .long lo])) := by rw [hws2]; exact sgS hk
        refine lv_aload_n hx hb dX0_divideBy_43 rfl (lv_at hl 1 rfl) ?_
        refine lv_aload_n hx hb dX0_divideBy_44 rfl (lv_at hl 1 rfl) ?_
        refine va_get (D := D) (ci := ciW) (v := .long lo) (C := RX0) (T := TX0) (N := 2) hx hb hts (by decide +kernel) hown hK hP k hk rfl 1 (by decide) (hts (.fieldLink RX0 13 "ExactDesk$Wide" "low" "J") (by decide +kernel)) (fun _ h9 => h9) rfl dX0_divideBy_45 ?_
        refine lv_iconst (v := 1) hx hb dX0_divideBy_48 (by decide) ?_
        refine lv_lshl hx hb dX0_divideBy_49 rfl ?_
        refine va_put (D := D) (ci := ciW) (v := .long (lo <<< ((1 : Int32).toInt64 &&& 63))) (ty := .long) (C := RX0) (T := TX0) (N := 2) hx hb hts (by decide +kernel) tyX0 tyX0_ok nmX0 hown hK hP hD hS k hk rfl 1 (by decide) (hts (.fieldLink RX0 13 "ExactDesk$Wide" "low" "J") (by decide +kernel)) (fun _ h9 => h9) rfl (by decide +kernel) rfl rfl (Nat.le_of_ble_eq_true rfl) dX0_divideBy_50 (fun H locs hP hD hS => ?_)
        obtain ⟨ws3, hws3⟩ : ∃ q_, q_ = ws2.set k (h0, .inr (ciW, [.long ((hi <<< ((1 : Int32).toInt64 &&& 63)) ||| ((lo.toUInt64 >>> ((63 : Int32).toInt64.toUInt64 &&& Int64.toUInt64 63)).toInt64)), .long (lo <<< ((1 : Int32).toInt64 &&& 63))])) := ⟨_, rfl⟩
        have hP : va_P D vwCl ws3 H := by rw [hws3]; exact hP
        have hD : va_D A ws3 := by rw [hws3]; exact hD
        have hk : ws3[k]? = some (h0, .inr (ciW, [.long ((hi <<< ((1 : Int32).toInt64 &&& 63)) ||| ((lo.toUInt64 >>> ((63 : Int32).toInt64.toUInt64 &&& Int64.toUInt64 63)).toInt64)), .long (lo <<< ((1 : Int32).toInt64 &&& 63))])) := by rw [hws3]; exact sgS hk
        refine lv_lload_n hx hb dX0_divideBy_53 rfl (lv_at hl 0 rfl) ?_
        refine lv_lload_n hx hb dX0_divideBy_54 rfl (lv_at hl 2 rfl) ?_
        refine xb_ri (va_runS (As := [.long ((r <<< ((1 : Int32).toInt64 &&& 63)) ||| ((hi.toUInt64 >>> ((63 : Int32).toInt64.toUInt64 &&& Int64.toUInt64 63)).toInt64)), .long d]) (rest := []) ⟨hx, hb, hml, hown, hts⟩ (cW_uless l D ((r <<< ((1 : Int32).toInt64 &&& 63)) ||| ((hi.toUInt64 >>> ((63 : Int32).toInt64.toUInt64 &&& Int64.toUInt64 63)).toInt64)) d) (va_cwS 2 hts gX0_divideBy_X0_unsignedLess rfl rfl rfl (by decide +kernel) ⟨Nat.le_of_ble_eq_true rfl, Nat.le_of_ble_eq_true rfl⟩) (xb_ps rfl hP hK hD) rfl rfl hl.1 rfl (lv_room (Nat.le_of_ble_eq_true rfl)) dX0_divideBy_55 ⟨Nat.le_of_ble_eq_true rfl, Nat.le_of_ble_eq_true rfl⟩) hD hS hA (fun r55 ws4 H locs hws4 hP hD hS => ?_)
        obtain ⟨hr55, rfl⟩ := hws4
        refine lv_if_ne (tgt := 75) hx hb dX0_divideBy_58 (by decide) (fun c58 => ?_) (fun c58 => ?_)
        · have c58 := bz_1 hr55 c58
          refine lv_iinc (v := x5 + 1) (lv' := [(5, .int (x5 + 1)), (3, .long ((r <<< ((1 : Int32).toInt64 &&& 63)) ||| ((hi.toUInt64 >>> ((63 : Int32).toInt64.toUInt64 &&& Int64.toUInt64 63)).toInt64))), (0, .ref h0), (1, .long d)]) hx hb dX0_divideBy_75 hl (k := 3) rfl (by rfl) (by decide) rfl (fun ls hl => ?_)
          refine lv_goto (tgt := 5) hx hb dX0_divideBy_78 (by decide) ?_
          have hi8 : i < 128 := by
            rcases Nat.lt_or_ge i 128 with q | q
            · exact q
            · exact absurd (by rw [ex5]; exact nI_le q (by omega)) c10
          have q1 := dv_words (hi := hi) (lo := lo) (r := r) (D := uN d) hI_lt hd
          have q2 := dv_step (i := i) hi8 hI
          refine ih (i + 1) ((hi <<< ((1 : Int32).toInt64 &&& 63)) ||| ((lo.toUInt64 >>> ((63 : Int32).toInt64.toUInt64 &&& Int64.toUInt64 63)).toInt64)) (lo <<< ((1 : Int32).toInt64 &&& 63)) ((r <<< ((1 : Int32).toInt64 &&& 63)) ||| ((hi.toUInt64 >>> ((63 : Int32).toInt64.toUInt64 &&& Int64.toUInt64 63)).toInt64)) (x5 + 1) ws3 H locs ls (by omega) (by omega) (by rw [ex5]; exact nI_1 i) (by rw [hws3, hws2, hws1, List.set_set, List.set_set]) ?_ hP hD hS (lv_sub hl [2, 3, 1, 0] rfl)
          rw [q1.2, q1.1]
          rw [q1.1] at c58
          exact q2.1 c58
        · have c58 := bz_0 hr55 c58
          refine lv_lload_n hx hb dX0_divideBy_61 rfl (lv_at hl 0 rfl) ?_
          refine lv_lload_n hx hb dX0_divideBy_62 rfl (lv_at hl 2 rfl) ?_
          refine lv_lsub hx hb dX0_divideBy_63 ?_
          refine lv_lstore_n (lv' := [(3, .long (((r <<< ((1 : Int32).toInt64 &&& 63)) ||| ((hi.toUInt64 >>> ((63 : Int32).toInt64.toUInt64 &&& Int64.toUInt64 63)).toInt64)) - d)), (0, .ref h0), (1, .long d), (5, .int x5)]) hx hb dX0_divideBy_64 rfl hl (by decide) rfl (fun ls hl => ?_)
          refine lv_aload_n hx hb dX0_divideBy_65 rfl (lv_at hl 1 rfl) ?_
          refine lv_dup hx hb dX0_divideBy_66 rfl ?_
          refine va_get (D := D) (ci := ciW) (v := .long (lo <<< ((1 : Int32).toInt64 &&& 63))) (C := RX0) (T := TX0) (N := 2) hx hb hts (by decide +kernel) hown hK hP k hk rfl 1 (by decide) (hts (.fieldLink RX0 13 "ExactDesk$Wide" "low" "J") (by decide +kernel)) (fun _ h9 => h9) rfl dX0_divideBy_67 ?_
          refine lv_lconst (v := 1) hx hb dX0_divideBy_70 (by decide) ?_
          refine lv_lor hx hb dX0_divideBy_71 ?_
          refine va_put (D := D) (ci := ciW) (v := .long ((lo <<< ((1 : Int32).toInt64 &&& 63)) ||| 1)) (ty := .long) (C := RX0) (T := TX0) (N := 2) hx hb hts (by decide +kernel) tyX0 tyX0_ok nmX0 hown hK hP hD hS k hk rfl 1 (by decide) (hts (.fieldLink RX0 13 "ExactDesk$Wide" "low" "J") (by decide +kernel)) (fun _ h9 => h9) rfl (by decide +kernel) rfl rfl (Nat.le_of_ble_eq_true rfl) dX0_divideBy_72 (fun H locs hP hD hS => ?_)
          obtain ⟨ws5, hws5⟩ : ∃ q_, q_ = ws3.set k (h0, .inr (ciW, [.long ((hi <<< ((1 : Int32).toInt64 &&& 63)) ||| ((lo.toUInt64 >>> ((63 : Int32).toInt64.toUInt64 &&& Int64.toUInt64 63)).toInt64)), .long ((lo <<< ((1 : Int32).toInt64 &&& 63)) ||| 1)])) := ⟨_, rfl⟩
          have hP : va_P D vwCl ws5 H := by rw [hws5]; exact hP
          have hD : va_D A ws5 := by rw [hws5]; exact hD
          have hk : ws5[k]? = some (h0, .inr (ciW, [.long ((hi <<< ((1 : Int32).toInt64 &&& 63)) ||| ((lo.toUInt64 >>> ((63 : Int32).toInt64.toUInt64 &&& Int64.toUInt64 63)).toInt64)), .long ((lo <<< ((1 : Int32).toInt64 &&& 63)) ||| 1)])) := by rw [hws5]; exact sgS hk
          refine lv_iinc (v := x5 + 1) (lv' := [(5, .int (x5 + 1)), (3, .long (((r <<< ((1 : Int32).toInt64 &&& 63)) ||| ((hi.toUInt64 >>> ((63 : Int32).toInt64.toUInt64 &&& Int64.toUInt64 63)).toInt64)) - d)), (0, .ref h0), (1, .long d)]) hx hb dX0_divideBy_75 hl (k := 3) rfl (by rfl) (by decide) rfl (fun ls hl => ?_)
          refine lv_goto (tgt := 5) hx hb dX0_divideBy_78 (by decide) ?_
          have hi8 : i < 128 := by
            rcases Nat.lt_or_ge i 128 with q | q
            · exact q
            · exact absurd (by rw [ex5]; exact nI_le q (by omega)) c10
          have q1 := dv_words (hi := hi) (lo := lo) (r := r) (D := uN d) hI_lt hd
          have q2 := dv_step (i := i) hi8 hI
          rw [q1.1] at c58
          have q3 := q2.2 (by omega)
          refine ih (i + 1) ((hi <<< ((1 : Int32).toInt64 &&& 63)) ||| ((lo.toUInt64 >>> ((63 : Int32).toInt64.toUInt64 &&& Int64.toUInt64 63)).toInt64)) ((lo <<< ((1 : Int32).toInt64 &&& 63)) ||| 1) (((r <<< ((1 : Int32).toInt64 &&& 63)) ||| ((hi.toUInt64 >>> ((63 : Int32).toInt64.toUInt64 &&& Int64.toUInt64 63)).toInt64)) - d) (x5 + 1) ws5 H locs ls (by omega) (by omega) (by rw [ex5]; exact nI_1 i) (by rw [hws5, hws3, hws2, hws1, List.set_set, List.set_set, List.set_set]) ?_ hP hD hS (lv_sub hl [2, 3, 1, 0] rfl)
          rw [dv_or, ← Nat.add_assoc, q1.2, dv_sub (by rw [q1.1]; omega), q1.1]
          exact q3
  refine lv_lconst (v := 0) hx hb dX0_divideBy_0 (by decide) ?_
  refine lv_lstore_n (lv' := [(3, .long 0), (0, .ref h0), (1, .long d)]) hx hb dX0_divideBy_1 rfl hl (by decide) rfl (fun ls hl => ?_)
  refine lv_iconst (v := 0) hx hb dX0_divideBy_2 (by decide) ?_
  refine lv_istore (lv' := [(5, .int 0), (3, .long 0), (0, .ref h0), (1, .long d)]) hx hb dX0_divideBy_3 hl (by decide) rfl (fun ls hl => ?_)
  exact loop 129 0 (zh z) (zl z) 0 0 ws s.heap [] ls (by omega) (by omega) nI_0.symm (set_same hk).symm (by rw [dv_in h0z hz, un_0]; exact dv_0 hd0 (dv_nlt hz)) hP hD hS (lv_sub hl [2, 3, 1, 0] rfl)
end
section
/-! the desk's arrays at work -/
section XD2
variable {p : Program} {l : Launch} {e : Env} {R : Room} {s : State} {m : MethodId} {args : Array Value} {below : List Frame} {meth : Method} {c : Code} {H : Heap} {locs : List Loc} {cells slots : Nat} {Q : State → Prop}
variable {cc : ByteArray} {pc : Nat} {ls : Array Slot} {rest : List Value} {D : va_G} {A : Nat → Prop} {H0 : Heap}
variable {w0 ws : va_W} {tys : xT} {ad : Nat → Nat} {cA : Nat → ClassId} {g : Nat → Option Nat} {rf : Nat → Int64} {tv : Nat → Int} {o : Int}
theorem xd_lld (hx : p.tables.exec = Jvm.exec) (hb : c.code = cc) (hK : va_K D vwCl tys s) (hP : va_P D vwCl ws H) (X : xd w0 ws tys ad cA g rf tv o) {r : Int32} (h : ¬ r < 0 ∧ r < 8) (hdg : decode cc pc = .ok (.laload, 1))
    (kk : W p l e R s m args below meth c H locs cells slots Q (F0 m (pc + 1) ls (.long (rf r.toNatClampNeg) :: rest))) : W p l e R s m args below meth c H locs cells slots Q (F0 m pc ls (.int r :: .ref (ad 1) :: rest)) :=
  va_lald hx hb hK hP 1 0 (xd_a1 X) (xd_t0 X) (in8 h) hdg kk
theorem xd_ald (hx : p.tables.exec = Jvm.exec) (hb : c.code = cc) (hK : va_K D vwCl tys s) (hP : va_P D vwCl ws H) (X : xd w0 ws tys ad cA g rf tv o) {t : Int32} (h : ¬ t < 0 ∧ t < 4) (hdg : decode cc pc = .ok (.aaload, 1))
    (kk : W p l e R s m args below meth c H locs cells slots Q (F0 m (pc + 1) ls (.ref (ad (3 + t.toNatClampNeg)) :: rest))) : W p l e R s m args below meth c H locs cells slots Q (F0 m pc ls (.int t :: .ref (ad 2) :: rest)) := by
  refine va_aldq hx hb hK hP 2 1 (xd_a2 X) (xd_t1 X) (in4 h) hdg ?_
  rw [xd_gj X (vin_lt (in4 h))]
  exact kk
theorem xd_lst (hx : p.tables.exec = Jvm.exec) (hb : c.code = cc) (hK : va_K D vwCl tys s) (hP : va_P D vwCl ws H) (hD : va_D A ws) (hS : va_S A H0 H locs) (X : xd w0 ws tys ad cA g rf tv o) {r : Int32} {v : Int64} (h : ¬ r < 0 ∧ r < 8) (hdg : decode cc pc = .ok (.lastore, 1))
    (kk : ∀ (ws1 : va_W) (H1 : Heap) (locs1 : List Loc), xd w0 ws1 tys ad cA g (vp_updL rf r.toNatClampNeg v) tv o → va_P D vwCl ws1 H1 → va_D A ws1 → va_S A H0 H1 locs1 → W p l e R s m args below meth c H1 locs1 cells slots Q (F0 m (pc + 1) ls rest)) : W p l e R s m args below meth c H locs cells slots Q (F0 m pc ls (.long v :: .int r :: .ref (ad 1) :: rest)) :=
  va_last hx hb hK hP hD hS 1 0 (xd_a1 X) (xd_t0 X) (in8 h) hdg (fun H1 locs1 hP1 hD1 hS1 => kk _ H1 locs1 (xd_setR X rfl) hP1 hD1 hS1)
end XD2
theorem j4 {t : Int32} (h : ¬ t < 0 ∧ t < 4) : t.toNatClampNeg < 4 := vin_lt (in4 h)
theorem zr_l (a : Int64) : zR a.toInt := by
  have h1 := un_lo a
  have h2 := un_hi a
  constructor <;> omega
theorem zr_n (a : Int64) : zR (-a.toInt) := by
  have h1 := un_lo a
  have h2 := un_hi a
  constructor <;> omega
theorem zr_a (a b : Int64) : zR (a.toInt + b.toInt) := by
  have h1 := un_lo a
  have h2 := un_hi a
  have h3 := un_lo b
  have h4 := un_hi b
  constructor <;> omega
theorem zr_s (a b : Int64) : zR (-a.toInt + b.toInt) := by
  have h1 := un_lo a
  have h2 := un_hi a
  have h3 := un_lo b
  have h4 := un_hi b
  constructor <;> omega
theorem mul_b (a b : Int64) : -85070591730234615865843651857942052864 ≤ a.toInt * b.toInt ∧ a.toInt * b.toInt ≤ 85070591730234615865843651857942052864 := by
  have h1 := un_lo a
  have h2 := un_hi a
  have h3 := un_lo b
  have h4 := un_hi b
  by_cases q : 0 ≤ b.toInt
  · have := mul_rng (a := 9223372036854775808) (b := 9223372036854775808) (c := 9223372036854775808) (p := a.toInt) (by omega) (by omega) q (by omega) (by decide) (by decide)
    omega
  · have := mul_rng (a := 9223372036854775808) (b := 9223372036854775808) (c := 9223372036854775808) (p := a.toInt) (t := -b.toInt) (by omega) (by omega) (by omega) (by omega) (by decide) (by decide)
    rw [Int.mul_neg] at this
    omega
theorem zr_m (a b : Int64) : zR (a.toInt * b.toInt) := by
  have h := mul_b a b
  constructor <;> omega
theorem ord_lt (a b : Int) : sp_ord a b < 0 ↔ a < b := by
  unfold sp_ord
  split
  · exact ⟨fun _ => by assumption, fun _ => by decide⟩
  · split
    · exact ⟨fun q => absurd q (by decide), fun q => by omega⟩
    · exact ⟨fun q => absurd q (by decide), fun q => by omega⟩
theorem ord_gt (a b : Int) : 0 < sp_ord a b ↔ b < a := by
  unfold sp_ord
  split
  · exact ⟨fun q => absurd q (by decide), fun q => by omega⟩
  · split
    · exact ⟨fun q => absurd q (by decide), fun q => by omega⟩
    · exact ⟨fun _ => by omega, fun _ => by decide⟩
theorem okW_c {w : Int32} (h : ¬ w < 0 ∧ ¬ 3 < w) : w = 0 ∨ w = 1 ∨ w = 2 ∨ w = 3 := by
  obtain ⟨h1, h2⟩ := h
  rw [Int32.lt_iff_toInt_lt] at h1 h2
  have e0 : (0 : Int32).toInt = 0 := by decide
  have e1 : (1 : Int32).toInt = 1 := by decide
  have e2 : (2 : Int32).toInt = 2 := by decide
  have e3 : (3 : Int32).toInt = 3 := by decide
  rw [← Int32.toInt_inj, ← Int32.toInt_inj, ← Int32.toInt_inj, ← Int32.toInt_inj]
  omega
theorem rq0 (r d : Nat) (ng : Prop) : rq_up r d ng 0 ↔ (ng ∧ r ≠ 0) := by
  have a : ¬ (0 : Int32) = 1 := by decide
  have b : ¬ (0 : Int32) = 3 := by decide
  simp [rq_up, a, b]
theorem rq1 (r d : Nat) (ng : Prop) : rq_up r d ng 1 ↔ (¬ ng ∧ r ≠ 0) := by
  have a : ¬ (1 : Int32) = 0 := by decide
  have b : ¬ (1 : Int32) = 3 := by decide
  simp [rq_up, a, b]
theorem rq2 (r d : Nat) (ng : Prop) : ¬ rq_up r d ng 2 := by
  have a : ¬ (2 : Int32) = 0 := by decide
  have b : ¬ (2 : Int32) = 1 := by decide
  have c : ¬ (2 : Int32) = 3 := by decide
  simp [rq_up, a, b, c]
theorem rq3 (r d : Nat) (ng : Prop) : rq_up r d ng 3 ↔ d ≤ 2 * r := by
  have a : ¬ (3 : Int32) = 0 := by decide
  have b : ¬ (3 : Int32) = 1 := by decide
  simp [rq_up, a, b]
theorem un_ne {r : Int64} (h : ¬ r = 0) : uN r ≠ 0 := fun q => h (uN_inj (q.trans un_0.symm))
theorem un_e0 {r : Int64} (h : r = 0) : ¬ uN r ≠ 0 := fun q => q (by rw [h]; exact un_0)
theorem half_c {r d : Int64} (h1 : uN r < uN d) (h2 : uN d ≤ 9223372036854775808) : (r ≤ d - 1 - r) ↔ ¬ uN d ≤ 2 * uN r := by
  have a := un_sub (d - 1) r
  have b := un_sub d 1
  have b' := un_c (d - 1)
  have c := un_c d
  have e := un_c r
  have f : (1 : Int64).toInt = 1 := by decide
  have g : (d - 1 - r).toInt = (uN d : Int) - 1 - uN r := un_eq (by omega) (by omega) (by omega)
  have i : r.toInt = (uN r : Int) := un_eq (by omega) (by omega) (by omega)
  rw [Int64.le_iff_toInt_le, g, i]
  omega
/-- the size of a divisor -/
theorem sz_neg {c : Int64} (h : ¬ 0 ≤ c) : uN (-c) = c.toInt.natAbs := by
  rw [Int64.le_iff_toInt_le] at h
  have e : (0 : Int64).toInt = 0 := by decide
  have a := un_neg c
  have b := un_lo c
  omega
theorem sz_pos {c : Int64} (h : 0 ≤ c) : uN c = c.toInt.natAbs := by
  rw [Int64.le_iff_toInt_le] at h
  have e : (0 : Int64).toInt = 0 := by decide
  have a := un_c c
  have b := un_hi c
  omega
theorem l_neg {c : Int64} : (0 ≤ c) ↔ ¬ c.toInt < 0 := by
  rw [Int64.le_iff_toInt_le]
  have e : (0 : Int64).toInt = 0 := by decide
  omega
theorem l_ne {c : Int64} (h : ¬ c = 0) : 0 < c.toInt.natAbs := by
  have a : c.toInt ≠ 0 := fun q => h (Int64.toInt_inj.mp (by rw [q]; decide))
  omega
theorem l_abs (c : Int64) : c.toInt.natAbs ≤ 9223372036854775808 := by
  have a := un_lo c
  have b := un_hi c
  omega
theorem rq_szb {n d : Int} {w : Int32} (h1 : -85070591730234615865843651857942052864 ≤ n) (h2 : n ≤ 85070591730234615865843651857942052864) : 0 ≤ rq_sz n d w ∧ rq_sz n d w ≤ 85070591730234615865843651857942052865 := by
  unfold rq_sz
  have : n.natAbs / d.natAbs ≤ n.natAbs := Nat.div_le_self _ _
  generalize n.natAbs / d.natAbs = q at *
  split <;> omega
theorem rq_b {n d : Int} {w : Int32} (h1 : -85070591730234615865843651857942052864 ≤ n) (h2 : n ≤ 85070591730234615865843651857942052864) : zR (rq n d w) := by
  have h := rq_szb (d := d) (w := w) h1 h2
  unfold rq
  split <;> constructor <;> omega
theorem zr_e {a b : Int64} {y : Int} (y1 : -1000000000000000000000000000000000000 < y) (y2 : y < 1000000000000000000000000000000000000) : zR (a.toInt * b.toInt + y) := by
  have h := mul_b a b
  constructor <;> omega
theorem zr_t {x y : Int} (x1 : -1000000000000000000000000000000000000 < x) (x2 : x < 1000000000000000000000000000000000000) (y1 : -1000000000000000000000000000000000000 < y) (y2 : y < 1000000000000000000000000000000000000) : zR (x + y) := by
  constructor <;> omega
theorem zr_ab {x : Int} (h : zR x) (h2 : zR (-x)) : zR (x.natAbs : Int) := by
  obtain ⟨a, b⟩ := h
  obtain ⟨c, d⟩ := h2
  constructor <;> omega
theorem zr_x {x : Int} (x1 : -1000000000000000000000000000000000000 < x) (x2 : x < 1000000000000000000000000000000000000) : zR x ∧ zR (-x) ∧ zR (x.natAbs : Int) := by
  refine ⟨?_, ?_, ?_⟩ <;> constructor <;> omega
theorem sz_fin {o : Int} {sz c r : Int64} (hs : uN sz = c.toInt.natAbs) (hr : (uN r : Int) = (o.natAbs : Int) % (uN sz : Int)) : uN r = o.natAbs % c.toInt.natAbs ∧ (o.natAbs : Int) / (uN sz : Int) = ((o.natAbs / c.toInt.natAbs : Nat) : Int) := by
  rw [hs] at hr ⊢
  rw [← Int.natCast_emod] at hr
  rw [← Int.natCast_ediv]
  exact ⟨Int.natCast_inj.mp hr, rfl⟩
theorem un_18 : uN 1000000000000000000 = 1000000000000000000 := by decide
theorem div_b {n : Nat} {d : Nat} : (0 : Int) ≤ (n : Int) / (d : Int) ∧ (n : Int) / (d : Int) ≤ (n : Int) := by
  rw [← Int.natCast_ediv]
  have := Nat.div_le_self n d
  generalize n / d = q at *
  omega
theorem sp_p {z : Int} {d r : Int64} (hz : ¬ z < 0) (hd : 0 < d.toInt) (hr : (uN r : Int) = (z.natAbs : Int) % (uN d : Int)) : r = zl (z.tmod d.toInt) ∧ (z.natAbs : Int) / (uN d : Int) = z.tdiv d.toInt := by
  have a := un_c d
  have b := un_hi d
  have e : (uN d : Int) = d.toInt := by omega
  have f : (z.natAbs : Int) = z := by omega
  rw [e, f] at hr
  rw [e, f, Int.tmod_eq_emod_of_nonneg (by omega), Int.tdiv_eq_ediv_of_nonneg (by omega)]
  refine ⟨uN_inj ?_, rfl⟩
  have g := zl_un (z % d.toInt)
  have h := uN_lt r
  omega
theorem sp_n {z : Int} {d r : Int64} (hz : z < 0) (hd : 0 < d.toInt) (hr : (uN r : Int) = (z.natAbs : Int) % (uN d : Int)) : -r = zl (z.tmod d.toInt) ∧ -((z.natAbs : Int) / (uN d : Int)) = z.tdiv d.toInt := by
  have a := un_c d
  have b := un_hi d
  have e : (uN d : Int) = d.toInt := by omega
  obtain ⟨n, rfl⟩ : ∃ n : Nat, z = -(n : Int) := ⟨z.natAbs, by omega⟩
  have f : ((-(n : Int)).natAbs : Int) = n := by omega
  rw [e, f] at hr
  rw [e, f, Int.neg_tmod, Int.neg_tdiv, Int.tmod_eq_emod_of_nonneg (by omega), Int.tdiv_eq_ediv_of_nonneg (by omega)]
  refine ⟨uN_inj ?_, rfl⟩
  have g := zl_un (-((n : Int) % d.toInt))
  have h := uN_lt r
  have i := un_neg r
  have j := un_c r
  omega
theorem tdiv_b {z d : Int} (z1 : -1000000000000000000000000000000000000 < z) (z2 : z < 1000000000000000000000000000000000000) : -1000000000000000000000000000000000000 < z.tdiv d ∧ z.tdiv d < 1000000000000000000000000000000000000 := by
  have h := Int.natAbs_tdiv_le_natAbs z d
  omega
theorem sLen_hi {v u L : Nat} (hu : u = v / 1000000000000000000) (h0 : u ≠ 0) (h : sLen u L) : sLen v (18 + L) := by
  obtain ⟨h1, h2, h3⟩ := h
  have e : (10 : Nat) ^ 18 = 1000000000000000000 := by decide
  refine ⟨by omega, ?_, Or.inr ?_⟩
  · rw [Nat.pow_add, e]
    generalize 10 ^ L = x at h2 ⊢
    omega
  · rw [show 18 + L - 1 = 18 + (L - 1) by omega, Nat.pow_add, e]
    rcases h3 with rfl | h3
    · simp only [Nat.sub_self, Nat.pow_zero]
      omega
    · generalize 10 ^ (L - 1) = x at h3 ⊢
      omega
theorem l_le0 {r : Int64} (h : uN r < 9223372036854775808) : (r ≤ 0) ↔ uN r = 0 := by
  rw [Int64.le_iff_toInt_le]
  have e : (0 : Int64).toInt = 0 := by decide
  have a := un_c r
  have b : r.toInt = (uN r : Int) := un_eq (by omega) (by omega) (by omega)
  omega
theorem dg_lo {v K : Nat} (h : K < 18) : v % 1000000000000000000 / 10 ^ K % 10 = v / 10 ^ K % 10 := by
  have e : 1000000000000000000 = 10 ^ K * 10 ^ (18 - K) := by rw [← Nat.pow_add, show K + (18 - K) = 18 by omega]
  rw [e, Nat.mod_mul_right_div_self]
  exact Nat.mod_mod_of_dvd _ ⟨10 ^ (17 - K), by rw [show 18 - K = (17 - K) + 1 by omega, Nat.pow_succ, Nat.mul_comm]⟩
theorem dg_hi {v K : Nat} (h : 18 ≤ K) : v / 1000000000000000000 / 10 ^ (K - 18) = v / 10 ^ K := by
  rw [Nat.div_div_eq_div_mul, show (1000000000000000000 : Nat) = 10 ^ 18 by decide, ← Nat.pow_add, show 18 + (K - 18) = K by omega]
theorem ix_n {k : Int32} (h : ¬ k < 0) : k = nI k.toNatClampNeg := by
  obtain ⟨j, h1, h2⟩ := nI_of h
  rw [h2, nI_clamp h1]
theorem lt36 {k : Int32} (h : ¬ k < 0) (h2 : k < 36) : k.toNatClampNeg < 36 := by
  have e := ix_n h
  have a : k.toNatClampNeg < 2 ^ 31 := by
    obtain ⟨j, q1, q2⟩ := nI_of h
    rw [q2, nI_clamp q1]; exact q1
  rw [e] at h2
  exact (nI_ltI a (by decide)).mp h2
theorem lt18 {k : Int32} (h : ¬ k < 0) : ((18 : Int32) ≤ k) ↔ 18 ≤ k.toNatClampNeg := by
  have e := ix_n h
  have a : k.toNatClampNeg < 2 ^ 31 := by
    obtain ⟨j, q1, q2⟩ := nI_of h
    rw [q2, nI_clamp q1]; exact q1
  constructor
  · intro q
    rw [e] at q
    exact (nI_leI (a := 18) (by decide) a).mp q
  · intro q
    rw [e]
    exact (nI_leI (a := 18) (by decide) a).mpr q
theorem l_of {h : Int64} (q : uN h < 9223372036854775808) : h = lN (uN h) := by
  apply uN_inj
  have a := pk_lT q
  have b := un_c (lN (uN h))
  rw [a] at b
  omega
theorem k18 {k : Int32} (h : ¬ k < 0) (h2 : (18 : Int32) ≤ k) : k - 18 = nI (k.toNatClampNeg - 18) := by
  have q := (lt18 h).mp h2
  have e := ix_n h
  have t : nI k.toNatClampNeg - nI 18 = nI (k.toNatClampNeg - 18) := pk_sub q
  rw [← e] at t
  exact t
end
section
-- the rows of ExactDesk, one (laid by wip/whole/gen_desk.py)
set_option maxHeartbeats 4000000 in
set_option maxRecDepth 100000 in
theorem cE_isR (l : Launch) (D : va_G) {tys : xT} {ws : va_W} {sz : Nat} (r : Int32) : xM l yX1_isRegister wsX1_isRegister ({ frames := 0, cells := 0, slots := 0, locals := 0 }) D tys ws sz [.int r] (xQi D tys (fun a w => a = (if okR r then 1 else 0) ∧ ws = w)) 0 0 := by
  refine xb_m (cc := cX1_isRegister) (maxL := 1) (ret := (some .boolean)) (by decide) rfl (Nat.le_of_ble_eq_true rfl) ?_
  intro p e s m below meth c A ls hx hb hr hml hown hts hlocks hnm hA hP hK hD hS hl
  have hl : lv_has ls 1 [(0, .int r)] := hl
  have hown : s.vm.findClass RX1 = some m.cls := hown
  refine lv_iload_n hx hb dX1_isRegister_0 rfl (lv_at hl 0 rfl) ?_
  refine lv_if_lt (tgt := 14) hx hb dX1_isRegister_1 (by decide) (fun c1 => ?_) (fun c1 => ?_)
  · refine lv_iconst (v := 0) hx hb dX1_isRegister_14 (by decide) ?_
    exact xb_zr hx hb hr hlocks hP hK hD hS dX1_isRegister_15 rfl (⟨by rw [if_neg (fun q => q.1 c1)], rfl⟩)
  · refine lv_iload_n hx hb dX1_isRegister_4 rfl (lv_at hl 0 rfl) ?_
    refine lv_bipush (v := 8) hx hb dX1_isRegister_5 (by decide) ?_
    refine lv_icmp_ge (tgt := 14) hx hb dX1_isRegister_7 (by decide) (fun c7 => ?_) (fun c7 => ?_)
    · refine lv_iconst (v := 0) hx hb dX1_isRegister_14 (by decide) ?_
      exact xb_zr hx hb hr hlocks hP hK hD hS dX1_isRegister_15 rfl (⟨by rw [if_neg (fun q => Int32.not_lt.mpr c7 q.2)], rfl⟩)
    · refine lv_iconst (v := 1) hx hb dX1_isRegister_10 (by decide) ?_
      refine lv_goto (tgt := 15) hx hb dX1_isRegister_11 (by decide) ?_
      exact xb_zr hx hb hr hlocks hP hK hD hS dX1_isRegister_15 rfl (⟨by rw [if_pos ⟨c1, Int32.not_le.mp c7⟩], rfl⟩)
set_option maxHeartbeats 4000000 in
set_option maxRecDepth 100000 in
theorem cE_isT (l : Launch) (D : va_G) {tys : xT} {ws : va_W} {sz : Nat} (r : Int32) : xM l yX1_isTally wsX1_isTally ({ frames := 0, cells := 0, slots := 0, locals := 0 }) D tys ws sz [.int r] (xQi D tys (fun a w => a = (if okT r then 1 else 0) ∧ ws = w)) 0 0 := by
  refine xb_m (cc := cX1_isTally) (maxL := 1) (ret := (some .boolean)) (by decide) rfl (Nat.le_of_ble_eq_true rfl) ?_
  intro p e s m below meth c A ls hx hb hr hml hown hts hlocks hnm hA hP hK hD hS hl
  have hl : lv_has ls 1 [(0, .int r)] := hl
  have hown : s.vm.findClass RX1 = some m.cls := hown
  refine lv_iload_n hx hb dX1_isTally_0 rfl (lv_at hl 0 rfl) ?_
  refine lv_if_lt (tgt := 13) hx hb dX1_isTally_1 (by decide) (fun c1 => ?_) (fun c1 => ?_)
  · refine lv_iconst (v := 0) hx hb dX1_isTally_13 (by decide) ?_
    exact xb_zr hx hb hr hlocks hP hK hD hS dX1_isTally_14 rfl (⟨by rw [if_neg (fun q => q.1 c1)], rfl⟩)
  · refine lv_iload_n hx hb dX1_isTally_4 rfl (lv_at hl 0 rfl) ?_
    refine lv_iconst (v := 4) hx hb dX1_isTally_5 (by decide) ?_
    refine lv_icmp_ge (tgt := 13) hx hb dX1_isTally_6 (by decide) (fun c6 => ?_) (fun c6 => ?_)
    · refine lv_iconst (v := 0) hx hb dX1_isTally_13 (by decide) ?_
      exact xb_zr hx hb hr hlocks hP hK hD hS dX1_isTally_14 rfl (⟨by rw [if_neg (fun q => Int32.not_lt.mpr c6 q.2)], rfl⟩)
    · refine lv_iconst (v := 1) hx hb dX1_isTally_9 (by decide) ?_
      refine lv_goto (tgt := 14) hx hb dX1_isTally_10 (by decide) ?_
      exact xb_zr hx hb hr hlocks hP hK hD hS dX1_isTally_14 rfl (⟨by rw [if_pos ⟨c1, Int32.not_le.mp c6⟩], rfl⟩)
set_option maxHeartbeats 4000000 in
set_option maxRecDepth 100000 in
theorem cE_isW (l : Launch) (D : va_G) {tys : xT} {ws : va_W} {sz : Nat} (r : Int32) : xM l yX1_isWay wsX1_isWay ({ frames := 0, cells := 0, slots := 0, locals := 0 }) D tys ws sz [.int r] (xQi D tys (fun a w => a = (if okW r then 1 else 0) ∧ ws = w)) 0 0 := by
  refine xb_m (cc := cX1_isWay) (maxL := 1) (ret := (some .boolean)) (by decide) rfl (Nat.le_of_ble_eq_true rfl) ?_
  intro p e s m below meth c A ls hx hb hr hml hown hts hlocks hnm hA hP hK hD hS hl
  have hl : lv_has ls 1 [(0, .int r)] := hl
  have hown : s.vm.findClass RX1 = some m.cls := hown
  refine lv_iload_n hx hb dX1_isWay_0 rfl (lv_at hl 0 rfl) ?_
  refine lv_if_lt (tgt := 13) hx hb dX1_isWay_1 (by decide) (fun c1 => ?_) (fun c1 => ?_)
  · refine lv_iconst (v := 0) hx hb dX1_isWay_13 (by decide) ?_
    exact xb_zr hx hb hr hlocks hP hK hD hS dX1_isWay_14 rfl (⟨by rw [if_neg (fun q => q.1 c1)], rfl⟩)
  · refine lv_iload_n hx hb dX1_isWay_4 rfl (lv_at hl 0 rfl) ?_
    refine lv_iconst (v := 3) hx hb dX1_isWay_5 (by decide) ?_
    refine lv_icmp_gt (tgt := 13) hx hb dX1_isWay_6 (by decide) (fun c6 => ?_) (fun c6 => ?_)
    · refine lv_iconst (v := 0) hx hb dX1_isWay_13 (by decide) ?_
      exact xb_zr hx hb hr hlocks hP hK hD hS dX1_isWay_14 rfl (⟨by rw [if_neg (fun q => q.2 c6)], rfl⟩)
    · refine lv_iconst (v := 1) hx hb dX1_isWay_9 (by decide) ?_
      refine lv_goto (tgt := 14) hx hb dX1_isWay_10 (by decide) ?_
      exact xb_zr hx hb hr hlocks hP hK hD hS dX1_isWay_14 rfl (⟨by rw [if_pos ⟨c1, c6⟩], rfl⟩)
set_option maxHeartbeats 4000000 in
set_option maxRecDepth 100000 in
theorem cE_kR (l : Launch) (D : va_G) {tys : xT} {ws : va_W} {sz : Nat} {w0 : va_W} {ad : Nat → Nat} {cA : Nat → ClassId} {g : Nat → Option Nat} {rf : Nat → Int64} {tv : Nat → Int} {o : Int} (X : xd w0 ws tys ad cA g rf tv o) {r : Int32} (ho : zR o) (h : okR r) : xM l yX1_keepInRegister wsX1_keepInRegister ({ frames := 1, cells := 0, slots := 0, locals := 20 }) D tys ws sz [.ref (ad 0), .int r] (xQi D tys (fun a w => xd w0 w tys ad cA g (sp_kR (rf, tv) r o).2.1 (sp_kR (rf, tv) r o).2.2 o ∧ a = (sp_kR (rf, tv) r o).1)) 0 0 := by
  refine xb_m (cc := cX1_keepInRegister) (maxL := 2) (ret := (some .int)) (by decide) rfl (Nat.le_of_ble_eq_true rfl) ?_
  intro p e s m below meth c A ls hx hb hr hml hown hts hlocks hnm hA hP hK hD hS hl
  have hl : lv_has ls 2 [(0, .ref (ad 0)), (1, .int r)] := hl
  have hown : s.vm.findClass RX1 = some m.cls := hown
  refine lv_aload_n hx hb dX1_keepInRegister_0 rfl (lv_at hl 0 rfl) ?_
  refine va_get (D := D) (ci := ciE) (v := .ref (ad 9)) (C := RX1) (T := TX1) (N := 5) hx hb hts (by decide +kernel) hown hK hP 0 (xd_a0 X) rfl 4 (by decide) (hts (.fieldLink RX1 35 "ExactDesk" "outcome" "LExactDesk$Wide;") (by decide +kernel)) (fun _ h9 => h9) rfl dX1_keepInRegister_1 ?_
  refine xb_ri (va_runV (As := []) (rest := []) ⟨hx, hb, hml, hown, hts⟩ (cW_fits l D (xd_a9 X) ho) (cwV 0 hts gX1_keepInRegister_X0_fitsLong rfl rfl rfl (by decide +kernel) ⟨Nat.le_of_ble_eq_true rfl, Nat.le_of_ble_eq_true rfl⟩) (xb_pv hP hK hD rfl rfl (xd_a9 X)) rfl rfl hl.1 rfl (lv_room (Nat.le_of_ble_eq_true rfl)) dX1_keepInRegister_4 ⟨Nat.le_of_ble_eq_true rfl, Nat.le_of_ble_eq_true rfl⟩) hD hS hA (fun r4 ws1 H locs hws1 hP hD hS => ?_)
  obtain ⟨hr4, rfl⟩ := hws1
  refine lv_if_ne (tgt := 26) hx hb dX1_keepInRegister_7 (by decide) (fun c7 => ?_) (fun c7 => ?_)
  · have c7 := bz_1 hr4 c7
    refine lv_aload_n hx hb dX1_keepInRegister_26 rfl (lv_at hl 0 rfl) ?_
    refine va_get (D := D) (ci := ciE) (v := .ref (ad 1)) (C := RX1) (T := TX1) (N := 5) hx hb hts (by decide +kernel) hown hK hP 0 (xd_a0 X) rfl 0 (by decide) (hts (.fieldLink RX1 9 "ExactDesk" "registers" "[J") (by decide +kernel)) (fun _ h9 => h9) rfl dX1_keepInRegister_27 ?_
    refine lv_iload_n hx hb dX1_keepInRegister_30 rfl (lv_at hl 1 rfl) ?_
    refine lv_aload_n hx hb dX1_keepInRegister_31 rfl (lv_at hl 0 rfl) ?_
    refine va_get (D := D) (ci := ciE) (v := .ref (ad 9)) (C := RX1) (T := TX1) (N := 5) hx hb hts (by decide +kernel) hown hK hP 0 (xd_a0 X) rfl 4 (by decide) (hts (.fieldLink RX1 35 "ExactDesk" "outcome" "LExactDesk$Wide;") (by decide +kernel)) (fun _ h9 => h9) rfl dX1_keepInRegister_32 ?_
    refine xb_rl (va_runV (As := []) (rest := [.int r, .ref (ad 1)]) ⟨hx, hb, hml, hown, hts⟩ (cW_low l D (xd_a9 X)) (cwV 0 hts gX1_keepInRegister_X0_lowWord rfl rfl rfl (by decide +kernel) ⟨Nat.le_of_ble_eq_true rfl, Nat.le_of_ble_eq_true rfl⟩) (xb_pv hP hK hD rfl rfl (xd_a9 X)) rfl rfl hl.1 rfl (lv_room (Nat.le_of_ble_eq_true rfl)) dX1_keepInRegister_35 ⟨Nat.le_of_ble_eq_true rfl, Nat.le_of_ble_eq_true rfl⟩) hD hS hA (fun r35 ws2 H locs hws2 hP hD hS => ?_)
    obtain ⟨rfl, rfl⟩ := hws2
    refine xd_lst hx hb hK hP hD hS X h dX1_keepInRegister_38 (fun ws3 H locs X hP hD hS => ?_)
    refine lv_iconst (v := 0) hx hb dX1_keepInRegister_39 (by decide) ?_
    exact xb_ir hx hb hr hlocks hP hK hD hS dX1_keepInRegister_40 (by rw [sp_kR, if_neg (by omega), if_neg (by omega)]; exact ⟨X, rfl⟩)
  · have c7 := bz_0 hr4 c7
    refine lv_aload_n hx hb dX1_keepInRegister_10 rfl (lv_at hl 0 rfl) ?_
    refine va_get (D := D) (ci := ciE) (v := .ref (ad 9)) (C := RX1) (T := TX1) (N := 5) hx hb hts (by decide +kernel) hown hK hP 0 (xd_a0 X) rfl 4 (by decide) (hts (.fieldLink RX1 35 "ExactDesk" "outcome" "LExactDesk$Wide;") (by decide +kernel)) (fun _ h9 => h9) rfl dX1_keepInRegister_11 ?_
    refine xb_ri (va_runV (As := []) (rest := []) ⟨hx, hb, hml, hown, hts⟩ (cW_isneg l D (xd_a9 X) ho) (cwV 0 hts gX1_keepInRegister_X0_isNegative rfl rfl rfl (by decide +kernel) ⟨Nat.le_of_ble_eq_true rfl, Nat.le_of_ble_eq_true rfl⟩) (xb_pv hP hK hD rfl rfl (xd_a9 X)) rfl rfl hl.1 rfl (lv_room (Nat.le_of_ble_eq_true rfl)) dX1_keepInRegister_14 ⟨Nat.le_of_ble_eq_true rfl, Nat.le_of_ble_eq_true rfl⟩) hD hS hA (fun r14 ws2 H locs hws2 hP hD hS => ?_)
    obtain ⟨hr14, rfl⟩ := hws2
    refine lv_if_eq (tgt := 24) hx hb dX1_keepInRegister_17 (by decide) (fun c17 => ?_) (fun c17 => ?_)
    · have c17 := bz_0 hr14 c17
      refine lv_iconst (v := 1) hx hb dX1_keepInRegister_24 (by decide) ?_
      exact xb_ir hx hb hr hlocks hP hK hD hS dX1_keepInRegister_25 (by rw [sp_kR, if_neg (by omega), if_pos (by omega)]; exact ⟨X, rfl⟩)
    · have c17 := bz_1 hr14 c17
      refine lv_iconst (v := 2) hx hb dX1_keepInRegister_20 (by decide) ?_
      refine lv_goto (tgt := 25) hx hb dX1_keepInRegister_21 (by decide) ?_
      exact xb_ir hx hb hr hlocks hP hK hD hS dX1_keepInRegister_25 (by rw [sp_kR, if_pos (by omega)]; exact ⟨X, rfl⟩)
set_option maxHeartbeats 4000000 in
set_option maxRecDepth 100000 in
theorem cE_kT (l : Launch) (D : va_G) {tys : xT} {ws : va_W} {sz : Nat} {w0 : va_W} {ad : Nat → Nat} {cA : Nat → ClassId} {g : Nat → Option Nat} {rf : Nat → Int64} {tv : Nat → Int} {o : Int} (X : xd w0 ws tys ad cA g rf tv o) {t : Int32} (ho : zR o) (h : okT t) : xM l yX1_keepInTally wsX1_keepInTally ({ frames := 2, cells := 0, slots := 0, locals := 44 }) D tys ws sz [.ref (ad 0), .int t] (xQi D tys (fun a w => xd w0 w tys ad cA g (sp_kT (rf, tv) t o).2.1 (sp_kT (rf, tv) t o).2.2 o ∧ a = (sp_kT (rf, tv) t o).1)) 0 0 := by
  refine xb_m (cc := cX1_keepInTally) (maxL := 2) (ret := (some .int)) (by decide) rfl (Nat.le_of_ble_eq_true rfl) ?_
  intro p e s m below meth c A ls hx hb hr hml hown hts hlocks hnm hA hP hK hD hS hl
  have hl : lv_has ls 2 [(0, .ref (ad 0)), (1, .int t)] := hl
  have hown : s.vm.findClass RX1 = some m.cls := hown
  refine lv_aload_n hx hb dX1_keepInTally_0 rfl (lv_at hl 0 rfl) ?_
  refine va_get (D := D) (ci := ciE) (v := .ref (ad 9)) (C := RX1) (T := TX1) (N := 5) hx hb hts (by decide +kernel) hown hK hP 0 (xd_a0 X) rfl 4 (by decide) (hts (.fieldLink RX1 35 "ExactDesk" "outcome" "LExactDesk$Wide;") (by decide +kernel)) (fun _ h9 => h9) rfl dX1_keepInTally_1 ?_
  refine lv_aload_n hx hb dX1_keepInTally_4 rfl (lv_at hl 0 rfl) ?_
  refine va_get (D := D) (ci := ciE) (v := .ref (ad 7)) (C := RX1) (T := TX1) (N := 5) hx hb hts (by decide +kernel) hown hK hP 0 (xd_a0 X) rfl 2 (by decide) (hts (.fieldLink RX1 20 "ExactDesk" "tallyCeiling" "LExactDesk$Wide;") (by decide +kernel)) (fun _ h9 => h9) rfl dX1_keepInTally_5 ?_
  refine xb_ri (va_runV (As := [.ref (ad 7)]) (rest := []) ⟨hx, hb, hml, hown, hts⟩ (cW_ord l D (xd_a9 X) (xd_a7 X) ho (by constructor <;> decide)) (cwV 1 hts gX1_keepInTally_X0_orderTo rfl rfl rfl (by decide +kernel) ⟨Nat.le_of_ble_eq_true rfl, Nat.le_of_ble_eq_true rfl⟩) (xb_pv hP hK hD rfl rfl (xd_a9 X)) rfl rfl hl.1 rfl (lv_room (Nat.le_of_ble_eq_true rfl)) dX1_keepInTally_8 ⟨Nat.le_of_ble_eq_true rfl, Nat.le_of_ble_eq_true rfl⟩) hD hS hA (fun r8 ws1 H locs hws1 hP hD hS => ?_)
  obtain ⟨hr8, rfl⟩ := hws1
  refine lv_if_lt (tgt := 16) hx hb dX1_keepInTally_11 (by decide) (fun c11 => ?_) (fun c11 => ?_)
  · rw [hr8, ord_lt] at c11
    refine lv_aload_n hx hb dX1_keepInTally_16 rfl (lv_at hl 0 rfl) ?_
    refine va_get (D := D) (ci := ciE) (v := .ref (ad 9)) (C := RX1) (T := TX1) (N := 5) hx hb hts (by decide +kernel) hown hK hP 0 (xd_a0 X) rfl 4 (by decide) (hts (.fieldLink RX1 35 "ExactDesk" "outcome" "LExactDesk$Wide;") (by decide +kernel)) (fun _ h9 => h9) rfl dX1_keepInTally_17 ?_
    refine lv_aload_n hx hb dX1_keepInTally_20 rfl (lv_at hl 0 rfl) ?_
    refine va_get (D := D) (ci := ciE) (v := .ref (ad 8)) (C := RX1) (T := TX1) (N := 5) hx hb hts (by decide +kernel) hown hK hP 0 (xd_a0 X) rfl 3 (by decide) (hts (.fieldLink RX1 30 "ExactDesk" "tallyFloor" "LExactDesk$Wide;") (by decide +kernel)) (fun _ h9 => h9) rfl dX1_keepInTally_21 ?_
    refine xb_ri (va_runV (As := [.ref (ad 8)]) (rest := []) ⟨hx, hb, hml, hown, hts⟩ (cW_ord l D (xd_a9 X) (xd_a8 X) ho (by constructor <;> decide)) (cwV 1 hts gX1_keepInTally_X0_orderTo rfl rfl rfl (by decide +kernel) ⟨Nat.le_of_ble_eq_true rfl, Nat.le_of_ble_eq_true rfl⟩) (xb_pv hP hK hD rfl rfl (xd_a9 X)) rfl rfl hl.1 rfl (lv_room (Nat.le_of_ble_eq_true rfl)) dX1_keepInTally_24 ⟨Nat.le_of_ble_eq_true rfl, Nat.le_of_ble_eq_true rfl⟩) hD hS hA (fun r24 ws2 H locs hws2 hP hD hS => ?_)
    obtain ⟨hr24, rfl⟩ := hws2
    refine lv_if_gt (tgt := 32) hx hb dX1_keepInTally_27 (by decide) (fun c27 => ?_) (fun c27 => ?_)
    · rw [hr24, ord_gt] at c27
      refine lv_aload_n hx hb dX1_keepInTally_32 rfl (lv_at hl 0 rfl) ?_
      refine va_get (D := D) (ci := ciE) (v := .ref (ad 2)) (C := RX1) (T := TX1) (N := 5) hx hb hts (by decide +kernel) hown hK hP 0 (xd_a0 X) rfl 1 (by decide) (hts (.fieldLink RX1 15 "ExactDesk" "tallies" "[LExactDesk$Wide;") (by decide +kernel)) (fun _ h9 => h9) rfl dX1_keepInTally_33 ?_
      refine lv_iload_n hx hb dX1_keepInTally_36 rfl (lv_at hl 1 rfl) ?_
      refine xd_ald hx hb hK hP X h dX1_keepInTally_37 ?_
      refine lv_aload_n hx hb dX1_keepInTally_38 rfl (lv_at hl 0 rfl) ?_
      refine va_get (D := D) (ci := ciE) (v := .ref (ad 9)) (C := RX1) (T := TX1) (N := 5) hx hb hts (by decide +kernel) hown hK hP 0 (xd_a0 X) rfl 4 (by decide) (hts (.fieldLink RX1 35 "ExactDesk" "outcome" "LExactDesk$Wide;") (by decide +kernel)) (fun _ h9 => h9) rfl dX1_keepInTally_39 ?_
      refine xb_rv (va_runV (As := [.ref (ad 9)]) (rest := []) ⟨hx, hb, hml, hown, hts⟩ (cW_becomeW l D (xd_tl X (j4 h)) (xd_a9 X) (by have q := (j4 h); omega)) (cwV 1 hts gX1_keepInTally_X0_become_ rfl rfl rfl (by decide +kernel) ⟨Nat.le_of_ble_eq_true rfl, Nat.le_of_ble_eq_true rfl⟩) (xb_pv hP hK hD rfl rfl (xd_tl X (j4 h))) rfl rfl hl.1 rfl (lv_room (Nat.le_of_ble_eq_true rfl)) dX1_keepInTally_42 ⟨Nat.le_of_ble_eq_true rfl, Nat.le_of_ble_eq_true rfl⟩) hD hS hA (fun ws3 H locs hws3 hP hD hS => ?_)
      have X := xd_setT X (j4 h) (by omega) (by omega) hws3
      refine lv_iconst (v := 0) hx hb dX1_keepInTally_45 (by decide) ?_
      exact xb_ir hx hb hr hlocks hP hK hD hS dX1_keepInTally_46 (by rw [sp_kT, if_neg (by omega), if_neg (by omega)]; exact ⟨X, rfl⟩)
    · rw [hr24, ord_gt] at c27
      refine lv_iconst (v := 2) hx hb dX1_keepInTally_30 (by decide) ?_
      exact xb_ir hx hb hr hlocks hP hK hD hS dX1_keepInTally_31 (by rw [sp_kT, if_neg (by omega), if_pos (by omega)]; exact ⟨X, rfl⟩)
  · rw [hr8, ord_lt] at c11
    refine lv_iconst (v := 1) hx hb dX1_keepInTally_14 (by decide) ?_
    exact xb_ir hx hb hr hlocks hP hK hD hS dX1_keepInTally_15 (by rw [sp_kT, if_pos (by omega)]; exact ⟨X, rfl⟩)
set_option maxHeartbeats 4000000 in
set_option maxRecDepth 100000 in
theorem cE_set (l : Launch) (D : va_G) {tys : xT} {ws : va_W} {sz : Nat} {w0 : va_W} {ad : Nat → Nat} {cA : Nat → ClassId} {g : Nat → Option Nat} {rf : Nat → Int64} {tv : Nat → Int} {o : Int} (X : xd w0 ws tys ad cA g rf tv o) (r : Int32) (v : Int64) : xM l yX1_set wsX1_set ({ frames := 1, cells := 0, slots := 0, locals := 20 }) D tys ws sz [.ref (ad 0), .int r, .long v] (xQi D tys (fun a w => ∃ o1, xd w0 w tys ad cA g (sp_set (rf, tv) r v).2.1 (sp_set (rf, tv) r v).2.2 o1 ∧ a = (sp_set (rf, tv) r v).1)) 0 0 := by
  refine xb_m (cc := cX1_set) (maxL := 4) (ret := (some .boolean)) (by decide) rfl (Nat.le_of_ble_eq_true rfl) ?_
  intro p e s m below meth c A ls hx hb hr hml hown hts hlocks hnm hA hP hK hD hS hl
  have hl : lv_has ls 4 [(0, .ref (ad 0)), (1, .int r), (2, .long v)] := hl
  have hown : s.vm.findClass RX1 = some m.cls := hown
  refine lv_iload_n hx hb dX1_set_0 rfl (lv_at hl 1 rfl) ?_
  refine xb_ri (va_runS (As := [.int r]) (rest := []) ⟨hx, hb, hml, hown, hts⟩ (cE_isR l D r) (va_cwS 1 hts gX1_set_X1_isRegister rfl rfl rfl (by decide +kernel) ⟨Nat.le_of_ble_eq_true rfl, Nat.le_of_ble_eq_true rfl⟩) (xb_ps rfl hP hK hD) rfl rfl hl.1 rfl (lv_room (Nat.le_of_ble_eq_true rfl)) dX1_set_1 ⟨Nat.le_of_ble_eq_true rfl, Nat.le_of_ble_eq_true rfl⟩) hD hS hA (fun r1 ws1 H locs hws1 hP hD hS => ?_)
  obtain ⟨hr1, rfl⟩ := hws1
  refine lv_if_ne (tgt := 9) hx hb dX1_set_4 (by decide) (fun c4 => ?_) (fun c4 => ?_)
  · have c4 := bz_1 hr1 c4
    refine lv_aload_n hx hb dX1_set_9 rfl (lv_at hl 0 rfl) ?_
    refine va_get (D := D) (ci := ciE) (v := .ref (ad 1)) (C := RX1) (T := TX1) (N := 5) hx hb hts (by decide +kernel) hown hK hP 0 (xd_a0 X) rfl 0 (by decide) (hts (.fieldLink RX1 9 "ExactDesk" "registers" "[J") (by decide +kernel)) (fun _ h9 => h9) rfl dX1_set_10 ?_
    refine lv_iload_n hx hb dX1_set_13 rfl (lv_at hl 1 rfl) ?_
    refine lv_lload_n hx hb dX1_set_14 rfl (lv_at hl 2 rfl) ?_
    refine xd_lst hx hb hK hP hD hS X c4 dX1_set_15 (fun ws2 H locs X hP hD hS => ?_)
    refine lv_iconst (v := 1) hx hb dX1_set_16 (by decide) ?_
    exact xb_zr hx hb hr hlocks hP hK hD hS dX1_set_17 rfl (by rw [sp_set, if_pos c4]; exact ⟨_, X, rfl⟩)
  · have c4 := bz_0 hr1 c4
    refine lv_iconst (v := 0) hx hb dX1_set_7 (by decide) ?_
    exact xb_zr hx hb hr hlocks hP hK hD hS dX1_set_8 rfl (by rw [sp_set, if_neg c4]; exact ⟨_, X, rfl⟩)
set_option maxHeartbeats 4000000 in
set_option maxRecDepth 100000 in
theorem cE_get (l : Launch) (D : va_G) {tys : xT} {ws : va_W} {sz : Nat} {w0 : va_W} {ad : Nat → Nat} {cA : Nat → ClassId} {g : Nat → Option Nat} {rf : Nat → Int64} {tv : Nat → Int} {o : Int} (X : xd w0 ws tys ad cA g rf tv o) (r : Int32) : xM l yX1_get wsX1_get ({ frames := 1, cells := 0, slots := 0, locals := 20 }) D tys ws sz [.ref (ad 0), .int r] (xQl D tys (fun a w => xd w0 w tys ad cA g rf tv o ∧ a = sp_get (rf, tv) r)) 0 0 := by
  refine xb_m (cc := cX1_get) (maxL := 2) (ret := (some .long)) (by decide) rfl (Nat.le_of_ble_eq_true rfl) ?_
  intro p e s m below meth c A ls hx hb hr hml hown hts hlocks hnm hA hP hK hD hS hl
  have hl : lv_has ls 2 [(0, .ref (ad 0)), (1, .int r)] := hl
  have hown : s.vm.findClass RX1 = some m.cls := hown
  refine lv_iload_n hx hb dX1_get_0 rfl (lv_at hl 1 rfl) ?_
  refine xb_ri (va_runS (As := [.int r]) (rest := []) ⟨hx, hb, hml, hown, hts⟩ (cE_isR l D r) (va_cwS 1 hts gX1_get_X1_isRegister rfl rfl rfl (by decide +kernel) ⟨Nat.le_of_ble_eq_true rfl, Nat.le_of_ble_eq_true rfl⟩) (xb_ps rfl hP hK hD) rfl rfl hl.1 rfl (lv_room (Nat.le_of_ble_eq_true rfl)) dX1_get_1 ⟨Nat.le_of_ble_eq_true rfl, Nat.le_of_ble_eq_true rfl⟩) hD hS hA (fun r1 ws1 H locs hws1 hP hD hS => ?_)
  obtain ⟨hr1, rfl⟩ := hws1
  refine lv_if_eq (tgt := 16) hx hb dX1_get_4 (by decide) (fun c4 => ?_) (fun c4 => ?_)
  · have c4 := bz_0 hr1 c4
    refine lv_lconst (v := 0) hx hb dX1_get_16 (by decide) ?_
    exact xb_lr hx hb hr hlocks hP hK hD hS dX1_get_17 (⟨X, by rw [sp_get, if_neg c4]⟩)
  · have c4 := bz_1 hr1 c4
    refine lv_aload_n hx hb dX1_get_7 rfl (lv_at hl 0 rfl) ?_
    refine va_get (D := D) (ci := ciE) (v := .ref (ad 1)) (C := RX1) (T := TX1) (N := 5) hx hb hts (by decide +kernel) hown hK hP 0 (xd_a0 X) rfl 0 (by decide) (hts (.fieldLink RX1 9 "ExactDesk" "registers" "[J") (by decide +kernel)) (fun _ h9 => h9) rfl dX1_get_8 ?_
    refine lv_iload_n hx hb dX1_get_11 rfl (lv_at hl 1 rfl) ?_
    refine xd_lld hx hb hK hP X c4 dX1_get_12 ?_
    refine lv_goto (tgt := 17) hx hb dX1_get_13 (by decide) ?_
    exact xb_lr hx hb hr hlocks hP hK hD hS dX1_get_17 (⟨X, by rw [sp_get, if_pos c4]⟩)
set_option maxHeartbeats 4000000 in
set_option maxRecDepth 100000 in
theorem cE_add (l : Launch) (D : va_G) {tys : xT} {ws : va_W} {sz : Nat} {w0 : va_W} {ad : Nat → Nat} {cA : Nat → ClassId} {g : Nat → Option Nat} {rf : Nat → Int64} {tv : Nat → Int} {o : Int} (X : xd w0 ws tys ad cA g rf tv o) (r : Int32) (v : Int64) : xM l yX1_add wsX1_add ({ frames := 3, cells := 0, slots := 0, locals := 73 }) D tys ws sz [.ref (ad 0), .int r, .long v] (xQi D tys (fun a w => ∃ o1, xd w0 w tys ad cA g (sp_add (rf, tv) r v).2.1 (sp_add (rf, tv) r v).2.2 o1 ∧ a = (sp_add (rf, tv) r v).1)) 0 0 := by
  refine xb_m (cc := cX1_add) (maxL := 4) (ret := (some .int)) (by decide) rfl (Nat.le_of_ble_eq_true rfl) ?_
  intro p e s m below meth c A ls hx hb hr hml hown hts hlocks hnm hA hP hK hD hS hl
  have hl : lv_has ls 4 [(0, .ref (ad 0)), (1, .int r), (2, .long v)] := hl
  have hown : s.vm.findClass RX1 = some m.cls := hown
  refine lv_iload_n hx hb dX1_add_0 rfl (lv_at hl 1 rfl) ?_
  refine xb_ri (va_runS (As := [.int r]) (rest := []) ⟨hx, hb, hml, hown, hts⟩ (cE_isR l D r) (va_cwS 1 hts gX1_add_X1_isRegister rfl rfl rfl (by decide +kernel) ⟨Nat.le_of_ble_eq_true rfl, Nat.le_of_ble_eq_true rfl⟩) (xb_ps rfl hP hK hD) rfl rfl hl.1 rfl (lv_room (Nat.le_of_ble_eq_true rfl)) dX1_add_1 ⟨Nat.le_of_ble_eq_true rfl, Nat.le_of_ble_eq_true rfl⟩) hD hS hA (fun r1 ws1 H locs hws1 hP hD hS => ?_)
  obtain ⟨hr1, rfl⟩ := hws1
  refine lv_if_ne (tgt := 9) hx hb dX1_add_4 (by decide) (fun c4 => ?_) (fun c4 => ?_)
  · have c4 := bz_1 hr1 c4
    refine lv_aload_n hx hb dX1_add_9 rfl (lv_at hl 0 rfl) ?_
    refine va_get (D := D) (ci := ciE) (v := .ref (ad 9)) (C := RX1) (T := TX1) (N := 5) hx hb hts (by decide +kernel) hown hK hP 0 (xd_a0 X) rfl 4 (by decide) (hts (.fieldLink RX1 35 "ExactDesk" "outcome" "LExactDesk$Wide;") (by decide +kernel)) (fun _ h9 => h9) rfl dX1_add_10 ?_
    refine lv_aload_n hx hb dX1_add_13 rfl (lv_at hl 0 rfl) ?_
    refine va_get (D := D) (ci := ciE) (v := .ref (ad 1)) (C := RX1) (T := TX1) (N := 5) hx hb hts (by decide +kernel) hown hK hP 0 (xd_a0 X) rfl 0 (by decide) (hts (.fieldLink RX1 9 "ExactDesk" "registers" "[J") (by decide +kernel)) (fun _ h9 => h9) rfl dX1_add_14 ?_
    refine lv_iload_n hx hb dX1_add_17 rfl (lv_at hl 1 rfl) ?_
    refine xd_lld hx hb hK hP X c4 dX1_add_18 ?_
    refine xb_rv (va_runV (As := [.long (rf r.toNatClampNeg)]) (rest := []) ⟨hx, hb, hml, hown, hts⟩ (cW_becomeL l D (xd_a9 X) (rf r.toNatClampNeg)) (cwV 1 hts gX1_add_X0_become rfl rfl rfl (by decide +kernel) ⟨Nat.le_of_ble_eq_true rfl, Nat.le_of_ble_eq_true rfl⟩) (xb_pv hP hK hD rfl rfl (xd_a9 X)) rfl rfl hl.1 rfl (lv_room (Nat.le_of_ble_eq_true rfl)) dX1_add_19 ⟨Nat.le_of_ble_eq_true rfl, Nat.le_of_ble_eq_true rfl⟩) hD hS hA (fun ws2 H locs hws2 hP hD hS => ?_)
    have X := xd_setO X hws2
    refine lv_aload_n hx hb dX1_add_22 rfl (lv_at hl 0 rfl) ?_
    refine va_get (D := D) (ci := ciE) (v := .ref (ad 9)) (C := RX1) (T := TX1) (N := 5) hx hb hts (by decide +kernel) hown hK hP 0 (xd_a0 X) rfl 4 (by decide) (hts (.fieldLink RX1 35 "ExactDesk" "outcome" "LExactDesk$Wide;") (by decide +kernel)) (fun _ h9 => h9) rfl dX1_add_23 ?_
    refine lv_lload_n hx hb dX1_add_26 rfl (lv_at hl 2 rfl) ?_
    refine xb_rv (va_runV (As := [.long v]) (rest := []) ⟨hx, hb, hml, hown, hts⟩ (cW_incL l D (xd_a9 X) v (zr_l _) (zr_a _ _)) (cwV 1 hts gX1_add_X0_increase rfl rfl rfl (by decide +kernel) ⟨Nat.le_of_ble_eq_true rfl, Nat.le_of_ble_eq_true rfl⟩) (xb_pv hP hK hD rfl rfl (xd_a9 X)) rfl rfl hl.1 rfl (lv_room (Nat.le_of_ble_eq_true rfl)) dX1_add_27 ⟨Nat.le_of_ble_eq_true rfl, Nat.le_of_ble_eq_true rfl⟩) hD hS hA (fun ws3 H locs hws3 hP hD hS => ?_)
    have X := xd_setO X hws3
    refine lv_aload_n hx hb dX1_add_30 rfl (lv_at hl 0 rfl) ?_
    refine lv_iload_n hx hb dX1_add_31 rfl (lv_at hl 1 rfl) ?_
    refine xb_ri (va_runV (As := [.int r]) (rest := []) ⟨hx, hb, hml, hown, hts⟩ (cE_kR l D X (zr_a _ _) c4) (cwV 1 hts gX1_add_X1_keepInRegister rfl rfl rfl (by decide +kernel) ⟨Nat.le_of_ble_eq_true rfl, Nat.le_of_ble_eq_true rfl⟩) (xb_pv hP hK hD rfl rfl (xd_a0 X)) rfl rfl hl.1 rfl (lv_room (Nat.le_of_ble_eq_true rfl)) dX1_add_32 ⟨Nat.le_of_ble_eq_true rfl, Nat.le_of_ble_eq_true rfl⟩) hD hS hA (fun r32 ws4 H locs hws4 hP hD hS => ?_)
    exact xb_ir hx hb hr hlocks hP hK hD hS dX1_add_35 (by rw [sp_add, if_pos c4]; exact ⟨_, hws4.1, hws4.2⟩)
  · have c4 := bz_0 hr1 c4
    refine lv_iconst (v := (-1)) hx hb dX1_add_7 (by decide) ?_
    exact xb_ir hx hb hr hlocks hP hK hD hS dX1_add_8 (by rw [sp_add, if_neg c4]; exact ⟨_, X, rfl⟩)
set_option maxHeartbeats 4000000 in
set_option maxRecDepth 100000 in
theorem cE_sub (l : Launch) (D : va_G) {tys : xT} {ws : va_W} {sz : Nat} {w0 : va_W} {ad : Nat → Nat} {cA : Nat → ClassId} {g : Nat → Option Nat} {rf : Nat → Int64} {tv : Nat → Int} {o : Int} (X : xd w0 ws tys ad cA g rf tv o) (r : Int32) (v : Int64) : xM l yX1_subtract wsX1_subtract ({ frames := 3, cells := 0, slots := 0, locals := 73 }) D tys ws sz [.ref (ad 0), .int r, .long v] (xQi D tys (fun a w => ∃ o1, xd w0 w tys ad cA g (sp_sub (rf, tv) r v).2.1 (sp_sub (rf, tv) r v).2.2 o1 ∧ a = (sp_sub (rf, tv) r v).1)) 0 0 := by
  refine xb_m (cc := cX1_subtract) (maxL := 4) (ret := (some .int)) (by decide) rfl (Nat.le_of_ble_eq_true rfl) ?_
  intro p e s m below meth c A ls hx hb hr hml hown hts hlocks hnm hA hP hK hD hS hl
  have hl : lv_has ls 4 [(0, .ref (ad 0)), (1, .int r), (2, .long v)] := hl
  have hown : s.vm.findClass RX1 = some m.cls := hown
  refine lv_iload_n hx hb dX1_subtract_0 rfl (lv_at hl 1 rfl) ?_
  refine xb_ri (va_runS (As := [.int r]) (rest := []) ⟨hx, hb, hml, hown, hts⟩ (cE_isR l D r) (va_cwS 1 hts gX1_subtract_X1_isRegister rfl rfl rfl (by decide +kernel) ⟨Nat.le_of_ble_eq_true rfl, Nat.le_of_ble_eq_true rfl⟩) (xb_ps rfl hP hK hD) rfl rfl hl.1 rfl (lv_room (Nat.le_of_ble_eq_true rfl)) dX1_subtract_1 ⟨Nat.le_of_ble_eq_true rfl, Nat.le_of_ble_eq_true rfl⟩) hD hS hA (fun r1 ws1 H locs hws1 hP hD hS => ?_)
  obtain ⟨hr1, rfl⟩ := hws1
  refine lv_if_ne (tgt := 9) hx hb dX1_subtract_4 (by decide) (fun c4 => ?_) (fun c4 => ?_)
  · have c4 := bz_1 hr1 c4
    refine lv_aload_n hx hb dX1_subtract_9 rfl (lv_at hl 0 rfl) ?_
    refine va_get (D := D) (ci := ciE) (v := .ref (ad 9)) (C := RX1) (T := TX1) (N := 5) hx hb hts (by decide +kernel) hown hK hP 0 (xd_a0 X) rfl 4 (by decide) (hts (.fieldLink RX1 35 "ExactDesk" "outcome" "LExactDesk$Wide;") (by decide +kernel)) (fun _ h9 => h9) rfl dX1_subtract_10 ?_
    refine lv_lload_n hx hb dX1_subtract_13 rfl (lv_at hl 2 rfl) ?_
    refine xb_rv (va_runV (As := [.long v]) (rest := []) ⟨hx, hb, hml, hown, hts⟩ (cW_becomeL l D (xd_a9 X) v) (cwV 1 hts gX1_subtract_X0_become rfl rfl rfl (by decide +kernel) ⟨Nat.le_of_ble_eq_true rfl, Nat.le_of_ble_eq_true rfl⟩) (xb_pv hP hK hD rfl rfl (xd_a9 X)) rfl rfl hl.1 rfl (lv_room (Nat.le_of_ble_eq_true rfl)) dX1_subtract_14 ⟨Nat.le_of_ble_eq_true rfl, Nat.le_of_ble_eq_true rfl⟩) hD hS hA (fun ws2 H locs hws2 hP hD hS => ?_)
    have X := xd_setO X hws2
    refine lv_aload_n hx hb dX1_subtract_17 rfl (lv_at hl 0 rfl) ?_
    refine va_get (D := D) (ci := ciE) (v := .ref (ad 9)) (C := RX1) (T := TX1) (N := 5) hx hb hts (by decide +kernel) hown hK hP 0 (xd_a0 X) rfl 4 (by decide) (hts (.fieldLink RX1 35 "ExactDesk" "outcome" "LExactDesk$Wide;") (by decide +kernel)) (fun _ h9 => h9) rfl dX1_subtract_18 ?_
    refine xb_rv (va_runV (As := []) (rest := []) ⟨hx, hb, hml, hown, hts⟩ (cW_neg l D (xd_a9 X) (zr_l _) (zr_n _)) (cwV 0 hts gX1_subtract_X0_negate rfl rfl rfl (by decide +kernel) ⟨Nat.le_of_ble_eq_true rfl, Nat.le_of_ble_eq_true rfl⟩) (xb_pv hP hK hD rfl rfl (xd_a9 X)) rfl rfl hl.1 rfl (lv_room (Nat.le_of_ble_eq_true rfl)) dX1_subtract_21 ⟨Nat.le_of_ble_eq_true rfl, Nat.le_of_ble_eq_true rfl⟩) hD hS hA (fun ws3 H locs hws3 hP hD hS => ?_)
    have X := xd_setO X hws3
    refine lv_aload_n hx hb dX1_subtract_24 rfl (lv_at hl 0 rfl) ?_
    refine va_get (D := D) (ci := ciE) (v := .ref (ad 9)) (C := RX1) (T := TX1) (N := 5) hx hb hts (by decide +kernel) hown hK hP 0 (xd_a0 X) rfl 4 (by decide) (hts (.fieldLink RX1 35 "ExactDesk" "outcome" "LExactDesk$Wide;") (by decide +kernel)) (fun _ h9 => h9) rfl dX1_subtract_25 ?_
    refine lv_aload_n hx hb dX1_subtract_28 rfl (lv_at hl 0 rfl) ?_
    refine va_get (D := D) (ci := ciE) (v := .ref (ad 1)) (C := RX1) (T := TX1) (N := 5) hx hb hts (by decide +kernel) hown hK hP 0 (xd_a0 X) rfl 0 (by decide) (hts (.fieldLink RX1 9 "ExactDesk" "registers" "[J") (by decide +kernel)) (fun _ h9 => h9) rfl dX1_subtract_29 ?_
    refine lv_iload_n hx hb dX1_subtract_32 rfl (lv_at hl 1 rfl) ?_
    refine xd_lld hx hb hK hP X c4 dX1_subtract_33 ?_
    refine xb_rv (va_runV (As := [.long (rf r.toNatClampNeg)]) (rest := []) ⟨hx, hb, hml, hown, hts⟩ (cW_incL l D (xd_a9 X) (rf r.toNatClampNeg) (zr_n _) (zr_s _ _)) (cwV 1 hts gX1_subtract_X0_increase rfl rfl rfl (by decide +kernel) ⟨Nat.le_of_ble_eq_true rfl, Nat.le_of_ble_eq_true rfl⟩) (xb_pv hP hK hD rfl rfl (xd_a9 X)) rfl rfl hl.1 rfl (lv_room (Nat.le_of_ble_eq_true rfl)) dX1_subtract_34 ⟨Nat.le_of_ble_eq_true rfl, Nat.le_of_ble_eq_true rfl⟩) hD hS hA (fun ws4 H locs hws4 hP hD hS => ?_)
    have X := xd_setO X hws4
    refine lv_aload_n hx hb dX1_subtract_37 rfl (lv_at hl 0 rfl) ?_
    refine lv_iload_n hx hb dX1_subtract_38 rfl (lv_at hl 1 rfl) ?_
    refine xb_ri (va_runV (As := [.int r]) (rest := []) ⟨hx, hb, hml, hown, hts⟩ (cE_kR l D X (zr_s _ _) c4) (cwV 1 hts gX1_subtract_X1_keepInRegister rfl rfl rfl (by decide +kernel) ⟨Nat.le_of_ble_eq_true rfl, Nat.le_of_ble_eq_true rfl⟩) (xb_pv hP hK hD rfl rfl (xd_a0 X)) rfl rfl hl.1 rfl (lv_room (Nat.le_of_ble_eq_true rfl)) dX1_subtract_39 ⟨Nat.le_of_ble_eq_true rfl, Nat.le_of_ble_eq_true rfl⟩) hD hS hA (fun r39 ws5 H locs hws5 hP hD hS => ?_)
    exact xb_ir hx hb hr hlocks hP hK hD hS dX1_subtract_42 (by rw [sp_sub, if_pos c4, Int.sub_eq_add_neg, Int.add_comm]; exact ⟨_, hws5.1, hws5.2⟩)
  · have c4 := bz_0 hr1 c4
    refine lv_iconst (v := (-1)) hx hb dX1_subtract_7 (by decide) ?_
    exact xb_ir hx hb hr hlocks hP hK hD hS dX1_subtract_8 (by rw [sp_sub, if_neg c4]; exact ⟨_, X, rfl⟩)
set_option maxHeartbeats 4000000 in
set_option maxRecDepth 100000 in
theorem cE_times (l : Launch) (D : va_G) {tys : xT} {ws : va_W} {sz : Nat} {w0 : va_W} {ad : Nat → Nat} {cA : Nat → ClassId} {g : Nat → Option Nat} {rf : Nat → Int64} {tv : Nat → Int} {o : Int} (X : xd w0 ws tys ad cA g rf tv o) (r : Int32) (v : Int64) : xM l yX1_times wsX1_times ({ frames := 2, cells := 0, slots := 0, locals := 41 }) D tys ws sz [.ref (ad 0), .int r, .long v] (xQi D tys (fun a w => ∃ o1, xd w0 w tys ad cA g (sp_times (rf, tv) r v).2.1 (sp_times (rf, tv) r v).2.2 o1 ∧ a = (sp_times (rf, tv) r v).1)) 0 0 := by
  refine xb_m (cc := cX1_times) (maxL := 4) (ret := (some .int)) (by decide) rfl (Nat.le_of_ble_eq_true rfl) ?_
  intro p e s m below meth c A ls hx hb hr hml hown hts hlocks hnm hA hP hK hD hS hl
  have hl : lv_has ls 4 [(0, .ref (ad 0)), (1, .int r), (2, .long v)] := hl
  have hown : s.vm.findClass RX1 = some m.cls := hown
  refine lv_iload_n hx hb dX1_times_0 rfl (lv_at hl 1 rfl) ?_
  refine xb_ri (va_runS (As := [.int r]) (rest := []) ⟨hx, hb, hml, hown, hts⟩ (cE_isR l D r) (va_cwS 1 hts gX1_times_X1_isRegister rfl rfl rfl (by decide +kernel) ⟨Nat.le_of_ble_eq_true rfl, Nat.le_of_ble_eq_true rfl⟩) (xb_ps rfl hP hK hD) rfl rfl hl.1 rfl (lv_room (Nat.le_of_ble_eq_true rfl)) dX1_times_1 ⟨Nat.le_of_ble_eq_true rfl, Nat.le_of_ble_eq_true rfl⟩) hD hS hA (fun r1 ws1 H locs hws1 hP hD hS => ?_)
  obtain ⟨hr1, rfl⟩ := hws1
  refine lv_if_ne (tgt := 9) hx hb dX1_times_4 (by decide) (fun c4 => ?_) (fun c4 => ?_)
  · have c4 := bz_1 hr1 c4
    refine lv_aload_n hx hb dX1_times_9 rfl (lv_at hl 0 rfl) ?_
    refine va_get (D := D) (ci := ciE) (v := .ref (ad 9)) (C := RX1) (T := TX1) (N := 5) hx hb hts (by decide +kernel) hown hK hP 0 (xd_a0 X) rfl 4 (by decide) (hts (.fieldLink RX1 35 "ExactDesk" "outcome" "LExactDesk$Wide;") (by decide +kernel)) (fun _ h9 => h9) rfl dX1_times_10 ?_
    refine lv_aload_n hx hb dX1_times_13 rfl (lv_at hl 0 rfl) ?_
    refine va_get (D := D) (ci := ciE) (v := .ref (ad 1)) (C := RX1) (T := TX1) (N := 5) hx hb hts (by decide +kernel) hown hK hP 0 (xd_a0 X) rfl 0 (by decide) (hts (.fieldLink RX1 9 "ExactDesk" "registers" "[J") (by decide +kernel)) (fun _ h9 => h9) rfl dX1_times_14 ?_
    refine lv_iload_n hx hb dX1_times_17 rfl (lv_at hl 1 rfl) ?_
    refine xd_lld hx hb hK hP X c4 dX1_times_18 ?_
    refine lv_lload_n hx hb dX1_times_19 rfl (lv_at hl 2 rfl) ?_
    refine xb_rv (va_runV (As := [.long (rf r.toNatClampNeg), .long v]) (rest := []) ⟨hx, hb, hml, hown, hts⟩ (cW_prod l D (xd_a9 X) (rf r.toNatClampNeg) v) (cwV 2 hts gX1_times_X0_becomeProduct rfl rfl rfl (by decide +kernel) ⟨Nat.le_of_ble_eq_true rfl, Nat.le_of_ble_eq_true rfl⟩) (xb_pv hP hK hD rfl rfl (xd_a9 X)) rfl rfl hl.1 rfl (lv_room (Nat.le_of_ble_eq_true rfl)) dX1_times_20 ⟨Nat.le_of_ble_eq_true rfl, Nat.le_of_ble_eq_true rfl⟩) hD hS hA (fun ws2 H locs hws2 hP hD hS => ?_)
    have X := xd_setO X hws2
    refine lv_aload_n hx hb dX1_times_23 rfl (lv_at hl 0 rfl) ?_
    refine lv_iload_n hx hb dX1_times_24 rfl (lv_at hl 1 rfl) ?_
    refine xb_ri (va_runV (As := [.int r]) (rest := []) ⟨hx, hb, hml, hown, hts⟩ (cE_kR l D X (zr_m _ _) c4) (cwV 1 hts gX1_times_X1_keepInRegister rfl rfl rfl (by decide +kernel) ⟨Nat.le_of_ble_eq_true rfl, Nat.le_of_ble_eq_true rfl⟩) (xb_pv hP hK hD rfl rfl (xd_a0 X)) rfl rfl hl.1 rfl (lv_room (Nat.le_of_ble_eq_true rfl)) dX1_times_25 ⟨Nat.le_of_ble_eq_true rfl, Nat.le_of_ble_eq_true rfl⟩) hD hS hA (fun r25 ws3 H locs hws3 hP hD hS => ?_)
    exact xb_ir hx hb hr hlocks hP hK hD hS dX1_times_28 (by rw [sp_times, if_pos c4]; exact ⟨_, hws3.1, hws3.2⟩)
  · have c4 := bz_0 hr1 c4
    refine lv_iconst (v := (-1)) hx hb dX1_times_7 (by decide) ?_
    exact xb_ir hx hb hr hlocks hP hK hD hS dX1_times_8 (by rw [sp_times, if_neg c4]; exact ⟨_, X, rfl⟩)
end
section
-- the rows of ExactDesk, two (laid by wip/whole/gen_desk2.py)
set_option maxHeartbeats 4000000 in
set_option maxRecDepth 100000 in
theorem cE_rA (l : Launch) (D : va_G) {tys : xT} {ws : va_W} {sz : Nat} (r d : Int64) (ng wy : Int32) {P : Prop} [Decidable P] (hng : ng = if P then 1 else 0) (hw : okW wy) (h1 : uN r < uN d) (h2 : uN d ≤ 9223372036854775808) : xM l yX1_roundsAwayFromZero wsX1_roundsAwayFromZero ({ frames := 0, cells := 0, slots := 0, locals := 0 }) D tys ws sz [.long r, .long d, .int ng, .int wy] (xQi D tys (fun a w => a = (if rq_up (uN r) (uN d) P wy then 1 else 0) ∧ ws = w)) 0 0 := by
  refine xb_m (cc := cX1_roundsAwayFromZero) (maxL := 6) (ret := (some .boolean)) (by decide) rfl (Nat.le_of_ble_eq_true rfl) ?_
  intro p e s m below meth c A ls hx hb hr hml hown hts hlocks hnm hA hP hK hD hS hl
  have hl : lv_has ls 6 [(0, .long r), (2, .long d), (4, .int ng), (5, .int wy)] := hl
  have hown : s.vm.findClass RX1 = some m.cls := hown
  refine lv_iload hx hb dX1_roundsAwayFromZero_0 (lv_at hl 3 rfl) ?_
  rcases okW_c hw with rfl | rfl | rfl | rfl
  · refine lv_tableIn (tgt := 28) hx hb dX1_roundsAwayFromZero_2 (by decide) (by decide) rfl (by decide) ?_
    refine lv_iload hx hb dX1_roundsAwayFromZero_28 (lv_at hl 2 rfl) ?_
    refine lv_if_eq (tgt := 43) hx hb dX1_roundsAwayFromZero_30 (by decide) (fun c30 => ?_) (fun c30 => ?_)
    · have c30 := bz_0 hng c30
      refine lv_iconst (v := 0) hx hb dX1_roundsAwayFromZero_43 (by decide) ?_
      exact xb_zr hx hb hr hlocks hP hK hD hS dX1_roundsAwayFromZero_44 rfl (⟨by rw [if_neg (fun q => c30 ((rq0 _ _ _).mp q).1)], rfl⟩)
    · have c30 := bz_1 hng c30
      refine lv_lload_n hx hb dX1_roundsAwayFromZero_33 rfl (lv_at hl 0 rfl) ?_
      refine lv_lconst (v := 0) hx hb dX1_roundsAwayFromZero_34 (by decide) ?_
      refine W.lcmp hx hb dX1_roundsAwayFromZero_35 ?_
      refine lv_if_eq (tgt := 43) hx hb dX1_roundsAwayFromZero_36 (by decide) (fun c36 => ?_) (fun c36 => ?_)
      · rw [lg_cmp_eq] at c36
        refine lv_iconst (v := 0) hx hb dX1_roundsAwayFromZero_43 (by decide) ?_
        exact xb_zr hx hb hr hlocks hP hK hD hS dX1_roundsAwayFromZero_44 rfl (⟨by rw [if_neg (fun q => un_e0 c36 ((rq0 _ _ _).mp q).2)], rfl⟩)
      · rw [lg_cmp_eq] at c36
        refine lv_iconst (v := 1) hx hb dX1_roundsAwayFromZero_39 (by decide) ?_
        refine lv_goto (tgt := 44) hx hb dX1_roundsAwayFromZero_40 (by decide) ?_
        exact xb_zr hx hb hr hlocks hP hK hD hS dX1_roundsAwayFromZero_44 rfl (⟨by rw [if_pos ((rq0 _ _ _).mpr ⟨c30, un_ne c36⟩)], rfl⟩)
  · refine lv_tableIn (tgt := 45) hx hb dX1_roundsAwayFromZero_2 (by decide) (by decide) rfl (by decide) ?_
    refine lv_iload hx hb dX1_roundsAwayFromZero_45 (lv_at hl 2 rfl) ?_
    refine lv_if_ne (tgt := 60) hx hb dX1_roundsAwayFromZero_47 (by decide) (fun c47 => ?_) (fun c47 => ?_)
    · have c47 := bz_1 hng c47
      refine lv_iconst (v := 0) hx hb dX1_roundsAwayFromZero_60 (by decide) ?_
      exact xb_zr hx hb hr hlocks hP hK hD hS dX1_roundsAwayFromZero_61 rfl (⟨by rw [if_neg (fun q => ((rq1 _ _ _).mp q).1 c47)], rfl⟩)
    · have c47 := bz_0 hng c47
      refine lv_lload_n hx hb dX1_roundsAwayFromZero_50 rfl (lv_at hl 0 rfl) ?_
      refine lv_lconst (v := 0) hx hb dX1_roundsAwayFromZero_51 (by decide) ?_
      refine W.lcmp hx hb dX1_roundsAwayFromZero_52 ?_
      refine lv_if_eq (tgt := 60) hx hb dX1_roundsAwayFromZero_53 (by decide) (fun c53 => ?_) (fun c53 => ?_)
      · rw [lg_cmp_eq] at c53
        refine lv_iconst (v := 0) hx hb dX1_roundsAwayFromZero_60 (by decide) ?_
        exact xb_zr hx hb hr hlocks hP hK hD hS dX1_roundsAwayFromZero_61 rfl (⟨by rw [if_neg (fun q => un_e0 c53 ((rq1 _ _ _).mp q).2)], rfl⟩)
      · rw [lg_cmp_eq] at c53
        refine lv_iconst (v := 1) hx hb dX1_roundsAwayFromZero_56 (by decide) ?_
        refine lv_goto (tgt := 61) hx hb dX1_roundsAwayFromZero_57 (by decide) ?_
        exact xb_zr hx hb hr hlocks hP hK hD hS dX1_roundsAwayFromZero_61 rfl (⟨by rw [if_pos ((rq1 _ _ _).mpr ⟨c47, un_ne c53⟩)], rfl⟩)
  · refine lv_tableIn (tgt := 62) hx hb dX1_roundsAwayFromZero_2 (by decide) (by decide) rfl (by decide) ?_
    refine lv_iconst (v := 0) hx hb dX1_roundsAwayFromZero_62 (by decide) ?_
    exact xb_zr hx hb hr hlocks hP hK hD hS dX1_roundsAwayFromZero_63 rfl (⟨by rw [if_neg (rq2 _ _ _)], rfl⟩)
  · refine lv_tableOut (tgt := 64) hx hb dX1_roundsAwayFromZero_2 (by decide) (by decide) ?_
    refine lv_lload_n hx hb dX1_roundsAwayFromZero_64 rfl (lv_at hl 0 rfl) ?_
    refine lv_lload_n hx hb dX1_roundsAwayFromZero_65 rfl (lv_at hl 1 rfl) ?_
    refine lv_lconst (v := 1) hx hb dX1_roundsAwayFromZero_66 (by decide) ?_
    refine lv_lsub hx hb dX1_roundsAwayFromZero_67 ?_
    refine lv_lload_n hx hb dX1_roundsAwayFromZero_68 rfl (lv_at hl 0 rfl) ?_
    refine lv_lsub hx hb dX1_roundsAwayFromZero_69 ?_
    refine W.lcmp hx hb dX1_roundsAwayFromZero_70 ?_
    refine lv_if_le (tgt := 78) hx hb dX1_roundsAwayFromZero_71 (by decide) (fun c71 => ?_) (fun c71 => ?_)
    · rw [lg_cmp_le] at c71
      refine lv_iconst (v := 0) hx hb dX1_roundsAwayFromZero_78 (by decide) ?_
      exact xb_zr hx hb hr hlocks hP hK hD hS dX1_roundsAwayFromZero_79 rfl (⟨by rw [half_c h1 h2] at c71; rw [if_neg (by rw [rq3]; omega)], rfl⟩)
    · rw [lg_cmp_le] at c71
      refine lv_iconst (v := 1) hx hb dX1_roundsAwayFromZero_74 (by decide) ?_
      refine lv_goto (tgt := 79) hx hb dX1_roundsAwayFromZero_75 (by decide) ?_
      exact xb_zr hx hb hr hlocks hP hK hD hS dX1_roundsAwayFromZero_79 rfl (⟨by rw [half_c h1 h2] at c71; rw [if_pos (by rw [rq3]; omega)], rfl⟩)
set_option maxHeartbeats 4000000 in
set_option maxRecDepth 100000 in
theorem cE_dO (l : Launch) (D : va_G) {tys : xT} {ws : va_W} {sz : Nat} {w0 : va_W} {ad : Nat → Nat} {cA : Nat → ClassId} {g : Nat → Option Nat} {rf : Nat → Int64} {tv : Nat → Int} {o : Int} (X : xd w0 ws tys ad cA g rf tv o) (cv : Int64) (wy : Int32) (b1 : -85070591730234615865843651857942052864 ≤ o) (b2 : o ≤ 85070591730234615865843651857942052864) (hc : ¬ cv = 0) (hw : okW wy) : xM l yX1_divideOutcome wsX1_divideOutcome ({ frames := 3, cells := 0, slots := 0, locals := 73 }) D tys ws sz [.ref (ad 0), .long cv, .int wy] (xQv D tys (fun w => xd w0 w tys ad cA g rf tv (rq o cv.toInt wy))) 0 0 := by
  refine xb_m (cc := cX1_divideOutcome) (maxL := 9) (ret := none) (by decide) rfl (Nat.le_of_ble_eq_true rfl) ?_
  intro p e s m below meth c A ls hx hb hr hml hown hts hlocks hnm hA hP hK hD hS hl
  have hl : lv_has ls 9 [(0, .ref (ad 0)), (1, .long cv), (3, .int wy)] := hl
  have hown : s.vm.findClass RX1 = some m.cls := hown
  have t81 : ∀ (ng : Int32) (o1 : Int) (ws1 : va_W) (H : Heap) (locs : List Loc) (ls : Array Slot), ng = (if rq_ng o cv.toInt then 1 else 0) → o1 = rq_sz o cv.toInt wy →  xd w0 ws1 tys ad cA g rf tv o1 → va_P D vwCl ws1 H → va_D A ws1 → va_S A s.heap H locs → lv_has ls 9 [(0, .ref (ad 0)), (4, .int ng)] → W p l e ({ frames := 3, cells := 0, slots := 0, locals := 73 }) s m [.ref (ad 0), .long cv, .int wy].toArray below meth c H locs 0 0 (MQ below (xQv D tys (fun w => xd w0 w tys ad cA g rf tv (rq o cv.toInt wy)) A) [.ref (ad 0), .long cv, .int wy].toArray s 0 0 A) (F0 m 81 ls []) := by
    intro ng o1 ws1 H locs ls hng ho1 X hP hD hS hl
    have hq := rq_szb (d := cv.toInt) (w := wy) b1 b2
    rw [← ho1] at hq
    refine lv_iload hx hb dX1_divideOutcome_81 (lv_at hl 1 rfl) ?_
    refine lv_if_eq (tgt := 93) hx hb dX1_divideOutcome_83 (by decide) (fun c83 => ?_) (fun c83 => ?_)
    · have c83 := bz_0 hng c83
      exact xb_vr hx hb hr hlocks hP hK hD hS dX1_divideOutcome_93 (by rw [rq, if_neg c83, ← ho1]; exact X)
    · have c83 := bz_1 hng c83
      refine lv_aload_n hx hb dX1_divideOutcome_86 rfl (lv_at hl 0 rfl) ?_
      refine va_get (D := D) (ci := ciE) (v := .ref (ad 9)) (C := RX1) (T := TX1) (N := 5) hx hb hts (by decide +kernel) hown hK hP 0 (xd_a0 X) rfl 4 (by decide) (hts (.fieldLink RX1 35 "ExactDesk" "outcome" "LExactDesk$Wide;") (by decide +kernel)) (fun _ h9 => h9) rfl dX1_divideOutcome_87 ?_
      refine xb_rv (va_runV (As := []) (rest := []) ⟨hx, hb, hml, hown, hts⟩ (cW_neg l D (xd_a9 X) ⟨by omega, by omega⟩ ⟨by omega, by omega⟩) (cwV 0 hts gX1_divideOutcome_X0_negate rfl rfl rfl (by decide +kernel) ⟨Nat.le_of_ble_eq_true rfl, Nat.le_of_ble_eq_true rfl⟩) (xb_pv hP hK hD rfl rfl (xd_a9 X)) rfl rfl hl.1 rfl (lv_room (Nat.le_of_ble_eq_true rfl)) dX1_divideOutcome_90 ⟨Nat.le_of_ble_eq_true rfl, Nat.le_of_ble_eq_true rfl⟩) hD hS hA (fun ws2 H locs hws2 hP hD hS => ?_)
      have X := xd_setO X hws2
      exact xb_vr hx hb hr hlocks hP hK hD hS dX1_divideOutcome_93 (by rw [rq, if_pos c83, ← ho1]; exact X)
  have t40 : ∀ (ng : Int32) (sz : Int64) (ws1 : va_W) (H : Heap) (locs : List Loc) (ls : Array Slot), ng = (if rq_ng o cv.toInt then 1 else 0) → uN sz = cv.toInt.natAbs →  xd w0 ws1 tys ad cA g rf tv o → va_P D vwCl ws1 H → va_D A ws1 → va_S A s.heap H locs → lv_has ls 9 [(0, .ref (ad 0)), (1, .long cv), (3, .int wy), (4, .int ng)] → W p l e ({ frames := 3, cells := 0, slots := 0, locals := 73 }) s m [.ref (ad 0), .long cv, .int wy].toArray below meth c H locs 0 0 (MQ below (xQv D tys (fun w => xd w0 w tys ad cA g rf tv (rq o cv.toInt wy)) A) [.ref (ad 0), .long cv, .int wy].toArray s 0 0 A) (F0 m 40 ls [.long sz]) := by
    intro ng sz ws1 H locs ls hng hsz X hP hD hS hl
    refine lv_lstore (lv' := [(5, .long sz), (0, .ref (ad 0)), (1, .long cv), (3, .int wy), (4, .int ng)]) hx hb dX1_divideOutcome_40 hl (by decide) rfl (fun ls hl => ?_)
    refine lv_aload_n hx hb dX1_divideOutcome_42 rfl (lv_at hl 1 rfl) ?_
    refine va_get (D := D) (ci := ciE) (v := .ref (ad 9)) (C := RX1) (T := TX1) (N := 5) hx hb hts (by decide +kernel) hown hK hP 0 (xd_a0 X) rfl 4 (by decide) (hts (.fieldLink RX1 35 "ExactDesk" "outcome" "LExactDesk$Wide;") (by decide +kernel)) (fun _ h9 => h9) rfl dX1_divideOutcome_43 ?_
    refine xb_rv (va_runV (As := []) (rest := []) ⟨hx, hb, hml, hown, hts⟩ (cW_drop l D (xd_a9 X) ⟨by omega, by omega⟩ ⟨by omega, by omega⟩) (cwV 0 hts gX1_divideOutcome_X0_dropSign rfl rfl rfl (by decide +kernel) ⟨Nat.le_of_ble_eq_true rfl, Nat.le_of_ble_eq_true rfl⟩) (xb_pv hP hK hD rfl rfl (xd_a9 X)) rfl rfl hl.1 rfl (lv_room (Nat.le_of_ble_eq_true rfl)) dX1_divideOutcome_46 ⟨Nat.le_of_ble_eq_true rfl, Nat.le_of_ble_eq_true rfl⟩) hD hS hA (fun ws2 H locs hws2 hP hD hS => ?_)
    have X := xd_setO X hws2
    refine lv_aload_n hx hb dX1_divideOutcome_49 rfl (lv_at hl 1 rfl) ?_
    refine va_get (D := D) (ci := ciE) (v := .ref (ad 9)) (C := RX1) (T := TX1) (N := 5) hx hb hts (by decide +kernel) hown hK hP 0 (xd_a0 X) rfl 4 (by decide) (hts (.fieldLink RX1 35 "ExactDesk" "outcome" "LExactDesk$Wide;") (by decide +kernel)) (fun _ h9 => h9) rfl dX1_divideOutcome_50 ?_
    refine lv_lload hx hb dX1_divideOutcome_53 (lv_at hl 0 rfl) ?_
    refine xb_rl (va_runV (As := [.long sz]) (rest := []) ⟨hx, hb, hml, hown, hts⟩ (cW_div l D (xd_a9 X) sz (by omega) ⟨by omega, by omega⟩ (by rw [hsz]; exact l_ne hc) (by rw [hsz]; exact l_abs cv)) (cwV 1 hts gX1_divideOutcome_X0_divideBy rfl rfl rfl (by decide +kernel) ⟨Nat.le_of_ble_eq_true rfl, Nat.le_of_ble_eq_true rfl⟩) (xb_pv hP hK hD rfl rfl (xd_a9 X)) rfl rfl hl.1 rfl (lv_room (Nat.le_of_ble_eq_true rfl)) dX1_divideOutcome_55 ⟨Nat.le_of_ble_eq_true rfl, Nat.le_of_ble_eq_true rfl⟩) hD hS hA (fun r55 ws3 H locs hws3 hP hD hS => ?_)
    obtain ⟨hws3, hr55⟩ := hws3
    have X := xd_setO X hws3
    obtain ⟨e1, e2⟩ := sz_fin hsz hr55
    have hlt : uN r55 < uN sz := by rw [e1, hsz]; exact Nat.mod_lt _ (l_ne hc)
    have hbd := div_b (n := o.natAbs) (d := uN sz)
    refine lv_lstore (lv' := [(7, .long r55), (5, .long sz), (0, .ref (ad 0)), (1, .long cv), (3, .int wy), (4, .int ng)]) hx hb dX1_divideOutcome_58 hl (by decide) rfl (fun ls hl => ?_)
    refine lv_lload hx hb dX1_divideOutcome_60 (lv_at hl 0 rfl) ?_
    refine lv_lload hx hb dX1_divideOutcome_62 (lv_at hl 1 rfl) ?_
    refine lv_iload hx hb dX1_divideOutcome_64 (lv_at hl 5 rfl) ?_
    refine lv_iload_n hx hb dX1_divideOutcome_66 rfl (lv_at hl 4 rfl) ?_
    refine xb_ri (va_runS (As := [.long r55, .long sz, .int ng, .int wy]) (rest := []) ⟨hx, hb, hml, hown, hts⟩ (cE_rA l D r55 sz ng wy hng hw hlt (by rw [hsz]; exact l_abs cv)) (va_cwS 4 hts gX1_divideOutcome_X1_roundsAwayFromZero rfl rfl rfl (by decide +kernel) ⟨Nat.le_of_ble_eq_true rfl, Nat.le_of_ble_eq_true rfl⟩) (xb_ps rfl hP hK hD) rfl rfl hl.1 rfl (lv_room (Nat.le_of_ble_eq_true rfl)) dX1_divideOutcome_67 ⟨Nat.le_of_ble_eq_true rfl, Nat.le_of_ble_eq_true rfl⟩) hD hS hA (fun r67 ws4 H locs hws4 hP hD hS => ?_)
    obtain ⟨hr67, rfl⟩ := hws4
    refine lv_if_eq (tgt := 81) hx hb dX1_divideOutcome_70 (by decide) (fun c70 => ?_) (fun c70 => ?_)
    · have c70 := bz_0 hr67 c70
      exact t81 ng _ ws3 H locs ls hng (by rw [rq_sz, e2, if_neg (by rw [← e1, ← hsz]; exact c70)]; omega) X hP hD hS (lv_sub hl [2, 5] rfl)
    · have c70 := bz_1 hr67 c70
      refine lv_aload_n hx hb dX1_divideOutcome_73 rfl (lv_at hl 2 rfl) ?_
      refine va_get (D := D) (ci := ciE) (v := .ref (ad 9)) (C := RX1) (T := TX1) (N := 5) hx hb hts (by decide +kernel) hown hK hP 0 (xd_a0 X) rfl 4 (by decide) (hts (.fieldLink RX1 35 "ExactDesk" "outcome" "LExactDesk$Wide;") (by decide +kernel)) (fun _ h9 => h9) rfl dX1_divideOutcome_74 ?_
      refine lv_lconst (v := 1) hx hb dX1_divideOutcome_77 (by decide) ?_
      refine xb_rv (va_runV (As := [.long 1]) (rest := []) ⟨hx, hb, hml, hown, hts⟩ (cW_incL l D (xd_a9 X) 1 ⟨by omega, by omega⟩ ⟨by have e : (1 : Int64).toInt = 1 := (by decide); omega, by have e : (1 : Int64).toInt = 1 := (by decide); omega⟩) (cwV 1 hts gX1_divideOutcome_X0_increase rfl rfl rfl (by decide +kernel) ⟨Nat.le_of_ble_eq_true rfl, Nat.le_of_ble_eq_true rfl⟩) (xb_pv hP hK hD rfl rfl (xd_a9 X)) rfl rfl hl.1 rfl (lv_room (Nat.le_of_ble_eq_true rfl)) dX1_divideOutcome_78 ⟨Nat.le_of_ble_eq_true rfl, Nat.le_of_ble_eq_true rfl⟩) hD hS hA (fun ws5 H locs hws5 hP hD hS => ?_)
      have X := xd_setO X hws5
      exact t81 ng _ ws5 H locs ls hng (by rw [rq_sz, e2, if_pos (by rw [← e1, ← hsz]; exact c70)]; rfl) X hP hD hS (lv_sub hl [2, 5] rfl)
  have t26 : ∀ (ng : Int32) (ws1 : va_W) (H : Heap) (locs : List Loc) (ls : Array Slot), ng = (if rq_ng o cv.toInt then 1 else 0) →  xd w0 ws1 tys ad cA g rf tv o → va_P D vwCl ws1 H → va_D A ws1 → va_S A s.heap H locs → lv_has ls 9 [(0, .ref (ad 0)), (1, .long cv), (3, .int wy)] → W p l e ({ frames := 3, cells := 0, slots := 0, locals := 73 }) s m [.ref (ad 0), .long cv, .int wy].toArray below meth c H locs 0 0 (MQ below (xQv D tys (fun w => xd w0 w tys ad cA g rf tv (rq o cv.toInt wy)) A) [.ref (ad 0), .long cv, .int wy].toArray s 0 0 A) (F0 m 26 ls [.int ng]) := by
    intro ng ws1 H locs ls hng X hP hD hS hl
    refine lv_istore (lv' := [(4, .int ng), (0, .ref (ad 0)), (1, .long cv), (3, .int wy)]) hx hb dX1_divideOutcome_26 hl (by decide) rfl (fun ls hl => ?_)
    refine lv_lload_n hx hb dX1_divideOutcome_28 rfl (lv_at hl 2 rfl) ?_
    refine lv_lconst (v := 0) hx hb dX1_divideOutcome_29 (by decide) ?_
    refine W.lcmp hx hb dX1_divideOutcome_30 ?_
    refine lv_if_ge (tgt := 39) hx hb dX1_divideOutcome_31 (by decide) (fun c31 => ?_) (fun c31 => ?_)
    · rw [lg_cmp_ge] at c31
      refine lv_lload_n hx hb dX1_divideOutcome_39 rfl (lv_at hl 2 rfl) ?_
      exact t40 ng _ ws1 H locs ls hng (sz_pos c31) X hP hD hS (lv_sub hl [1, 2, 3, 0] rfl)
    · rw [lg_cmp_ge] at c31
      refine lv_lload_n hx hb dX1_divideOutcome_34 rfl (lv_at hl 2 rfl) ?_
      refine lv_lneg hx hb dX1_divideOutcome_35 ?_
      refine lv_goto (tgt := 40) hx hb dX1_divideOutcome_36 (by decide) ?_
      exact t40 ng _ ws1 H locs ls hng (sz_neg c31) X hP hD hS (lv_sub hl [1, 2, 3, 0] rfl)
  refine lv_aload_n hx hb dX1_divideOutcome_0 rfl (lv_at hl 0 rfl) ?_
  refine va_get (D := D) (ci := ciE) (v := .ref (ad 9)) (C := RX1) (T := TX1) (N := 5) hx hb hts (by decide +kernel) hown hK hP 0 (xd_a0 X) rfl 4 (by decide) (hts (.fieldLink RX1 35 "ExactDesk" "outcome" "LExactDesk$Wide;") (by decide +kernel)) (fun _ h9 => h9) rfl dX1_divideOutcome_1 ?_
  refine xb_ri (va_runV (As := []) (rest := []) ⟨hx, hb, hml, hown, hts⟩ (cW_isneg l D (xd_a9 X) ⟨by omega, by omega⟩) (cwV 0 hts gX1_divideOutcome_X0_isNegative rfl rfl rfl (by decide +kernel) ⟨Nat.le_of_ble_eq_true rfl, Nat.le_of_ble_eq_true rfl⟩) (xb_pv hP hK hD rfl rfl (xd_a9 X)) rfl rfl hl.1 rfl (lv_room (Nat.le_of_ble_eq_true rfl)) dX1_divideOutcome_4 ⟨Nat.le_of_ble_eq_true rfl, Nat.le_of_ble_eq_true rfl⟩) hD hS hA (fun r4 ws1 H locs hws1 hP hD hS => ?_)
  obtain ⟨hr4, rfl⟩ := hws1
  refine lv_lload_n hx hb dX1_divideOutcome_7 rfl (lv_at hl 1 rfl) ?_
  refine lv_lconst (v := 0) hx hb dX1_divideOutcome_8 (by decide) ?_
  refine W.lcmp hx hb dX1_divideOutcome_9 ?_
  refine lv_if_ge (tgt := 17) hx hb dX1_divideOutcome_10 (by decide) (fun c10 => ?_) (fun c10 => ?_)
  · rw [lg_cmp_ge] at c10
    refine lv_iconst (v := 0) hx hb dX1_divideOutcome_17 (by decide) ?_
    refine lv_icmp_eq (tgt := 25) hx hb dX1_divideOutcome_18 (by decide) (fun c18 => ?_) (fun c18 => ?_)
    · refine lv_iconst (v := 0) hx hb dX1_divideOutcome_25 (by decide) ?_
      exact t26 0 ws H locs ls (by rw [l_neg] at c10; have q := bz_0 hr4 c18; rw [if_neg (by omega)]) X hP hD hS (lv_sub hl [0, 1, 2] rfl)
    · refine lv_iconst (v := 1) hx hb dX1_divideOutcome_21 (by decide) ?_
      refine lv_goto (tgt := 26) hx hb dX1_divideOutcome_22 (by decide) ?_
      exact t26 1 ws H locs ls (by rw [l_neg] at c10; have q := bz_1 hr4 c18; rw [if_pos (by omega)]) X hP hD hS (lv_sub hl [0, 1, 2] rfl)
  · rw [lg_cmp_ge] at c10
    refine lv_iconst (v := 1) hx hb dX1_divideOutcome_13 (by decide) ?_
    refine lv_goto (tgt := 18) hx hb dX1_divideOutcome_14 (by decide) ?_
    refine lv_icmp_eq (tgt := 25) hx hb dX1_divideOutcome_18 (by decide) (fun c18 => ?_) (fun c18 => ?_)
    · refine lv_iconst (v := 0) hx hb dX1_divideOutcome_25 (by decide) ?_
      exact t26 0 ws H locs ls (by rw [l_neg] at c10; have q := bz_x hr4 c18; rw [if_neg (by omega)]) X hP hD hS (lv_sub hl [0, 1, 2] rfl)
    · refine lv_iconst (v := 1) hx hb dX1_divideOutcome_21 (by decide) ?_
      refine lv_goto (tgt := 26) hx hb dX1_divideOutcome_22 (by decide) ?_
      exact t26 1 ws H locs ls (by rw [l_neg] at c10; have q := bz_y hr4 c18; rw [if_pos (by omega)]) X hP hD hS (lv_sub hl [0, 1, 2] rfl)
set_option maxHeartbeats 4000000 in
set_option maxRecDepth 100000 in
theorem cE_lH (l : Launch) (D : va_G) {tys : xT} {ws : va_W} {sz : Nat} {w0 : va_W} {ad : Nat → Nat} {cA : Nat → ClassId} {g : Nat → Option Nat} {rf : Nat → Int64} {tv : Nat → Int} {o : Int} (X : xd w0 ws tys ad cA g rf tv o) {j : Nat} (hj : j < 4) : xM l yX1_lowerHalf wsX1_lowerHalf ({ frames := 2, cells := 0, slots := 0, locals := 48 }) D tys ws sz [.ref (ad 0), .ref (ad (3 + j))] (xQl D tys (fun a w => (∃ o1, xd w0 w tys ad cA g rf tv o1) ∧ uN a = (tv j).natAbs % 1000000000000000000)) 0 0 := by
  refine xb_m (cc := cX1_lowerHalf) (maxL := 2) (ret := (some .long)) (by decide) rfl (Nat.le_of_ble_eq_true rfl) ?_
  intro p e s m below meth c A ls hx hb hr hml hown hts hlocks hnm hA hP hK hD hS hl
  have hl : lv_has ls 2 [(0, .ref (ad 0)), (1, .ref (ad (3 + j)))] := hl
  have hown : s.vm.findClass RX1 = some m.cls := hown
  have hbb := zr_x (xd_lo X hj) (xd_hi X hj)
  refine lv_aload_n hx hb dX1_lowerHalf_0 rfl (lv_at hl 0 rfl) ?_
  refine va_get (D := D) (ci := ciE) (v := .ref (ad 9)) (C := RX1) (T := TX1) (N := 5) hx hb hts (by decide +kernel) hown hK hP 0 (xd_a0 X) rfl 4 (by decide) (hts (.fieldLink RX1 35 "ExactDesk" "outcome" "LExactDesk$Wide;") (by decide +kernel)) (fun _ h9 => h9) rfl dX1_lowerHalf_1 ?_
  refine lv_aload_n hx hb dX1_lowerHalf_4 rfl (lv_at hl 1 rfl) ?_
  refine xb_rv (va_runV (As := [.ref (ad (3 + j))]) (rest := []) ⟨hx, hb, hml, hown, hts⟩ (cW_becomeW l D (xd_a9 X) (xd_tl X hj) (by have q := hj; omega)) (cwV 1 hts gX1_lowerHalf_X0_become_ rfl rfl rfl (by decide +kernel) ⟨Nat.le_of_ble_eq_true rfl, Nat.le_of_ble_eq_true rfl⟩) (xb_pv hP hK hD rfl rfl (xd_a9 X)) rfl rfl hl.1 rfl (lv_room (Nat.le_of_ble_eq_true rfl)) dX1_lowerHalf_5 ⟨Nat.le_of_ble_eq_true rfl, Nat.le_of_ble_eq_true rfl⟩) hD hS hA (fun ws1 H locs hws1 hP hD hS => ?_)
  have X := xd_setO X hws1
  refine lv_aload_n hx hb dX1_lowerHalf_8 rfl (lv_at hl 0 rfl) ?_
  refine va_get (D := D) (ci := ciE) (v := .ref (ad 9)) (C := RX1) (T := TX1) (N := 5) hx hb hts (by decide +kernel) hown hK hP 0 (xd_a0 X) rfl 4 (by decide) (hts (.fieldLink RX1 35 "ExactDesk" "outcome" "LExactDesk$Wide;") (by decide +kernel)) (fun _ h9 => h9) rfl dX1_lowerHalf_9 ?_
  refine xb_rv (va_runV (As := []) (rest := []) ⟨hx, hb, hml, hown, hts⟩ (cW_drop l D (xd_a9 X) hbb.1 hbb.2.1) (cwV 0 hts gX1_lowerHalf_X0_dropSign rfl rfl rfl (by decide +kernel) ⟨Nat.le_of_ble_eq_true rfl, Nat.le_of_ble_eq_true rfl⟩) (xb_pv hP hK hD rfl rfl (xd_a9 X)) rfl rfl hl.1 rfl (lv_room (Nat.le_of_ble_eq_true rfl)) dX1_lowerHalf_12 ⟨Nat.le_of_ble_eq_true rfl, Nat.le_of_ble_eq_true rfl⟩) hD hS hA (fun ws2 H locs hws2 hP hD hS => ?_)
  have X := xd_setO X hws2
  refine lv_aload_n hx hb dX1_lowerHalf_15 rfl (lv_at hl 0 rfl) ?_
  refine va_get (D := D) (ci := ciE) (v := .ref (ad 9)) (C := RX1) (T := TX1) (N := 5) hx hb hts (by decide +kernel) hown hK hP 0 (xd_a0 X) rfl 4 (by decide) (hts (.fieldLink RX1 35 "ExactDesk" "outcome" "LExactDesk$Wide;") (by decide +kernel)) (fun _ h9 => h9) rfl dX1_lowerHalf_16 ?_
  refine lv_ldc2 (v := 1000000000000000000) hx hb hown (hts (.constantLong RX1 24 (1000000000000000000)) (by decide +kernel)) dX1_lowerHalf_19 ?_
  refine xb_rl (va_runV (As := [.long 1000000000000000000]) (rest := []) ⟨hx, hb, hml, hown, hts⟩ (cW_div l D (xd_a9 X) 1000000000000000000 (by omega) hbb.2.2 (by decide) (by decide)) (cwV 1 hts gX1_lowerHalf_X0_divideBy rfl rfl rfl (by decide +kernel) ⟨Nat.le_of_ble_eq_true rfl, Nat.le_of_ble_eq_true rfl⟩) (xb_pv hP hK hD rfl rfl (xd_a9 X)) rfl rfl hl.1 rfl (lv_room (Nat.le_of_ble_eq_true rfl)) dX1_lowerHalf_22 ⟨Nat.le_of_ble_eq_true rfl, Nat.le_of_ble_eq_true rfl⟩) hD hS hA (fun r22 ws3 H locs hws3 hP hD hS => ?_)
  obtain ⟨hws3, hr22⟩ := hws3
  have X := xd_setO X hws3
  exact xb_lr hx hb hr hlocks hP hK hD hS dX1_lowerHalf_25 (⟨⟨_, X⟩, by rw [un_18] at hr22; omega⟩)
set_option maxHeartbeats 4000000 in
set_option maxRecDepth 100000 in
theorem cE_uH (l : Launch) (D : va_G) {tys : xT} {ws : va_W} {sz : Nat} {w0 : va_W} {ad : Nat → Nat} {cA : Nat → ClassId} {g : Nat → Option Nat} {rf : Nat → Int64} {tv : Nat → Int} {o : Int} (X : xd w0 ws tys ad cA g rf tv o) {j : Nat} (hj : j < 4) : xM l yX1_upperHalf wsX1_upperHalf ({ frames := 2, cells := 0, slots := 0, locals := 48 }) D tys ws sz [.ref (ad 0), .ref (ad (3 + j))] (xQl D tys (fun a w => (∃ o1, xd w0 w tys ad cA g rf tv o1) ∧ uN a = (tv j).natAbs / 1000000000000000000)) 0 0 := by
  refine xb_m (cc := cX1_upperHalf) (maxL := 2) (ret := (some .long)) (by decide) rfl (Nat.le_of_ble_eq_true rfl) ?_
  intro p e s m below meth c A ls hx hb hr hml hown hts hlocks hnm hA hP hK hD hS hl
  have hl : lv_has ls 2 [(0, .ref (ad 0)), (1, .ref (ad (3 + j)))] := hl
  have hown : s.vm.findClass RX1 = some m.cls := hown
  have hbb := zr_x (xd_lo X hj) (xd_hi X hj)
  refine lv_aload_n hx hb dX1_upperHalf_0 rfl (lv_at hl 0 rfl) ?_
  refine va_get (D := D) (ci := ciE) (v := .ref (ad 9)) (C := RX1) (T := TX1) (N := 5) hx hb hts (by decide +kernel) hown hK hP 0 (xd_a0 X) rfl 4 (by decide) (hts (.fieldLink RX1 35 "ExactDesk" "outcome" "LExactDesk$Wide;") (by decide +kernel)) (fun _ h9 => h9) rfl dX1_upperHalf_1 ?_
  refine lv_aload_n hx hb dX1_upperHalf_4 rfl (lv_at hl 1 rfl) ?_
  refine xb_rv (va_runV (As := [.ref (ad (3 + j))]) (rest := []) ⟨hx, hb, hml, hown, hts⟩ (cW_becomeW l D (xd_a9 X) (xd_tl X hj) (by have q := hj; omega)) (cwV 1 hts gX1_upperHalf_X0_become_ rfl rfl rfl (by decide +kernel) ⟨Nat.le_of_ble_eq_true rfl, Nat.le_of_ble_eq_true rfl⟩) (xb_pv hP hK hD rfl rfl (xd_a9 X)) rfl rfl hl.1 rfl (lv_room (Nat.le_of_ble_eq_true rfl)) dX1_upperHalf_5 ⟨Nat.le_of_ble_eq_true rfl, Nat.le_of_ble_eq_true rfl⟩) hD hS hA (fun ws1 H locs hws1 hP hD hS => ?_)
  have X := xd_setO X hws1
  refine lv_aload_n hx hb dX1_upperHalf_8 rfl (lv_at hl 0 rfl) ?_
  refine va_get (D := D) (ci := ciE) (v := .ref (ad 9)) (C := RX1) (T := TX1) (N := 5) hx hb hts (by decide +kernel) hown hK hP 0 (xd_a0 X) rfl 4 (by decide) (hts (.fieldLink RX1 35 "ExactDesk" "outcome" "LExactDesk$Wide;") (by decide +kernel)) (fun _ h9 => h9) rfl dX1_upperHalf_9 ?_
  refine xb_rv (va_runV (As := []) (rest := []) ⟨hx, hb, hml, hown, hts⟩ (cW_drop l D (xd_a9 X) hbb.1 hbb.2.1) (cwV 0 hts gX1_upperHalf_X0_dropSign rfl rfl rfl (by decide +kernel) ⟨Nat.le_of_ble_eq_true rfl, Nat.le_of_ble_eq_true rfl⟩) (xb_pv hP hK hD rfl rfl (xd_a9 X)) rfl rfl hl.1 rfl (lv_room (Nat.le_of_ble_eq_true rfl)) dX1_upperHalf_12 ⟨Nat.le_of_ble_eq_true rfl, Nat.le_of_ble_eq_true rfl⟩) hD hS hA (fun ws2 H locs hws2 hP hD hS => ?_)
  have X := xd_setO X hws2
  refine lv_aload_n hx hb dX1_upperHalf_15 rfl (lv_at hl 0 rfl) ?_
  refine va_get (D := D) (ci := ciE) (v := .ref (ad 9)) (C := RX1) (T := TX1) (N := 5) hx hb hts (by decide +kernel) hown hK hP 0 (xd_a0 X) rfl 4 (by decide) (hts (.fieldLink RX1 35 "ExactDesk" "outcome" "LExactDesk$Wide;") (by decide +kernel)) (fun _ h9 => h9) rfl dX1_upperHalf_16 ?_
  refine lv_ldc2 (v := 1000000000000000000) hx hb hown (hts (.constantLong RX1 24 (1000000000000000000)) (by decide +kernel)) dX1_upperHalf_19 ?_
  refine xb_rl (va_runV (As := [.long 1000000000000000000]) (rest := []) ⟨hx, hb, hml, hown, hts⟩ (cW_div l D (xd_a9 X) 1000000000000000000 (by omega) hbb.2.2 (by decide) (by decide)) (cwV 1 hts gX1_upperHalf_X0_divideBy rfl rfl rfl (by decide +kernel) ⟨Nat.le_of_ble_eq_true rfl, Nat.le_of_ble_eq_true rfl⟩) (xb_pv hP hK hD rfl rfl (xd_a9 X)) rfl rfl hl.1 rfl (lv_room (Nat.le_of_ble_eq_true rfl)) dX1_upperHalf_22 ⟨Nat.le_of_ble_eq_true rfl, Nat.le_of_ble_eq_true rfl⟩) hD hS hA (fun r22 ws3 H locs hws3 hP hD hS => ?_)
  obtain ⟨hws3, hr22⟩ := hws3
  have X := xd_setO X hws3
  refine lv_pop2_2 hx hb dX1_upperHalf_25 rfl ?_
  refine lv_aload_n hx hb dX1_upperHalf_26 rfl (lv_at hl 0 rfl) ?_
  refine va_get (D := D) (ci := ciE) (v := .ref (ad 9)) (C := RX1) (T := TX1) (N := 5) hx hb hts (by decide +kernel) hown hK hP 0 (xd_a0 X) rfl 4 (by decide) (hts (.fieldLink RX1 35 "ExactDesk" "outcome" "LExactDesk$Wide;") (by decide +kernel)) (fun _ h9 => h9) rfl dX1_upperHalf_27 ?_
  refine xb_rl (va_runV (As := []) (rest := []) ⟨hx, hb, hml, hown, hts⟩ (cW_low l D (xd_a9 X)) (cwV 0 hts gX1_upperHalf_X0_lowWord rfl rfl rfl (by decide +kernel) ⟨Nat.le_of_ble_eq_true rfl, Nat.le_of_ble_eq_true rfl⟩) (xb_pv hP hK hD rfl rfl (xd_a9 X)) rfl rfl hl.1 rfl (lv_room (Nat.le_of_ble_eq_true rfl)) dX1_upperHalf_30 ⟨Nat.le_of_ble_eq_true rfl, Nat.le_of_ble_eq_true rfl⟩) hD hS hA (fun r30 ws4 H locs hws4 hP hD hS => ?_)
  obtain ⟨rfl, rfl⟩ := hws4
  exact xb_lr hx hb hr hlocks hP hK hD hS dX1_upperHalf_33 (⟨⟨_, X⟩, by have q := zl_un (((tv j).natAbs : Int) / (uN 1000000000000000000 : Int)); have q1 := xd_lo X hj; have q2 := xd_hi X hj; rw [un_18] at q ⊢; omega⟩)
set_option maxHeartbeats 4000000 in
set_option maxRecDepth 100000 in
theorem cE_dL (l : Launch) (D : va_G) {tys : xT} {ws : va_W} {sz : Nat} (h : Int64) (h1 : uN h < 1000000000000000000) : xM l yX1_decimalLength wsX1_decimalLength ({ frames := 0, cells := 0, slots := 0, locals := 0 }) D tys ws sz [.long h] (xQi D tys (fun a w => (∃ L, a = nI L ∧ L ≤ 18 ∧ sLen (uN h) L) ∧ ws = w)) 0 0 := by
  refine xb_m (cc := cX1_decimalLength) (maxL := 5) (ret := (some .int)) (by decide) rfl (Nat.le_of_ble_eq_true rfl) ?_
  intro p e s m below meth c A ls hx hb hr hml hown hts hlocks hnm hA hP hK hD hS hl
  have hl : lv_has ls 5 [(0, .long h)] := hl
  have hown : s.vm.findClass RX1 = some m.cls := hown
  have loop : ∀ (n L : Nat) (x2 : Int32) (x3 : Int64) (ls : Array Slot), 1 ≤ L → x2 = nI L → x3.toInt = ((10 ^ L : Nat) : Int) → L ≤ 18 ∧ 18 < L + n → (L = 1 ∨ 10 ^ (L - 1) ≤ uN h) → lv_has ls 5 [(0, .long h), (2, .int x2), (3, .long x3)] → W p l e ({ frames := 0, cells := 0, slots := 0, locals := 0 }) s m [.long h].toArray below meth c s.heap [] 0 0 (MQ below (xQi D tys (fun a w => (∃ L, a = nI L ∧ L ≤ 18 ∧ sLen (uN h) L) ∧ ws = w) A) [.long h].toArray s 0 0 A) (F0 m 6 ls []) := by
    intro n
    induction n with
    | zero =>
      intro L x2 x3 ls i1 ex2 ex3 i4
      omega
    | succ n ih =>
      intro L x2 x3 ls i1 ex2 ex3 i4 iv hl
      refine lv_iload_n hx hb dX1_decimalLength_6 rfl (lv_at hl 1 rfl) ?_
      refine lv_bipush (v := 18) hx hb dX1_decimalLength_7 (by decide) ?_
      refine lv_icmp_ge (tgt := 30) hx hb dX1_decimalLength_9 (by decide) (fun c9 => ?_) (fun c9 => ?_)
      · refine lv_iload_n hx hb dX1_decimalLength_30 rfl (lv_at hl 1 rfl) ?_
        exact xb_ir hx hb hr hlocks hP hK hD hS dX1_decimalLength_31 (⟨⟨L, ex2, by omega, by omega, by have q : 18 ≤ L := (nI_leI (a := 18) (by decide) (by omega)).mp (by rw [← ex2]; exact c9); have q2 : L = 18 := (by omega); subst q2; exact h1, iv⟩, rfl⟩)
      · refine lv_lload_n hx hb dX1_decimalLength_12 rfl (lv_at hl 0 rfl) ?_
        refine lv_lload_n hx hb dX1_decimalLength_13 rfl (lv_at hl 2 rfl) ?_
        refine W.lcmp hx hb dX1_decimalLength_14 ?_
        refine lv_if_lt (tgt := 30) hx hb dX1_decimalLength_15 (by decide) (fun c15 => ?_) (fun c15 => ?_)
        · rw [lg_cmp_lt] at c15
          refine lv_iload_n hx hb dX1_decimalLength_30 rfl (lv_at hl 1 rfl) ?_
          exact xb_ir hx hb hr hlocks hP hK hD hS dX1_decimalLength_31 (⟨⟨L, ex2, by omega, by omega, by rw [Int64.lt_iff_toInt_lt, ex3] at c15; have q1 : 10 ^ L ≤ 1000000000000000000 := Nat.pow_le_pow_right (show 0 < 10 by decide) (show L ≤ 18 by omega); have q3 : h.toInt = (uN h : Int) := un_eq (by have := un_c h; omega) (by omega) (by omega); omega, iv⟩, rfl⟩)
        · rw [lg_cmp_lt] at c15
          refine lv_lload_n hx hb dX1_decimalLength_18 rfl (lv_at hl 2 rfl) ?_
          refine lv_ldc2 (v := 10) hx hb hown (hts (.constantLong RX1 115 (10)) (by decide +kernel)) dX1_decimalLength_19 ?_
          refine lv_lmul hx hb dX1_decimalLength_22 ?_
          refine lv_lstore_n (lv' := [(3, .long (x3 * 10)), (0, .long h), (2, .int x2)]) hx hb dX1_decimalLength_23 rfl hl (by decide) rfl (fun ls hl => ?_)
          refine lv_iinc (v := x2 + 1) (lv' := [(2, .int (x2 + 1)), (3, .long (x3 * 10)), (0, .long h)]) hx hb dX1_decimalLength_24 hl (k := 2) rfl (by rfl) (by decide) rfl (fun ls hl => ?_)
          refine lv_goto (tgt := 6) hx hb dX1_decimalLength_27 (by decide) ?_
          have q0 : ¬ 18 ≤ L := fun q => c9 (by rw [ex2]; exact (nI_leI (a := 18) (by decide) (by omega)).mpr q)
          have q1 : 10 ^ L ≤ 100000000000000000 := Nat.pow_le_pow_right (show 0 < 10 by decide) (show L ≤ 17 by omega)
          have q2 : x3.toInt ≤ h.toInt := by rw [Int64.lt_iff_toInt_lt] at c15; omega
          have q3 : h.toInt = (uN h : Int) := un_eq (by have := un_c h; omega) (by omega) (by omega)
          refine ih (L + 1) (x2 + 1) (x3 * 10) ls (by omega) (by rw [ex2]; exact nI_1 L) ?_ (by omega) (Or.inr ?_) (lv_sub hl [2, 0, 1] rfl)
          · have q4 := un_mul x3 10
            have q5 : (10 : Int64).toInt = 10 := (by decide); rw [q5, ex3] at q4
            rw [Nat.pow_succ]
            exact un_eq (by omega) (by omega) (by omega)
          · rw [Nat.add_sub_cancel]; omega
  refine lv_iconst (v := 1) hx hb dX1_decimalLength_0 (by decide) ?_
  refine lv_istore_n (lv' := [(2, .int 1), (0, .long h)]) hx hb dX1_decimalLength_1 rfl hl (by decide) rfl (fun ls hl => ?_)
  refine lv_ldc2 (v := 10) hx hb hown (hts (.constantLong RX1 115 (10)) (by decide +kernel)) dX1_decimalLength_2 ?_
  refine lv_lstore_n (lv' := [(3, .long 10), (2, .int 1), (0, .long h)]) hx hb dX1_decimalLength_5 rfl hl (by decide) rfl (fun ls hl => ?_)
  exact loop 18 1 1 10 ls (by omega) rfl (by decide) (by omega) (Or.inl rfl) (lv_sub hl [2, 1, 0] rfl)
set_option maxHeartbeats 4000000 in
set_option maxRecDepth 100000 in
theorem cE_dD (l : Launch) (D : va_G) {tys : xT} {ws : va_W} {sz : Nat} (h : Int64) (k : Int32) {K : Nat} (h1 : uN h < 1000000000000000000) (hk : k = nI K) (hK : K < 18) : xM l yX1_decimalDigit wsX1_decimalDigit ({ frames := 0, cells := 0, slots := 0, locals := 0 }) D tys ws sz [.long h, .int k] (xQi D tys (fun a w => a = nI (uN h / 10 ^ K % 10) ∧ ws = w)) 0 0 := by
  refine xb_m (cc := cX1_decimalDigit) (maxL := 6) (ret := (some .int)) (by decide) rfl (Nat.le_of_ble_eq_true rfl) ?_
  intro p e s m below meth c A ls hx hb hr hml hown hts hlocks hnm hA hP hKK hD hS hl
  have hl : lv_has ls 6 [(0, .long h), (2, .int k)] := hl
  have hown : s.vm.findClass RX1 = some m.cls := hown
  have loop : ∀ (n i : Nat) (x3 : Int64) (x5 : Int32) (ls : Array Slot), i ≤ K → K < i + n → x5 = nI i → x3 = lN (uN h / 10 ^ i) → lv_has ls 6 [(0, .long h), (2, .int k), (3, .long x3), (5, .int x5)] → W p l e ({ frames := 0, cells := 0, slots := 0, locals := 0 }) s m [.long h, .int k].toArray below meth c s.heap [] 0 0 (MQ below (xQi D tys (fun a w => a = nI (uN h / 10 ^ K % 10) ∧ ws = w) A) [.long h, .int k].toArray s 0 0 A) (F0 m 5 ls []) := by
    intro n
    induction n with
    | zero =>
      intro i x3 x5 ls i1 i2
      omega
    | succ n ih =>
      intro i x3 x5 ls i1 i2 ex5 ex3 hl
      refine lv_iload hx hb dX1_decimalDigit_5 (lv_at hl 3 rfl) ?_
      refine lv_iload_n hx hb dX1_decimalDigit_7 rfl (lv_at hl 1 rfl) ?_
      refine lv_icmp_ge (tgt := 23) hx hb dX1_decimalDigit_8 (by decide) (fun c8 => ?_) (fun c8 => ?_)
      · refine lv_lload_n hx hb dX1_decimalDigit_23 rfl (lv_at hl 2 rfl) ?_
        refine lv_ldc2 (v := 10) hx hb hown (hts (.constantLong RX1 115 (10)) (by decide +kernel)) dX1_decimalDigit_24 ?_
        refine lv_lrem hx hb dX1_decimalDigit_27 (by decide) ?_
        refine lv_l2i hx hb dX1_decimalDigit_28 rfl ?_
        exact xb_ir hx hb hr hlocks hP hKK hD hS dX1_decimalDigit_29 (⟨by have q : K ≤ i := (nI_leI (by omega) (by omega)).mp (by rw [← hk, ← ex5]; exact c8); have q2 : i = K := (by omega); subst q2; have qd : uN h / 10 ^ i ≤ uN h := Nat.div_le_self _ _; rw [ex3, show (10 : Int64) = lN 10 from rfl, pk_lRem (by omega) (by decide) (by decide), lN_i], rfl⟩)
      · refine lv_lload_n hx hb dX1_decimalDigit_11 rfl (lv_at hl 2 rfl) ?_
        refine lv_ldc2 (v := 10) hx hb hown (hts (.constantLong RX1 115 (10)) (by decide +kernel)) dX1_decimalDigit_12 ?_
        refine lv_ldiv hx hb dX1_decimalDigit_15 (by decide) ?_
        refine lv_lstore_n (lv' := [(3, .long (x3 / 10)), (0, .long h), (2, .int k), (5, .int x5)]) hx hb dX1_decimalDigit_16 rfl hl (by decide) rfl (fun ls hl => ?_)
        refine lv_iinc (v := x5 + 1) (lv' := [(5, .int (x5 + 1)), (3, .long (x3 / 10)), (0, .long h), (2, .int k)]) hx hb dX1_decimalDigit_17 hl (k := 3) rfl (by rfl) (by decide) rfl (fun ls hl => ?_)
        refine lv_goto (tgt := 5) hx hb dX1_decimalDigit_20 (by decide) ?_
        have q0 : ¬ K ≤ i := fun q => c8 (by rw [hk, ex5]; exact (nI_leI (by omega) (by omega)).mpr q)
        have qd : uN h / 10 ^ i ≤ uN h := Nat.div_le_self _ _
        refine ih (i + 1) (x3 / 10) (x5 + 1) ls (by omega) (by omega) (by rw [ex5]; exact nI_1 i) ?_ (lv_sub hl [2, 3, 1, 0] rfl)
        rw [ex3, show (10 : Int64) = lN 10 from rfl, pk_lDiv (by omega) (by decide) (by decide), Nat.div_div_eq_div_mul, Nat.pow_succ]
  refine lv_lload_n hx hb dX1_decimalDigit_0 rfl (lv_at hl 0 rfl) ?_
  refine lv_lstore_n (lv' := [(3, .long h), (0, .long h), (2, .int k)]) hx hb dX1_decimalDigit_1 rfl hl (by decide) rfl (fun ls hl => ?_)
  refine lv_iconst (v := 0) hx hb dX1_decimalDigit_2 (by decide) ?_
  refine lv_istore (lv' := [(5, .int 0), (3, .long h), (0, .long h), (2, .int k)]) hx hb dX1_decimalDigit_3 hl (by decide) rfl (fun ls hl => ?_)
  exact loop (K + 1) 0 h 0 ls (by omega) (by omega) rfl (by rw [Nat.pow_zero, Nat.div_one]; exact l_of (by omega)) (lv_sub hl [2, 3, 1, 0] rfl)
end
section
-- the rows of ExactDesk, three (laid by wip/whole/gen_desk3.py)
set_option maxHeartbeats 4000000 in
set_option maxRecDepth 100000 in
theorem cE_share (l : Launch) (D : va_G) {tys : xT} {ws : va_W} {sz : Nat} {w0 : va_W} {ad : Nat → Nat} {cA : Nat → ClassId} {g : Nat → Option Nat} {rf : Nat → Int64} {tv : Nat → Int} {o : Int} (X : xd w0 ws tys ad cA g rf tv o) (r : Int32) (b cv : Int64) (wy : Int32) : xM l yX1_share wsX1_share ({ frames := 4, cells := 0, slots := 0, locals := 101 }) D tys ws sz [.ref (ad 0), .int r, .long b, .long cv, .int wy] (xQi D tys (fun a w => ∃ o1, xd w0 w tys ad cA g (sp_share (rf, tv) r b cv wy).2.1 (sp_share (rf, tv) r b cv wy).2.2 o1 ∧ a = (sp_share (rf, tv) r b cv wy).1)) 0 0 := by
  refine xb_m (cc := cX1_share) (maxL := 7) (ret := (some .int)) (by decide) rfl (Nat.le_of_ble_eq_true rfl) ?_
  intro p e s m below meth c A ls hx hb hr hml hown hts hlocks hnm hA hP hK hD hS hl
  have hl : lv_has ls 7 [(0, .ref (ad 0)), (1, .int r), (2, .long b), (4, .long cv), (6, .int wy)] := hl
  have hown : s.vm.findClass RX1 = some m.cls := hown
  refine lv_iload_n hx hb dX1_share_0 rfl (lv_at hl 1 rfl) ?_
  refine xb_ri (va_runS (As := [.int r]) (rest := []) ⟨hx, hb, hml, hown, hts⟩ (cE_isR l D r) (va_cwS 1 hts gX1_share_X1_isRegister rfl rfl rfl (by decide +kernel) ⟨Nat.le_of_ble_eq_true rfl, Nat.le_of_ble_eq_true rfl⟩) (xb_ps rfl hP hK hD) rfl rfl hl.1 rfl (lv_room (Nat.le_of_ble_eq_true rfl)) dX1_share_1 ⟨Nat.le_of_ble_eq_true rfl, Nat.le_of_ble_eq_true rfl⟩) hD hS hA (fun r1 ws1 H locs hws1 hP hD hS => ?_)
  obtain ⟨hr1, rfl⟩ := hws1
  refine lv_if_eq (tgt := 15) hx hb dX1_share_4 (by decide) (fun c4 => ?_) (fun c4 => ?_)
  · have c4 := bz_0 hr1 c4
    refine lv_iconst (v := (-1)) hx hb dX1_share_15 (by decide) ?_
    exact xb_ir hx hb hr hlocks hP hK hD hS dX1_share_16 (by rw [sp_share, if_neg (fun q => c4 q.1)]; exact ⟨_, X, rfl⟩)
  · have c4 := bz_1 hr1 c4
    refine lv_iload hx hb dX1_share_7 (lv_at hl 4 rfl) ?_
    refine xb_ri (va_runS (As := [.int wy]) (rest := []) ⟨hx, hb, hml, hown, hts⟩ (cE_isW l D wy) (va_cwS 1 hts gX1_share_X1_isWay rfl rfl rfl (by decide +kernel) ⟨Nat.le_of_ble_eq_true rfl, Nat.le_of_ble_eq_true rfl⟩) (xb_ps rfl hP hK hD) rfl rfl hl.1 rfl (lv_room (Nat.le_of_ble_eq_true rfl)) dX1_share_9 ⟨Nat.le_of_ble_eq_true rfl, Nat.le_of_ble_eq_true rfl⟩) hD hS hA (fun r9 ws2 H locs hws2 hP hD hS => ?_)
    obtain ⟨hr9, rfl⟩ := hws2
    refine lv_if_ne (tgt := 17) hx hb dX1_share_12 (by decide) (fun c12 => ?_) (fun c12 => ?_)
    · have c12 := bz_1 hr9 c12
      refine lv_lload hx hb dX1_share_17 (lv_at hl 3 rfl) ?_
      refine lv_lconst (v := 0) hx hb dX1_share_19 (by decide) ?_
      refine W.lcmp hx hb dX1_share_20 ?_
      refine lv_if_ne (tgt := 26) hx hb dX1_share_21 (by decide) (fun c21 => ?_) (fun c21 => ?_)
      · rw [lg_cmp_eq] at c21
        refine lv_aload_n hx hb dX1_share_26 rfl (lv_at hl 0 rfl) ?_
        refine va_get (D := D) (ci := ciE) (v := .ref (ad 9)) (C := RX1) (T := TX1) (N := 5) hx hb hts (by decide +kernel) hown hK hP 0 (xd_a0 X) rfl 4 (by decide) (hts (.fieldLink RX1 35 "ExactDesk" "outcome" "LExactDesk$Wide;") (by decide +kernel)) (fun _ h9 => h9) rfl dX1_share_27 ?_
        refine lv_aload_n hx hb dX1_share_30 rfl (lv_at hl 0 rfl) ?_
        refine va_get (D := D) (ci := ciE) (v := .ref (ad 1)) (C := RX1) (T := TX1) (N := 5) hx hb hts (by decide +kernel) hown hK hP 0 (xd_a0 X) rfl 0 (by decide) (hts (.fieldLink RX1 9 "ExactDesk" "registers" "[J") (by decide +kernel)) (fun _ h9 => h9) rfl dX1_share_31 ?_
        refine lv_iload_n hx hb dX1_share_34 rfl (lv_at hl 1 rfl) ?_
        refine xd_lld hx hb hK hP X c4 dX1_share_35 ?_
        refine lv_lload_n hx hb dX1_share_36 rfl (lv_at hl 2 rfl) ?_
        refine xb_rv (va_runV (As := [.long (rf r.toNatClampNeg), .long b]) (rest := []) ⟨hx, hb, hml, hown, hts⟩ (cW_prod l D (xd_a9 X) (rf r.toNatClampNeg) b) (cwV 2 hts gX1_share_X0_becomeProduct rfl rfl rfl (by decide +kernel) ⟨Nat.le_of_ble_eq_true rfl, Nat.le_of_ble_eq_true rfl⟩) (xb_pv hP hK hD rfl rfl (xd_a9 X)) rfl rfl hl.1 rfl (lv_room (Nat.le_of_ble_eq_true rfl)) dX1_share_37 ⟨Nat.le_of_ble_eq_true rfl, Nat.le_of_ble_eq_true rfl⟩) hD hS hA (fun ws3 H locs hws3 hP hD hS => ?_)
        have X := xd_setO X hws3
        refine lv_aload_n hx hb dX1_share_40 rfl (lv_at hl 0 rfl) ?_
        refine lv_lload hx hb dX1_share_41 (lv_at hl 3 rfl) ?_
        refine lv_iload hx hb dX1_share_43 (lv_at hl 4 rfl) ?_
        refine xb_rv (va_runV (As := [.long cv, .int wy]) (rest := []) ⟨hx, hb, hml, hown, hts⟩ (cE_dO l D X cv wy (mul_b _ _).1 (mul_b _ _).2 c21 c12) (cwV 2 hts gX1_share_X1_divideOutcome rfl rfl rfl (by decide +kernel) ⟨Nat.le_of_ble_eq_true rfl, Nat.le_of_ble_eq_true rfl⟩) (xb_pv hP hK hD rfl rfl (xd_a0 X)) rfl rfl hl.1 rfl (lv_room (Nat.le_of_ble_eq_true rfl)) dX1_share_45 ⟨Nat.le_of_ble_eq_true rfl, Nat.le_of_ble_eq_true rfl⟩) hD hS hA (fun ws4 H locs hws4 hP hD hS => ?_)
        have X := hws4
        refine lv_aload_n hx hb dX1_share_48 rfl (lv_at hl 0 rfl) ?_
        refine lv_iload_n hx hb dX1_share_49 rfl (lv_at hl 1 rfl) ?_
        refine xb_ri (va_runV (As := [.int r]) (rest := []) ⟨hx, hb, hml, hown, hts⟩ (cE_kR l D X (rq_b (mul_b _ _).1 (mul_b _ _).2) c4) (cwV 1 hts gX1_share_X1_keepInRegister rfl rfl rfl (by decide +kernel) ⟨Nat.le_of_ble_eq_true rfl, Nat.le_of_ble_eq_true rfl⟩) (xb_pv hP hK hD rfl rfl (xd_a0 X)) rfl rfl hl.1 rfl (lv_room (Nat.le_of_ble_eq_true rfl)) dX1_share_50 ⟨Nat.le_of_ble_eq_true rfl, Nat.le_of_ble_eq_true rfl⟩) hD hS hA (fun r50 ws5 H locs hws5 hP hD hS => ?_)
        exact xb_ir hx hb hr hlocks hP hK hD hS dX1_share_53 (by rw [sp_share, if_pos ⟨c4, c12⟩, if_neg c21]; exact ⟨_, hws5.1, hws5.2⟩)
      · rw [lg_cmp_eq] at c21
        refine lv_iconst (v := 3) hx hb dX1_share_24 (by decide) ?_
        exact xb_ir hx hb hr hlocks hP hK hD hS dX1_share_25 (by rw [sp_share, if_pos ⟨c4, c12⟩, if_pos c21]; exact ⟨_, X, rfl⟩)
    · have c12 := bz_0 hr9 c12
      refine lv_iconst (v := (-1)) hx hb dX1_share_15 (by decide) ?_
      exact xb_ir hx hb hr hlocks hP hK hD hS dX1_share_16 (by rw [sp_share, if_neg (fun q => c12 q.2)]; exact ⟨_, X, rfl⟩)
set_option maxHeartbeats 4000000 in
set_option maxRecDepth 100000 in
theorem cE_enter (l : Launch) (D : va_G) {tys : xT} {ws : va_W} {sz : Nat} {w0 : va_W} {ad : Nat → Nat} {cA : Nat → ClassId} {g : Nat → Option Nat} {rf : Nat → Int64} {tv : Nat → Int} {o : Int} (X : xd w0 ws tys ad cA g rf tv o) (t r : Int32) (v : Int64) : xM l yX1_enter wsX1_enter ({ frames := 3, cells := 0, slots := 0, locals := 72 }) D tys ws sz [.ref (ad 0), .int t, .int r, .long v] (xQi D tys (fun a w => ∃ o1, xd w0 w tys ad cA g (sp_enter (rf, tv) t r v).2.1 (sp_enter (rf, tv) t r v).2.2 o1 ∧ a = (sp_enter (rf, tv) t r v).1)) 0 0 := by
  refine xb_m (cc := cX1_enter) (maxL := 5) (ret := (some .int)) (by decide) rfl (Nat.le_of_ble_eq_true rfl) ?_
  intro p e s m below meth c A ls hx hb hr hml hown hts hlocks hnm hA hP hK hD hS hl
  have hl : lv_has ls 5 [(0, .ref (ad 0)), (1, .int t), (2, .int r), (3, .long v)] := hl
  have hown : s.vm.findClass RX1 = some m.cls := hown
  refine lv_iload_n hx hb dX1_enter_0 rfl (lv_at hl 1 rfl) ?_
  refine xb_ri (va_runS (As := [.int t]) (rest := []) ⟨hx, hb, hml, hown, hts⟩ (cE_isT l D t) (va_cwS 1 hts gX1_enter_X1_isTally rfl rfl rfl (by decide +kernel) ⟨Nat.le_of_ble_eq_true rfl, Nat.le_of_ble_eq_true rfl⟩) (xb_ps rfl hP hK hD) rfl rfl hl.1 rfl (lv_room (Nat.le_of_ble_eq_true rfl)) dX1_enter_1 ⟨Nat.le_of_ble_eq_true rfl, Nat.le_of_ble_eq_true rfl⟩) hD hS hA (fun r1 ws1 H locs hws1 hP hD hS => ?_)
  obtain ⟨hr1, rfl⟩ := hws1
  refine lv_if_eq (tgt := 14) hx hb dX1_enter_4 (by decide) (fun c4 => ?_) (fun c4 => ?_)
  · have c4 := bz_0 hr1 c4
    refine lv_iconst (v := (-1)) hx hb dX1_enter_14 (by decide) ?_
    exact xb_ir hx hb hr hlocks hP hK hD hS dX1_enter_15 (by rw [sp_enter, if_neg (fun q => c4 q.1)]; exact ⟨_, X, rfl⟩)
  · have c4 := bz_1 hr1 c4
    refine lv_iload_n hx hb dX1_enter_7 rfl (lv_at hl 2 rfl) ?_
    refine xb_ri (va_runS (As := [.int r]) (rest := []) ⟨hx, hb, hml, hown, hts⟩ (cE_isR l D r) (va_cwS 1 hts gX1_enter_X1_isRegister rfl rfl rfl (by decide +kernel) ⟨Nat.le_of_ble_eq_true rfl, Nat.le_of_ble_eq_true rfl⟩) (xb_ps rfl hP hK hD) rfl rfl hl.1 rfl (lv_room (Nat.le_of_ble_eq_true rfl)) dX1_enter_8 ⟨Nat.le_of_ble_eq_true rfl, Nat.le_of_ble_eq_true rfl⟩) hD hS hA (fun r8 ws2 H locs hws2 hP hD hS => ?_)
    obtain ⟨hr8, rfl⟩ := hws2
    refine lv_if_ne (tgt := 16) hx hb dX1_enter_11 (by decide) (fun c11 => ?_) (fun c11 => ?_)
    · have c11 := bz_1 hr8 c11
      refine lv_aload_n hx hb dX1_enter_16 rfl (lv_at hl 0 rfl) ?_
      refine va_get (D := D) (ci := ciE) (v := .ref (ad 9)) (C := RX1) (T := TX1) (N := 5) hx hb hts (by decide +kernel) hown hK hP 0 (xd_a0 X) rfl 4 (by decide) (hts (.fieldLink RX1 35 "ExactDesk" "outcome" "LExactDesk$Wide;") (by decide +kernel)) (fun _ h9 => h9) rfl dX1_enter_17 ?_
      refine lv_aload_n hx hb dX1_enter_20 rfl (lv_at hl 0 rfl) ?_
      refine va_get (D := D) (ci := ciE) (v := .ref (ad 1)) (C := RX1) (T := TX1) (N := 5) hx hb hts (by decide +kernel) hown hK hP 0 (xd_a0 X) rfl 0 (by decide) (hts (.fieldLink RX1 9 "ExactDesk" "registers" "[J") (by decide +kernel)) (fun _ h9 => h9) rfl dX1_enter_21 ?_
      refine lv_iload_n hx hb dX1_enter_24 rfl (lv_at hl 2 rfl) ?_
      refine xd_lld hx hb hK hP X c11 dX1_enter_25 ?_
      refine lv_lload_n hx hb dX1_enter_26 rfl (lv_at hl 3 rfl) ?_
      refine xb_rv (va_runV (As := [.long (rf r.toNatClampNeg), .long v]) (rest := []) ⟨hx, hb, hml, hown, hts⟩ (cW_prod l D (xd_a9 X) (rf r.toNatClampNeg) v) (cwV 2 hts gX1_enter_X0_becomeProduct rfl rfl rfl (by decide +kernel) ⟨Nat.le_of_ble_eq_true rfl, Nat.le_of_ble_eq_true rfl⟩) (xb_pv hP hK hD rfl rfl (xd_a9 X)) rfl rfl hl.1 rfl (lv_room (Nat.le_of_ble_eq_true rfl)) dX1_enter_27 ⟨Nat.le_of_ble_eq_true rfl, Nat.le_of_ble_eq_true rfl⟩) hD hS hA (fun ws3 H locs hws3 hP hD hS => ?_)
      have X := xd_setO X hws3
      refine lv_aload_n hx hb dX1_enter_30 rfl (lv_at hl 0 rfl) ?_
      refine va_get (D := D) (ci := ciE) (v := .ref (ad 9)) (C := RX1) (T := TX1) (N := 5) hx hb hts (by decide +kernel) hown hK hP 0 (xd_a0 X) rfl 4 (by decide) (hts (.fieldLink RX1 35 "ExactDesk" "outcome" "LExactDesk$Wide;") (by decide +kernel)) (fun _ h9 => h9) rfl dX1_enter_31 ?_
      refine lv_aload_n hx hb dX1_enter_34 rfl (lv_at hl 0 rfl) ?_
      refine va_get (D := D) (ci := ciE) (v := .ref (ad 2)) (C := RX1) (T := TX1) (N := 5) hx hb hts (by decide +kernel) hown hK hP 0 (xd_a0 X) rfl 1 (by decide) (hts (.fieldLink RX1 15 "ExactDesk" "tallies" "[LExactDesk$Wide;") (by decide +kernel)) (fun _ h9 => h9) rfl dX1_enter_35 ?_
      refine lv_iload_n hx hb dX1_enter_38 rfl (lv_at hl 1 rfl) ?_
      refine xd_ald hx hb hK hP X c4 dX1_enter_39 ?_
      refine xb_rv (va_runV (As := [.ref (ad (3 + t.toNatClampNeg))]) (rest := []) ⟨hx, hb, hml, hown, hts⟩ (cW_incW l D (xd_a9 X) (xd_tl X (j4 c4)) (zr_m _ _) (xd_zr X (j4 c4)) (zr_e (xd_lo X (j4 c4)) (xd_hi X (j4 c4)))) (cwV 1 hts gX1_enter_X0_increase_ rfl rfl rfl (by decide +kernel) ⟨Nat.le_of_ble_eq_true rfl, Nat.le_of_ble_eq_true rfl⟩) (xb_pv hP hK hD rfl rfl (xd_a9 X)) rfl rfl hl.1 rfl (lv_room (Nat.le_of_ble_eq_true rfl)) dX1_enter_40 ⟨Nat.le_of_ble_eq_true rfl, Nat.le_of_ble_eq_true rfl⟩) hD hS hA (fun ws4 H locs hws4 hP hD hS => ?_)
      have X := xd_setO X hws4
      refine lv_aload_n hx hb dX1_enter_43 rfl (lv_at hl 0 rfl) ?_
      refine lv_iload_n hx hb dX1_enter_44 rfl (lv_at hl 1 rfl) ?_
      refine xb_ri (va_runV (As := [.int t]) (rest := []) ⟨hx, hb, hml, hown, hts⟩ (cE_kT l D X (zr_e (xd_lo X (j4 c4)) (xd_hi X (j4 c4))) c4) (cwV 1 hts gX1_enter_X1_keepInTally rfl rfl rfl (by decide +kernel) ⟨Nat.le_of_ble_eq_true rfl, Nat.le_of_ble_eq_true rfl⟩) (xb_pv hP hK hD rfl rfl (xd_a0 X)) rfl rfl hl.1 rfl (lv_room (Nat.le_of_ble_eq_true rfl)) dX1_enter_45 ⟨Nat.le_of_ble_eq_true rfl, Nat.le_of_ble_eq_true rfl⟩) hD hS hA (fun r45 ws5 H locs hws5 hP hD hS => ?_)
      exact xb_ir hx hb hr hlocks hP hK hD hS dX1_enter_48 (by rw [sp_enter, if_pos ⟨c4, c11⟩]; exact ⟨_, hws5.1, hws5.2⟩)
    · have c11 := bz_0 hr8 c11
      refine lv_iconst (v := (-1)) hx hb dX1_enter_14 (by decide) ?_
      exact xb_ir hx hb hr hlocks hP hK hD hS dX1_enter_15 (by rw [sp_enter, if_neg (fun q => c11 q.2)]; exact ⟨_, X, rfl⟩)
set_option maxHeartbeats 4000000 in
set_option maxRecDepth 100000 in
theorem cE_merge (l : Launch) (D : va_G) {tys : xT} {ws : va_W} {sz : Nat} {w0 : va_W} {ad : Nat → Nat} {cA : Nat → ClassId} {g : Nat → Option Nat} {rf : Nat → Int64} {tv : Nat → Int} {o : Int} (X : xd w0 ws tys ad cA g rf tv o) (t u : Int32) : xM l yX1_merge wsX1_merge ({ frames := 3, cells := 0, slots := 0, locals := 72 }) D tys ws sz [.ref (ad 0), .int t, .int u] (xQi D tys (fun a w => ∃ o1, xd w0 w tys ad cA g (sp_merge (rf, tv) t u).2.1 (sp_merge (rf, tv) t u).2.2 o1 ∧ a = (sp_merge (rf, tv) t u).1)) 0 0 := by
  refine xb_m (cc := cX1_merge) (maxL := 3) (ret := (some .int)) (by decide) rfl (Nat.le_of_ble_eq_true rfl) ?_
  intro p e s m below meth c A ls hx hb hr hml hown hts hlocks hnm hA hP hK hD hS hl
  have hl : lv_has ls 3 [(0, .ref (ad 0)), (1, .int t), (2, .int u)] := hl
  have hown : s.vm.findClass RX1 = some m.cls := hown
  refine lv_iload_n hx hb dX1_merge_0 rfl (lv_at hl 1 rfl) ?_
  refine xb_ri (va_runS (As := [.int t]) (rest := []) ⟨hx, hb, hml, hown, hts⟩ (cE_isT l D t) (va_cwS 1 hts gX1_merge_X1_isTally rfl rfl rfl (by decide +kernel) ⟨Nat.le_of_ble_eq_true rfl, Nat.le_of_ble_eq_true rfl⟩) (xb_ps rfl hP hK hD) rfl rfl hl.1 rfl (lv_room (Nat.le_of_ble_eq_true rfl)) dX1_merge_1 ⟨Nat.le_of_ble_eq_true rfl, Nat.le_of_ble_eq_true rfl⟩) hD hS hA (fun r1 ws1 H locs hws1 hP hD hS => ?_)
  obtain ⟨hr1, rfl⟩ := hws1
  refine lv_if_eq (tgt := 14) hx hb dX1_merge_4 (by decide) (fun c4 => ?_) (fun c4 => ?_)
  · have c4 := bz_0 hr1 c4
    refine lv_iconst (v := (-1)) hx hb dX1_merge_14 (by decide) ?_
    exact xb_ir hx hb hr hlocks hP hK hD hS dX1_merge_15 (by rw [sp_merge, if_neg (fun q => c4 q.1)]; exact ⟨_, X, rfl⟩)
  · have c4 := bz_1 hr1 c4
    refine lv_iload_n hx hb dX1_merge_7 rfl (lv_at hl 2 rfl) ?_
    refine xb_ri (va_runS (As := [.int u]) (rest := []) ⟨hx, hb, hml, hown, hts⟩ (cE_isT l D u) (va_cwS 1 hts gX1_merge_X1_isTally rfl rfl rfl (by decide +kernel) ⟨Nat.le_of_ble_eq_true rfl, Nat.le_of_ble_eq_true rfl⟩) (xb_ps rfl hP hK hD) rfl rfl hl.1 rfl (lv_room (Nat.le_of_ble_eq_true rfl)) dX1_merge_8 ⟨Nat.le_of_ble_eq_true rfl, Nat.le_of_ble_eq_true rfl⟩) hD hS hA (fun r8 ws2 H locs hws2 hP hD hS => ?_)
    obtain ⟨hr8, rfl⟩ := hws2
    refine lv_if_ne (tgt := 16) hx hb dX1_merge_11 (by decide) (fun c11 => ?_) (fun c11 => ?_)
    · have c11 := bz_1 hr8 c11
      refine lv_aload_n hx hb dX1_merge_16 rfl (lv_at hl 0 rfl) ?_
      refine va_get (D := D) (ci := ciE) (v := .ref (ad 9)) (C := RX1) (T := TX1) (N := 5) hx hb hts (by decide +kernel) hown hK hP 0 (xd_a0 X) rfl 4 (by decide) (hts (.fieldLink RX1 35 "ExactDesk" "outcome" "LExactDesk$Wide;") (by decide +kernel)) (fun _ h9 => h9) rfl dX1_merge_17 ?_
      refine lv_aload_n hx hb dX1_merge_20 rfl (lv_at hl 0 rfl) ?_
      refine va_get (D := D) (ci := ciE) (v := .ref (ad 2)) (C := RX1) (T := TX1) (N := 5) hx hb hts (by decide +kernel) hown hK hP 0 (xd_a0 X) rfl 1 (by decide) (hts (.fieldLink RX1 15 "ExactDesk" "tallies" "[LExactDesk$Wide;") (by decide +kernel)) (fun _ h9 => h9) rfl dX1_merge_21 ?_
      refine lv_iload_n hx hb dX1_merge_24 rfl (lv_at hl 1 rfl) ?_
      refine xd_ald hx hb hK hP X c4 dX1_merge_25 ?_
      refine xb_rv (va_runV (As := [.ref (ad (3 + t.toNatClampNeg))]) (rest := []) ⟨hx, hb, hml, hown, hts⟩ (cW_becomeW l D (xd_a9 X) (xd_tl X (j4 c4)) (by have q := (j4 c4); omega)) (cwV 1 hts gX1_merge_X0_become_ rfl rfl rfl (by decide +kernel) ⟨Nat.le_of_ble_eq_true rfl, Nat.le_of_ble_eq_true rfl⟩) (xb_pv hP hK hD rfl rfl (xd_a9 X)) rfl rfl hl.1 rfl (lv_room (Nat.le_of_ble_eq_true rfl)) dX1_merge_26 ⟨Nat.le_of_ble_eq_true rfl, Nat.le_of_ble_eq_true rfl⟩) hD hS hA (fun ws3 H locs hws3 hP hD hS => ?_)
      have X := xd_setO X hws3
      refine lv_aload_n hx hb dX1_merge_29 rfl (lv_at hl 0 rfl) ?_
      refine va_get (D := D) (ci := ciE) (v := .ref (ad 9)) (C := RX1) (T := TX1) (N := 5) hx hb hts (by decide +kernel) hown hK hP 0 (xd_a0 X) rfl 4 (by decide) (hts (.fieldLink RX1 35 "ExactDesk" "outcome" "LExactDesk$Wide;") (by decide +kernel)) (fun _ h9 => h9) rfl dX1_merge_30 ?_
      refine lv_aload_n hx hb dX1_merge_33 rfl (lv_at hl 0 rfl) ?_
      refine va_get (D := D) (ci := ciE) (v := .ref (ad 2)) (C := RX1) (T := TX1) (N := 5) hx hb hts (by decide +kernel) hown hK hP 0 (xd_a0 X) rfl 1 (by decide) (hts (.fieldLink RX1 15 "ExactDesk" "tallies" "[LExactDesk$Wide;") (by decide +kernel)) (fun _ h9 => h9) rfl dX1_merge_34 ?_
      refine lv_iload_n hx hb dX1_merge_37 rfl (lv_at hl 2 rfl) ?_
      refine xd_ald hx hb hK hP X c11 dX1_merge_38 ?_
      refine xb_rv (va_runV (As := [.ref (ad (3 + u.toNatClampNeg))]) (rest := []) ⟨hx, hb, hml, hown, hts⟩ (cW_incW l D (xd_a9 X) (xd_tl X (j4 c11)) (xd_zr X (j4 c4)) (xd_zr X (j4 c11)) (zr_t (xd_lo X (j4 c4)) (xd_hi X (j4 c4)) (xd_lo X (j4 c11)) (xd_hi X (j4 c11)))) (cwV 1 hts gX1_merge_X0_increase_ rfl rfl rfl (by decide +kernel) ⟨Nat.le_of_ble_eq_true rfl, Nat.le_of_ble_eq_true rfl⟩) (xb_pv hP hK hD rfl rfl (xd_a9 X)) rfl rfl hl.1 rfl (lv_room (Nat.le_of_ble_eq_true rfl)) dX1_merge_39 ⟨Nat.le_of_ble_eq_true rfl, Nat.le_of_ble_eq_true rfl⟩) hD hS hA (fun ws4 H locs hws4 hP hD hS => ?_)
      have X := xd_setO X hws4
      refine lv_aload_n hx hb dX1_merge_42 rfl (lv_at hl 0 rfl) ?_
      refine lv_iload_n hx hb dX1_merge_43 rfl (lv_at hl 1 rfl) ?_
      refine xb_ri (va_runV (As := [.int t]) (rest := []) ⟨hx, hb, hml, hown, hts⟩ (cE_kT l D X (zr_t (xd_lo X (j4 c4)) (xd_hi X (j4 c4)) (xd_lo X (j4 c11)) (xd_hi X (j4 c11))) c4) (cwV 1 hts gX1_merge_X1_keepInTally rfl rfl rfl (by decide +kernel) ⟨Nat.le_of_ble_eq_true rfl, Nat.le_of_ble_eq_true rfl⟩) (xb_pv hP hK hD rfl rfl (xd_a0 X)) rfl rfl hl.1 rfl (lv_room (Nat.le_of_ble_eq_true rfl)) dX1_merge_44 ⟨Nat.le_of_ble_eq_true rfl, Nat.le_of_ble_eq_true rfl⟩) hD hS hA (fun r44 ws5 H locs hws5 hP hD hS => ?_)
      exact xb_ir hx hb hr hlocks hP hK hD hS dX1_merge_47 (by rw [sp_merge, if_pos ⟨c4, c11⟩]; exact ⟨_, hws5.1, hws5.2⟩)
    · have c11 := bz_0 hr8 c11
      refine lv_iconst (v := (-1)) hx hb dX1_merge_14 (by decide) ?_
      exact xb_ir hx hb hr hlocks hP hK hD hS dX1_merge_15 (by rw [sp_merge, if_neg (fun q => c11 q.2)]; exact ⟨_, X, rfl⟩)
set_option maxHeartbeats 4000000 in
set_option maxRecDepth 100000 in
theorem cE_take (l : Launch) (D : va_G) {tys : xT} {ws : va_W} {sz : Nat} {w0 : va_W} {ad : Nat → Nat} {cA : Nat → ClassId} {g : Nat → Option Nat} {rf : Nat → Int64} {tv : Nat → Int} {o : Int} (X : xd w0 ws tys ad cA g rf tv o) (t r : Int32) : xM l yX1_take wsX1_take ({ frames := 2, cells := 0, slots := 0, locals := 41 }) D tys ws sz [.ref (ad 0), .int t, .int r] (xQi D tys (fun a w => ∃ o1, xd w0 w tys ad cA g (sp_take (rf, tv) t r).2.1 (sp_take (rf, tv) t r).2.2 o1 ∧ a = (sp_take (rf, tv) t r).1)) 0 0 := by
  refine xb_m (cc := cX1_take) (maxL := 3) (ret := (some .int)) (by decide) rfl (Nat.le_of_ble_eq_true rfl) ?_
  intro p e s m below meth c A ls hx hb hr hml hown hts hlocks hnm hA hP hK hD hS hl
  have hl : lv_has ls 3 [(0, .ref (ad 0)), (1, .int t), (2, .int r)] := hl
  have hown : s.vm.findClass RX1 = some m.cls := hown
  refine lv_iload_n hx hb dX1_take_0 rfl (lv_at hl 1 rfl) ?_
  refine xb_ri (va_runS (As := [.int t]) (rest := []) ⟨hx, hb, hml, hown, hts⟩ (cE_isT l D t) (va_cwS 1 hts gX1_take_X1_isTally rfl rfl rfl (by decide +kernel) ⟨Nat.le_of_ble_eq_true rfl, Nat.le_of_ble_eq_true rfl⟩) (xb_ps rfl hP hK hD) rfl rfl hl.1 rfl (lv_room (Nat.le_of_ble_eq_true rfl)) dX1_take_1 ⟨Nat.le_of_ble_eq_true rfl, Nat.le_of_ble_eq_true rfl⟩) hD hS hA (fun r1 ws1 H locs hws1 hP hD hS => ?_)
  obtain ⟨hr1, rfl⟩ := hws1
  refine lv_if_eq (tgt := 14) hx hb dX1_take_4 (by decide) (fun c4 => ?_) (fun c4 => ?_)
  · have c4 := bz_0 hr1 c4
    refine lv_iconst (v := (-1)) hx hb dX1_take_14 (by decide) ?_
    exact xb_ir hx hb hr hlocks hP hK hD hS dX1_take_15 (by rw [sp_take, if_neg (fun q => c4 q.1)]; exact ⟨_, X, rfl⟩)
  · have c4 := bz_1 hr1 c4
    refine lv_iload_n hx hb dX1_take_7 rfl (lv_at hl 2 rfl) ?_
    refine xb_ri (va_runS (As := [.int r]) (rest := []) ⟨hx, hb, hml, hown, hts⟩ (cE_isR l D r) (va_cwS 1 hts gX1_take_X1_isRegister rfl rfl rfl (by decide +kernel) ⟨Nat.le_of_ble_eq_true rfl, Nat.le_of_ble_eq_true rfl⟩) (xb_ps rfl hP hK hD) rfl rfl hl.1 rfl (lv_room (Nat.le_of_ble_eq_true rfl)) dX1_take_8 ⟨Nat.le_of_ble_eq_true rfl, Nat.le_of_ble_eq_true rfl⟩) hD hS hA (fun r8 ws2 H locs hws2 hP hD hS => ?_)
    obtain ⟨hr8, rfl⟩ := hws2
    refine lv_if_ne (tgt := 16) hx hb dX1_take_11 (by decide) (fun c11 => ?_) (fun c11 => ?_)
    · have c11 := bz_1 hr8 c11
      refine lv_aload_n hx hb dX1_take_16 rfl (lv_at hl 0 rfl) ?_
      refine va_get (D := D) (ci := ciE) (v := .ref (ad 9)) (C := RX1) (T := TX1) (N := 5) hx hb hts (by decide +kernel) hown hK hP 0 (xd_a0 X) rfl 4 (by decide) (hts (.fieldLink RX1 35 "ExactDesk" "outcome" "LExactDesk$Wide;") (by decide +kernel)) (fun _ h9 => h9) rfl dX1_take_17 ?_
      refine lv_aload_n hx hb dX1_take_20 rfl (lv_at hl 0 rfl) ?_
      refine va_get (D := D) (ci := ciE) (v := .ref (ad 2)) (C := RX1) (T := TX1) (N := 5) hx hb hts (by decide +kernel) hown hK hP 0 (xd_a0 X) rfl 1 (by decide) (hts (.fieldLink RX1 15 "ExactDesk" "tallies" "[LExactDesk$Wide;") (by decide +kernel)) (fun _ h9 => h9) rfl dX1_take_21 ?_
      refine lv_iload_n hx hb dX1_take_24 rfl (lv_at hl 1 rfl) ?_
      refine xd_ald hx hb hK hP X c4 dX1_take_25 ?_
      refine xb_rv (va_runV (As := [.ref (ad (3 + t.toNatClampNeg))]) (rest := []) ⟨hx, hb, hml, hown, hts⟩ (cW_becomeW l D (xd_a9 X) (xd_tl X (j4 c4)) (by have q := (j4 c4); omega)) (cwV 1 hts gX1_take_X0_become_ rfl rfl rfl (by decide +kernel) ⟨Nat.le_of_ble_eq_true rfl, Nat.le_of_ble_eq_true rfl⟩) (xb_pv hP hK hD rfl rfl (xd_a9 X)) rfl rfl hl.1 rfl (lv_room (Nat.le_of_ble_eq_true rfl)) dX1_take_26 ⟨Nat.le_of_ble_eq_true rfl, Nat.le_of_ble_eq_true rfl⟩) hD hS hA (fun ws3 H locs hws3 hP hD hS => ?_)
      have X := xd_setO X hws3
      refine lv_aload_n hx hb dX1_take_29 rfl (lv_at hl 0 rfl) ?_
      refine lv_iload_n hx hb dX1_take_30 rfl (lv_at hl 2 rfl) ?_
      refine xb_ri (va_runV (As := [.int r]) (rest := []) ⟨hx, hb, hml, hown, hts⟩ (cE_kR l D X (xd_zr X (j4 c4)) c11) (cwV 1 hts gX1_take_X1_keepInRegister rfl rfl rfl (by decide +kernel) ⟨Nat.le_of_ble_eq_true rfl, Nat.le_of_ble_eq_true rfl⟩) (xb_pv hP hK hD rfl rfl (xd_a0 X)) rfl rfl hl.1 rfl (lv_room (Nat.le_of_ble_eq_true rfl)) dX1_take_31 ⟨Nat.le_of_ble_eq_true rfl, Nat.le_of_ble_eq_true rfl⟩) hD hS hA (fun r31 ws4 H locs hws4 hP hD hS => ?_)
      exact xb_ir hx hb hr hlocks hP hK hD hS dX1_take_34 (by rw [sp_take, if_pos ⟨c4, c11⟩]; exact ⟨_, hws4.1, hws4.2⟩)
    · have c11 := bz_0 hr8 c11
      refine lv_iconst (v := (-1)) hx hb dX1_take_14 (by decide) ?_
      exact xb_ir hx hb hr hlocks hP hK hD hS dX1_take_15 (by rw [sp_take, if_neg (fun q => c11 q.2)]; exact ⟨_, X, rfl⟩)
set_option maxHeartbeats 4000000 in
set_option maxRecDepth 100000 in
theorem cE_clear (l : Launch) (D : va_G) {tys : xT} {ws : va_W} {sz : Nat} {w0 : va_W} {ad : Nat → Nat} {cA : Nat → ClassId} {g : Nat → Option Nat} {rf : Nat → Int64} {tv : Nat → Int} {o : Int} (X : xd w0 ws tys ad cA g rf tv o) (t : Int32) : xM l yX1_clear wsX1_clear ({ frames := 1, cells := 0, slots := 0, locals := 22 }) D tys ws sz [.ref (ad 0), .int t] (xQi D tys (fun a w => ∃ o1, xd w0 w tys ad cA g (sp_clear (rf, tv) t).2.1 (sp_clear (rf, tv) t).2.2 o1 ∧ a = (sp_clear (rf, tv) t).1)) 0 0 := by
  refine xb_m (cc := cX1_clear) (maxL := 2) (ret := (some .boolean)) (by decide) rfl (Nat.le_of_ble_eq_true rfl) ?_
  intro p e s m below meth c A ls hx hb hr hml hown hts hlocks hnm hA hP hK hD hS hl
  have hl : lv_has ls 2 [(0, .ref (ad 0)), (1, .int t)] := hl
  have hown : s.vm.findClass RX1 = some m.cls := hown
  refine lv_iload_n hx hb dX1_clear_0 rfl (lv_at hl 1 rfl) ?_
  refine xb_ri (va_runS (As := [.int t]) (rest := []) ⟨hx, hb, hml, hown, hts⟩ (cE_isT l D t) (va_cwS 1 hts gX1_clear_X1_isTally rfl rfl rfl (by decide +kernel) ⟨Nat.le_of_ble_eq_true rfl, Nat.le_of_ble_eq_true rfl⟩) (xb_ps rfl hP hK hD) rfl rfl hl.1 rfl (lv_room (Nat.le_of_ble_eq_true rfl)) dX1_clear_1 ⟨Nat.le_of_ble_eq_true rfl, Nat.le_of_ble_eq_true rfl⟩) hD hS hA (fun r1 ws1 H locs hws1 hP hD hS => ?_)
  obtain ⟨hr1, rfl⟩ := hws1
  refine lv_if_ne (tgt := 9) hx hb dX1_clear_4 (by decide) (fun c4 => ?_) (fun c4 => ?_)
  · have c4 := bz_1 hr1 c4
    refine lv_aload_n hx hb dX1_clear_9 rfl (lv_at hl 0 rfl) ?_
    refine va_get (D := D) (ci := ciE) (v := .ref (ad 2)) (C := RX1) (T := TX1) (N := 5) hx hb hts (by decide +kernel) hown hK hP 0 (xd_a0 X) rfl 1 (by decide) (hts (.fieldLink RX1 15 "ExactDesk" "tallies" "[LExactDesk$Wide;") (by decide +kernel)) (fun _ h9 => h9) rfl dX1_clear_10 ?_
    refine lv_iload_n hx hb dX1_clear_13 rfl (lv_at hl 1 rfl) ?_
    refine xd_ald hx hb hK hP X c4 dX1_clear_14 ?_
    refine lv_lconst (v := 0) hx hb dX1_clear_15 (by decide) ?_
    refine xb_rv (va_runV (As := [.long 0]) (rest := []) ⟨hx, hb, hml, hown, hts⟩ (cW_becomeL l D (xd_tl X (j4 c4)) 0) (cwV 1 hts gX1_clear_X0_become rfl rfl rfl (by decide +kernel) ⟨Nat.le_of_ble_eq_true rfl, Nat.le_of_ble_eq_true rfl⟩) (xb_pv hP hK hD rfl rfl (xd_tl X (j4 c4))) rfl rfl hl.1 rfl (lv_room (Nat.le_of_ble_eq_true rfl)) dX1_clear_16 ⟨Nat.le_of_ble_eq_true rfl, Nat.le_of_ble_eq_true rfl⟩) hD hS hA (fun ws2 H locs hws2 hP hD hS => ?_)
    have X := xd_setT X (j4 c4) (by decide) (by decide) hws2
    refine lv_iconst (v := 1) hx hb dX1_clear_19 (by decide) ?_
    exact xb_zr hx hb hr hlocks hP hK hD hS dX1_clear_20 rfl (by rw [sp_clear, if_pos c4]; have e : (0 : Int64).toInt = 0 := (by decide); rw [e] at X; exact ⟨_, X, rfl⟩)
  · have c4 := bz_0 hr1 c4
    refine lv_iconst (v := 0) hx hb dX1_clear_7 (by decide) ?_
    exact xb_zr hx hb hr hlocks hP hK hD hS dX1_clear_8 rfl (by rw [sp_clear, if_neg c4]; exact ⟨_, X, rfl⟩)
set_option maxHeartbeats 4000000 in
set_option maxRecDepth 100000 in
theorem cE_cmp (l : Launch) (D : va_G) {tys : xT} {ws : va_W} {sz : Nat} {w0 : va_W} {ad : Nat → Nat} {cA : Nat → ClassId} {g : Nat → Option Nat} {rf : Nat → Int64} {tv : Nat → Int} {o : Int} (X : xd w0 ws tys ad cA g rf tv o) (t u : Int32) : xM l yX1_compare wsX1_compare ({ frames := 2, cells := 0, slots := 0, locals := 44 }) D tys ws sz [.ref (ad 0), .int t, .int u] (xQi D tys (fun a w => xd w0 w tys ad cA g rf tv o ∧ a = sp_cmp (rf, tv) t u)) 0 0 := by
  refine xb_m (cc := cX1_compare) (maxL := 3) (ret := (some .int)) (by decide) rfl (Nat.le_of_ble_eq_true rfl) ?_
  intro p e s m below meth c A ls hx hb hr hml hown hts hlocks hnm hA hP hK hD hS hl
  have hl : lv_has ls 3 [(0, .ref (ad 0)), (1, .int t), (2, .int u)] := hl
  have hown : s.vm.findClass RX1 = some m.cls := hown
  refine lv_iload_n hx hb dX1_compare_0 rfl (lv_at hl 1 rfl) ?_
  refine xb_ri (va_runS (As := [.int t]) (rest := []) ⟨hx, hb, hml, hown, hts⟩ (cE_isT l D t) (va_cwS 1 hts gX1_compare_X1_isTally rfl rfl rfl (by decide +kernel) ⟨Nat.le_of_ble_eq_true rfl, Nat.le_of_ble_eq_true rfl⟩) (xb_ps rfl hP hK hD) rfl rfl hl.1 rfl (lv_room (Nat.le_of_ble_eq_true rfl)) dX1_compare_1 ⟨Nat.le_of_ble_eq_true rfl, Nat.le_of_ble_eq_true rfl⟩) hD hS hA (fun r1 ws1 H locs hws1 hP hD hS => ?_)
  obtain ⟨hr1, rfl⟩ := hws1
  refine lv_if_eq (tgt := 14) hx hb dX1_compare_4 (by decide) (fun c4 => ?_) (fun c4 => ?_)
  · have c4 := bz_0 hr1 c4
    refine lv_bipush (v := (-2)) hx hb dX1_compare_14 (by decide) ?_
    exact xb_ir hx hb hr hlocks hP hK hD hS dX1_compare_16 (⟨X, by rw [sp_cmp, if_neg (fun q => c4 q.1)]⟩)
  · have c4 := bz_1 hr1 c4
    refine lv_iload_n hx hb dX1_compare_7 rfl (lv_at hl 2 rfl) ?_
    refine xb_ri (va_runS (As := [.int u]) (rest := []) ⟨hx, hb, hml, hown, hts⟩ (cE_isT l D u) (va_cwS 1 hts gX1_compare_X1_isTally rfl rfl rfl (by decide +kernel) ⟨Nat.le_of_ble_eq_true rfl, Nat.le_of_ble_eq_true rfl⟩) (xb_ps rfl hP hK hD) rfl rfl hl.1 rfl (lv_room (Nat.le_of_ble_eq_true rfl)) dX1_compare_8 ⟨Nat.le_of_ble_eq_true rfl, Nat.le_of_ble_eq_true rfl⟩) hD hS hA (fun r8 ws2 H locs hws2 hP hD hS => ?_)
    obtain ⟨hr8, rfl⟩ := hws2
    refine lv_if_ne (tgt := 17) hx hb dX1_compare_11 (by decide) (fun c11 => ?_) (fun c11 => ?_)
    · have c11 := bz_1 hr8 c11
      refine lv_aload_n hx hb dX1_compare_17 rfl (lv_at hl 0 rfl) ?_
      refine va_get (D := D) (ci := ciE) (v := .ref (ad 2)) (C := RX1) (T := TX1) (N := 5) hx hb hts (by decide +kernel) hown hK hP 0 (xd_a0 X) rfl 1 (by decide) (hts (.fieldLink RX1 15 "ExactDesk" "tallies" "[LExactDesk$Wide;") (by decide +kernel)) (fun _ h9 => h9) rfl dX1_compare_18 ?_
      refine lv_iload_n hx hb dX1_compare_21 rfl (lv_at hl 1 rfl) ?_
      refine xd_ald hx hb hK hP X c4 dX1_compare_22 ?_
      refine lv_aload_n hx hb dX1_compare_23 rfl (lv_at hl 0 rfl) ?_
      refine va_get (D := D) (ci := ciE) (v := .ref (ad 2)) (C := RX1) (T := TX1) (N := 5) hx hb hts (by decide +kernel) hown hK hP 0 (xd_a0 X) rfl 1 (by decide) (hts (.fieldLink RX1 15 "ExactDesk" "tallies" "[LExactDesk$Wide;") (by decide +kernel)) (fun _ h9 => h9) rfl dX1_compare_24 ?_
      refine lv_iload_n hx hb dX1_compare_27 rfl (lv_at hl 2 rfl) ?_
      refine xd_ald hx hb hK hP X c11 dX1_compare_28 ?_
      refine xb_ri (va_runV (As := [.ref (ad (3 + u.toNatClampNeg))]) (rest := []) ⟨hx, hb, hml, hown, hts⟩ (cW_ord l D (xd_tl X (j4 c4)) (xd_tl X (j4 c11)) (xd_zr X (j4 c4)) (xd_zr X (j4 c11))) (cwV 1 hts gX1_compare_X0_orderTo rfl rfl rfl (by decide +kernel) ⟨Nat.le_of_ble_eq_true rfl, Nat.le_of_ble_eq_true rfl⟩) (xb_pv hP hK hD rfl rfl (xd_tl X (j4 c4))) rfl rfl hl.1 rfl (lv_room (Nat.le_of_ble_eq_true rfl)) dX1_compare_29 ⟨Nat.le_of_ble_eq_true rfl, Nat.le_of_ble_eq_true rfl⟩) hD hS hA (fun r29 ws3 H locs hws3 hP hD hS => ?_)
      obtain ⟨hr29, rfl⟩ := hws3
      exact xb_ir hx hb hr hlocks hP hK hD hS dX1_compare_32 (⟨X, by rw [sp_cmp, if_pos ⟨c4, c11⟩]; exact hr29⟩)
    · have c11 := bz_0 hr8 c11
      refine lv_bipush (v := (-2)) hx hb dX1_compare_14 (by decide) ?_
      exact xb_ir hx hb hr hlocks hP hK hD hS dX1_compare_16 (⟨X, by rw [sp_cmp, if_neg (fun q => c11 q.2)]⟩)
set_option maxHeartbeats 4000000 in
set_option maxRecDepth 100000 in
theorem cE_digits (l : Launch) (D : va_G) {tys : xT} {ws : va_W} {sz : Nat} {w0 : va_W} {ad : Nat → Nat} {cA : Nat → ClassId} {g : Nat → Option Nat} {rf : Nat → Int64} {tv : Nat → Int} {o : Int} (X : xd w0 ws tys ad cA g rf tv o) (t : Int32) : xM l yX1_digits wsX1_digits ({ frames := 3, cells := 0, slots := 0, locals := 69 }) D tys ws sz [.ref (ad 0), .int t] (xQi D tys (fun a w => (∃ o1, xd w0 w tys ad cA g rf tv o1) ∧ sp_digits (rf, tv) t a)) 0 0 := by
  refine xb_m (cc := cX1_digits) (maxL := 5) (ret := (some .int)) (by decide) rfl (Nat.le_of_ble_eq_true rfl) ?_
  intro p e s m below meth c A ls hx hb hr hml hown hts hlocks hnm hA hP hK hD hS hl
  have hl : lv_has ls 5 [(0, .ref (ad 0)), (1, .int t)] := hl
  have hown : s.vm.findClass RX1 = some m.cls := hown
  refine lv_iload_n hx hb dX1_digits_0 rfl (lv_at hl 1 rfl) ?_
  refine xb_ri (va_runS (As := [.int t]) (rest := []) ⟨hx, hb, hml, hown, hts⟩ (cE_isT l D t) (va_cwS 1 hts gX1_digits_X1_isTally rfl rfl rfl (by decide +kernel) ⟨Nat.le_of_ble_eq_true rfl, Nat.le_of_ble_eq_true rfl⟩) (xb_ps rfl hP hK hD) rfl rfl hl.1 rfl (lv_room (Nat.le_of_ble_eq_true rfl)) dX1_digits_1 ⟨Nat.le_of_ble_eq_true rfl, Nat.le_of_ble_eq_true rfl⟩) hD hS hA (fun r1 ws1 H locs hws1 hP hD hS => ?_)
  obtain ⟨hr1, rfl⟩ := hws1
  refine lv_if_ne (tgt := 9) hx hb dX1_digits_4 (by decide) (fun c4 => ?_) (fun c4 => ?_)
  · have c4 := bz_1 hr1 c4
    refine lv_aload_n hx hb dX1_digits_9 rfl (lv_at hl 0 rfl) ?_
    refine lv_aload_n hx hb dX1_digits_10 rfl (lv_at hl 0 rfl) ?_
    refine va_get (D := D) (ci := ciE) (v := .ref (ad 2)) (C := RX1) (T := TX1) (N := 5) hx hb hts (by decide +kernel) hown hK hP 0 (xd_a0 X) rfl 1 (by decide) (hts (.fieldLink RX1 15 "ExactDesk" "tallies" "[LExactDesk$Wide;") (by decide +kernel)) (fun _ h9 => h9) rfl dX1_digits_11 ?_
    refine lv_iload_n hx hb dX1_digits_14 rfl (lv_at hl 1 rfl) ?_
    refine xd_ald hx hb hK hP X c4 dX1_digits_15 ?_
    refine xb_rl (va_runV (As := [.ref (ad (3 + t.toNatClampNeg))]) (rest := []) ⟨hx, hb, hml, hown, hts⟩ (cE_uH l D X (j4 c4)) (cwV 1 hts gX1_digits_X1_upperHalf rfl rfl rfl (by decide +kernel) ⟨Nat.le_of_ble_eq_true rfl, Nat.le_of_ble_eq_true rfl⟩) (xb_pv hP hK hD rfl rfl (xd_a0 X)) rfl rfl hl.1 rfl (lv_room (Nat.le_of_ble_eq_true rfl)) dX1_digits_16 ⟨Nat.le_of_ble_eq_true rfl, Nat.le_of_ble_eq_true rfl⟩) hD hS hA (fun r16 ws2 H locs hws2 hP hD hS => ?_)
    obtain ⟨⟨o16, X⟩, hr16⟩ := hws2
    refine lv_lstore_n (lv' := [(2, .long r16), (0, .ref (ad 0)), (1, .int t)]) hx hb dX1_digits_19 rfl hl (by decide) rfl (fun ls hl => ?_)
    refine lv_lload_n hx hb dX1_digits_20 rfl (lv_at hl 0 rfl) ?_
    refine lv_lconst (v := 0) hx hb dX1_digits_21 (by decide) ?_
    refine W.lcmp hx hb dX1_digits_22 ?_
    refine lv_if_le (tgt := 36) hx hb dX1_digits_23 (by decide) (fun c23 => ?_) (fun c23 => ?_)
    · rw [lg_cmp_le] at c23
      rw [l_le0 (by have q1 := xd_lo X (j4 c4); have q2 := xd_hi X (j4 c4); omega)] at c23
      refine lv_aload_n hx hb dX1_digits_36 rfl (lv_at hl 1 rfl) ?_
      refine lv_aload_n hx hb dX1_digits_37 rfl (lv_at hl 1 rfl) ?_
      refine va_get (D := D) (ci := ciE) (v := .ref (ad 2)) (C := RX1) (T := TX1) (N := 5) hx hb hts (by decide +kernel) hown hK hP 0 (xd_a0 X) rfl 1 (by decide) (hts (.fieldLink RX1 15 "ExactDesk" "tallies" "[LExactDesk$Wide;") (by decide +kernel)) (fun _ h9 => h9) rfl dX1_digits_38 ?_
      refine lv_iload_n hx hb dX1_digits_41 rfl (lv_at hl 2 rfl) ?_
      refine xd_ald hx hb hK hP X c4 dX1_digits_42 ?_
      refine xb_rl (va_runV (As := [.ref (ad (3 + t.toNatClampNeg))]) (rest := []) ⟨hx, hb, hml, hown, hts⟩ (cE_lH l D X (j4 c4)) (cwV 1 hts gX1_digits_X1_lowerHalf rfl rfl rfl (by decide +kernel) ⟨Nat.le_of_ble_eq_true rfl, Nat.le_of_ble_eq_true rfl⟩) (xb_pv hP hK hD rfl rfl (xd_a0 X)) rfl rfl hl.1 rfl (lv_room (Nat.le_of_ble_eq_true rfl)) dX1_digits_43 ⟨Nat.le_of_ble_eq_true rfl, Nat.le_of_ble_eq_true rfl⟩) hD hS hA (fun r43 ws3 H locs hws3 hP hD hS => ?_)
      obtain ⟨⟨o43, X⟩, hr43⟩ := hws3
      refine xb_ri (va_runS (As := [.long r43]) (rest := []) ⟨hx, hb, hml, hown, hts⟩ (cE_dL l D r43 (by omega)) (va_cwS 1 hts gX1_digits_X1_decimalLength rfl rfl rfl (by decide +kernel) ⟨Nat.le_of_ble_eq_true rfl, Nat.le_of_ble_eq_true rfl⟩) (xb_ps rfl hP hK hD) rfl rfl hl.1 rfl (lv_room (Nat.le_of_ble_eq_true rfl)) dX1_digits_46 ⟨Nat.le_of_ble_eq_true rfl, Nat.le_of_ble_eq_true rfl⟩) hD hS hA (fun r46 ws4 H locs hws4 hP hD hS => ?_)
      obtain ⟨hr46, rfl⟩ := hws4
      refine lv_istore (lv' := [(4, .int r46), (2, .long r16), (0, .ref (ad 0)), (1, .int t)]) hx hb dX1_digits_49 hl (by decide) rfl (fun ls hl => ?_)
      refine lv_aload_n hx hb dX1_digits_51 rfl (lv_at hl 2 rfl) ?_
      refine va_get (D := D) (ci := ciE) (v := .ref (ad 2)) (C := RX1) (T := TX1) (N := 5) hx hb hts (by decide +kernel) hown hK hP 0 (xd_a0 X) rfl 1 (by decide) (hts (.fieldLink RX1 15 "ExactDesk" "tallies" "[LExactDesk$Wide;") (by decide +kernel)) (fun _ h9 => h9) rfl dX1_digits_52 ?_
      refine lv_iload_n hx hb dX1_digits_55 rfl (lv_at hl 3 rfl) ?_
      refine xd_ald hx hb hK hP X c4 dX1_digits_56 ?_
      refine xb_ri (va_runV (As := []) (rest := []) ⟨hx, hb, hml, hown, hts⟩ (cW_isneg l D (xd_tl X (j4 c4)) (xd_zr X (j4 c4))) (cwV 0 hts gX1_digits_X0_isNegative rfl rfl rfl (by decide +kernel) ⟨Nat.le_of_ble_eq_true rfl, Nat.le_of_ble_eq_true rfl⟩) (xb_pv hP hK hD rfl rfl (xd_tl X (j4 c4))) rfl rfl hl.1 rfl (lv_room (Nat.le_of_ble_eq_true rfl)) dX1_digits_57 ⟨Nat.le_of_ble_eq_true rfl, Nat.le_of_ble_eq_true rfl⟩) hD hS hA (fun r57 ws5 H locs hws5 hP hD hS => ?_)
      obtain ⟨hr57, rfl⟩ := hws5
      refine lv_if_eq (tgt := 69) hx hb dX1_digits_60 (by decide) (fun c60 => ?_) (fun c60 => ?_)
      · have c60 := bz_0 hr57 c60
        refine lv_iload hx hb dX1_digits_69 (lv_at hl 0 rfl) ?_
        exact xb_ir hx hb hr hlocks hP hK hD hS dX1_digits_71 (⟨⟨_, X⟩, by have q1 := xd_lo X (j4 c4); have q2 := xd_hi X (j4 c4); rw [sp_digits, if_pos c4]; obtain ⟨L, e1, e2, e3⟩ := hr46; exact ⟨L, by rw [hr43, Nat.mod_eq_of_lt (by omega)] at e3; exact e3, by omega, by rw [if_neg c60, e1]⟩⟩)
      · have c60 := bz_1 hr57 c60
        refine lv_iload hx hb dX1_digits_63 (lv_at hl 0 rfl) ?_
        refine lv_ineg hx hb dX1_digits_65 ?_
        refine lv_goto (tgt := 71) hx hb dX1_digits_66 (by decide) ?_
        exact xb_ir hx hb hr hlocks hP hK hD hS dX1_digits_71 (⟨⟨_, X⟩, by have q1 := xd_lo X (j4 c4); have q2 := xd_hi X (j4 c4); rw [sp_digits, if_pos c4]; obtain ⟨L, e1, e2, e3⟩ := hr46; exact ⟨L, by rw [hr43, Nat.mod_eq_of_lt (by omega)] at e3; exact e3, by omega, by rw [if_pos c60, e1]⟩⟩)
    · rw [lg_cmp_le] at c23
      rw [l_le0 (by have q1 := xd_lo X (j4 c4); have q2 := xd_hi X (j4 c4); omega)] at c23
      refine lv_bipush (v := 18) hx hb dX1_digits_26 (by decide) ?_
      refine lv_lload_n hx hb dX1_digits_28 rfl (lv_at hl 0 rfl) ?_
      refine xb_ri (va_runS (As := [.long r16]) (rest := [.int 18]) ⟨hx, hb, hml, hown, hts⟩ (cE_dL l D r16 (by have q1 := xd_lo X (j4 c4); have q2 := xd_hi X (j4 c4); omega)) (va_cwS 1 hts gX1_digits_X1_decimalLength rfl rfl rfl (by decide +kernel) ⟨Nat.le_of_ble_eq_true rfl, Nat.le_of_ble_eq_true rfl⟩) (xb_ps rfl hP hK hD) rfl rfl hl.1 rfl (lv_room (Nat.le_of_ble_eq_true rfl)) dX1_digits_29 ⟨Nat.le_of_ble_eq_true rfl, Nat.le_of_ble_eq_true rfl⟩) hD hS hA (fun r29 ws3 H locs hws3 hP hD hS => ?_)
      obtain ⟨hr29, rfl⟩ := hws3
      refine lv_iadd hx hb dX1_digits_32 ?_
      refine lv_goto (tgt := 49) hx hb dX1_digits_33 (by decide) ?_
      refine lv_istore (lv' := [(4, .int (18 + r29)), (2, .long r16), (0, .ref (ad 0)), (1, .int t)]) hx hb dX1_digits_49 hl (by decide) rfl (fun ls hl => ?_)
      refine lv_aload_n hx hb dX1_digits_51 rfl (lv_at hl 2 rfl) ?_
      refine va_get (D := D) (ci := ciE) (v := .ref (ad 2)) (C := RX1) (T := TX1) (N := 5) hx hb hts (by decide +kernel) hown hK hP 0 (xd_a0 X) rfl 1 (by decide) (hts (.fieldLink RX1 15 "ExactDesk" "tallies" "[LExactDesk$Wide;") (by decide +kernel)) (fun _ h9 => h9) rfl dX1_digits_52 ?_
      refine lv_iload_n hx hb dX1_digits_55 rfl (lv_at hl 3 rfl) ?_
      refine xd_ald hx hb hK hP X c4 dX1_digits_56 ?_
      refine xb_ri (va_runV (As := []) (rest := []) ⟨hx, hb, hml, hown, hts⟩ (cW_isneg l D (xd_tl X (j4 c4)) (xd_zr X (j4 c4))) (cwV 0 hts gX1_digits_X0_isNegative rfl rfl rfl (by decide +kernel) ⟨Nat.le_of_ble_eq_true rfl, Nat.le_of_ble_eq_true rfl⟩) (xb_pv hP hK hD rfl rfl (xd_tl X (j4 c4))) rfl rfl hl.1 rfl (lv_room (Nat.le_of_ble_eq_true rfl)) dX1_digits_57 ⟨Nat.le_of_ble_eq_true rfl, Nat.le_of_ble_eq_true rfl⟩) hD hS hA (fun r57 ws4 H locs hws4 hP hD hS => ?_)
      obtain ⟨hr57, rfl⟩ := hws4
      refine lv_if_eq (tgt := 69) hx hb dX1_digits_60 (by decide) (fun c60 => ?_) (fun c60 => ?_)
      · have c60 := bz_0 hr57 c60
        refine lv_iload hx hb dX1_digits_69 (lv_at hl 0 rfl) ?_
        exact xb_ir hx hb hr hlocks hP hK hD hS dX1_digits_71 (⟨⟨_, X⟩, by have q1 := xd_lo X (j4 c4); have q2 := xd_hi X (j4 c4); rw [sp_digits, if_pos c4]; obtain ⟨L, e1, e2, e3⟩ := hr29; exact ⟨18 + L, sLen_hi hr16 c23 e3, by omega, by rw [if_neg c60, e1, show (18 : Int32) = nI 18 from rfl, nI_add]⟩⟩)
      · have c60 := bz_1 hr57 c60
        refine lv_iload hx hb dX1_digits_63 (lv_at hl 0 rfl) ?_
        refine lv_ineg hx hb dX1_digits_65 ?_
        refine lv_goto (tgt := 71) hx hb dX1_digits_66 (by decide) ?_
        exact xb_ir hx hb hr hlocks hP hK hD hS dX1_digits_71 (⟨⟨_, X⟩, by have q1 := xd_lo X (j4 c4); have q2 := xd_hi X (j4 c4); rw [sp_digits, if_pos c4]; obtain ⟨L, e1, e2, e3⟩ := hr29; exact ⟨18 + L, sLen_hi hr16 c23 e3, by omega, by rw [if_pos c60, e1, show (18 : Int32) = nI 18 from rfl, nI_add]⟩⟩)
  · have c4 := bz_0 hr1 c4
    refine lv_iconst (v := 0) hx hb dX1_digits_7 (by decide) ?_
    exact xb_ir hx hb hr hlocks hP hK hD hS dX1_digits_8 (⟨⟨_, X⟩, by rw [sp_digits, if_neg c4]⟩)
set_option maxHeartbeats 4000000 in
set_option maxRecDepth 100000 in
theorem cE_digit (l : Launch) (D : va_G) {tys : xT} {ws : va_W} {sz : Nat} {w0 : va_W} {ad : Nat → Nat} {cA : Nat → ClassId} {g : Nat → Option Nat} {rf : Nat → Int64} {tv : Nat → Int} {o : Int} (X : xd w0 ws tys ad cA g rf tv o) (t k : Int32) : xM l yX1_digit wsX1_digit ({ frames := 3, cells := 0, slots := 0, locals := 69 }) D tys ws sz [.ref (ad 0), .int t, .int k] (xQi D tys (fun a w => (∃ o1, xd w0 w tys ad cA g rf tv o1) ∧ a = sp_digit (rf, tv) t k)) 0 0 := by
  refine xb_m (cc := cX1_digit) (maxL := 3) (ret := (some .int)) (by decide) rfl (Nat.le_of_ble_eq_true rfl) ?_
  intro p e s m below meth c A ls hx hb hr hml hown hts hlocks hnm hA hP hK hD hS hl
  have hl : lv_has ls 3 [(0, .ref (ad 0)), (1, .int t), (2, .int k)] := hl
  have hown : s.vm.findClass RX1 = some m.cls := hown
  refine lv_iload_n hx hb dX1_digit_0 rfl (lv_at hl 1 rfl) ?_
  refine xb_ri (va_runS (As := [.int t]) (rest := []) ⟨hx, hb, hml, hown, hts⟩ (cE_isT l D t) (va_cwS 1 hts gX1_digit_X1_isTally rfl rfl rfl (by decide +kernel) ⟨Nat.le_of_ble_eq_true rfl, Nat.le_of_ble_eq_true rfl⟩) (xb_ps rfl hP hK hD) rfl rfl hl.1 rfl (lv_room (Nat.le_of_ble_eq_true rfl)) dX1_digit_1 ⟨Nat.le_of_ble_eq_true rfl, Nat.le_of_ble_eq_true rfl⟩) hD hS hA (fun r1 ws1 H locs hws1 hP hD hS => ?_)
  obtain ⟨hr1, rfl⟩ := hws1
  refine lv_if_eq (tgt := 17) hx hb dX1_digit_4 (by decide) (fun c4 => ?_) (fun c4 => ?_)
  · have c4 := bz_0 hr1 c4
    refine lv_iconst (v := (-1)) hx hb dX1_digit_17 (by decide) ?_
    exact xb_ir hx hb hr hlocks hP hK hD hS dX1_digit_18 (⟨⟨_, X⟩, by rw [sp_digit, if_neg (fun q => c4 q.1)]⟩)
  · have c4 := bz_1 hr1 c4
    refine lv_iload_n hx hb dX1_digit_7 rfl (lv_at hl 2 rfl) ?_
    refine lv_if_lt (tgt := 17) hx hb dX1_digit_8 (by decide) (fun c8 => ?_) (fun c8 => ?_)
    · refine lv_iconst (v := (-1)) hx hb dX1_digit_17 (by decide) ?_
      exact xb_ir hx hb hr hlocks hP hK hD hS dX1_digit_18 (⟨⟨_, X⟩, by rw [sp_digit, if_neg (fun q => q.2.1 c8)]⟩)
    · refine lv_iload_n hx hb dX1_digit_11 rfl (lv_at hl 2 rfl) ?_
      refine lv_bipush (v := 36) hx hb dX1_digit_12 (by decide) ?_
      refine lv_icmp_lt (tgt := 19) hx hb dX1_digit_14 (by decide) (fun c14 => ?_) (fun c14 => ?_)
      · refine lv_iload_n hx hb dX1_digit_19 rfl (lv_at hl 2 rfl) ?_
        refine lv_bipush (v := 18) hx hb dX1_digit_20 (by decide) ?_
        refine lv_icmp_ge (tgt := 42) hx hb dX1_digit_22 (by decide) (fun c22 => ?_) (fun c22 => ?_)
        · refine lv_aload_n hx hb dX1_digit_42 rfl (lv_at hl 0 rfl) ?_
          refine lv_aload_n hx hb dX1_digit_43 rfl (lv_at hl 0 rfl) ?_
          refine va_get (D := D) (ci := ciE) (v := .ref (ad 2)) (C := RX1) (T := TX1) (N := 5) hx hb hts (by decide +kernel) hown hK hP 0 (xd_a0 X) rfl 1 (by decide) (hts (.fieldLink RX1 15 "ExactDesk" "tallies" "[LExactDesk$Wide;") (by decide +kernel)) (fun _ h9 => h9) rfl dX1_digit_44 ?_
          refine lv_iload_n hx hb dX1_digit_47 rfl (lv_at hl 1 rfl) ?_
          refine xd_ald hx hb hK hP X c4 dX1_digit_48 ?_
          refine xb_rl (va_runV (As := [.ref (ad (3 + t.toNatClampNeg))]) (rest := []) ⟨hx, hb, hml, hown, hts⟩ (cE_uH l D X (j4 c4)) (cwV 1 hts gX1_digit_X1_upperHalf rfl rfl rfl (by decide +kernel) ⟨Nat.le_of_ble_eq_true rfl, Nat.le_of_ble_eq_true rfl⟩) (xb_pv hP hK hD rfl rfl (xd_a0 X)) rfl rfl hl.1 rfl (lv_room (Nat.le_of_ble_eq_true rfl)) dX1_digit_49 ⟨Nat.le_of_ble_eq_true rfl, Nat.le_of_ble_eq_true rfl⟩) hD hS hA (fun r49 ws2 H locs hws2 hP hD hS => ?_)
          obtain ⟨⟨o49, X⟩, hr49⟩ := hws2
          refine lv_iload_n hx hb dX1_digit_52 rfl (lv_at hl 2 rfl) ?_
          refine lv_bipush (v := 18) hx hb dX1_digit_53 (by decide) ?_
          refine lv_isub hx hb dX1_digit_55 ?_
          refine xb_ri (va_runS (As := [.long r49, .int (k - 18)]) (rest := []) ⟨hx, hb, hml, hown, hts⟩ (cE_dD l D r49 (k - 18) (by have q1 := xd_lo X (j4 c4); have q2 := xd_hi X (j4 c4); omega) (K := k.toNatClampNeg - 18) (k18 c8 c22) (by have q := lt36 c8 c14; rw [lt18 c8] at c22; omega)) (va_cwS 2 hts gX1_digit_X1_decimalDigit rfl rfl rfl (by decide +kernel) ⟨Nat.le_of_ble_eq_true rfl, Nat.le_of_ble_eq_true rfl⟩) (xb_ps rfl hP hK hD) rfl rfl hl.1 rfl (lv_room (Nat.le_of_ble_eq_true rfl)) dX1_digit_56 ⟨Nat.le_of_ble_eq_true rfl, Nat.le_of_ble_eq_true rfl⟩) hD hS hA (fun r56 ws3 H locs hws3 hP hD hS => ?_)
          obtain ⟨hr56, rfl⟩ := hws3
          exact xb_ir hx hb hr hlocks hP hK hD hS dX1_digit_59 (⟨⟨_, X⟩, by rw [lt18 c8] at c22; rw [sp_digit, if_pos ⟨c4, c8, c14⟩, hr56, hr49, dg_hi c22]⟩)
        · refine lv_aload_n hx hb dX1_digit_25 rfl (lv_at hl 0 rfl) ?_
          refine lv_aload_n hx hb dX1_digit_26 rfl (lv_at hl 0 rfl) ?_
          refine va_get (D := D) (ci := ciE) (v := .ref (ad 2)) (C := RX1) (T := TX1) (N := 5) hx hb hts (by decide +kernel) hown hK hP 0 (xd_a0 X) rfl 1 (by decide) (hts (.fieldLink RX1 15 "ExactDesk" "tallies" "[LExactDesk$Wide;") (by decide +kernel)) (fun _ h9 => h9) rfl dX1_digit_27 ?_
          refine lv_iload_n hx hb dX1_digit_30 rfl (lv_at hl 1 rfl) ?_
          refine xd_ald hx hb hK hP X c4 dX1_digit_31 ?_
          refine xb_rl (va_runV (As := [.ref (ad (3 + t.toNatClampNeg))]) (rest := []) ⟨hx, hb, hml, hown, hts⟩ (cE_lH l D X (j4 c4)) (cwV 1 hts gX1_digit_X1_lowerHalf rfl rfl rfl (by decide +kernel) ⟨Nat.le_of_ble_eq_true rfl, Nat.le_of_ble_eq_true rfl⟩) (xb_pv hP hK hD rfl rfl (xd_a0 X)) rfl rfl hl.1 rfl (lv_room (Nat.le_of_ble_eq_true rfl)) dX1_digit_32 ⟨Nat.le_of_ble_eq_true rfl, Nat.le_of_ble_eq_true rfl⟩) hD hS hA (fun r32 ws2 H locs hws2 hP hD hS => ?_)
          obtain ⟨⟨o32, X⟩, hr32⟩ := hws2
          refine lv_iload_n hx hb dX1_digit_35 rfl (lv_at hl 2 rfl) ?_
          refine xb_ri (va_runS (As := [.long r32, .int k]) (rest := []) ⟨hx, hb, hml, hown, hts⟩ (cE_dD l D r32 k (by omega) (ix_n c8) (by rw [lt18 c8] at c22; omega)) (va_cwS 2 hts gX1_digit_X1_decimalDigit rfl rfl rfl (by decide +kernel) ⟨Nat.le_of_ble_eq_true rfl, Nat.le_of_ble_eq_true rfl⟩) (xb_ps rfl hP hK hD) rfl rfl hl.1 rfl (lv_room (Nat.le_of_ble_eq_true rfl)) dX1_digit_36 ⟨Nat.le_of_ble_eq_true rfl, Nat.le_of_ble_eq_true rfl⟩) hD hS hA (fun r36 ws3 H locs hws3 hP hD hS => ?_)
          obtain ⟨hr36, rfl⟩ := hws3
          refine lv_goto (tgt := 59) hx hb dX1_digit_39 (by decide) ?_
          exact xb_ir hx hb hr hlocks hP hK hD hS dX1_digit_59 (⟨⟨_, X⟩, by rw [lt18 c8] at c22; rw [sp_digit, if_pos ⟨c4, c8, c14⟩, hr36, hr32, dg_lo (by omega)]⟩)
      · refine lv_iconst (v := (-1)) hx hb dX1_digit_17 (by decide) ?_
        exact xb_ir hx hb hr hlocks hP hK hD hS dX1_digit_18 (⟨⟨_, X⟩, by rw [sp_digit, if_neg (fun q => c14 q.2.2)]⟩)
set_option maxHeartbeats 4000000 in
set_option maxRecDepth 100000 in
theorem cE_split (l : Launch) (D : va_G) {tys : xT} {ws : va_W} {sz : Nat} {w0 : va_W} {ad : Nat → Nat} {cA : Nat → ClassId} {g : Nat → Option Nat} {rf : Nat → Int64} {tv : Nat → Int} {o : Int} (X : xd w0 ws tys ad cA g rf tv o) (t : Int32) (d : Int64) (r : Int32) : xM l yX1_split wsX1_split ({ frames := 2, cells := 0, slots := 0, locals := 48 }) D tys ws sz [.ref (ad 0), .int t, .long d, .int r] (xQi D tys (fun a w => ∃ o1, xd w0 w tys ad cA g (sp_split (rf, tv) t d r).2.1 (sp_split (rf, tv) t d r).2.2 o1 ∧ a = (sp_split (rf, tv) t d r).1)) 0 0 := by
  refine xb_m (cc := cX1_split) (maxL := 9) (ret := (some .int)) (by decide) rfl (Nat.le_of_ble_eq_true rfl) ?_
  intro p e s m below meth c A ls hx hb hr hml hown hts hlocks hnm hA hP hK hD hS hl
  have hl : lv_has ls 9 [(0, .ref (ad 0)), (1, .int t), (2, .long d), (4, .int r)] := hl
  have hown : s.vm.findClass RX1 = some m.cls := hown
  refine lv_iload_n hx hb dX1_split_0 rfl (lv_at hl 1 rfl) ?_
  refine xb_ri (va_runS (As := [.int t]) (rest := []) ⟨hx, hb, hml, hown, hts⟩ (cE_isT l D t) (va_cwS 1 hts gX1_split_X1_isTally rfl rfl rfl (by decide +kernel) ⟨Nat.le_of_ble_eq_true rfl, Nat.le_of_ble_eq_true rfl⟩) (xb_ps rfl hP hK hD) rfl rfl hl.1 rfl (lv_room (Nat.le_of_ble_eq_true rfl)) dX1_split_1 ⟨Nat.le_of_ble_eq_true rfl, Nat.le_of_ble_eq_true rfl⟩) hD hS hA (fun r1 ws1 H locs hws1 hP hD hS => ?_)
  obtain ⟨hr1, rfl⟩ := hws1
  refine lv_if_eq (tgt := 29) hx hb dX1_split_4 (by decide) (fun c4 => ?_) (fun c4 => ?_)
  · have c4 := bz_0 hr1 c4
    refine lv_iconst (v := (-1)) hx hb dX1_split_29 (by decide) ?_
    exact xb_ir hx hb hr hlocks hP hK hD hS dX1_split_30 (by rw [sp_split, if_neg (fun q => c4 q.1)]; exact ⟨_, X, rfl⟩)
  · have c4 := bz_1 hr1 c4
    refine lv_iload hx hb dX1_split_7 (lv_at hl 3 rfl) ?_
    refine xb_ri (va_runS (As := [.int r]) (rest := []) ⟨hx, hb, hml, hown, hts⟩ (cE_isR l D r) (va_cwS 1 hts gX1_split_X1_isRegister rfl rfl rfl (by decide +kernel) ⟨Nat.le_of_ble_eq_true rfl, Nat.le_of_ble_eq_true rfl⟩) (xb_ps rfl hP hK hD) rfl rfl hl.1 rfl (lv_room (Nat.le_of_ble_eq_true rfl)) dX1_split_9 ⟨Nat.le_of_ble_eq_true rfl, Nat.le_of_ble_eq_true rfl⟩) hD hS hA (fun r9 ws2 H locs hws2 hP hD hS => ?_)
    obtain ⟨hr9, rfl⟩ := hws2
    refine lv_if_eq (tgt := 29) hx hb dX1_split_12 (by decide) (fun c12 => ?_) (fun c12 => ?_)
    · have c12 := bz_0 hr9 c12
      refine lv_iconst (v := (-1)) hx hb dX1_split_29 (by decide) ?_
      exact xb_ir hx hb hr hlocks hP hK hD hS dX1_split_30 (by rw [sp_split, if_neg (fun q => c12 q.2.1)]; exact ⟨_, X, rfl⟩)
    · have c12 := bz_1 hr9 c12
      refine lv_lload_n hx hb dX1_split_15 rfl (lv_at hl 2 rfl) ?_
      refine lv_lconst (v := 0) hx hb dX1_split_16 (by decide) ?_
      refine W.lcmp hx hb dX1_split_17 ?_
      refine lv_if_lt (tgt := 29) hx hb dX1_split_18 (by decide) (fun c18 => ?_) (fun c18 => ?_)
      · rw [lg_cmp_lt] at c18
        refine lv_iconst (v := (-1)) hx hb dX1_split_29 (by decide) ?_
        exact xb_ir hx hb hr hlocks hP hK hD hS dX1_split_30 (by rw [sp_split, if_neg (fun q => q.2.2.1 c18)]; exact ⟨_, X, rfl⟩)
      · rw [lg_cmp_lt] at c18
        refine lv_lload_n hx hb dX1_split_21 rfl (lv_at hl 2 rfl) ?_
        refine lv_ldc2 (v := 1000000000000000000) hx hb hown (hts (.constantLong RX1 24 (1000000000000000000)) (by decide +kernel)) dX1_split_22 ?_
        refine W.lcmp hx hb dX1_split_25 ?_
        refine lv_if_le (tgt := 31) hx hb dX1_split_26 (by decide) (fun c26 => ?_) (fun c26 => ?_)
        · rw [lg_cmp_le] at c26
          refine lv_lload_n hx hb dX1_split_31 rfl (lv_at hl 2 rfl) ?_
          refine lv_lconst (v := 0) hx hb dX1_split_32 (by decide) ?_
          refine W.lcmp hx hb dX1_split_33 ?_
          refine lv_if_ne (tgt := 39) hx hb dX1_split_34 (by decide) (fun c34 => ?_) (fun c34 => ?_)
          · rw [lg_cmp_eq] at c34
            refine lv_aload_n hx hb dX1_split_39 rfl (lv_at hl 0 rfl) ?_
            refine va_get (D := D) (ci := ciE) (v := .ref (ad 2)) (C := RX1) (T := TX1) (N := 5) hx hb hts (by decide +kernel) hown hK hP 0 (xd_a0 X) rfl 1 (by decide) (hts (.fieldLink RX1 15 "ExactDesk" "tallies" "[LExactDesk$Wide;") (by decide +kernel)) (fun _ h9 => h9) rfl dX1_split_40 ?_
            refine lv_iload_n hx hb dX1_split_43 rfl (lv_at hl 1 rfl) ?_
            refine xd_ald hx hb hK hP X c4 dX1_split_44 ?_
            refine lv_astore (lv' := [(5, .ref (ad (3 + t.toNatClampNeg))), (0, .ref (ad 0)), (1, .int t), (2, .long d), (4, .int r)]) hx hb dX1_split_45 hl (by decide) rfl (fun ls hl => ?_)
            refine lv_aload hx hb dX1_split_47 (lv_at hl 0 rfl) ?_
            have hbb := zr_x (xd_lo X (j4 c4)) (xd_hi X (j4 c4))
            have hk := xd_tl X (j4 c4)
            refine xb_ri (va_runV (As := []) (rest := []) ⟨hx, hb, hml, hown, hts⟩ (cW_isneg l D hk hbb.1) (cwV 0 hts gX1_split_X0_isNegative rfl rfl rfl (by decide +kernel) ⟨Nat.le_of_ble_eq_true rfl, Nat.le_of_ble_eq_true rfl⟩) (xb_pv hP hK hD rfl rfl hk) rfl rfl hl.1 rfl (lv_room (Nat.le_of_ble_eq_true rfl)) dX1_split_49 ⟨Nat.le_of_ble_eq_true rfl, Nat.le_of_ble_eq_true rfl⟩) hD hS hA (fun r49 ws3 H locs hws3 hP hD hS => ?_)
            obtain ⟨hr49, rfl⟩ := hws3
            refine lv_istore (lv' := [(6, .int r49), (5, .ref (ad (3 + t.toNatClampNeg))), (0, .ref (ad 0)), (1, .int t), (2, .long d), (4, .int r)]) hx hb dX1_split_52 hl (by decide) rfl (fun ls hl => ?_)
            refine lv_aload hx hb dX1_split_54 (lv_at hl 1 rfl) ?_
            refine xb_rv (va_runV (As := []) (rest := []) ⟨hx, hb, hml, hown, hts⟩ (cW_drop l D hk hbb.1 hbb.2.1) (cwV 0 hts gX1_split_X0_dropSign rfl rfl rfl (by decide +kernel) ⟨Nat.le_of_ble_eq_true rfl, Nat.le_of_ble_eq_true rfl⟩) (xb_pv hP hK hD rfl rfl hk) rfl rfl hl.1 rfl (lv_room (Nat.le_of_ble_eq_true rfl)) dX1_split_56 ⟨Nat.le_of_ble_eq_true rfl, Nat.le_of_ble_eq_true rfl⟩) hD hS hA (fun ws4 H locs hws4 hP hD hS => ?_)
            have hws4 : ws4 = ws.set (3 + t.toNatClampNeg) (ad (3 + t.toNatClampNeg), wdI ((tv t.toNatClampNeg).natAbs : Int)) := by rw [hws4]
            have hk : ws4[3 + t.toNatClampNeg]? = some (ad (3 + t.toNatClampNeg), wdI ((tv t.toNatClampNeg).natAbs : Int)) := by rw [hws4]; exact sgS (xd_tl X (j4 c4))
            refine lv_aload hx hb dX1_split_59 (lv_at hl 1 rfl) ?_
            refine lv_lload_n hx hb dX1_split_61 rfl (lv_at hl 4 rfl) ?_
            have hdp : 0 < d.toInt := by rw [Int64.lt_iff_toInt_lt] at c18; have e : (0 : Int64).toInt = 0 := (by decide); have := l_ne c34; omega
            have hdu : (uN d : Int) = d.toInt := by have := un_c d; have := un_hi d; omega
            have hd8 : d.toInt ≤ 1000000000000000000 := by rw [Int64.le_iff_toInt_le] at c26; exact c26
            refine xb_rl (va_runV (As := [.long d]) (rest := []) ⟨hx, hb, hml, hown, hts⟩ (cW_div l D hk d (by omega) hbb.2.2 (by omega) (by omega)) (cwV 1 hts gX1_split_X0_divideBy rfl rfl rfl (by decide +kernel) ⟨Nat.le_of_ble_eq_true rfl, Nat.le_of_ble_eq_true rfl⟩) (xb_pv hP hK hD rfl rfl hk) rfl rfl hl.1 rfl (lv_room (Nat.le_of_ble_eq_true rfl)) dX1_split_62 ⟨Nat.le_of_ble_eq_true rfl, Nat.le_of_ble_eq_true rfl⟩) hD hS hA (fun r62 ws5 H locs hws5 hP hD hS => ?_)
            obtain ⟨hws5, hr62⟩ := hws5
            have hws5 : ws5 = ws.set (3 + t.toNatClampNeg) (ad (3 + t.toNatClampNeg), wdI (((tv t.toNatClampNeg).natAbs : Int) / (uN d : Int))) := by rw [hws5, hws4, List.set_set]
            have hk : ws5[3 + t.toNatClampNeg]? = some (ad (3 + t.toNatClampNeg), wdI (((tv t.toNatClampNeg).natAbs : Int) / (uN d : Int))) := by rw [hws5]; exact sgS (xd_tl X (j4 c4))
            have hbd := div_b (n := (tv t.toNatClampNeg).natAbs) (d := uN d)
            refine lv_lstore (lv' := [(7, .long r62), (6, .int r49), (5, .ref (ad (3 + t.toNatClampNeg))), (0, .ref (ad 0)), (1, .int t), (2, .long d), (4, .int r)]) hx hb dX1_split_65 hl (by decide) rfl (fun ls hl => ?_)
            refine lv_iload hx hb dX1_split_67 (lv_at hl 1 rfl) ?_
            refine lv_if_eq (tgt := 82) hx hb dX1_split_69 (by decide) (fun c69 => ?_) (fun c69 => ?_)
            · have c69 := bz_0 hr49 c69
              obtain ⟨g1, g2⟩ := sp_p c69 hdp hr62
              rw [g2] at hws5
              have tb := tdiv_b (d := d.toInt) (xd_lo X (j4 c4)) (xd_hi X (j4 c4))
              have X := xd_setT X (j4 c4) tb.1 tb.2 hws5
              refine lv_aload_n hx hb dX1_split_82 rfl (lv_at hl 3 rfl) ?_
              refine va_get (D := D) (ci := ciE) (v := .ref (ad 1)) (C := RX1) (T := TX1) (N := 5) hx hb hts (by decide +kernel) hown hK hP 0 (xd_a0 X) rfl 0 (by decide) (hts (.fieldLink RX1 9 "ExactDesk" "registers" "[J") (by decide +kernel)) (fun _ h9 => h9) rfl dX1_split_83 ?_
              refine lv_iload hx hb dX1_split_86 (lv_at hl 6 rfl) ?_
              refine lv_lload hx hb dX1_split_88 (lv_at hl 0 rfl) ?_
              refine xd_lst hx hb hK hP hD hS X c12 dX1_split_90 (fun ws6 H locs X hP hD hS => ?_)
              refine lv_iconst (v := 0) hx hb dX1_split_91 (by decide) ?_
              exact xb_ir hx hb hr hlocks hP hK hD hS dX1_split_92 (by rw [sp_split, if_pos ⟨c4, c12, c18, Int64.not_lt.mpr c26⟩, if_neg c34]; rw [g1] at X; exact ⟨_, X, rfl⟩)
            · have c69 := bz_1 hr49 c69
              refine lv_aload hx hb dX1_split_72 (lv_at hl 2 rfl) ?_
              refine xb_rv (va_runV (As := []) (rest := []) ⟨hx, hb, hml, hown, hts⟩ (cW_neg l D hk ⟨by have q := hbb.2.2; unfold zR at q; omega, by have q := hbb.2.2; unfold zR at q; omega⟩ ⟨by have q := hbb.2.2; unfold zR at q; omega, by have q := hbb.2.2; unfold zR at q; omega⟩) (cwV 0 hts gX1_split_X0_negate rfl rfl rfl (by decide +kernel) ⟨Nat.le_of_ble_eq_true rfl, Nat.le_of_ble_eq_true rfl⟩) (xb_pv hP hK hD rfl rfl hk) rfl rfl hl.1 rfl (lv_room (Nat.le_of_ble_eq_true rfl)) dX1_split_74 ⟨Nat.le_of_ble_eq_true rfl, Nat.le_of_ble_eq_true rfl⟩) hD hS hA (fun ws6 H locs hws6 hP hD hS => ?_)
              have hws6 : ws6 = ws.set (3 + t.toNatClampNeg) (ad (3 + t.toNatClampNeg), wdI (-(((tv t.toNatClampNeg).natAbs : Int) / (uN d : Int)))) := by rw [hws6, hws5, List.set_set]
              have hk : ws6[3 + t.toNatClampNeg]? = some (ad (3 + t.toNatClampNeg), wdI (-(((tv t.toNatClampNeg).natAbs : Int) / (uN d : Int)))) := by rw [hws6]; exact sgS (xd_tl X (j4 c4))
              refine lv_lload hx hb dX1_split_77 (lv_at hl 0 rfl) ?_
              refine lv_lneg hx hb dX1_split_79 ?_
              refine lv_lstore (lv' := [(7, .long (-r62)), (6, .int r49), (5, .ref (ad (3 + t.toNatClampNeg))), (0, .ref (ad 0)), (1, .int t), (2, .long d), (4, .int r)]) hx hb dX1_split_80 hl (by decide) rfl (fun ls hl => ?_)
              obtain ⟨g1, g2⟩ := sp_n c69 hdp hr62
              rw [g2] at hws6
              have tb := tdiv_b (d := d.toInt) (xd_lo X (j4 c4)) (xd_hi X (j4 c4))
              have X := xd_setT X (j4 c4) tb.1 tb.2 hws6
              refine lv_aload_n hx hb dX1_split_82 rfl (lv_at hl 3 rfl) ?_
              refine va_get (D := D) (ci := ciE) (v := .ref (ad 1)) (C := RX1) (T := TX1) (N := 5) hx hb hts (by decide +kernel) hown hK hP 0 (xd_a0 X) rfl 0 (by decide) (hts (.fieldLink RX1 9 "ExactDesk" "registers" "[J") (by decide +kernel)) (fun _ h9 => h9) rfl dX1_split_83 ?_
              refine lv_iload hx hb dX1_split_86 (lv_at hl 6 rfl) ?_
              refine lv_lload hx hb dX1_split_88 (lv_at hl 0 rfl) ?_
              refine xd_lst hx hb hK hP hD hS X c12 dX1_split_90 (fun ws7 H locs X hP hD hS => ?_)
              refine lv_iconst (v := 0) hx hb dX1_split_91 (by decide) ?_
              exact xb_ir hx hb hr hlocks hP hK hD hS dX1_split_92 (by rw [sp_split, if_pos ⟨c4, c12, c18, Int64.not_lt.mpr c26⟩, if_neg c34]; rw [g1] at X; exact ⟨_, X, rfl⟩)
          · rw [lg_cmp_eq] at c34
            refine lv_iconst (v := 3) hx hb dX1_split_37 (by decide) ?_
            exact xb_ir hx hb hr hlocks hP hK hD hS dX1_split_38 (by rw [sp_split, if_pos ⟨c4, c12, c18, Int64.not_lt.mpr c26⟩, if_pos c34]; exact ⟨_, X, rfl⟩)
        · rw [lg_cmp_le] at c26
          refine lv_iconst (v := (-1)) hx hb dX1_split_29 (by decide) ?_
          exact xb_ir hx hb hr hlocks hP hK hD hS dX1_split_30 (by rw [sp_split, if_neg (fun q => q.2.2.2 (Int64.not_le.mp c26))]; exact ⟨_, X, rfl⟩)
end
section
-- the constructors (laid by wip/whole/gen_init.py)
set_option maxHeartbeats 4000000 in
set_option maxRecDepth 100000 in
theorem cW_init (l : Launch) (D : va_G) {tys : xT} {ws : va_W} {sz : Nat} {h0 : Nat} : xM l yX0_init wsX0_init ({ frames := 1, cells := 0, slots := 0, locals := 12 }) D tys ws sz [.ref h0] (xQv D tys (fun w => ws = w)) 0 0 := by
  refine xb_m (cc := cX0_init) (maxL := 1) (ret := none) (by decide) rfl (Nat.le_of_ble_eq_true rfl) ?_
  intro p e s m below meth c A ls hx hb hr hml hown hts hlocks hnm hA hP hK hD hS hl
  have hl : lv_has ls 1 [(0, .ref h0)] := hl
  have hown : s.vm.findClass RX0 = some m.cls := hown
  refine lv_aload_n hx hb dX0_init_0 rfl (lv_at hl 0 rfl) ?_
  refine W.objInit hx hb hown (hts (.methodLink RX0 3 objectInit) (by decide +kernel)) (hts (.instanceMethod objectInit) (by decide +kernel)) (hts _ (List.mem_cons_of_mem _ (List.mem_of_getElem? (i := 2) rfl))) rfl (by rw [hml]; exact hl.1) rfl dX0_init_1 (Nat.le_of_ble_eq_true rfl) (Nat.le_of_ble_eq_true rfl) ?_
  refine W.eq (g2 := F0 m 4 ls []) rfl ?_
  exact xb_vr hx hb hr hlocks hP hK hD hS dX0_init_4 (rfl)
set_option maxHeartbeats 4000000 in
set_option maxRecDepth 100000 in
theorem cE_init (l : Launch) (D : va_G) (h0 sz : Nat) : Met l yX1_init wsX1_init ({ frames := 2, cells := 9, slots := 26, locals := 36 }) (va_Pc [.ref h0] (fun U => xb_P D [] [(h0, .inr (ciE, [.null, .null, .null, .null, .null]))] sz U ∧ va_Nw (.methodLinkNest RX1 19 yX0_init "ExactDesk") U ∧ va_AO RX0 U)) (va_Qv (fun u : va_W × xT => ∃ ad cA g, ad 0 = h0 ∧ u.1.length = 10 ∧ xd [] u.1 u.2 ad cA g (fun _ => 0) (fun _ => 0) 0) (fun u t => xb_B D u.2 (va_A [(h0, .inr (ciE, [.null, .null, .null, .null, .null]))] sz) u.1 t) (va_A [(h0, .inr (ciE, [.null, .null, .null, .null, .null]))] sz)) 9 26 (va_A [(h0, .inr (ciE, [.null, .null, .null, .null, .null]))] sz) := by
  refine Met.ofW (cc := cX1_init) (maxL := 2) (ret := none) (by decide) rfl ?_
  intro p e s m args below meth c s₁ B hml hv
  obtain ⟨rfl, ⟨hsz, hP, hK, hD0⟩, hN, hAO⟩ := hv
  have hx := B.exec
  have hb := B.bytes
  have hr := B.returns
  have hts := atoms_spec (ws := wsX1_init) B.pre
  have hown : s.vm.findClass RX1 = some m.cls := findClass_of_methodNamed B.named
  have hlocks := B.notSynchronized
  have hnm : meth.name = "<init>" := (name_of_methodNamed B.named B.method).1
  subst hsz
  have hD := hD0.self (sz := s.heap.size)
  generalize hAe : va_A [(h0, .inr (ciE, [.null, .null, .null, .null, .null]))] s.heap.size = A at hD ⊢
  have hA : ∀ q : Nat, s.heap.size ≤ q → A q := fun q h => by rw [← hAe]; exact Or.inr h
  have hS : va_S A s.heap s.heap [] := va_S.rf
  have hl := lv_entry ([.ref h0]) (n := 2) (Nat.le_of_ble_eq_true rfl)
  rw [lg_entry_eq]
  generalize (lg_sl ([.ref h0]) ++ List.replicate (2 - (lg_sl ([.ref h0])).length) Slot.unset).toArray = ls at hl ⊢
  have hl : lv_has ls 2 [(0, .ref h0)] := hl
  refine lv_aload_n hx hb dX1_init_0 rfl (lv_at hl 0 rfl) ?_
  refine W.objInit hx hb hown (hts (.methodLink RX1 3 objectInit) (by decide +kernel)) (hts (.instanceMethod objectInit) (by decide +kernel)) (hts _ (List.mem_cons_of_mem _ (List.mem_of_getElem? (i := 2) rfl))) rfl (by rw [hml]; exact hl.1) rfl dX1_init_1 (Nat.le_of_ble_eq_true rfl) (Nat.le_of_ble_eq_true rfl) ?_
  refine W.eq (g2 := F0 m 4 ls []) rfl ?_
  refine lv_aload_n hx hb dX1_init_4 rfl (lv_at hl 0 rfl) ?_
  refine lv_bipush (v := 8) hx hb dX1_init_5 (by decide) ?_
  refine va_newa (atype := .long) (ty := .long) (N' := 8) (a0 := (8, .inr (.inl (fun _ => 0)))) hx hb (hts (.arrayClass .long) (by decide +kernel)) rfl hK hP hD hS hA (fun _ => rfl) (by decide) (by decide) (by decide) (Nat.le_of_ble_eq_true rfl) (Nat.le_of_ble_eq_true rfl) dX1_init_7 (fun q1 c1 H hK hP hD hS => ?_)
  have hP : va_P D vwCl [(h0, .inr (ciE, [.null, .null, .null, .null, .null])), (q1, .inl (c1, 8, .inr (.inl (fun _ => 0))))] H := hP
  have hD : va_D A [(h0, .inr (ciE, [.null, .null, .null, .null, .null])), (q1, .inl (c1, 8, .inr (.inl (fun _ => 0))))] := hD
  have hK : va_K D vwCl [(c1, .long)] s := hK
  refine va_putF (D := D) (ci := ciE) (v := .ref q1) (ty := .array .long) (C := RX1) (T := TX1) (N := 5) hx hb hts (by decide +kernel) tyX1 tyX1_ok nmX1 hown hK hP hD hS 0 rfl rfl 0 (by decide) (hts (.fieldLink RX1 9 "ExactDesk" "registers" "[J") (by decide +kernel)) (fun _ h9 => h9) rfl hnm rfl (by decide +kernel) rfl rfl (Nat.le_of_ble_eq_true rfl) dX1_init_9 (fun H locs hP hD hS => ?_)
  have hP : va_P D vwCl [(h0, .inr (ciE, [.ref q1, .null, .null, .null, .null])), (q1, .inl (c1, 8, .inr (.inl (fun _ => 0))))] H := hP
  have hD : va_D A [(h0, .inr (ciE, [.ref q1, .null, .null, .null, .null])), (q1, .inl (c1, 8, .inr (.inl (fun _ => 0))))] := hD
  refine lv_aload_n hx hb dX1_init_12 rfl (lv_at hl 0 rfl) ?_
  refine lv_iconst (v := 4) hx hb dX1_init_13 (by decide) ?_
  refine va_newq (C := RX0) (N' := 4) hx hb hown (hts (.classLink RX1 13 RX0) (by decide +kernel)) hAO hK hP hD hS hA (by decide) (by decide) (by decide) (Nat.le_of_ble_eq_true rfl) (Nat.le_of_ble_eq_true rfl) dX1_init_14 (fun q2 c2 H hK hP hD hS => ?_)
  have hP : va_P D vwCl [(h0, .inr (ciE, [.ref q1, .null, .null, .null, .null])), (q1, .inl (c1, 8, .inr (.inl (fun _ => 0)))), (q2, .inl (c2, 4, .inr (.inr (.inr (.inr (fun _ => none))))))] H := hP
  have hD : va_D A [(h0, .inr (ciE, [.ref q1, .null, .null, .null, .null])), (q1, .inl (c1, 8, .inr (.inl (fun _ => 0)))), (q2, .inl (c2, 4, .inr (.inr (.inr (.inr (fun _ => none))))))] := hD
  have hK : va_K D vwCl [(c1, .long), (c2, .object RX0)] s := hK
  refine va_putF (D := D) (ci := ciE) (v := .ref q2) (ty := .array (.object "ExactDesk$Wide")) (C := RX1) (T := TX1) (N := 5) hx hb hts (by decide +kernel) tyX1 tyX1_ok nmX1 hown hK hP hD hS 0 rfl rfl 1 (by decide) (hts (.fieldLink RX1 15 "ExactDesk" "tallies" "[LExactDesk$Wide;") (by decide +kernel)) (fun _ h9 => h9) rfl hnm rfl (by decide +kernel) rfl rfl (Nat.le_of_ble_eq_true rfl) dX1_init_17 (fun H locs hP hD hS => ?_)
  have hP : va_P D vwCl [(h0, .inr (ciE, [.ref q1, .ref q2, .null, .null, .null])), (q1, .inl (c1, 8, .inr (.inl (fun _ => 0)))), (q2, .inl (c2, 4, .inr (.inr (.inr (.inr (fun _ => none))))))] H := hP
  have hD : va_D A [(h0, .inr (ciE, [.ref q1, .ref q2, .null, .null, .null])), (q1, .inl (c1, 8, .inr (.inl (fun _ => 0)))), (q2, .inl (c2, 4, .inr (.inr (.inr (.inr (fun _ => none))))))] := hD
  refine lv_iconst (v := 0) hx hb dX1_init_20 (by decide) ?_
  refine lv_istore_n (lv' := [(1, .int 0), (0, .ref h0)]) hx hb dX1_init_21 rfl hl (by decide) rfl (fun ls hl => ?_)
  refine lv_iload_n hx hb dX1_init_22 rfl (lv_at hl 0 rfl) ?_
  refine lv_iconst (v := 4) hx hb dX1_init_23 (by decide) ?_
  refine lv_icmp_ge (tgt := 46) hx hb dX1_init_24 (by decide) (fun q => absurd q (by decide)) (fun _ => ?_)
  refine lv_aload_n hx hb dX1_init_27 rfl (lv_at hl 1 rfl) ?_
  refine va_get (D := D) (ci := ciE) (v := .ref q2) (C := RX1) (T := TX1) (N := 5) hx hb hts (by decide +kernel) hown hK hP 0 rfl rfl 1 (by decide) (hts (.fieldLink RX1 15 "ExactDesk" "tallies" "[LExactDesk$Wide;") (by decide +kernel)) (fun _ h9 => h9) rfl dX1_init_28 ?_
  refine lv_iload_n hx hb dX1_init_31 rfl (lv_at hl 0 rfl) ?_
  refine va_new (ci := ciW) (fs := [.long 0, .long 0]) (C := RX0) (T := TX0) (N := 2) hx hb hts (by decide +kernel) tyX0 tyX0_ok hown (hts (.classLink RX1 13 RX0) (by decide +kernel)) (hts (.instantiable RX0 2) (by decide +kernel)) (hts (.initialized RX0) (by decide +kernel)) hK hP hD hS hA rfl (fun j hj => by rcases (show j = 0 ∨ j = 1 by omega) with rfl | rfl <;> rfl) (Nat.le_of_ble_eq_true rfl) (Nat.le_of_ble_eq_true rfl) dX1_init_32 (fun q3 H hP hD hS => ?_)
  have hP : va_P D vwCl [(h0, .inr (ciE, [.ref q1, .ref q2, .null, .null, .null])), (q1, .inl (c1, 8, .inr (.inl (fun _ => 0)))), (q2, .inl (c2, 4, .inr (.inr (.inr (.inr (fun _ => none)))))), (q3, .inr (ciW, [.long 0, .long 0]))] H := hP
  have hD : va_D A [(h0, .inr (ciE, [.ref q1, .ref q2, .null, .null, .null])), (q1, .inl (c1, 8, .inr (.inl (fun _ => 0)))), (q2, .inl (c2, 4, .inr (.inr (.inr (.inr (fun _ => none)))))), (q3, .inr (ciW, [.long 0, .long 0]))] := hD
  refine lv_dup hx hb dX1_init_35 rfl ?_
  refine xb_rv (va_runIN (As := []) (rest := [.ref q3, .int 0, .ref q2]) ⟨hx, hb, hml, hown, hts⟩ (cW_init l D) ⟨va_cnB 0 hts gX1_init_X0_init_n19 rfl rfl rfl hN (hts (.initialized RX0) (by decide +kernel)) (by decide +kernel) ⟨Nat.le_of_ble_eq_true rfl, Nat.le_of_ble_eq_true rfl⟩, rfl, hts (.instanceMethod yX0_init) (by decide +kernel)⟩ (xb_ps rfl hP hK hD) rfl rfl hl.1 rfl (lv_room (Nat.le_of_ble_eq_true rfl)) dX1_init_36 ⟨Nat.le_of_ble_eq_true rfl, Nat.le_of_ble_eq_true rfl⟩) hD hS hA (fun ws1 H locs hws1 hP hD hS => ?_)
  subst hws1
  refine va_astq (r := (RX0, TX0, 2)) hx hb hK hP hD hS 2 1 3 ciW rfl rfl rfl rfl (by unfold vp_in; decide) dX1_init_39 (fun H locs hP hD hS => ?_)
  have hP : va_P D vwCl [(h0, .inr (ciE, [.ref q1, .ref q2, .null, .null, .null])), (q1, .inl (c1, 8, .inr (.inl (fun _ => 0)))), (q2, .inl (c2, 4, .inr (.inr (.inr (.inr (va_up (fun _ => none) (0 : Int32).toNatClampNeg (some q3))))))), (q3, .inr (ciW, [.long 0, .long 0]))] H := hP
  have hD : va_D A [(h0, .inr (ciE, [.ref q1, .ref q2, .null, .null, .null])), (q1, .inl (c1, 8, .inr (.inl (fun _ => 0)))), (q2, .inl (c2, 4, .inr (.inr (.inr (.inr (va_up (fun _ => none) (0 : Int32).toNatClampNeg (some q3))))))), (q3, .inr (ciW, [.long 0, .long 0]))] := hD
  refine lv_iinc (v := 1) (lv' := [(1, .int 1), (0, .ref h0)]) hx hb dX1_init_40 hl (k := 0) rfl (by decide) (by decide) rfl (fun ls hl => ?_)
  refine lv_goto (tgt := 22) hx hb dX1_init_43 (by decide) ?_
  refine lv_iload_n hx hb dX1_init_22 rfl (lv_at hl 0 rfl) ?_
  refine lv_iconst (v := 4) hx hb dX1_init_23 (by decide) ?_
  refine lv_icmp_ge (tgt := 46) hx hb dX1_init_24 (by decide) (fun q => absurd q (by decide)) (fun _ => ?_)
  refine lv_aload_n hx hb dX1_init_27 rfl (lv_at hl 1 rfl) ?_
  refine va_get (D := D) (ci := ciE) (v := .ref q2) (C := RX1) (T := TX1) (N := 5) hx hb hts (by decide +kernel) hown hK hP 0 rfl rfl 1 (by decide) (hts (.fieldLink RX1 15 "ExactDesk" "tallies" "[LExactDesk$Wide;") (by decide +kernel)) (fun _ h9 => h9) rfl dX1_init_28 ?_
  refine lv_iload_n hx hb dX1_init_31 rfl (lv_at hl 0 rfl) ?_
  refine va_new (ci := ciW) (fs := [.long 0, .long 0]) (C := RX0) (T := TX0) (N := 2) hx hb hts (by decide +kernel) tyX0 tyX0_ok hown (hts (.classLink RX1 13 RX0) (by decide +kernel)) (hts (.instantiable RX0 2) (by decide +kernel)) (hts (.initialized RX0) (by decide +kernel)) hK hP hD hS hA rfl (fun j hj => by rcases (show j = 0 ∨ j = 1 by omega) with rfl | rfl <;> rfl) (Nat.le_of_ble_eq_true rfl) (Nat.le_of_ble_eq_true rfl) dX1_init_32 (fun q4 H hP hD hS => ?_)
  have hP : va_P D vwCl [(h0, .inr (ciE, [.ref q1, .ref q2, .null, .null, .null])), (q1, .inl (c1, 8, .inr (.inl (fun _ => 0)))), (q2, .inl (c2, 4, .inr (.inr (.inr (.inr (va_up (fun _ => none) (0 : Int32).toNatClampNeg (some q3))))))), (q3, .inr (ciW, [.long 0, .long 0])), (q4, .inr (ciW, [.long 0, .long 0]))] H := hP
  have hD : va_D A [(h0, .inr (ciE, [.ref q1, .ref q2, .null, .null, .null])), (q1, .inl (c1, 8, .inr (.inl (fun _ => 0)))), (q2, .inl (c2, 4, .inr (.inr (.inr (.inr (va_up (fun _ => none) (0 : Int32).toNatClampNeg (some q3))))))), (q3, .inr (ciW, [.long 0, .long 0])), (q4, .inr (ciW, [.long 0, .long 0]))] := hD
  refine lv_dup hx hb dX1_init_35 rfl ?_
  refine xb_rv (va_runIN (As := []) (rest := [.ref q4, .int 1, .ref q2]) ⟨hx, hb, hml, hown, hts⟩ (cW_init l D) ⟨va_cnB 0 hts gX1_init_X0_init_n19 rfl rfl rfl hN (hts (.initialized RX0) (by decide +kernel)) (by decide +kernel) ⟨Nat.le_of_ble_eq_true rfl, Nat.le_of_ble_eq_true rfl⟩, rfl, hts (.instanceMethod yX0_init) (by decide +kernel)⟩ (xb_ps rfl hP hK hD) rfl rfl hl.1 rfl (lv_room (Nat.le_of_ble_eq_true rfl)) dX1_init_36 ⟨Nat.le_of_ble_eq_true rfl, Nat.le_of_ble_eq_true rfl⟩) hD hS hA (fun ws2 H locs hws2 hP hD hS => ?_)
  subst hws2
  refine va_astq (r := (RX0, TX0, 2)) hx hb hK hP hD hS 2 1 4 ciW rfl rfl rfl rfl (by unfold vp_in; decide) dX1_init_39 (fun H locs hP hD hS => ?_)
  have hP : va_P D vwCl [(h0, .inr (ciE, [.ref q1, .ref q2, .null, .null, .null])), (q1, .inl (c1, 8, .inr (.inl (fun _ => 0)))), (q2, .inl (c2, 4, .inr (.inr (.inr (.inr (va_up (va_up (fun _ => none) (0 : Int32).toNatClampNeg (some q3)) (1 : Int32).toNatClampNeg (some q4))))))), (q3, .inr (ciW, [.long 0, .long 0])), (q4, .inr (ciW, [.long 0, .long 0]))] H := hP
  have hD : va_D A [(h0, .inr (ciE, [.ref q1, .ref q2, .null, .null, .null])), (q1, .inl (c1, 8, .inr (.inl (fun _ => 0)))), (q2, .inl (c2, 4, .inr (.inr (.inr (.inr (va_up (va_up (fun _ => none) (0 : Int32).toNatClampNeg (some q3)) (1 : Int32).toNatClampNeg (some q4))))))), (q3, .inr (ciW, [.long 0, .long 0])), (q4, .inr (ciW, [.long 0, .long 0]))] := hD
  refine lv_iinc (v := 2) (lv' := [(1, .int 2), (0, .ref h0)]) hx hb dX1_init_40 hl (k := 0) rfl (by decide) (by decide) rfl (fun ls hl => ?_)
  refine lv_goto (tgt := 22) hx hb dX1_init_43 (by decide) ?_
  refine lv_iload_n hx hb dX1_init_22 rfl (lv_at hl 0 rfl) ?_
  refine lv_iconst (v := 4) hx hb dX1_init_23 (by decide) ?_
  refine lv_icmp_ge (tgt := 46) hx hb dX1_init_24 (by decide) (fun q => absurd q (by decide)) (fun _ => ?_)
  refine lv_aload_n hx hb dX1_init_27 rfl (lv_at hl 1 rfl) ?_
  refine va_get (D := D) (ci := ciE) (v := .ref q2) (C := RX1) (T := TX1) (N := 5) hx hb hts (by decide +kernel) hown hK hP 0 rfl rfl 1 (by decide) (hts (.fieldLink RX1 15 "ExactDesk" "tallies" "[LExactDesk$Wide;") (by decide +kernel)) (fun _ h9 => h9) rfl dX1_init_28 ?_
  refine lv_iload_n hx hb dX1_init_31 rfl (lv_at hl 0 rfl) ?_
  refine va_new (ci := ciW) (fs := [.long 0, .long 0]) (C := RX0) (T := TX0) (N := 2) hx hb hts (by decide +kernel) tyX0 tyX0_ok hown (hts (.classLink RX1 13 RX0) (by decide +kernel)) (hts (.instantiable RX0 2) (by decide +kernel)) (hts (.initialized RX0) (by decide +kernel)) hK hP hD hS hA rfl (fun j hj => by rcases (show j = 0 ∨ j = 1 by omega) with rfl | rfl <;> rfl) (Nat.le_of_ble_eq_true rfl) (Nat.le_of_ble_eq_true rfl) dX1_init_32 (fun q5 H hP hD hS => ?_)
  have hP : va_P D vwCl [(h0, .inr (ciE, [.ref q1, .ref q2, .null, .null, .null])), (q1, .inl (c1, 8, .inr (.inl (fun _ => 0)))), (q2, .inl (c2, 4, .inr (.inr (.inr (.inr (va_up (va_up (fun _ => none) (0 : Int32).toNatClampNeg (some q3)) (1 : Int32).toNatClampNeg (some q4))))))), (q3, .inr (ciW, [.long 0, .long 0])), (q4, .inr (ciW, [.long 0, .long 0])), (q5, .inr (ciW, [.long 0, .long 0]))] H := hP
  have hD : va_D A [(h0, .inr (ciE, [.ref q1, .ref q2, .null, .null, .null])), (q1, .inl (c1, 8, .inr (.inl (fun _ => 0)))), (q2, .inl (c2, 4, .inr (.inr (.inr (.inr (va_up (va_up (fun _ => none) (0 : Int32).toNatClampNeg (some q3)) (1 : Int32).toNatClampNeg (some q4))))))), (q3, .inr (ciW, [.long 0, .long 0])), (q4, .inr (ciW, [.long 0, .long 0])), (q5, .inr (ciW, [.long 0, .long 0]))] := hD
  refine lv_dup hx hb dX1_init_35 rfl ?_
  refine xb_rv (va_runIN (As := []) (rest := [.ref q5, .int 2, .ref q2]) ⟨hx, hb, hml, hown, hts⟩ (cW_init l D) ⟨va_cnB 0 hts gX1_init_X0_init_n19 rfl rfl rfl hN (hts (.initialized RX0) (by decide +kernel)) (by decide +kernel) ⟨Nat.le_of_ble_eq_true rfl, Nat.le_of_ble_eq_true rfl⟩, rfl, hts (.instanceMethod yX0_init) (by decide +kernel)⟩ (xb_ps rfl hP hK hD) rfl rfl hl.1 rfl (lv_room (Nat.le_of_ble_eq_true rfl)) dX1_init_36 ⟨Nat.le_of_ble_eq_true rfl, Nat.le_of_ble_eq_true rfl⟩) hD hS hA (fun ws3 H locs hws3 hP hD hS => ?_)
  subst hws3
  refine va_astq (r := (RX0, TX0, 2)) hx hb hK hP hD hS 2 1 5 ciW rfl rfl rfl rfl (by unfold vp_in; decide) dX1_init_39 (fun H locs hP hD hS => ?_)
  have hP : va_P D vwCl [(h0, .inr (ciE, [.ref q1, .ref q2, .null, .null, .null])), (q1, .inl (c1, 8, .inr (.inl (fun _ => 0)))), (q2, .inl (c2, 4, .inr (.inr (.inr (.inr (va_up (va_up (va_up (fun _ => none) (0 : Int32).toNatClampNeg (some q3)) (1 : Int32).toNatClampNeg (some q4)) (2 : Int32).toNatClampNeg (some q5))))))), (q3, .inr (ciW, [.long 0, .long 0])), (q4, .inr (ciW, [.long 0, .long 0])), (q5, .inr (ciW, [.long 0, .long 0]))] H := hP
  have hD : va_D A [(h0, .inr (ciE, [.ref q1, .ref q2, .null, .null, .null])), (q1, .inl (c1, 8, .inr (.inl (fun _ => 0)))), (q2, .inl (c2, 4, .inr (.inr (.inr (.inr (va_up (va_up (va_up (fun _ => none) (0 : Int32).toNatClampNeg (some q3)) (1 : Int32).toNatClampNeg (some q4)) (2 : Int32).toNatClampNeg (some q5))))))), (q3, .inr (ciW, [.long 0, .long 0])), (q4, .inr (ciW, [.long 0, .long 0])), (q5, .inr (ciW, [.long 0, .long 0]))] := hD
  refine lv_iinc (v := 3) (lv' := [(1, .int 3), (0, .ref h0)]) hx hb dX1_init_40 hl (k := 0) rfl (by decide) (by decide) rfl (fun ls hl => ?_)
  refine lv_goto (tgt := 22) hx hb dX1_init_43 (by decide) ?_
  refine lv_iload_n hx hb dX1_init_22 rfl (lv_at hl 0 rfl) ?_
  refine lv_iconst (v := 4) hx hb dX1_init_23 (by decide) ?_
  refine lv_icmp_ge (tgt := 46) hx hb dX1_init_24 (by decide) (fun q => absurd q (by decide)) (fun _ => ?_)
  refine lv_aload_n hx hb dX1_init_27 rfl (lv_at hl 1 rfl) ?_
  refine va_get (D := D) (ci := ciE) (v := .ref q2) (C := RX1) (T := TX1) (N := 5) hx hb hts (by decide +kernel) hown hK hP 0 rfl rfl 1 (by decide) (hts (.fieldLink RX1 15 "ExactDesk" "tallies" "[LExactDesk$Wide;") (by decide +kernel)) (fun _ h9 => h9) rfl dX1_init_28 ?_
  refine lv_iload_n hx hb dX1_init_31 rfl (lv_at hl 0 rfl) ?_
  refine va_new (ci := ciW) (fs := [.long 0, .long 0]) (C := RX0) (T := TX0) (N := 2) hx hb hts (by decide +kernel) tyX0 tyX0_ok hown (hts (.classLink RX1 13 RX0) (by decide +kernel)) (hts (.instantiable RX0 2) (by decide +kernel)) (hts (.initialized RX0) (by decide +kernel)) hK hP hD hS hA rfl (fun j hj => by rcases (show j = 0 ∨ j = 1 by omega) with rfl | rfl <;> rfl) (Nat.le_of_ble_eq_true rfl) (Nat.le_of_ble_eq_true rfl) dX1_init_32 (fun q6 H hP hD hS => ?_)
  have hP : va_P D vwCl [(h0, .inr (ciE, [.ref q1, .ref q2, .null, .null, .null])), (q1, .inl (c1, 8, .inr (.inl (fun _ => 0)))), (q2, .inl (c2, 4, .inr (.inr (.inr (.inr (va_up (va_up (va_up (fun _ => none) (0 : Int32).toNatClampNeg (some q3)) (1 : Int32).toNatClampNeg (some q4)) (2 : Int32).toNatClampNeg (some q5))))))), (q3, .inr (ciW, [.long 0, .long 0])), (q4, .inr (ciW, [.long 0, .long 0])), (q5, .inr (ciW, [.long 0, .long 0])), (q6, .inr (ciW, [.long 0, .long 0]))] H := hP
  have hD : va_D A [(h0, .inr (ciE, [.ref q1, .ref q2, .null, .null, .null])), (q1, .inl (c1, 8, .inr (.inl (fun _ => 0)))), (q2, .inl (c2, 4, .inr (.inr (.inr (.inr (va_up (va_up (va_up (fun _ => none) (0 : Int32).toNatClampNeg (some q3)) (1 : Int32).toNatClampNeg (some q4)) (2 : Int32).toNatClampNeg (some q5))))))), (q3, .inr (ciW, [.long 0, .long 0])), (q4, .inr (ciW, [.long 0, .long 0])), (q5, .inr (ciW, [.long 0, .long 0])), (q6, .inr (ciW, [.long 0, .long 0]))] := hD
  refine lv_dup hx hb dX1_init_35 rfl ?_
  refine xb_rv (va_runIN (As := []) (rest := [.ref q6, .int 3, .ref q2]) ⟨hx, hb, hml, hown, hts⟩ (cW_init l D) ⟨va_cnB 0 hts gX1_init_X0_init_n19 rfl rfl rfl hN (hts (.initialized RX0) (by decide +kernel)) (by decide +kernel) ⟨Nat.le_of_ble_eq_true rfl, Nat.le_of_ble_eq_true rfl⟩, rfl, hts (.instanceMethod yX0_init) (by decide +kernel)⟩ (xb_ps rfl hP hK hD) rfl rfl hl.1 rfl (lv_room (Nat.le_of_ble_eq_true rfl)) dX1_init_36 ⟨Nat.le_of_ble_eq_true rfl, Nat.le_of_ble_eq_true rfl⟩) hD hS hA (fun ws4 H locs hws4 hP hD hS => ?_)
  subst hws4
  refine va_astq (r := (RX0, TX0, 2)) hx hb hK hP hD hS 2 1 6 ciW rfl rfl rfl rfl (by unfold vp_in; decide) dX1_init_39 (fun H locs hP hD hS => ?_)
  have hP : va_P D vwCl [(h0, .inr (ciE, [.ref q1, .ref q2, .null, .null, .null])), (q1, .inl (c1, 8, .inr (.inl (fun _ => 0)))), (q2, .inl (c2, 4, .inr (.inr (.inr (.inr (va_up (va_up (va_up (va_up (fun _ => none) (0 : Int32).toNatClampNeg (some q3)) (1 : Int32).toNatClampNeg (some q4)) (2 : Int32).toNatClampNeg (some q5)) (3 : Int32).toNatClampNeg (some q6))))))), (q3, .inr (ciW, [.long 0, .long 0])), (q4, .inr (ciW, [.long 0, .long 0])), (q5, .inr (ciW, [.long 0, .long 0])), (q6, .inr (ciW, [.long 0, .long 0]))] H := hP
  have hD : va_D A [(h0, .inr (ciE, [.ref q1, .ref q2, .null, .null, .null])), (q1, .inl (c1, 8, .inr (.inl (fun _ => 0)))), (q2, .inl (c2, 4, .inr (.inr (.inr (.inr (va_up (va_up (va_up (va_up (fun _ => none) (0 : Int32).toNatClampNeg (some q3)) (1 : Int32).toNatClampNeg (some q4)) (2 : Int32).toNatClampNeg (some q5)) (3 : Int32).toNatClampNeg (some q6))))))), (q3, .inr (ciW, [.long 0, .long 0])), (q4, .inr (ciW, [.long 0, .long 0])), (q5, .inr (ciW, [.long 0, .long 0])), (q6, .inr (ciW, [.long 0, .long 0]))] := hD
  refine lv_iinc (v := 4) (lv' := [(1, .int 4), (0, .ref h0)]) hx hb dX1_init_40 hl (k := 0) rfl (by decide) (by decide) rfl (fun ls hl => ?_)
  refine lv_goto (tgt := 22) hx hb dX1_init_43 (by decide) ?_
  refine lv_iload_n hx hb dX1_init_22 rfl (lv_at hl 0 rfl) ?_
  refine lv_iconst (v := 4) hx hb dX1_init_23 (by decide) ?_
  refine lv_icmp_ge (tgt := 46) hx hb dX1_init_24 (by decide) (fun _ => ?_) (fun q => absurd (by decide) q)
  refine lv_aload_n hx hb dX1_init_46 rfl (lv_at hl 1 rfl) ?_
  refine va_new (ci := ciW) (fs := [.long 0, .long 0]) (C := RX0) (T := TX0) (N := 2) hx hb hts (by decide +kernel) tyX0 tyX0_ok hown (hts (.classLink RX1 13 RX0) (by decide +kernel)) (hts (.instantiable RX0 2) (by decide +kernel)) (hts (.initialized RX0) (by decide +kernel)) hK hP hD hS hA rfl (fun j hj => by rcases (show j = 0 ∨ j = 1 by omega) with rfl | rfl <;> rfl) (Nat.le_of_ble_eq_true rfl) (Nat.le_of_ble_eq_true rfl) dX1_init_47 (fun q7 H hP hD hS => ?_)
  have hP : va_P D vwCl [(h0, .inr (ciE, [.ref q1, .ref q2, .null, .null, .null])), (q1, .inl (c1, 8, .inr (.inl (fun _ => 0)))), (q2, .inl (c2, 4, .inr (.inr (.inr (.inr (va_up (va_up (va_up (va_up (fun _ => none) (0 : Int32).toNatClampNeg (some q3)) (1 : Int32).toNatClampNeg (some q4)) (2 : Int32).toNatClampNeg (some q5)) (3 : Int32).toNatClampNeg (some q6))))))), (q3, .inr (ciW, [.long 0, .long 0])), (q4, .inr (ciW, [.long 0, .long 0])), (q5, .inr (ciW, [.long 0, .long 0])), (q6, .inr (ciW, [.long 0, .long 0])), (q7, .inr (ciW, [.long 0, .long 0]))] H := hP
  have hD : va_D A [(h0, .inr (ciE, [.ref q1, .ref q2, .null, .null, .null])), (q1, .inl (c1, 8, .inr (.inl (fun _ => 0)))), (q2, .inl (c2, 4, .inr (.inr (.inr (.inr (va_up (va_up (va_up (va_up (fun _ => none) (0 : Int32).toNatClampNeg (some q3)) (1 : Int32).toNatClampNeg (some q4)) (2 : Int32).toNatClampNeg (some q5)) (3 : Int32).toNatClampNeg (some q6))))))), (q3, .inr (ciW, [.long 0, .long 0])), (q4, .inr (ciW, [.long 0, .long 0])), (q5, .inr (ciW, [.long 0, .long 0])), (q6, .inr (ciW, [.long 0, .long 0])), (q7, .inr (ciW, [.long 0, .long 0]))] := hD
  refine lv_dup hx hb dX1_init_50 rfl ?_
  refine xb_rv (va_runIN (As := []) (rest := [.ref q7, .ref h0]) ⟨hx, hb, hml, hown, hts⟩ (cW_init l D) ⟨va_cnB 0 hts gX1_init_X0_init_n19 rfl rfl rfl hN (hts (.initialized RX0) (by decide +kernel)) (by decide +kernel) ⟨Nat.le_of_ble_eq_true rfl, Nat.le_of_ble_eq_true rfl⟩, rfl, hts (.instanceMethod yX0_init) (by decide +kernel)⟩ (xb_ps rfl hP hK hD) rfl rfl hl.1 rfl (lv_room (Nat.le_of_ble_eq_true rfl)) dX1_init_51 ⟨Nat.le_of_ble_eq_true rfl, Nat.le_of_ble_eq_true rfl⟩) hD hS hA (fun ws5 H locs hws5 hP hD hS => ?_)
  subst hws5
  refine va_putF (D := D) (ci := ciE) (v := .ref q7) (ty := .object "ExactDesk$Wide") (C := RX1) (T := TX1) (N := 5) hx hb hts (by decide +kernel) tyX1 tyX1_ok nmX1 hown hK hP hD hS 0 rfl rfl 2 (by decide) (hts (.fieldLink RX1 20 "ExactDesk" "tallyCeiling" "LExactDesk$Wide;") (by decide +kernel)) (fun _ h9 => h9) rfl hnm rfl (by decide +kernel) rfl rfl (Nat.le_of_ble_eq_true rfl) dX1_init_54 (fun H locs hP hD hS => ?_)
  have hP : va_P D vwCl [(h0, .inr (ciE, [.ref q1, .ref q2, .ref q7, .null, .null])), (q1, .inl (c1, 8, .inr (.inl (fun _ => 0)))), (q2, .inl (c2, 4, .inr (.inr (.inr (.inr (va_up (va_up (va_up (va_up (fun _ => none) (0 : Int32).toNatClampNeg (some q3)) (1 : Int32).toNatClampNeg (some q4)) (2 : Int32).toNatClampNeg (some q5)) (3 : Int32).toNatClampNeg (some q6))))))), (q3, .inr (ciW, [.long 0, .long 0])), (q4, .inr (ciW, [.long 0, .long 0])), (q5, .inr (ciW, [.long 0, .long 0])), (q6, .inr (ciW, [.long 0, .long 0])), (q7, .inr (ciW, [.long 0, .long 0]))] H := hP
  have hD : va_D A [(h0, .inr (ciE, [.ref q1, .ref q2, .ref q7, .null, .null])), (q1, .inl (c1, 8, .inr (.inl (fun _ => 0)))), (q2, .inl (c2, 4, .inr (.inr (.inr (.inr (va_up (va_up (va_up (va_up (fun _ => none) (0 : Int32).toNatClampNeg (some q3)) (1 : Int32).toNatClampNeg (some q4)) (2 : Int32).toNatClampNeg (some q5)) (3 : Int32).toNatClampNeg (some q6))))))), (q3, .inr (ciW, [.long 0, .long 0])), (q4, .inr (ciW, [.long 0, .long 0])), (q5, .inr (ciW, [.long 0, .long 0])), (q6, .inr (ciW, [.long 0, .long 0])), (q7, .inr (ciW, [.long 0, .long 0]))] := hD
  refine lv_aload_n hx hb dX1_init_57 rfl (lv_at hl 1 rfl) ?_
  refine va_get (D := D) (ci := ciE) (v := .ref q7) (C := RX1) (T := TX1) (N := 5) hx hb hts (by decide +kernel) hown hK hP 0 rfl rfl 2 (by decide) (hts (.fieldLink RX1 20 "ExactDesk" "tallyCeiling" "LExactDesk$Wide;") (by decide +kernel)) (fun _ h9 => h9) rfl dX1_init_58 ?_
  refine lv_ldc2 (v := 1000000000000000000) hx hb hown (hts (.constantLong RX1 24 (1000000000000000000)) (by decide +kernel)) dX1_init_61 ?_
  refine lv_ldc2 (v := 1000000000000000000) hx hb hown (hts (.constantLong RX1 24 (1000000000000000000)) (by decide +kernel)) dX1_init_64 ?_
  refine xb_rv (va_runV (As := [.long 1000000000000000000, .long 1000000000000000000]) (rest := []) ⟨hx, hb, hml, hown, hts⟩ (cW_prod l D (k := 7) rfl 1000000000000000000 1000000000000000000) (cwV 2 hts gX1_init_X0_becomeProduct rfl rfl rfl (by decide +kernel) ⟨Nat.le_of_ble_eq_true rfl, Nat.le_of_ble_eq_true rfl⟩) (xb_pv hP hK hD rfl rfl (show ([(h0, .inr (ciE, [.ref q1, .ref q2, .ref q7, .null, .null])), (q1, .inl (c1, 8, .inr (.inl (fun _ => 0)))), (q2, .inl (c2, 4, .inr (.inr (.inr (.inr (va_up (va_up (va_up (va_up (fun _ => none) (0 : Int32).toNatClampNeg (some q3)) (1 : Int32).toNatClampNeg (some q4)) (2 : Int32).toNatClampNeg (some q5)) (3 : Int32).toNatClampNeg (some q6))))))), (q3, .inr (ciW, [.long 0, .long 0])), (q4, .inr (ciW, [.long 0, .long 0])), (q5, .inr (ciW, [.long 0, .long 0])), (q6, .inr (ciW, [.long 0, .long 0])), (q7, .inr (ciW, [.long 0, .long 0]))] : va_W)[7]? = some (q7, .inr (ciW, [.long 0, .long 0])) from rfl)) rfl rfl hl.1 rfl (lv_room (Nat.le_of_ble_eq_true rfl)) dX1_init_67 ⟨Nat.le_of_ble_eq_true rfl, Nat.le_of_ble_eq_true rfl⟩) hD hS hA (fun ws6 H locs hws6 hP hD hS => ?_)
  subst hws6
  have ez : (1000000000000000000 : Int64).toInt * (1000000000000000000 : Int64).toInt = 1000000000000000000000000000000000000 := by decide
  rw [ez] at hP hD
  have hP : va_P D vwCl [(h0, .inr (ciE, [.ref q1, .ref q2, .ref q7, .null, .null])), (q1, .inl (c1, 8, .inr (.inl (fun _ => 0)))), (q2, .inl (c2, 4, .inr (.inr (.inr (.inr (va_up (va_up (va_up (va_up (fun _ => none) (0 : Int32).toNatClampNeg (some q3)) (1 : Int32).toNatClampNeg (some q4)) (2 : Int32).toNatClampNeg (some q5)) (3 : Int32).toNatClampNeg (some q6))))))), (q3, .inr (ciW, [.long 0, .long 0])), (q4, .inr (ciW, [.long 0, .long 0])), (q5, .inr (ciW, [.long 0, .long 0])), (q6, .inr (ciW, [.long 0, .long 0])), (q7, wdI 1000000000000000000000000000000000000)] H := hP
  have hD : va_D A [(h0, .inr (ciE, [.ref q1, .ref q2, .ref q7, .null, .null])), (q1, .inl (c1, 8, .inr (.inl (fun _ => 0)))), (q2, .inl (c2, 4, .inr (.inr (.inr (.inr (va_up (va_up (va_up (va_up (fun _ => none) (0 : Int32).toNatClampNeg (some q3)) (1 : Int32).toNatClampNeg (some q4)) (2 : Int32).toNatClampNeg (some q5)) (3 : Int32).toNatClampNeg (some q6))))))), (q3, .inr (ciW, [.long 0, .long 0])), (q4, .inr (ciW, [.long 0, .long 0])), (q5, .inr (ciW, [.long 0, .long 0])), (q6, .inr (ciW, [.long 0, .long 0])), (q7, wdI 1000000000000000000000000000000000000)] := hD
  refine lv_aload_n hx hb dX1_init_70 rfl (lv_at hl 1 rfl) ?_
  refine va_new (ci := ciW) (fs := [.long 0, .long 0]) (C := RX0) (T := TX0) (N := 2) hx hb hts (by decide +kernel) tyX0 tyX0_ok hown (hts (.classLink RX1 13 RX0) (by decide +kernel)) (hts (.instantiable RX0 2) (by decide +kernel)) (hts (.initialized RX0) (by decide +kernel)) hK hP hD hS hA rfl (fun j hj => by rcases (show j = 0 ∨ j = 1 by omega) with rfl | rfl <;> rfl) (Nat.le_of_ble_eq_true rfl) (Nat.le_of_ble_eq_true rfl) dX1_init_71 (fun q8 H hP hD hS => ?_)
  have hP : va_P D vwCl [(h0, .inr (ciE, [.ref q1, .ref q2, .ref q7, .null, .null])), (q1, .inl (c1, 8, .inr (.inl (fun _ => 0)))), (q2, .inl (c2, 4, .inr (.inr (.inr (.inr (va_up (va_up (va_up (va_up (fun _ => none) (0 : Int32).toNatClampNeg (some q3)) (1 : Int32).toNatClampNeg (some q4)) (2 : Int32).toNatClampNeg (some q5)) (3 : Int32).toNatClampNeg (some q6))))))), (q3, .inr (ciW, [.long 0, .long 0])), (q4, .inr (ciW, [.long 0, .long 0])), (q5, .inr (ciW, [.long 0, .long 0])), (q6, .inr (ciW, [.long 0, .long 0])), (q7, wdI 1000000000000000000000000000000000000), (q8, .inr (ciW, [.long 0, .long 0]))] H := hP
  have hD : va_D A [(h0, .inr (ciE, [.ref q1, .ref q2, .ref q7, .null, .null])), (q1, .inl (c1, 8, .inr (.inl (fun _ => 0)))), (q2, .inl (c2, 4, .inr (.inr (.inr (.inr (va_up (va_up (va_up (va_up (fun _ => none) (0 : Int32).toNatClampNeg (some q3)) (1 : Int32).toNatClampNeg (some q4)) (2 : Int32).toNatClampNeg (some q5)) (3 : Int32).toNatClampNeg (some q6))))))), (q3, .inr (ciW, [.long 0, .long 0])), (q4, .inr (ciW, [.long 0, .long 0])), (q5, .inr (ciW, [.long 0, .long 0])), (q6, .inr (ciW, [.long 0, .long 0])), (q7, wdI 1000000000000000000000000000000000000), (q8, .inr (ciW, [.long 0, .long 0]))] := hD
  refine lv_dup hx hb dX1_init_74 rfl ?_
  refine xb_rv (va_runIN (As := []) (rest := [.ref q8, .ref h0]) ⟨hx, hb, hml, hown, hts⟩ (cW_init l D) ⟨va_cnB 0 hts gX1_init_X0_init_n19 rfl rfl rfl hN (hts (.initialized RX0) (by decide +kernel)) (by decide +kernel) ⟨Nat.le_of_ble_eq_true rfl, Nat.le_of_ble_eq_true rfl⟩, rfl, hts (.instanceMethod yX0_init) (by decide +kernel)⟩ (xb_ps rfl hP hK hD) rfl rfl hl.1 rfl (lv_room (Nat.le_of_ble_eq_true rfl)) dX1_init_75 ⟨Nat.le_of_ble_eq_true rfl, Nat.le_of_ble_eq_true rfl⟩) hD hS hA (fun ws7 H locs hws7 hP hD hS => ?_)
  subst hws7
  refine va_putF (D := D) (ci := ciE) (v := .ref q8) (ty := .object "ExactDesk$Wide") (C := RX1) (T := TX1) (N := 5) hx hb hts (by decide +kernel) tyX1 tyX1_ok nmX1 hown hK hP hD hS 0 rfl rfl 3 (by decide) (hts (.fieldLink RX1 30 "ExactDesk" "tallyFloor" "LExactDesk$Wide;") (by decide +kernel)) (fun _ h9 => h9) rfl hnm rfl (by decide +kernel) rfl rfl (Nat.le_of_ble_eq_true rfl) dX1_init_78 (fun H locs hP hD hS => ?_)
  have hP : va_P D vwCl [(h0, .inr (ciE, [.ref q1, .ref q2, .ref q7, .ref q8, .null])), (q1, .inl (c1, 8, .inr (.inl (fun _ => 0)))), (q2, .inl (c2, 4, .inr (.inr (.inr (.inr (va_up (va_up (va_up (va_up (fun _ => none) (0 : Int32).toNatClampNeg (some q3)) (1 : Int32).toNatClampNeg (some q4)) (2 : Int32).toNatClampNeg (some q5)) (3 : Int32).toNatClampNeg (some q6))))))), (q3, .inr (ciW, [.long 0, .long 0])), (q4, .inr (ciW, [.long 0, .long 0])), (q5, .inr (ciW, [.long 0, .long 0])), (q6, .inr (ciW, [.long 0, .long 0])), (q7, wdI 1000000000000000000000000000000000000), (q8, .inr (ciW, [.long 0, .long 0]))] H := hP
  have hD : va_D A [(h0, .inr (ciE, [.ref q1, .ref q2, .ref q7, .ref q8, .null])), (q1, .inl (c1, 8, .inr (.inl (fun _ => 0)))), (q2, .inl (c2, 4, .inr (.inr (.inr (.inr (va_up (va_up (va_up (va_up (fun _ => none) (0 : Int32).toNatClampNeg (some q3)) (1 : Int32).toNatClampNeg (some q4)) (2 : Int32).toNatClampNeg (some q5)) (3 : Int32).toNatClampNeg (some q6))))))), (q3, .inr (ciW, [.long 0, .long 0])), (q4, .inr (ciW, [.long 0, .long 0])), (q5, .inr (ciW, [.long 0, .long 0])), (q6, .inr (ciW, [.long 0, .long 0])), (q7, wdI 1000000000000000000000000000000000000), (q8, .inr (ciW, [.long 0, .long 0]))] := hD
  refine lv_aload_n hx hb dX1_init_81 rfl (lv_at hl 1 rfl) ?_
  refine va_get (D := D) (ci := ciE) (v := .ref q8) (C := RX1) (T := TX1) (N := 5) hx hb hts (by decide +kernel) hown hK hP 0 rfl rfl 3 (by decide) (hts (.fieldLink RX1 30 "ExactDesk" "tallyFloor" "LExactDesk$Wide;") (by decide +kernel)) (fun _ h9 => h9) rfl dX1_init_82 ?_
  refine lv_ldc2 (v := (-1000000000000000000)) hx hb hown (hts (.constantLong RX1 33 (-1000000000000000000)) (by decide +kernel)) dX1_init_85 ?_
  refine lv_ldc2 (v := 1000000000000000000) hx hb hown (hts (.constantLong RX1 24 (1000000000000000000)) (by decide +kernel)) dX1_init_88 ?_
  refine xb_rv (va_runV (As := [.long (-1000000000000000000), .long 1000000000000000000]) (rest := []) ⟨hx, hb, hml, hown, hts⟩ (cW_prod l D (k := 8) rfl (-1000000000000000000) 1000000000000000000) (cwV 2 hts gX1_init_X0_becomeProduct rfl rfl rfl (by decide +kernel) ⟨Nat.le_of_ble_eq_true rfl, Nat.le_of_ble_eq_true rfl⟩) (xb_pv hP hK hD rfl rfl (show ([(h0, .inr (ciE, [.ref q1, .ref q2, .ref q7, .ref q8, .null])), (q1, .inl (c1, 8, .inr (.inl (fun _ => 0)))), (q2, .inl (c2, 4, .inr (.inr (.inr (.inr (va_up (va_up (va_up (va_up (fun _ => none) (0 : Int32).toNatClampNeg (some q3)) (1 : Int32).toNatClampNeg (some q4)) (2 : Int32).toNatClampNeg (some q5)) (3 : Int32).toNatClampNeg (some q6))))))), (q3, .inr (ciW, [.long 0, .long 0])), (q4, .inr (ciW, [.long 0, .long 0])), (q5, .inr (ciW, [.long 0, .long 0])), (q6, .inr (ciW, [.long 0, .long 0])), (q7, wdI 1000000000000000000000000000000000000), (q8, .inr (ciW, [.long 0, .long 0]))] : va_W)[8]? = some (q8, .inr (ciW, [.long 0, .long 0])) from rfl)) rfl rfl hl.1 rfl (lv_room (Nat.le_of_ble_eq_true rfl)) dX1_init_91 ⟨Nat.le_of_ble_eq_true rfl, Nat.le_of_ble_eq_true rfl⟩) hD hS hA (fun ws8 H locs hws8 hP hD hS => ?_)
  subst hws8
  have ez : ((-1000000000000000000) : Int64).toInt * (1000000000000000000 : Int64).toInt = (-1000000000000000000000000000000000000) := by decide
  rw [ez] at hP hD
  have hP : va_P D vwCl [(h0, .inr (ciE, [.ref q1, .ref q2, .ref q7, .ref q8, .null])), (q1, .inl (c1, 8, .inr (.inl (fun _ => 0)))), (q2, .inl (c2, 4, .inr (.inr (.inr (.inr (va_up (va_up (va_up (va_up (fun _ => none) (0 : Int32).toNatClampNeg (some q3)) (1 : Int32).toNatClampNeg (some q4)) (2 : Int32).toNatClampNeg (some q5)) (3 : Int32).toNatClampNeg (some q6))))))), (q3, .inr (ciW, [.long 0, .long 0])), (q4, .inr (ciW, [.long 0, .long 0])), (q5, .inr (ciW, [.long 0, .long 0])), (q6, .inr (ciW, [.long 0, .long 0])), (q7, wdI 1000000000000000000000000000000000000), (q8, wdI (-1000000000000000000000000000000000000))] H := hP
  have hD : va_D A [(h0, .inr (ciE, [.ref q1, .ref q2, .ref q7, .ref q8, .null])), (q1, .inl (c1, 8, .inr (.inl (fun _ => 0)))), (q2, .inl (c2, 4, .inr (.inr (.inr (.inr (va_up (va_up (va_up (va_up (fun _ => none) (0 : Int32).toNatClampNeg (some q3)) (1 : Int32).toNatClampNeg (some q4)) (2 : Int32).toNatClampNeg (some q5)) (3 : Int32).toNatClampNeg (some q6))))))), (q3, .inr (ciW, [.long 0, .long 0])), (q4, .inr (ciW, [.long 0, .long 0])), (q5, .inr (ciW, [.long 0, .long 0])), (q6, .inr (ciW, [.long 0, .long 0])), (q7, wdI 1000000000000000000000000000000000000), (q8, wdI (-1000000000000000000000000000000000000))] := hD
  refine lv_aload_n hx hb dX1_init_94 rfl (lv_at hl 1 rfl) ?_
  refine va_new (ci := ciW) (fs := [.long 0, .long 0]) (C := RX0) (T := TX0) (N := 2) hx hb hts (by decide +kernel) tyX0 tyX0_ok hown (hts (.classLink RX1 13 RX0) (by decide +kernel)) (hts (.instantiable RX0 2) (by decide +kernel)) (hts (.initialized RX0) (by decide +kernel)) hK hP hD hS hA rfl (fun j hj => by rcases (show j = 0 ∨ j = 1 by omega) with rfl | rfl <;> rfl) (Nat.le_of_ble_eq_true rfl) (Nat.le_of_ble_eq_true rfl) dX1_init_95 (fun q9 H hP hD hS => ?_)
  have hP : va_P D vwCl [(h0, .inr (ciE, [.ref q1, .ref q2, .ref q7, .ref q8, .null])), (q1, .inl (c1, 8, .inr (.inl (fun _ => 0)))), (q2, .inl (c2, 4, .inr (.inr (.inr (.inr (va_up (va_up (va_up (va_up (fun _ => none) (0 : Int32).toNatClampNeg (some q3)) (1 : Int32).toNatClampNeg (some q4)) (2 : Int32).toNatClampNeg (some q5)) (3 : Int32).toNatClampNeg (some q6))))))), (q3, .inr (ciW, [.long 0, .long 0])), (q4, .inr (ciW, [.long 0, .long 0])), (q5, .inr (ciW, [.long 0, .long 0])), (q6, .inr (ciW, [.long 0, .long 0])), (q7, wdI 1000000000000000000000000000000000000), (q8, wdI (-1000000000000000000000000000000000000)), (q9, .inr (ciW, [.long 0, .long 0]))] H := hP
  have hD : va_D A [(h0, .inr (ciE, [.ref q1, .ref q2, .ref q7, .ref q8, .null])), (q1, .inl (c1, 8, .inr (.inl (fun _ => 0)))), (q2, .inl (c2, 4, .inr (.inr (.inr (.inr (va_up (va_up (va_up (va_up (fun _ => none) (0 : Int32).toNatClampNeg (some q3)) (1 : Int32).toNatClampNeg (some q4)) (2 : Int32).toNatClampNeg (some q5)) (3 : Int32).toNatClampNeg (some q6))))))), (q3, .inr (ciW, [.long 0, .long 0])), (q4, .inr (ciW, [.long 0, .long 0])), (q5, .inr (ciW, [.long 0, .long 0])), (q6, .inr (ciW, [.long 0, .long 0])), (q7, wdI 1000000000000000000000000000000000000), (q8, wdI (-1000000000000000000000000000000000000)), (q9, .inr (ciW, [.long 0, .long 0]))] := hD
  refine lv_dup hx hb dX1_init_98 rfl ?_
  refine xb_rv (va_runIN (As := []) (rest := [.ref q9, .ref h0]) ⟨hx, hb, hml, hown, hts⟩ (cW_init l D) ⟨va_cnB 0 hts gX1_init_X0_init_n19 rfl rfl rfl hN (hts (.initialized RX0) (by decide +kernel)) (by decide +kernel) ⟨Nat.le_of_ble_eq_true rfl, Nat.le_of_ble_eq_true rfl⟩, rfl, hts (.instanceMethod yX0_init) (by decide +kernel)⟩ (xb_ps rfl hP hK hD) rfl rfl hl.1 rfl (lv_room (Nat.le_of_ble_eq_true rfl)) dX1_init_99 ⟨Nat.le_of_ble_eq_true rfl, Nat.le_of_ble_eq_true rfl⟩) hD hS hA (fun ws9 H locs hws9 hP hD hS => ?_)
  subst hws9
  refine va_putF (D := D) (ci := ciE) (v := .ref q9) (ty := .object "ExactDesk$Wide") (C := RX1) (T := TX1) (N := 5) hx hb hts (by decide +kernel) tyX1 tyX1_ok nmX1 hown hK hP hD hS 0 rfl rfl 4 (by decide) (hts (.fieldLink RX1 35 "ExactDesk" "outcome" "LExactDesk$Wide;") (by decide +kernel)) (fun _ h9 => h9) rfl hnm rfl (by decide +kernel) rfl rfl (Nat.le_of_ble_eq_true rfl) dX1_init_102 (fun H locs hP hD hS => ?_)
  have hP : va_P D vwCl [(h0, .inr (ciE, [.ref q1, .ref q2, .ref q7, .ref q8, .ref q9])), (q1, .inl (c1, 8, .inr (.inl (fun _ => 0)))), (q2, .inl (c2, 4, .inr (.inr (.inr (.inr (va_up (va_up (va_up (va_up (fun _ => none) (0 : Int32).toNatClampNeg (some q3)) (1 : Int32).toNatClampNeg (some q4)) (2 : Int32).toNatClampNeg (some q5)) (3 : Int32).toNatClampNeg (some q6))))))), (q3, .inr (ciW, [.long 0, .long 0])), (q4, .inr (ciW, [.long 0, .long 0])), (q5, .inr (ciW, [.long 0, .long 0])), (q6, .inr (ciW, [.long 0, .long 0])), (q7, wdI 1000000000000000000000000000000000000), (q8, wdI (-1000000000000000000000000000000000000)), (q9, .inr (ciW, [.long 0, .long 0]))] H := hP
  have hD : va_D A [(h0, .inr (ciE, [.ref q1, .ref q2, .ref q7, .ref q8, .ref q9])), (q1, .inl (c1, 8, .inr (.inl (fun _ => 0)))), (q2, .inl (c2, 4, .inr (.inr (.inr (.inr (va_up (va_up (va_up (va_up (fun _ => none) (0 : Int32).toNatClampNeg (some q3)) (1 : Int32).toNatClampNeg (some q4)) (2 : Int32).toNatClampNeg (some q5)) (3 : Int32).toNatClampNeg (some q6))))))), (q3, .inr (ciW, [.long 0, .long 0])), (q4, .inr (ciW, [.long 0, .long 0])), (q5, .inr (ciW, [.long 0, .long 0])), (q6, .inr (ciW, [.long 0, .long 0])), (q7, wdI 1000000000000000000000000000000000000), (q8, wdI (-1000000000000000000000000000000000000)), (q9, .inr (ciW, [.long 0, .long 0]))] := hD
  refine W.widen (k := 9) (n := 26) (Nat.le_of_ble_eq_true rfl) (Nat.le_of_ble_eq_true rfl) ?_
  have X : xd [] [(h0, .inr (ciE, [.ref q1, .ref q2, .ref q7, .ref q8, .ref q9])), (q1, .inl (c1, 8, .inr (.inl (fun _ => 0)))), (q2, .inl (c2, 4, .inr (.inr (.inr (.inr (va_up (va_up (va_up (va_up (fun _ => none) (0 : Int32).toNatClampNeg (some q3)) (1 : Int32).toNatClampNeg (some q4)) (2 : Int32).toNatClampNeg (some q5)) (3 : Int32).toNatClampNeg (some q6))))))), (q3, .inr (ciW, [.long 0, .long 0])), (q4, .inr (ciW, [.long 0, .long 0])), (q5, .inr (ciW, [.long 0, .long 0])), (q6, .inr (ciW, [.long 0, .long 0])), (q7, wdI 1000000000000000000000000000000000000), (q8, wdI (-1000000000000000000000000000000000000)), (q9, .inr (ciW, [.long 0, .long 0]))] [(c1, .long), (c2, .object RX0)] (fun j => [h0, q1, q2, q3, q4, q5, q6, q7, q8, q9].getD j 0) (fun j => if j = 0 then c1 else c2) (va_up (va_up (va_up (va_up (fun _ => none) (0 : Int32).toNatClampNeg (some q3)) (1 : Int32).toNatClampNeg (some q4)) (2 : Int32).toNatClampNeg (some q5)) (3 : Int32).toNatClampNeg (some q6)) (fun _ => 0) (fun _ => 0) 0 := by
    refine ⟨rfl, rfl, rfl, rfl, rfl, rfl, fun j hj => ?_, fun j hj => ?_, rfl, rfl⟩
    · rcases (show j = 0 ∨ j = 1 ∨ j = 2 ∨ j = 3 by omega) with rfl | rfl | rfl | rfl <;> exact ⟨rfl, rfl, by decide, by decide⟩
    · rw [List.getElem?_eq_none (by simpa using hj), List.getElem?_eq_none (by simp)]
  exact W.vret hx hb hr (fun t ht hW => ⟨⟨([(h0, .inr (ciE, [.ref q1, .ref q2, .ref q7, .ref q8, .ref q9])), (q1, .inl (c1, 8, .inr (.inl (fun _ => 0)))), (q2, .inl (c2, 4, .inr (.inr (.inr (.inr (va_up (va_up (va_up (va_up (fun _ => none) (0 : Int32).toNatClampNeg (some q3)) (1 : Int32).toNatClampNeg (some q4)) (2 : Int32).toNatClampNeg (some q5)) (3 : Int32).toNatClampNeg (some q6))))))), (q3, .inr (ciW, [.long 0, .long 0])), (q4, .inr (ciW, [.long 0, .long 0])), (q5, .inr (ciW, [.long 0, .long 0])), (q6, .inr (ciW, [.long 0, .long 0])), (q7, wdI 1000000000000000000000000000000000000), (q8, wdI (-1000000000000000000000000000000000000)), (q9, .inr (ciW, [.long 0, .long 0]))], [(c1, .long), (c2, .object RX0)]), rfl, ⟨_, _, _, rfl, rfl, X⟩, by rw [ht]; exact hP, va_K.moved hW.alike hK, hD⟩, hS.F ht⟩) hS.2.2 dX1_init_105 hlocks
end
section
abbrev cX2_get : ByteArray := prog_4_method_5_code
def yX2_get : MethodName := ⟨RX2, "get", "(I)J"⟩
theorem dX2_get_0 : decode cX2_get 0 = .ok (.iload_n 1, 1) := by decide +kernel
theorem dX2_get_1 : decode cX2_get 1 = .ok (.invokestatic 33, 3) := by decide +kernel
theorem dX2_get_4 : decode cX2_get 4 = .ok (.ifCond .eq 12, 3) := by decide +kernel
theorem dX2_get_7 : decode cX2_get 7 = .ok (.aload_n 0, 1) := by decide +kernel
theorem dX2_get_8 : decode cX2_get 8 = .ok (.getfield 7, 3) := by decide +kernel
theorem dX2_get_11 : decode cX2_get 11 = .ok (.iload_n 1, 1) := by decide +kernel
theorem dX2_get_12 : decode cX2_get 12 = .ok (.laload, 1) := by decide +kernel
theorem dX2_get_13 : decode cX2_get 13 = .ok (.goto 4, 3) := by decide +kernel
theorem dX2_get_16 : decode cX2_get 16 = .ok (.lconst 0, 1) := by decide +kernel
theorem dX2_get_17 : decode cX2_get 17 = .ok (.lreturn, 1) := by decide +kernel
abbrev cX2_add : ByteArray := prog_4_method_18_code
def yX2_add : MethodName := ⟨RX2, "add", "(IJ)I"⟩
theorem dX2_add_0 : decode cX2_add 0 = .ok (.aload_n 0, 1) := by decide +kernel
theorem dX2_add_1 : decode cX2_add 1 = .ok (.iload_n 1, 1) := by decide +kernel
theorem dX2_add_2 : decode cX2_add 2 = .ok (.lload_n 2, 1) := by decide +kernel
theorem dX2_add_3 : decode cX2_add 3 = .ok (.iconst 0, 1) := by decide +kernel
theorem dX2_add_4 : decode cX2_add 4 = .ok (.invokevirtual 75, 3) := by decide +kernel
theorem dX2_add_7 : decode cX2_add 7 = .ok (.ireturn, 1) := by decide +kernel
abbrev cX2_sum : ByteArray := prog_4_method_17_code
def yX2_sum : MethodName := ⟨RX2, "sum", "(IJZ)I"⟩
theorem dX2_sum_0 : decode cX2_sum 0 = .ok (.iload_n 1, 1) := by decide +kernel
theorem dX2_sum_1 : decode cX2_sum 1 = .ok (.invokestatic 33, 3) := by decide +kernel
theorem dX2_sum_4 : decode cX2_sum 4 = .ok (.ifCond .ne 5, 3) := by decide +kernel
theorem dX2_sum_7 : decode cX2_sum 7 = .ok (.iconst (-1), 1) := by decide +kernel
theorem dX2_sum_8 : decode cX2_sum 8 = .ok (.ireturn, 1) := by decide +kernel
theorem dX2_sum_9 : decode cX2_sum 9 = .ok (.aload_n 0, 1) := by decide +kernel
theorem dX2_sum_10 : decode cX2_sum 10 = .ok (.getfield 7, 3) := by decide +kernel
theorem dX2_sum_13 : decode cX2_sum 13 = .ok (.iload_n 1, 1) := by decide +kernel
theorem dX2_sum_14 : decode cX2_sum 14 = .ok (.laload, 1) := by decide +kernel
theorem dX2_sum_15 : decode cX2_sum 15 = .ok (.aload_n 0, 1) := by decide +kernel
theorem dX2_sum_16 : decode cX2_sum 16 = .ok (.getfield 21, 3) := by decide +kernel
theorem dX2_sum_19 : decode cX2_sum 19 = .ok (.invokestatic 63, 3) := by decide +kernel
theorem dX2_sum_22 : decode cX2_sum 22 = .ok (.aload_n 0, 1) := by decide +kernel
theorem dX2_sum_23 : decode cX2_sum 23 = .ok (.aload_n 0, 1) := by decide +kernel
theorem dX2_sum_24 : decode cX2_sum 24 = .ok (.getfield 7, 3) := by decide +kernel
theorem dX2_sum_27 : decode cX2_sum 27 = .ok (.iload_n 1, 1) := by decide +kernel
theorem dX2_sum_28 : decode cX2_sum 28 = .ok (.laload, 1) := by decide +kernel
theorem dX2_sum_29 : decode cX2_sum 29 = .ok (.lconst 0, 1) := by decide +kernel
theorem dX2_sum_30 : decode cX2_sum 30 = .ok (.lcmp, 1) := by decide +kernel
theorem dX2_sum_31 : decode cX2_sum 31 = .ok (.ifCond .ge 7, 3) := by decide +kernel
theorem dX2_sum_34 : decode cX2_sum 34 = .ok (.iconst 1, 1) := by decide +kernel
theorem dX2_sum_35 : decode cX2_sum 35 = .ok (.goto 4, 3) := by decide +kernel
theorem dX2_sum_38 : decode cX2_sum 38 = .ok (.iconst 0, 1) := by decide +kernel
theorem dX2_sum_39 : decode cX2_sum 39 = .ok (.putfield 54, 3) := by decide +kernel
theorem dX2_sum_42 : decode cX2_sum 42 = .ok (.lload_n 2, 1) := by decide +kernel
theorem dX2_sum_43 : decode cX2_sum 43 = .ok (.aload_n 0, 1) := by decide +kernel
theorem dX2_sum_44 : decode cX2_sum 44 = .ok (.getfield 27, 3) := by decide +kernel
theorem dX2_sum_47 : decode cX2_sum 47 = .ok (.invokestatic 63, 3) := by decide +kernel
theorem dX2_sum_50 : decode cX2_sum 50 = .ok (.aload_n 0, 1) := by decide +kernel
theorem dX2_sum_51 : decode cX2_sum 51 = .ok (.lload_n 2, 1) := by decide +kernel
theorem dX2_sum_52 : decode cX2_sum 52 = .ok (.lconst 0, 1) := by decide +kernel
theorem dX2_sum_53 : decode cX2_sum 53 = .ok (.lcmp, 1) := by decide +kernel
theorem dX2_sum_54 : decode cX2_sum 54 = .ok (.ifCond .ge 7, 3) := by decide +kernel
theorem dX2_sum_57 : decode cX2_sum 57 = .ok (.iconst 1, 1) := by decide +kernel
theorem dX2_sum_58 : decode cX2_sum 58 = .ok (.goto 4, 3) := by decide +kernel
theorem dX2_sum_61 : decode cX2_sum 61 = .ok (.iconst 0, 1) := by decide +kernel
theorem dX2_sum_62 : decode cX2_sum 62 = .ok (.iload 4, 2) := by decide +kernel
theorem dX2_sum_64 : decode cX2_sum 64 = .ok (.if_icmp .eq 7, 3) := by decide +kernel
theorem dX2_sum_67 : decode cX2_sum 67 = .ok (.iconst 1, 1) := by decide +kernel
theorem dX2_sum_68 : decode cX2_sum 68 = .ok (.goto 4, 3) := by decide +kernel
theorem dX2_sum_71 : decode cX2_sum 71 = .ok (.iconst 0, 1) := by decide +kernel
theorem dX2_sum_72 : decode cX2_sum 72 = .ok (.invokevirtual 67, 3) := by decide +kernel
theorem dX2_sum_75 : decode cX2_sum 75 = .ok (.aload_n 0, 1) := by decide +kernel
theorem dX2_sum_76 : decode cX2_sum 76 = .ok (.iload_n 1, 1) := by decide +kernel
theorem dX2_sum_77 : decode cX2_sum 77 = .ok (.invokevirtual 71, 3) := by decide +kernel
theorem dX2_sum_80 : decode cX2_sum 80 = .ok (.ireturn, 1) := by decide +kernel
abbrev cX2_write : ByteArray := prog_4_method_6_code
def yX2_write : MethodName := ⟨RX2, "write", "(J[I)V"⟩
theorem dX2_write_0 : decode cX2_write 0 = .ok (.lload_n 0, 1) := by decide +kernel
theorem dX2_write_1 : decode cX2_write 1 = .ok (.lstore_n 3, 1) := by decide +kernel
theorem dX2_write_2 : decode cX2_write 2 = .ok (.iconst 0, 1) := by decide +kernel
theorem dX2_write_3 : decode cX2_write 3 = .ok (.istore 5, 2) := by decide +kernel
theorem dX2_write_5 : decode cX2_write 5 = .ok (.iload 5, 2) := by decide +kernel
theorem dX2_write_7 : decode cX2_write 7 = .ok (.bipush 80, 2) := by decide +kernel
theorem dX2_write_9 : decode cX2_write 9 = .ok (.if_icmp .ge 40, 3) := by decide +kernel
theorem dX2_write_12 : decode cX2_write 12 = .ok (.lload_n 3, 1) := by decide +kernel
theorem dX2_write_13 : decode cX2_write 13 = .ok (.ldc2_w 37, 3) := by decide +kernel
theorem dX2_write_16 : decode cX2_write 16 = .ok (.lrem, 1) := by decide +kernel
theorem dX2_write_17 : decode cX2_write 17 = .ok (.l2i, 1) := by decide +kernel
theorem dX2_write_18 : decode cX2_write 18 = .ok (.istore 6, 2) := by decide +kernel
theorem dX2_write_20 : decode cX2_write 20 = .ok (.aload_n 2, 1) := by decide +kernel
theorem dX2_write_21 : decode cX2_write 21 = .ok (.iload 5, 2) := by decide +kernel
theorem dX2_write_23 : decode cX2_write 23 = .ok (.iload 6, 2) := by decide +kernel
theorem dX2_write_25 : decode cX2_write 25 = .ok (.ifCond .ge 9, 3) := by decide +kernel
theorem dX2_write_28 : decode cX2_write 28 = .ok (.iload 6, 2) := by decide +kernel
theorem dX2_write_30 : decode cX2_write 30 = .ok (.ineg, 1) := by decide +kernel
theorem dX2_write_31 : decode cX2_write 31 = .ok (.goto 5, 3) := by decide +kernel
theorem dX2_write_34 : decode cX2_write 34 = .ok (.iload 6, 2) := by decide +kernel
theorem dX2_write_36 : decode cX2_write 36 = .ok (.iastore, 1) := by decide +kernel
theorem dX2_write_37 : decode cX2_write 37 = .ok (.lload_n 3, 1) := by decide +kernel
theorem dX2_write_38 : decode cX2_write 38 = .ok (.ldc2_w 37, 3) := by decide +kernel
theorem dX2_write_41 : decode cX2_write 41 = .ok (.ldiv, 1) := by decide +kernel
theorem dX2_write_42 : decode cX2_write 42 = .ok (.lstore_n 3, 1) := by decide +kernel
theorem dX2_write_43 : decode cX2_write 43 = .ok (.iinc 5 1, 3) := by decide +kernel
theorem dX2_write_46 : decode cX2_write 46 = .ok (.goto (-41), 3) := by decide +kernel
theorem dX2_write_49 : decode cX2_write 49 = .ok (.return_, 1) := by decide +kernel
abbrev cX2_join : ByteArray := prog_4_method_15_code
def yX2_join : MethodName := ⟨RX2, "join", "(Z)V"⟩
theorem dX2_join_0 : decode cX2_join 0 = .ok (.iload_n 1, 1) := by decide +kernel
theorem dX2_join_1 : decode cX2_join 1 = .ok (.aload_n 0, 1) := by decide +kernel
theorem dX2_join_2 : decode cX2_join 2 = .ok (.getfield 54, 3) := by decide +kernel
theorem dX2_join_5 : decode cX2_join 5 = .ok (.if_icmp .ne 17, 3) := by decide +kernel
theorem dX2_join_8 : decode cX2_join 8 = .ok (.aload_n 0, 1) := by decide +kernel
theorem dX2_join_9 : decode cX2_join 9 = .ok (.getfield 21, 3) := by decide +kernel
theorem dX2_join_12 : decode cX2_join 12 = .ok (.aload_n 0, 1) := by decide +kernel
theorem dX2_join_13 : decode cX2_join 13 = .ok (.getfield 27, 3) := by decide +kernel
theorem dX2_join_16 : decode cX2_join 16 = .ok (.invokestatic 58, 3) := by decide +kernel
theorem dX2_join_19 : decode cX2_join 19 = .ok (.goto 69, 3) := by decide +kernel
theorem dX2_join_22 : decode cX2_join 22 = .ok (.aload_n 0, 1) := by decide +kernel
theorem dX2_join_23 : decode cX2_join 23 = .ok (.getfield 21, 3) := by decide +kernel
theorem dX2_join_26 : decode cX2_join 26 = .ok (.aload_n 0, 1) := by decide +kernel
theorem dX2_join_27 : decode cX2_join 27 = .ok (.getfield 27, 3) := by decide +kernel
theorem dX2_join_30 : decode cX2_join 30 = .ok (.invokestatic 47, 3) := by decide +kernel
theorem dX2_join_33 : decode cX2_join 33 = .ok (.ifCond .lt 17, 3) := by decide +kernel
theorem dX2_join_36 : decode cX2_join 36 = .ok (.aload_n 0, 1) := by decide +kernel
theorem dX2_join_37 : decode cX2_join 37 = .ok (.getfield 21, 3) := by decide +kernel
theorem dX2_join_40 : decode cX2_join 40 = .ok (.aload_n 0, 1) := by decide +kernel
theorem dX2_join_41 : decode cX2_join 41 = .ok (.getfield 27, 3) := by decide +kernel
theorem dX2_join_44 : decode cX2_join 44 = .ok (.invokestatic 51, 3) := by decide +kernel
theorem dX2_join_47 : decode cX2_join 47 = .ok (.goto 41, 3) := by decide +kernel
theorem dX2_join_50 : decode cX2_join 50 = .ok (.aload_n 0, 1) := by decide +kernel
theorem dX2_join_51 : decode cX2_join 51 = .ok (.getfield 21, 3) := by decide +kernel
theorem dX2_join_54 : decode cX2_join 54 = .ok (.aload_n 0, 1) := by decide +kernel
theorem dX2_join_55 : decode cX2_join 55 = .ok (.getfield 30, 3) := by decide +kernel
theorem dX2_join_58 : decode cX2_join 58 = .ok (.invokestatic 43, 3) := by decide +kernel
theorem dX2_join_61 : decode cX2_join 61 = .ok (.aload_n 0, 1) := by decide +kernel
theorem dX2_join_62 : decode cX2_join 62 = .ok (.getfield 27, 3) := by decide +kernel
theorem dX2_join_65 : decode cX2_join 65 = .ok (.aload_n 0, 1) := by decide +kernel
theorem dX2_join_66 : decode cX2_join 66 = .ok (.getfield 21, 3) := by decide +kernel
theorem dX2_join_69 : decode cX2_join 69 = .ok (.invokestatic 43, 3) := by decide +kernel
theorem dX2_join_72 : decode cX2_join 72 = .ok (.aload_n 0, 1) := by decide +kernel
theorem dX2_join_73 : decode cX2_join 73 = .ok (.getfield 21, 3) := by decide +kernel
theorem dX2_join_76 : decode cX2_join 76 = .ok (.aload_n 0, 1) := by decide +kernel
theorem dX2_join_77 : decode cX2_join 77 = .ok (.getfield 30, 3) := by decide +kernel
theorem dX2_join_80 : decode cX2_join 80 = .ok (.invokestatic 51, 3) := by decide +kernel
theorem dX2_join_83 : decode cX2_join 83 = .ok (.aload_n 0, 1) := by decide +kernel
theorem dX2_join_84 : decode cX2_join 84 = .ok (.iload_n 1, 1) := by decide +kernel
theorem dX2_join_85 : decode cX2_join 85 = .ok (.putfield 54, 3) := by decide +kernel
theorem dX2_join_88 : decode cX2_join 88 = .ok (.return_, 1) := by decide +kernel
abbrev cX2_plus : ByteArray := prog_4_method_10_code
def yX2_plus : MethodName := ⟨RX2, "plus", "([I[I)V"⟩
theorem dX2_plus_0 : decode cX2_plus 0 = .ok (.iconst 0, 1) := by decide +kernel
theorem dX2_plus_1 : decode cX2_plus 1 = .ok (.istore_n 2, 1) := by decide +kernel
theorem dX2_plus_2 : decode cX2_plus 2 = .ok (.iconst 0, 1) := by decide +kernel
theorem dX2_plus_3 : decode cX2_plus 3 = .ok (.istore_n 3, 1) := by decide +kernel
theorem dX2_plus_4 : decode cX2_plus 4 = .ok (.iload_n 3, 1) := by decide +kernel
theorem dX2_plus_5 : decode cX2_plus 5 = .ok (.bipush 80, 2) := by decide +kernel
theorem dX2_plus_7 : decode cX2_plus 7 = .ok (.if_icmp .ge 34, 3) := by decide +kernel
theorem dX2_plus_10 : decode cX2_plus 10 = .ok (.aload_n 0, 1) := by decide +kernel
theorem dX2_plus_11 : decode cX2_plus 11 = .ok (.iload_n 3, 1) := by decide +kernel
theorem dX2_plus_12 : decode cX2_plus 12 = .ok (.iaload, 1) := by decide +kernel
theorem dX2_plus_13 : decode cX2_plus 13 = .ok (.aload_n 1, 1) := by decide +kernel
theorem dX2_plus_14 : decode cX2_plus 14 = .ok (.iload_n 3, 1) := by decide +kernel
theorem dX2_plus_15 : decode cX2_plus 15 = .ok (.iaload, 1) := by decide +kernel
theorem dX2_plus_16 : decode cX2_plus 16 = .ok (.iadd, 1) := by decide +kernel
theorem dX2_plus_17 : decode cX2_plus 17 = .ok (.iload_n 2, 1) := by decide +kernel
theorem dX2_plus_18 : decode cX2_plus 18 = .ok (.iadd, 1) := by decide +kernel
theorem dX2_plus_19 : decode cX2_plus 19 = .ok (.istore 4, 2) := by decide +kernel
theorem dX2_plus_21 : decode cX2_plus 21 = .ok (.aload_n 0, 1) := by decide +kernel
theorem dX2_plus_22 : decode cX2_plus 22 = .ok (.iload_n 3, 1) := by decide +kernel
theorem dX2_plus_23 : decode cX2_plus 23 = .ok (.iload 4, 2) := by decide +kernel
theorem dX2_plus_25 : decode cX2_plus 25 = .ok (.bipush 10, 2) := by decide +kernel
theorem dX2_plus_27 : decode cX2_plus 27 = .ok (.irem, 1) := by decide +kernel
theorem dX2_plus_28 : decode cX2_plus 28 = .ok (.iastore, 1) := by decide +kernel
theorem dX2_plus_29 : decode cX2_plus 29 = .ok (.iload 4, 2) := by decide +kernel
theorem dX2_plus_31 : decode cX2_plus 31 = .ok (.bipush 10, 2) := by decide +kernel
theorem dX2_plus_33 : decode cX2_plus 33 = .ok (.idiv, 1) := by decide +kernel
theorem dX2_plus_34 : decode cX2_plus 34 = .ok (.istore_n 2, 1) := by decide +kernel
theorem dX2_plus_35 : decode cX2_plus 35 = .ok (.iinc 3 1, 3) := by decide +kernel
theorem dX2_plus_38 : decode cX2_plus 38 = .ok (.goto (-34), 3) := by decide +kernel
theorem dX2_plus_41 : decode cX2_plus 41 = .ok (.return_, 1) := by decide +kernel
abbrev cX2_compareSizes : ByteArray := prog_4_method_9_code
def yX2_compareSizes : MethodName := ⟨RX2, "compareSizes", "([I[I)I"⟩
theorem dX2_compareSizes_0 : decode cX2_compareSizes 0 = .ok (.iconst 0, 1) := by decide +kernel
theorem dX2_compareSizes_1 : decode cX2_compareSizes 1 = .ok (.istore_n 2, 1) := by decide +kernel
theorem dX2_compareSizes_2 : decode cX2_compareSizes 2 = .ok (.iconst 0, 1) := by decide +kernel
theorem dX2_compareSizes_3 : decode cX2_compareSizes 3 = .ok (.istore_n 3, 1) := by decide +kernel
theorem dX2_compareSizes_4 : decode cX2_compareSizes 4 = .ok (.iload_n 3, 1) := by decide +kernel
theorem dX2_compareSizes_5 : decode cX2_compareSizes 5 = .ok (.bipush 80, 2) := by decide +kernel
theorem dX2_compareSizes_7 : decode cX2_compareSizes 7 = .ok (.if_icmp .ge 37, 3) := by decide +kernel
theorem dX2_compareSizes_10 : decode cX2_compareSizes 10 = .ok (.aload_n 0, 1) := by decide +kernel
theorem dX2_compareSizes_11 : decode cX2_compareSizes 11 = .ok (.iload_n 3, 1) := by decide +kernel
theorem dX2_compareSizes_12 : decode cX2_compareSizes 12 = .ok (.iaload, 1) := by decide +kernel
theorem dX2_compareSizes_13 : decode cX2_compareSizes 13 = .ok (.aload_n 1, 1) := by decide +kernel
theorem dX2_compareSizes_14 : decode cX2_compareSizes 14 = .ok (.iload_n 3, 1) := by decide +kernel
theorem dX2_compareSizes_15 : decode cX2_compareSizes 15 = .ok (.iaload, 1) := by decide +kernel
theorem dX2_compareSizes_16 : decode cX2_compareSizes 16 = .ok (.if_icmp .ge 7, 3) := by decide +kernel
theorem dX2_compareSizes_19 : decode cX2_compareSizes 19 = .ok (.iconst (-1), 1) := by decide +kernel
theorem dX2_compareSizes_20 : decode cX2_compareSizes 20 = .ok (.goto 17, 3) := by decide +kernel
theorem dX2_compareSizes_23 : decode cX2_compareSizes 23 = .ok (.aload_n 0, 1) := by decide +kernel
theorem dX2_compareSizes_24 : decode cX2_compareSizes 24 = .ok (.iload_n 3, 1) := by decide +kernel
theorem dX2_compareSizes_25 : decode cX2_compareSizes 25 = .ok (.iaload, 1) := by decide +kernel
theorem dX2_compareSizes_26 : decode cX2_compareSizes 26 = .ok (.aload_n 1, 1) := by decide +kernel
theorem dX2_compareSizes_27 : decode cX2_compareSizes 27 = .ok (.iload_n 3, 1) := by decide +kernel
theorem dX2_compareSizes_28 : decode cX2_compareSizes 28 = .ok (.iaload, 1) := by decide +kernel
theorem dX2_compareSizes_29 : decode cX2_compareSizes 29 = .ok (.if_icmp .le 7, 3) := by decide +kernel
theorem dX2_compareSizes_32 : decode cX2_compareSizes 32 = .ok (.iconst 1, 1) := by decide +kernel
theorem dX2_compareSizes_33 : decode cX2_compareSizes 33 = .ok (.goto 4, 3) := by decide +kernel
theorem dX2_compareSizes_36 : decode cX2_compareSizes 36 = .ok (.iload_n 2, 1) := by decide +kernel
theorem dX2_compareSizes_37 : decode cX2_compareSizes 37 = .ok (.istore_n 2, 1) := by decide +kernel
theorem dX2_compareSizes_38 : decode cX2_compareSizes 38 = .ok (.iinc 3 1, 3) := by decide +kernel
theorem dX2_compareSizes_41 : decode cX2_compareSizes 41 = .ok (.goto (-37), 3) := by decide +kernel
theorem dX2_compareSizes_44 : decode cX2_compareSizes 44 = .ok (.iload_n 2, 1) := by decide +kernel
theorem dX2_compareSizes_45 : decode cX2_compareSizes 45 = .ok (.ireturn, 1) := by decide +kernel
abbrev cX2_minus : ByteArray := prog_4_method_11_code
def yX2_minus : MethodName := ⟨RX2, "minus", "([I[I)V"⟩
theorem dX2_minus_0 : decode cX2_minus 0 = .ok (.iconst 0, 1) := by decide +kernel
theorem dX2_minus_1 : decode cX2_minus 1 = .ok (.istore_n 2, 1) := by decide +kernel
theorem dX2_minus_2 : decode cX2_minus 2 = .ok (.iconst 0, 1) := by decide +kernel
theorem dX2_minus_3 : decode cX2_minus 3 = .ok (.istore_n 3, 1) := by decide +kernel
theorem dX2_minus_4 : decode cX2_minus 4 = .ok (.iload_n 3, 1) := by decide +kernel
theorem dX2_minus_5 : decode cX2_minus 5 = .ok (.bipush 80, 2) := by decide +kernel
theorem dX2_minus_7 : decode cX2_minus 7 = .ok (.if_icmp .ge 49, 3) := by decide +kernel
theorem dX2_minus_10 : decode cX2_minus 10 = .ok (.aload_n 0, 1) := by decide +kernel
theorem dX2_minus_11 : decode cX2_minus 11 = .ok (.iload_n 3, 1) := by decide +kernel
theorem dX2_minus_12 : decode cX2_minus 12 = .ok (.iaload, 1) := by decide +kernel
theorem dX2_minus_13 : decode cX2_minus 13 = .ok (.aload_n 1, 1) := by decide +kernel
theorem dX2_minus_14 : decode cX2_minus 14 = .ok (.iload_n 3, 1) := by decide +kernel
theorem dX2_minus_15 : decode cX2_minus 15 = .ok (.iaload, 1) := by decide +kernel
theorem dX2_minus_16 : decode cX2_minus 16 = .ok (.isub, 1) := by decide +kernel
theorem dX2_minus_17 : decode cX2_minus 17 = .ok (.iload_n 2, 1) := by decide +kernel
theorem dX2_minus_18 : decode cX2_minus 18 = .ok (.isub, 1) := by decide +kernel
theorem dX2_minus_19 : decode cX2_minus 19 = .ok (.istore 4, 2) := by decide +kernel
theorem dX2_minus_21 : decode cX2_minus 21 = .ok (.aload_n 0, 1) := by decide +kernel
theorem dX2_minus_22 : decode cX2_minus 22 = .ok (.iload_n 3, 1) := by decide +kernel
theorem dX2_minus_23 : decode cX2_minus 23 = .ok (.iload 4, 2) := by decide +kernel
theorem dX2_minus_25 : decode cX2_minus 25 = .ok (.ifCond .ge 11, 3) := by decide +kernel
theorem dX2_minus_28 : decode cX2_minus 28 = .ok (.iload 4, 2) := by decide +kernel
theorem dX2_minus_30 : decode cX2_minus 30 = .ok (.bipush 10, 2) := by decide +kernel
theorem dX2_minus_32 : decode cX2_minus 32 = .ok (.iadd, 1) := by decide +kernel
theorem dX2_minus_33 : decode cX2_minus 33 = .ok (.goto 5, 3) := by decide +kernel
theorem dX2_minus_36 : decode cX2_minus 36 = .ok (.iload 4, 2) := by decide +kernel
theorem dX2_minus_38 : decode cX2_minus 38 = .ok (.iastore, 1) := by decide +kernel
theorem dX2_minus_39 : decode cX2_minus 39 = .ok (.iload 4, 2) := by decide +kernel
theorem dX2_minus_41 : decode cX2_minus 41 = .ok (.ifCond .ge 7, 3) := by decide +kernel
theorem dX2_minus_44 : decode cX2_minus 44 = .ok (.iconst 1, 1) := by decide +kernel
theorem dX2_minus_45 : decode cX2_minus 45 = .ok (.goto 4, 3) := by decide +kernel
theorem dX2_minus_48 : decode cX2_minus 48 = .ok (.iconst 0, 1) := by decide +kernel
theorem dX2_minus_49 : decode cX2_minus 49 = .ok (.istore_n 2, 1) := by decide +kernel
theorem dX2_minus_50 : decode cX2_minus 50 = .ok (.iinc 3 1, 3) := by decide +kernel
theorem dX2_minus_53 : decode cX2_minus 53 = .ok (.goto (-49), 3) := by decide +kernel
theorem dX2_minus_56 : decode cX2_minus 56 = .ok (.return_, 1) := by decide +kernel
abbrev cX2_copy : ByteArray := prog_4_method_7_code
def yX2_copy : MethodName := ⟨RX2, "copy", "([I[I)V"⟩
theorem dX2_copy_0 : decode cX2_copy 0 = .ok (.iconst 0, 1) := by decide +kernel
theorem dX2_copy_1 : decode cX2_copy 1 = .ok (.istore_n 2, 1) := by decide +kernel
theorem dX2_copy_2 : decode cX2_copy 2 = .ok (.iload_n 2, 1) := by decide +kernel
theorem dX2_copy_3 : decode cX2_copy 3 = .ok (.bipush 80, 2) := by decide +kernel
theorem dX2_copy_5 : decode cX2_copy 5 = .ok (.if_icmp .ge 15, 3) := by decide +kernel
theorem dX2_copy_8 : decode cX2_copy 8 = .ok (.aload_n 1, 1) := by decide +kernel
theorem dX2_copy_9 : decode cX2_copy 9 = .ok (.iload_n 2, 1) := by decide +kernel
theorem dX2_copy_10 : decode cX2_copy 10 = .ok (.aload_n 0, 1) := by decide +kernel
theorem dX2_copy_11 : decode cX2_copy 11 = .ok (.iload_n 2, 1) := by decide +kernel
theorem dX2_copy_12 : decode cX2_copy 12 = .ok (.iaload, 1) := by decide +kernel
theorem dX2_copy_13 : decode cX2_copy 13 = .ok (.iastore, 1) := by decide +kernel
theorem dX2_copy_14 : decode cX2_copy 14 = .ok (.iinc 2 1, 3) := by decide +kernel
theorem dX2_copy_17 : decode cX2_copy 17 = .ok (.goto (-15), 3) := by decide +kernel
theorem dX2_copy_20 : decode cX2_copy 20 = .ok (.return_, 1) := by decide +kernel
abbrev cX2_store : ByteArray := prog_4_method_16_code
def yX2_store : MethodName := ⟨RX2, "store", "(I)I"⟩
theorem dX2_store_0 : decode cX2_store 0 = .ok (.ldc2_w 61, 3) := by decide +kernel
theorem dX2_store_3 : decode cX2_store 3 = .ok (.aload_n 0, 1) := by decide +kernel
theorem dX2_store_4 : decode cX2_store 4 = .ok (.getfield 27, 3) := by decide +kernel
theorem dX2_store_7 : decode cX2_store 7 = .ok (.invokestatic 63, 3) := by decide +kernel
theorem dX2_store_10 : decode cX2_store 10 = .ok (.aload_n 0, 1) := by decide +kernel
theorem dX2_store_11 : decode cX2_store 11 = .ok (.getfield 54, 3) := by decide +kernel
theorem dX2_store_14 : decode cX2_store 14 = .ok (.ifCond .eq 11, 3) := by decide +kernel
theorem dX2_store_17 : decode cX2_store 17 = .ok (.aload_n 0, 1) := by decide +kernel
theorem dX2_store_18 : decode cX2_store 18 = .ok (.getfield 27, 3) := by decide +kernel
theorem dX2_store_21 : decode cX2_store 21 = .ok (.iconst 0, 1) := by decide +kernel
theorem dX2_store_22 : decode cX2_store 22 = .ok (.bipush 8, 2) := by decide +kernel
theorem dX2_store_24 : decode cX2_store 24 = .ok (.iastore, 1) := by decide +kernel
theorem dX2_store_25 : decode cX2_store 25 = .ok (.aload_n 0, 1) := by decide +kernel
theorem dX2_store_26 : decode cX2_store 26 = .ok (.getfield 21, 3) := by decide +kernel
theorem dX2_store_29 : decode cX2_store 29 = .ok (.aload_n 0, 1) := by decide +kernel
theorem dX2_store_30 : decode cX2_store 30 = .ok (.getfield 27, 3) := by decide +kernel
theorem dX2_store_33 : decode cX2_store 33 = .ok (.invokestatic 47, 3) := by decide +kernel
theorem dX2_store_36 : decode cX2_store 36 = .ok (.ifCond .le 16, 3) := by decide +kernel
theorem dX2_store_39 : decode cX2_store 39 = .ok (.aload_n 0, 1) := by decide +kernel
theorem dX2_store_40 : decode cX2_store 40 = .ok (.getfield 54, 3) := by decide +kernel
theorem dX2_store_43 : decode cX2_store 43 = .ok (.ifCond .eq 7, 3) := by decide +kernel
theorem dX2_store_46 : decode cX2_store 46 = .ok (.iconst 2, 1) := by decide +kernel
theorem dX2_store_47 : decode cX2_store 47 = .ok (.goto 4, 3) := by decide +kernel
theorem dX2_store_50 : decode cX2_store 50 = .ok (.iconst 1, 1) := by decide +kernel
theorem dX2_store_51 : decode cX2_store 51 = .ok (.ireturn, 1) := by decide +kernel
theorem dX2_store_52 : decode cX2_store 52 = .ok (.lconst 0, 1) := by decide +kernel
theorem dX2_store_53 : decode cX2_store 53 = .ok (.lstore_n 2, 1) := by decide +kernel
theorem dX2_store_54 : decode cX2_store 54 = .ok (.bipush 19, 2) := by decide +kernel
theorem dX2_store_56 : decode cX2_store 56 = .ok (.istore 4, 2) := by decide +kernel
theorem dX2_store_58 : decode cX2_store 58 = .ok (.iload 4, 2) := by decide +kernel
theorem dX2_store_60 : decode cX2_store 60 = .ok (.ifCond .lt 24, 3) := by decide +kernel
theorem dX2_store_63 : decode cX2_store 63 = .ok (.ldc2_w 37, 3) := by decide +kernel
theorem dX2_store_66 : decode cX2_store 66 = .ok (.lload_n 2, 1) := by decide +kernel
theorem dX2_store_67 : decode cX2_store 67 = .ok (.lmul, 1) := by decide +kernel
theorem dX2_store_68 : decode cX2_store 68 = .ok (.aload_n 0, 1) := by decide +kernel
theorem dX2_store_69 : decode cX2_store 69 = .ok (.getfield 21, 3) := by decide +kernel
theorem dX2_store_72 : decode cX2_store 72 = .ok (.iload 4, 2) := by decide +kernel
theorem dX2_store_74 : decode cX2_store 74 = .ok (.iaload, 1) := by decide +kernel
theorem dX2_store_75 : decode cX2_store 75 = .ok (.i2l, 1) := by decide +kernel
theorem dX2_store_76 : decode cX2_store 76 = .ok (.lsub, 1) := by decide +kernel
theorem dX2_store_77 : decode cX2_store 77 = .ok (.lstore_n 2, 1) := by decide +kernel
theorem dX2_store_78 : decode cX2_store 78 = .ok (.iinc 4 (-1), 3) := by decide +kernel
theorem dX2_store_81 : decode cX2_store 81 = .ok (.goto (-23), 3) := by decide +kernel
theorem dX2_store_84 : decode cX2_store 84 = .ok (.aload_n 0, 1) := by decide +kernel
theorem dX2_store_85 : decode cX2_store 85 = .ok (.getfield 7, 3) := by decide +kernel
theorem dX2_store_88 : decode cX2_store 88 = .ok (.iload_n 1, 1) := by decide +kernel
theorem dX2_store_89 : decode cX2_store 89 = .ok (.aload_n 0, 1) := by decide +kernel
theorem dX2_store_90 : decode cX2_store 90 = .ok (.getfield 54, 3) := by decide +kernel
theorem dX2_store_93 : decode cX2_store 93 = .ok (.ifCond .eq 7, 3) := by decide +kernel
theorem dX2_store_96 : decode cX2_store 96 = .ok (.lload_n 2, 1) := by decide +kernel
theorem dX2_store_97 : decode cX2_store 97 = .ok (.goto 5, 3) := by decide +kernel
theorem dX2_store_100 : decode cX2_store 100 = .ok (.lload_n 2, 1) := by decide +kernel
theorem dX2_store_101 : decode cX2_store 101 = .ok (.lneg, 1) := by decide +kernel
theorem dX2_store_102 : decode cX2_store 102 = .ok (.lastore, 1) := by decide +kernel
theorem dX2_store_103 : decode cX2_store 103 = .ok (.iconst 0, 1) := by decide +kernel
theorem dX2_store_104 : decode cX2_store 104 = .ok (.ireturn, 1) := by decide +kernel
abbrev cX2_subtract : ByteArray := prog_4_method_19_code
def yX2_subtract : MethodName := ⟨RX2, "subtract", "(IJ)I"⟩
theorem dX2_subtract_0 : decode cX2_subtract 0 = .ok (.aload_n 0, 1) := by decide +kernel
theorem dX2_subtract_1 : decode cX2_subtract 1 = .ok (.iload_n 1, 1) := by decide +kernel
theorem dX2_subtract_2 : decode cX2_subtract 2 = .ok (.lload_n 2, 1) := by decide +kernel
theorem dX2_subtract_3 : decode cX2_subtract 3 = .ok (.iconst 1, 1) := by decide +kernel
theorem dX2_subtract_4 : decode cX2_subtract 4 = .ok (.invokevirtual 75, 3) := by decide +kernel
theorem dX2_subtract_7 : decode cX2_subtract 7 = .ok (.ireturn, 1) := by decide +kernel
abbrev cX2_times : ByteArray := prog_4_method_20_code
def yX2_times : MethodName := ⟨RX2, "times", "(IJ)I"⟩
theorem dX2_times_0 : decode cX2_times 0 = .ok (.iload_n 1, 1) := by decide +kernel
theorem dX2_times_1 : decode cX2_times 1 = .ok (.invokestatic 33, 3) := by decide +kernel
theorem dX2_times_4 : decode cX2_times 4 = .ok (.ifCond .ne 5, 3) := by decide +kernel
theorem dX2_times_7 : decode cX2_times 7 = .ok (.iconst (-1), 1) := by decide +kernel
theorem dX2_times_8 : decode cX2_times 8 = .ok (.ireturn, 1) := by decide +kernel
theorem dX2_times_9 : decode cX2_times 9 = .ok (.aload_n 0, 1) := by decide +kernel
theorem dX2_times_10 : decode cX2_times 10 = .ok (.getfield 7, 3) := by decide +kernel
theorem dX2_times_13 : decode cX2_times 13 = .ok (.iload_n 1, 1) := by decide +kernel
theorem dX2_times_14 : decode cX2_times 14 = .ok (.laload, 1) := by decide +kernel
theorem dX2_times_15 : decode cX2_times 15 = .ok (.aload_n 0, 1) := by decide +kernel
theorem dX2_times_16 : decode cX2_times 16 = .ok (.getfield 21, 3) := by decide +kernel
theorem dX2_times_19 : decode cX2_times 19 = .ok (.invokestatic 63, 3) := by decide +kernel
theorem dX2_times_22 : decode cX2_times 22 = .ok (.lload_n 2, 1) := by decide +kernel
theorem dX2_times_23 : decode cX2_times 23 = .ok (.aload_n 0, 1) := by decide +kernel
theorem dX2_times_24 : decode cX2_times 24 = .ok (.getfield 24, 3) := by decide +kernel
theorem dX2_times_27 : decode cX2_times 27 = .ok (.invokestatic 63, 3) := by decide +kernel
theorem dX2_times_30 : decode cX2_times 30 = .ok (.aload_n 0, 1) := by decide +kernel
theorem dX2_times_31 : decode cX2_times 31 = .ok (.invokevirtual 79, 3) := by decide +kernel
theorem dX2_times_34 : decode cX2_times 34 = .ok (.aload_n 0, 1) := by decide +kernel
theorem dX2_times_35 : decode cX2_times 35 = .ok (.aload_n 0, 1) := by decide +kernel
theorem dX2_times_36 : decode cX2_times 36 = .ok (.getfield 7, 3) := by decide +kernel
theorem dX2_times_39 : decode cX2_times 39 = .ok (.iload_n 1, 1) := by decide +kernel
theorem dX2_times_40 : decode cX2_times 40 = .ok (.laload, 1) := by decide +kernel
theorem dX2_times_41 : decode cX2_times 41 = .ok (.lconst 0, 1) := by decide +kernel
theorem dX2_times_42 : decode cX2_times 42 = .ok (.lcmp, 1) := by decide +kernel
theorem dX2_times_43 : decode cX2_times 43 = .ok (.ifCond .ge 7, 3) := by decide +kernel
theorem dX2_times_46 : decode cX2_times 46 = .ok (.iconst 1, 1) := by decide +kernel
theorem dX2_times_47 : decode cX2_times 47 = .ok (.goto 4, 3) := by decide +kernel
theorem dX2_times_50 : decode cX2_times 50 = .ok (.iconst 0, 1) := by decide +kernel
theorem dX2_times_51 : decode cX2_times 51 = .ok (.lload_n 2, 1) := by decide +kernel
theorem dX2_times_52 : decode cX2_times 52 = .ok (.lconst 0, 1) := by decide +kernel
theorem dX2_times_53 : decode cX2_times 53 = .ok (.lcmp, 1) := by decide +kernel
theorem dX2_times_54 : decode cX2_times 54 = .ok (.ifCond .ge 7, 3) := by decide +kernel
theorem dX2_times_57 : decode cX2_times 57 = .ok (.iconst 1, 1) := by decide +kernel
theorem dX2_times_58 : decode cX2_times 58 = .ok (.goto 4, 3) := by decide +kernel
theorem dX2_times_61 : decode cX2_times 61 = .ok (.iconst 0, 1) := by decide +kernel
theorem dX2_times_62 : decode cX2_times 62 = .ok (.if_icmp .eq 7, 3) := by decide +kernel
theorem dX2_times_65 : decode cX2_times 65 = .ok (.iconst 1, 1) := by decide +kernel
theorem dX2_times_66 : decode cX2_times 66 = .ok (.goto 4, 3) := by decide +kernel
theorem dX2_times_69 : decode cX2_times 69 = .ok (.iconst 0, 1) := by decide +kernel
theorem dX2_times_70 : decode cX2_times 70 = .ok (.putfield 54, 3) := by decide +kernel
theorem dX2_times_73 : decode cX2_times 73 = .ok (.aload_n 0, 1) := by decide +kernel
theorem dX2_times_74 : decode cX2_times 74 = .ok (.iload_n 1, 1) := by decide +kernel
theorem dX2_times_75 : decode cX2_times 75 = .ok (.invokevirtual 71, 3) := by decide +kernel
theorem dX2_times_78 : decode cX2_times 78 = .ok (.ireturn, 1) := by decide +kernel
abbrev cX2_multiply : ByteArray := prog_4_method_12_code
def yX2_multiply : MethodName := ⟨RX2, "multiply", "()V"⟩
theorem dX2_multiply_0 : decode cX2_multiply 0 = .ok (.aload_n 0, 1) := by decide +kernel
theorem dX2_multiply_1 : decode cX2_multiply 1 = .ok (.getfield 27, 3) := by decide +kernel
theorem dX2_multiply_4 : decode cX2_multiply 4 = .ok (.invokestatic 39, 3) := by decide +kernel
theorem dX2_multiply_7 : decode cX2_multiply 7 = .ok (.iconst 0, 1) := by decide +kernel
theorem dX2_multiply_8 : decode cX2_multiply 8 = .ok (.istore_n 1, 1) := by decide +kernel
theorem dX2_multiply_9 : decode cX2_multiply 9 = .ok (.iload_n 1, 1) := by decide +kernel
theorem dX2_multiply_10 : decode cX2_multiply 10 = .ok (.bipush 80, 2) := by decide +kernel
theorem dX2_multiply_12 : decode cX2_multiply 12 = .ok (.if_icmp .ge 81, 3) := by decide +kernel
theorem dX2_multiply_15 : decode cX2_multiply 15 = .ok (.iconst 0, 1) := by decide +kernel
theorem dX2_multiply_16 : decode cX2_multiply 16 = .ok (.istore_n 2, 1) := by decide +kernel
theorem dX2_multiply_17 : decode cX2_multiply 17 = .ok (.iconst 0, 1) := by decide +kernel
theorem dX2_multiply_18 : decode cX2_multiply 18 = .ok (.istore_n 3, 1) := by decide +kernel
theorem dX2_multiply_19 : decode cX2_multiply 19 = .ok (.iload_n 1, 1) := by decide +kernel
theorem dX2_multiply_20 : decode cX2_multiply 20 = .ok (.iload_n 3, 1) := by decide +kernel
theorem dX2_multiply_21 : decode cX2_multiply 21 = .ok (.iadd, 1) := by decide +kernel
theorem dX2_multiply_22 : decode cX2_multiply 22 = .ok (.bipush 80, 2) := by decide +kernel
theorem dX2_multiply_24 : decode cX2_multiply 24 = .ok (.if_icmp .ge 63, 3) := by decide +kernel
theorem dX2_multiply_27 : decode cX2_multiply 27 = .ok (.aload_n 0, 1) := by decide +kernel
theorem dX2_multiply_28 : decode cX2_multiply 28 = .ok (.getfield 21, 3) := by decide +kernel
theorem dX2_multiply_31 : decode cX2_multiply 31 = .ok (.iload_n 1, 1) := by decide +kernel
theorem dX2_multiply_32 : decode cX2_multiply 32 = .ok (.iaload, 1) := by decide +kernel
theorem dX2_multiply_33 : decode cX2_multiply 33 = .ok (.ifCond .le 54, 3) := by decide +kernel
theorem dX2_multiply_36 : decode cX2_multiply 36 = .ok (.aload_n 0, 1) := by decide +kernel
theorem dX2_multiply_37 : decode cX2_multiply 37 = .ok (.getfield 27, 3) := by decide +kernel
theorem dX2_multiply_40 : decode cX2_multiply 40 = .ok (.iload_n 1, 1) := by decide +kernel
theorem dX2_multiply_41 : decode cX2_multiply 41 = .ok (.iload_n 3, 1) := by decide +kernel
theorem dX2_multiply_42 : decode cX2_multiply 42 = .ok (.iadd, 1) := by decide +kernel
theorem dX2_multiply_43 : decode cX2_multiply 43 = .ok (.iaload, 1) := by decide +kernel
theorem dX2_multiply_44 : decode cX2_multiply 44 = .ok (.aload_n 0, 1) := by decide +kernel
theorem dX2_multiply_45 : decode cX2_multiply 45 = .ok (.getfield 21, 3) := by decide +kernel
theorem dX2_multiply_48 : decode cX2_multiply 48 = .ok (.iload_n 1, 1) := by decide +kernel
theorem dX2_multiply_49 : decode cX2_multiply 49 = .ok (.iaload, 1) := by decide +kernel
theorem dX2_multiply_50 : decode cX2_multiply 50 = .ok (.aload_n 0, 1) := by decide +kernel
theorem dX2_multiply_51 : decode cX2_multiply 51 = .ok (.getfield 24, 3) := by decide +kernel
theorem dX2_multiply_54 : decode cX2_multiply 54 = .ok (.iload_n 3, 1) := by decide +kernel
theorem dX2_multiply_55 : decode cX2_multiply 55 = .ok (.iaload, 1) := by decide +kernel
theorem dX2_multiply_56 : decode cX2_multiply 56 = .ok (.imul, 1) := by decide +kernel
theorem dX2_multiply_57 : decode cX2_multiply 57 = .ok (.iadd, 1) := by decide +kernel
theorem dX2_multiply_58 : decode cX2_multiply 58 = .ok (.iload_n 2, 1) := by decide +kernel
theorem dX2_multiply_59 : decode cX2_multiply 59 = .ok (.iadd, 1) := by decide +kernel
theorem dX2_multiply_60 : decode cX2_multiply 60 = .ok (.istore 4, 2) := by decide +kernel
theorem dX2_multiply_62 : decode cX2_multiply 62 = .ok (.aload_n 0, 1) := by decide +kernel
theorem dX2_multiply_63 : decode cX2_multiply 63 = .ok (.getfield 27, 3) := by decide +kernel
theorem dX2_multiply_66 : decode cX2_multiply 66 = .ok (.iload_n 1, 1) := by decide +kernel
theorem dX2_multiply_67 : decode cX2_multiply 67 = .ok (.iload_n 3, 1) := by decide +kernel
theorem dX2_multiply_68 : decode cX2_multiply 68 = .ok (.iadd, 1) := by decide +kernel
theorem dX2_multiply_69 : decode cX2_multiply 69 = .ok (.iload 4, 2) := by decide +kernel
theorem dX2_multiply_71 : decode cX2_multiply 71 = .ok (.bipush 10, 2) := by decide +kernel
theorem dX2_multiply_73 : decode cX2_multiply 73 = .ok (.irem, 1) := by decide +kernel
theorem dX2_multiply_74 : decode cX2_multiply 74 = .ok (.iastore, 1) := by decide +kernel
theorem dX2_multiply_75 : decode cX2_multiply 75 = .ok (.iload 4, 2) := by decide +kernel
theorem dX2_multiply_77 : decode cX2_multiply 77 = .ok (.bipush 10, 2) := by decide +kernel
theorem dX2_multiply_79 : decode cX2_multiply 79 = .ok (.idiv, 1) := by decide +kernel
theorem dX2_multiply_80 : decode cX2_multiply 80 = .ok (.istore_n 2, 1) := by decide +kernel
theorem dX2_multiply_81 : decode cX2_multiply 81 = .ok (.iinc 3 1, 3) := by decide +kernel
theorem dX2_multiply_84 : decode cX2_multiply 84 = .ok (.goto (-65), 3) := by decide +kernel
theorem dX2_multiply_87 : decode cX2_multiply 87 = .ok (.iinc 1 1, 3) := by decide +kernel
theorem dX2_multiply_90 : decode cX2_multiply 90 = .ok (.goto (-81), 3) := by decide +kernel
theorem dX2_multiply_93 : decode cX2_multiply 93 = .ok (.aload_n 0, 1) := by decide +kernel
theorem dX2_multiply_94 : decode cX2_multiply 94 = .ok (.getfield 27, 3) := by decide +kernel
theorem dX2_multiply_97 : decode cX2_multiply 97 = .ok (.aload_n 0, 1) := by decide +kernel
theorem dX2_multiply_98 : decode cX2_multiply 98 = .ok (.getfield 21, 3) := by decide +kernel
theorem dX2_multiply_101 : decode cX2_multiply 101 = .ok (.invokestatic 43, 3) := by decide +kernel
theorem dX2_multiply_104 : decode cX2_multiply 104 = .ok (.return_, 1) := by decide +kernel
abbrev cX2_nothing : ByteArray := prog_4_method_8_code
def yX2_nothing : MethodName := ⟨RX2, "nothing", "([I)V"⟩
theorem dX2_nothing_0 : decode cX2_nothing 0 = .ok (.iconst 0, 1) := by decide +kernel
theorem dX2_nothing_1 : decode cX2_nothing 1 = .ok (.istore_n 1, 1) := by decide +kernel
theorem dX2_nothing_2 : decode cX2_nothing 2 = .ok (.iload_n 1, 1) := by decide +kernel
theorem dX2_nothing_3 : decode cX2_nothing 3 = .ok (.bipush 80, 2) := by decide +kernel
theorem dX2_nothing_5 : decode cX2_nothing 5 = .ok (.if_icmp .ge 13, 3) := by decide +kernel
theorem dX2_nothing_8 : decode cX2_nothing 8 = .ok (.aload_n 0, 1) := by decide +kernel
theorem dX2_nothing_9 : decode cX2_nothing 9 = .ok (.iload_n 1, 1) := by decide +kernel
theorem dX2_nothing_10 : decode cX2_nothing 10 = .ok (.iconst 0, 1) := by decide +kernel
theorem dX2_nothing_11 : decode cX2_nothing 11 = .ok (.iastore, 1) := by decide +kernel
theorem dX2_nothing_12 : decode cX2_nothing 12 = .ok (.iinc 1 1, 3) := by decide +kernel
theorem dX2_nothing_15 : decode cX2_nothing 15 = .ok (.goto (-13), 3) := by decide +kernel
theorem dX2_nothing_18 : decode cX2_nothing 18 = .ok (.return_, 1) := by decide +kernel
abbrev cX2_share : ByteArray := prog_4_method_21_code
def yX2_share : MethodName := ⟨RX2, "share", "(IJJI)I"⟩
theorem dX2_share_0 : decode cX2_share 0 = .ok (.iload_n 1, 1) := by decide +kernel
theorem dX2_share_1 : decode cX2_share 1 = .ok (.invokestatic 33, 3) := by decide +kernel
theorem dX2_share_4 : decode cX2_share 4 = .ok (.ifCond .eq 14, 3) := by decide +kernel
theorem dX2_share_7 : decode cX2_share 7 = .ok (.iload 6, 2) := by decide +kernel
theorem dX2_share_9 : decode cX2_share 9 = .ok (.ifCond .lt 9, 3) := by decide +kernel
theorem dX2_share_12 : decode cX2_share 12 = .ok (.iload 6, 2) := by decide +kernel
theorem dX2_share_14 : decode cX2_share 14 = .ok (.iconst 3, 1) := by decide +kernel
theorem dX2_share_15 : decode cX2_share 15 = .ok (.if_icmp .le 5, 3) := by decide +kernel
theorem dX2_share_18 : decode cX2_share 18 = .ok (.iconst (-1), 1) := by decide +kernel
theorem dX2_share_19 : decode cX2_share 19 = .ok (.ireturn, 1) := by decide +kernel
theorem dX2_share_20 : decode cX2_share 20 = .ok (.lload 4, 2) := by decide +kernel
theorem dX2_share_22 : decode cX2_share 22 = .ok (.lconst 0, 1) := by decide +kernel
theorem dX2_share_23 : decode cX2_share 23 = .ok (.lcmp, 1) := by decide +kernel
theorem dX2_share_24 : decode cX2_share 24 = .ok (.ifCond .ne 5, 3) := by decide +kernel
theorem dX2_share_27 : decode cX2_share 27 = .ok (.iconst 3, 1) := by decide +kernel
theorem dX2_share_28 : decode cX2_share 28 = .ok (.ireturn, 1) := by decide +kernel
theorem dX2_share_29 : decode cX2_share 29 = .ok (.aload_n 0, 1) := by decide +kernel
theorem dX2_share_30 : decode cX2_share 30 = .ok (.getfield 7, 3) := by decide +kernel
theorem dX2_share_33 : decode cX2_share 33 = .ok (.iload_n 1, 1) := by decide +kernel
theorem dX2_share_34 : decode cX2_share 34 = .ok (.laload, 1) := by decide +kernel
theorem dX2_share_35 : decode cX2_share 35 = .ok (.aload_n 0, 1) := by decide +kernel
theorem dX2_share_36 : decode cX2_share 36 = .ok (.getfield 21, 3) := by decide +kernel
theorem dX2_share_39 : decode cX2_share 39 = .ok (.invokestatic 63, 3) := by decide +kernel
theorem dX2_share_42 : decode cX2_share 42 = .ok (.lload_n 2, 1) := by decide +kernel
theorem dX2_share_43 : decode cX2_share 43 = .ok (.aload_n 0, 1) := by decide +kernel
theorem dX2_share_44 : decode cX2_share 44 = .ok (.getfield 24, 3) := by decide +kernel
theorem dX2_share_47 : decode cX2_share 47 = .ok (.invokestatic 63, 3) := by decide +kernel
theorem dX2_share_50 : decode cX2_share 50 = .ok (.aload_n 0, 1) := by decide +kernel
theorem dX2_share_51 : decode cX2_share 51 = .ok (.invokevirtual 79, 3) := by decide +kernel
theorem dX2_share_54 : decode cX2_share 54 = .ok (.lload 4, 2) := by decide +kernel
theorem dX2_share_56 : decode cX2_share 56 = .ok (.aload_n 0, 1) := by decide +kernel
theorem dX2_share_57 : decode cX2_share 57 = .ok (.getfield 24, 3) := by decide +kernel
theorem dX2_share_60 : decode cX2_share 60 = .ok (.invokestatic 63, 3) := by decide +kernel
theorem dX2_share_63 : decode cX2_share 63 = .ok (.aload_n 0, 1) := by decide +kernel
theorem dX2_share_64 : decode cX2_share 64 = .ok (.aload_n 0, 1) := by decide +kernel
theorem dX2_share_65 : decode cX2_share 65 = .ok (.getfield 7, 3) := by decide +kernel
theorem dX2_share_68 : decode cX2_share 68 = .ok (.iload_n 1, 1) := by decide +kernel
theorem dX2_share_69 : decode cX2_share 69 = .ok (.laload, 1) := by decide +kernel
theorem dX2_share_70 : decode cX2_share 70 = .ok (.lconst 0, 1) := by decide +kernel
theorem dX2_share_71 : decode cX2_share 71 = .ok (.lcmp, 1) := by decide +kernel
theorem dX2_share_72 : decode cX2_share 72 = .ok (.ifCond .ge 7, 3) := by decide +kernel
theorem dX2_share_75 : decode cX2_share 75 = .ok (.iconst 1, 1) := by decide +kernel
theorem dX2_share_76 : decode cX2_share 76 = .ok (.goto 4, 3) := by decide +kernel
theorem dX2_share_79 : decode cX2_share 79 = .ok (.iconst 0, 1) := by decide +kernel
theorem dX2_share_80 : decode cX2_share 80 = .ok (.lload_n 2, 1) := by decide +kernel
theorem dX2_share_81 : decode cX2_share 81 = .ok (.lconst 0, 1) := by decide +kernel
theorem dX2_share_82 : decode cX2_share 82 = .ok (.lcmp, 1) := by decide +kernel
theorem dX2_share_83 : decode cX2_share 83 = .ok (.ifCond .ge 7, 3) := by decide +kernel
theorem dX2_share_86 : decode cX2_share 86 = .ok (.iconst 1, 1) := by decide +kernel
theorem dX2_share_87 : decode cX2_share 87 = .ok (.goto 4, 3) := by decide +kernel
theorem dX2_share_90 : decode cX2_share 90 = .ok (.iconst 0, 1) := by decide +kernel
theorem dX2_share_91 : decode cX2_share 91 = .ok (.if_icmp .eq 7, 3) := by decide +kernel
theorem dX2_share_94 : decode cX2_share 94 = .ok (.iconst 1, 1) := by decide +kernel
theorem dX2_share_95 : decode cX2_share 95 = .ok (.goto 4, 3) := by decide +kernel
theorem dX2_share_98 : decode cX2_share 98 = .ok (.iconst 0, 1) := by decide +kernel
theorem dX2_share_99 : decode cX2_share 99 = .ok (.lload 4, 2) := by decide +kernel
theorem dX2_share_101 : decode cX2_share 101 = .ok (.lconst 0, 1) := by decide +kernel
theorem dX2_share_102 : decode cX2_share 102 = .ok (.lcmp, 1) := by decide +kernel
theorem dX2_share_103 : decode cX2_share 103 = .ok (.ifCond .ge 7, 3) := by decide +kernel
theorem dX2_share_106 : decode cX2_share 106 = .ok (.iconst 1, 1) := by decide +kernel
theorem dX2_share_107 : decode cX2_share 107 = .ok (.goto 4, 3) := by decide +kernel
theorem dX2_share_110 : decode cX2_share 110 = .ok (.iconst 0, 1) := by decide +kernel
theorem dX2_share_111 : decode cX2_share 111 = .ok (.if_icmp .eq 7, 3) := by decide +kernel
theorem dX2_share_114 : decode cX2_share 114 = .ok (.iconst 1, 1) := by decide +kernel
theorem dX2_share_115 : decode cX2_share 115 = .ok (.goto 4, 3) := by decide +kernel
theorem dX2_share_118 : decode cX2_share 118 = .ok (.iconst 0, 1) := by decide +kernel
theorem dX2_share_119 : decode cX2_share 119 = .ok (.putfield 54, 3) := by decide +kernel
theorem dX2_share_122 : decode cX2_share 122 = .ok (.aload_n 0, 1) := by decide +kernel
theorem dX2_share_123 : decode cX2_share 123 = .ok (.invokevirtual 82, 3) := by decide +kernel
theorem dX2_share_126 : decode cX2_share 126 = .ok (.aload_n 0, 1) := by decide +kernel
theorem dX2_share_127 : decode cX2_share 127 = .ok (.getfield 30, 3) := by decide +kernel
theorem dX2_share_130 : decode cX2_share 130 = .ok (.invokestatic 85, 3) := by decide +kernel
theorem dX2_share_133 : decode cX2_share 133 = .ok (.istore 7, 2) := by decide +kernel
theorem dX2_share_135 : decode cX2_share 135 = .ok (.aload_n 0, 1) := by decide +kernel
theorem dX2_share_136 : decode cX2_share 136 = .ok (.getfield 30, 3) := by decide +kernel
theorem dX2_share_139 : decode cX2_share 139 = .ok (.aload_n 0, 1) := by decide +kernel
theorem dX2_share_140 : decode cX2_share 140 = .ok (.getfield 27, 3) := by decide +kernel
theorem dX2_share_143 : decode cX2_share 143 = .ok (.invokestatic 43, 3) := by decide +kernel
theorem dX2_share_146 : decode cX2_share 146 = .ok (.aload_n 0, 1) := by decide +kernel
theorem dX2_share_147 : decode cX2_share 147 = .ok (.getfield 27, 3) := by decide +kernel
theorem dX2_share_150 : decode cX2_share 150 = .ok (.aload_n 0, 1) := by decide +kernel
theorem dX2_share_151 : decode cX2_share 151 = .ok (.getfield 30, 3) := by decide +kernel
theorem dX2_share_154 : decode cX2_share 154 = .ok (.invokestatic 58, 3) := by decide +kernel
theorem dX2_share_157 : decode cX2_share 157 = .ok (.iload 6, 2) := by decide +kernel
theorem dX2_share_159 : decode cX2_share 159 = .ok (.ifCond .ne 23, 3) := by decide +kernel
theorem dX2_share_162 : decode cX2_share 162 = .ok (.aload_n 0, 1) := by decide +kernel
theorem dX2_share_163 : decode cX2_share 163 = .ok (.getfield 54, 3) := by decide +kernel
theorem dX2_share_166 : decode cX2_share 166 = .ok (.ifCond .eq 12, 3) := by decide +kernel
theorem dX2_share_169 : decode cX2_share 169 = .ok (.iload 7, 2) := by decide +kernel
theorem dX2_share_171 : decode cX2_share 171 = .ok (.ifCond .ne 7, 3) := by decide +kernel
theorem dX2_share_174 : decode cX2_share 174 = .ok (.iconst 1, 1) := by decide +kernel
theorem dX2_share_175 : decode cX2_share 175 = .ok (.goto 58, 3) := by decide +kernel
theorem dX2_share_178 : decode cX2_share 178 = .ok (.iconst 0, 1) := by decide +kernel
theorem dX2_share_179 : decode cX2_share 179 = .ok (.goto 54, 3) := by decide +kernel
theorem dX2_share_182 : decode cX2_share 182 = .ok (.iload 6, 2) := by decide +kernel
theorem dX2_share_184 : decode cX2_share 184 = .ok (.iconst 1, 1) := by decide +kernel
theorem dX2_share_185 : decode cX2_share 185 = .ok (.if_icmp .ne 23, 3) := by decide +kernel
theorem dX2_share_188 : decode cX2_share 188 = .ok (.aload_n 0, 1) := by decide +kernel
theorem dX2_share_189 : decode cX2_share 189 = .ok (.getfield 54, 3) := by decide +kernel
theorem dX2_share_192 : decode cX2_share 192 = .ok (.ifCond .ne 12, 3) := by decide +kernel
theorem dX2_share_195 : decode cX2_share 195 = .ok (.iload 7, 2) := by decide +kernel
theorem dX2_share_197 : decode cX2_share 197 = .ok (.ifCond .ne 7, 3) := by decide +kernel
theorem dX2_share_200 : decode cX2_share 200 = .ok (.iconst 1, 1) := by decide +kernel
theorem dX2_share_201 : decode cX2_share 201 = .ok (.goto 32, 3) := by decide +kernel
theorem dX2_share_204 : decode cX2_share 204 = .ok (.iconst 0, 1) := by decide +kernel
theorem dX2_share_205 : decode cX2_share 205 = .ok (.goto 28, 3) := by decide +kernel
theorem dX2_share_208 : decode cX2_share 208 = .ok (.iload 6, 2) := by decide +kernel
theorem dX2_share_210 : decode cX2_share 210 = .ok (.iconst 3, 1) := by decide +kernel
theorem dX2_share_211 : decode cX2_share 211 = .ok (.if_icmp .ne 21, 3) := by decide +kernel
theorem dX2_share_214 : decode cX2_share 214 = .ok (.aload_n 0, 1) := by decide +kernel
theorem dX2_share_215 : decode cX2_share 215 = .ok (.getfield 27, 3) := by decide +kernel
theorem dX2_share_218 : decode cX2_share 218 = .ok (.aload_n 0, 1) := by decide +kernel
theorem dX2_share_219 : decode cX2_share 219 = .ok (.getfield 24, 3) := by decide +kernel
theorem dX2_share_222 : decode cX2_share 222 = .ok (.invokestatic 47, 3) := by decide +kernel
theorem dX2_share_225 : decode cX2_share 225 = .ok (.ifCond .lt 7, 3) := by decide +kernel
theorem dX2_share_228 : decode cX2_share 228 = .ok (.iconst 1, 1) := by decide +kernel
theorem dX2_share_229 : decode cX2_share 229 = .ok (.goto 4, 3) := by decide +kernel
theorem dX2_share_232 : decode cX2_share 232 = .ok (.iconst 0, 1) := by decide +kernel
theorem dX2_share_233 : decode cX2_share 233 = .ok (.istore 8, 2) := by decide +kernel
theorem dX2_share_235 : decode cX2_share 235 = .ok (.iload 8, 2) := by decide +kernel
theorem dX2_share_237 : decode cX2_share 237 = .ok (.ifCond .eq 28, 3) := by decide +kernel
theorem dX2_share_240 : decode cX2_share 240 = .ok (.aload_n 0, 1) := by decide +kernel
theorem dX2_share_241 : decode cX2_share 241 = .ok (.getfield 27, 3) := by decide +kernel
theorem dX2_share_244 : decode cX2_share 244 = .ok (.invokestatic 39, 3) := by decide +kernel
theorem dX2_share_247 : decode cX2_share 247 = .ok (.aload_n 0, 1) := by decide +kernel
theorem dX2_share_248 : decode cX2_share 248 = .ok (.getfield 27, 3) := by decide +kernel
theorem dX2_share_251 : decode cX2_share 251 = .ok (.iconst 0, 1) := by decide +kernel
theorem dX2_share_252 : decode cX2_share 252 = .ok (.iconst 1, 1) := by decide +kernel
theorem dX2_share_253 : decode cX2_share 253 = .ok (.iastore, 1) := by decide +kernel
theorem dX2_share_254 : decode cX2_share 254 = .ok (.aload_n 0, 1) := by decide +kernel
theorem dX2_share_255 : decode cX2_share 255 = .ok (.getfield 21, 3) := by decide +kernel
theorem dX2_share_258 : decode cX2_share 258 = .ok (.aload_n 0, 1) := by decide +kernel
theorem dX2_share_259 : decode cX2_share 259 = .ok (.getfield 27, 3) := by decide +kernel
theorem dX2_share_262 : decode cX2_share 262 = .ok (.invokestatic 58, 3) := by decide +kernel
theorem dX2_share_265 : decode cX2_share 265 = .ok (.aload_n 0, 1) := by decide +kernel
theorem dX2_share_266 : decode cX2_share 266 = .ok (.iload_n 1, 1) := by decide +kernel
theorem dX2_share_267 : decode cX2_share 267 = .ok (.invokevirtual 71, 3) := by decide +kernel
theorem dX2_share_270 : decode cX2_share 270 = .ok (.ireturn, 1) := by decide +kernel
abbrev cX2_divide : ByteArray := prog_4_method_13_code
def yX2_divide : MethodName := ⟨RX2, "divide", "()V"⟩
theorem dX2_divide_0 : decode cX2_divide 0 = .ok (.aload_n 0, 1) := by decide +kernel
theorem dX2_divide_1 : decode cX2_divide 1 = .ok (.getfield 30, 3) := by decide +kernel
theorem dX2_divide_4 : decode cX2_divide 4 = .ok (.invokestatic 39, 3) := by decide +kernel
theorem dX2_divide_7 : decode cX2_divide 7 = .ok (.bipush 79, 2) := by decide +kernel
theorem dX2_divide_9 : decode cX2_divide 9 = .ok (.istore_n 1, 1) := by decide +kernel
theorem dX2_divide_10 : decode cX2_divide 10 = .ok (.iload_n 1, 1) := by decide +kernel
theorem dX2_divide_11 : decode cX2_divide 11 = .ok (.ifCond .lt 99, 3) := by decide +kernel
theorem dX2_divide_14 : decode cX2_divide 14 = .ok (.bipush 79, 2) := by decide +kernel
theorem dX2_divide_16 : decode cX2_divide 16 = .ok (.istore_n 2, 1) := by decide +kernel
theorem dX2_divide_17 : decode cX2_divide 17 = .ok (.iload_n 2, 1) := by decide +kernel
theorem dX2_divide_18 : decode cX2_divide 18 = .ok (.ifCond .le 23, 3) := by decide +kernel
theorem dX2_divide_21 : decode cX2_divide 21 = .ok (.aload_n 0, 1) := by decide +kernel
theorem dX2_divide_22 : decode cX2_divide 22 = .ok (.getfield 30, 3) := by decide +kernel
theorem dX2_divide_25 : decode cX2_divide 25 = .ok (.iload_n 2, 1) := by decide +kernel
theorem dX2_divide_26 : decode cX2_divide 26 = .ok (.aload_n 0, 1) := by decide +kernel
theorem dX2_divide_27 : decode cX2_divide 27 = .ok (.getfield 30, 3) := by decide +kernel
theorem dX2_divide_30 : decode cX2_divide 30 = .ok (.iload_n 2, 1) := by decide +kernel
theorem dX2_divide_31 : decode cX2_divide 31 = .ok (.iconst 1, 1) := by decide +kernel
theorem dX2_divide_32 : decode cX2_divide 32 = .ok (.isub, 1) := by decide +kernel
theorem dX2_divide_33 : decode cX2_divide 33 = .ok (.iaload, 1) := by decide +kernel
theorem dX2_divide_34 : decode cX2_divide 34 = .ok (.iastore, 1) := by decide +kernel
theorem dX2_divide_35 : decode cX2_divide 35 = .ok (.iinc 2 (-1), 3) := by decide +kernel
theorem dX2_divide_38 : decode cX2_divide 38 = .ok (.goto (-21), 3) := by decide +kernel
theorem dX2_divide_41 : decode cX2_divide 41 = .ok (.aload_n 0, 1) := by decide +kernel
theorem dX2_divide_42 : decode cX2_divide 42 = .ok (.getfield 30, 3) := by decide +kernel
theorem dX2_divide_45 : decode cX2_divide 45 = .ok (.iconst 0, 1) := by decide +kernel
theorem dX2_divide_46 : decode cX2_divide 46 = .ok (.aload_n 0, 1) := by decide +kernel
theorem dX2_divide_47 : decode cX2_divide 47 = .ok (.getfield 21, 3) := by decide +kernel
theorem dX2_divide_50 : decode cX2_divide 50 = .ok (.iload_n 1, 1) := by decide +kernel
theorem dX2_divide_51 : decode cX2_divide 51 = .ok (.iaload, 1) := by decide +kernel
theorem dX2_divide_52 : decode cX2_divide 52 = .ok (.iastore, 1) := by decide +kernel
theorem dX2_divide_53 : decode cX2_divide 53 = .ok (.iconst 0, 1) := by decide +kernel
theorem dX2_divide_54 : decode cX2_divide 54 = .ok (.istore_n 2, 1) := by decide +kernel
theorem dX2_divide_55 : decode cX2_divide 55 = .ok (.iconst 0, 1) := by decide +kernel
theorem dX2_divide_56 : decode cX2_divide 56 = .ok (.istore_n 3, 1) := by decide +kernel
theorem dX2_divide_57 : decode cX2_divide 57 = .ok (.iload_n 3, 1) := by decide +kernel
theorem dX2_divide_58 : decode cX2_divide 58 = .ok (.bipush 9, 2) := by decide +kernel
theorem dX2_divide_60 : decode cX2_divide 60 = .ok (.if_icmp .ge 37, 3) := by decide +kernel
theorem dX2_divide_63 : decode cX2_divide 63 = .ok (.aload_n 0, 1) := by decide +kernel
theorem dX2_divide_64 : decode cX2_divide 64 = .ok (.getfield 30, 3) := by decide +kernel
theorem dX2_divide_67 : decode cX2_divide 67 = .ok (.aload_n 0, 1) := by decide +kernel
theorem dX2_divide_68 : decode cX2_divide 68 = .ok (.getfield 24, 3) := by decide +kernel
theorem dX2_divide_71 : decode cX2_divide 71 = .ok (.invokestatic 47, 3) := by decide +kernel
theorem dX2_divide_74 : decode cX2_divide 74 = .ok (.ifCond .lt 23, 3) := by decide +kernel
theorem dX2_divide_77 : decode cX2_divide 77 = .ok (.aload_n 0, 1) := by decide +kernel
theorem dX2_divide_78 : decode cX2_divide 78 = .ok (.getfield 30, 3) := by decide +kernel
theorem dX2_divide_81 : decode cX2_divide 81 = .ok (.aload_n 0, 1) := by decide +kernel
theorem dX2_divide_82 : decode cX2_divide 82 = .ok (.getfield 24, 3) := by decide +kernel
theorem dX2_divide_85 : decode cX2_divide 85 = .ok (.invokestatic 51, 3) := by decide +kernel
theorem dX2_divide_88 : decode cX2_divide 88 = .ok (.iinc 2 1, 3) := by decide +kernel
theorem dX2_divide_91 : decode cX2_divide 91 = .ok (.iinc 3 1, 3) := by decide +kernel
theorem dX2_divide_94 : decode cX2_divide 94 = .ok (.goto (-37), 3) := by decide +kernel
theorem dX2_divide_97 : decode cX2_divide 97 = .ok (.aload_n 0, 1) := by decide +kernel
theorem dX2_divide_98 : decode cX2_divide 98 = .ok (.getfield 21, 3) := by decide +kernel
theorem dX2_divide_101 : decode cX2_divide 101 = .ok (.iload_n 1, 1) := by decide +kernel
theorem dX2_divide_102 : decode cX2_divide 102 = .ok (.iload_n 2, 1) := by decide +kernel
theorem dX2_divide_103 : decode cX2_divide 103 = .ok (.iastore, 1) := by decide +kernel
theorem dX2_divide_104 : decode cX2_divide 104 = .ok (.iinc 1 (-1), 3) := by decide +kernel
theorem dX2_divide_107 : decode cX2_divide 107 = .ok (.goto (-97), 3) := by decide +kernel
theorem dX2_divide_110 : decode cX2_divide 110 = .ok (.return_, 1) := by decide +kernel
abbrev cX2_isNothing : ByteArray := prog_4_method_14_code
def yX2_isNothing : MethodName := ⟨RX2, "isNothing", "([I)Z"⟩
theorem dX2_isNothing_0 : decode cX2_isNothing 0 = .ok (.iconst 1, 1) := by decide +kernel
theorem dX2_isNothing_1 : decode cX2_isNothing 1 = .ok (.istore_n 1, 1) := by decide +kernel
theorem dX2_isNothing_2 : decode cX2_isNothing 2 = .ok (.iconst 0, 1) := by decide +kernel
theorem dX2_isNothing_3 : decode cX2_isNothing 3 = .ok (.istore_n 2, 1) := by decide +kernel
theorem dX2_isNothing_4 : decode cX2_isNothing 4 = .ok (.iload_n 2, 1) := by decide +kernel
theorem dX2_isNothing_5 : decode cX2_isNothing 5 = .ok (.bipush 80, 2) := by decide +kernel
theorem dX2_isNothing_7 : decode cX2_isNothing 7 = .ok (.if_icmp .ge 25, 3) := by decide +kernel
theorem dX2_isNothing_10 : decode cX2_isNothing 10 = .ok (.iload_n 1, 1) := by decide +kernel
theorem dX2_isNothing_11 : decode cX2_isNothing 11 = .ok (.ifCond .eq 13, 3) := by decide +kernel
theorem dX2_isNothing_14 : decode cX2_isNothing 14 = .ok (.aload_n 0, 1) := by decide +kernel
theorem dX2_isNothing_15 : decode cX2_isNothing 15 = .ok (.iload_n 2, 1) := by decide +kernel
theorem dX2_isNothing_16 : decode cX2_isNothing 16 = .ok (.iaload, 1) := by decide +kernel
theorem dX2_isNothing_17 : decode cX2_isNothing 17 = .ok (.ifCond .ne 7, 3) := by decide +kernel
theorem dX2_isNothing_20 : decode cX2_isNothing 20 = .ok (.iconst 1, 1) := by decide +kernel
theorem dX2_isNothing_21 : decode cX2_isNothing 21 = .ok (.goto 4, 3) := by decide +kernel
theorem dX2_isNothing_24 : decode cX2_isNothing 24 = .ok (.iconst 0, 1) := by decide +kernel
theorem dX2_isNothing_25 : decode cX2_isNothing 25 = .ok (.istore_n 1, 1) := by decide +kernel
theorem dX2_isNothing_26 : decode cX2_isNothing 26 = .ok (.iinc 2 1, 3) := by decide +kernel
theorem dX2_isNothing_29 : decode cX2_isNothing 29 = .ok (.goto (-25), 3) := by decide +kernel
theorem dX2_isNothing_32 : decode cX2_isNothing 32 = .ok (.iload_n 1, 1) := by decide +kernel
theorem dX2_isNothing_33 : decode cX2_isNothing 33 = .ok (.ireturn, 1) := by decide +kernel
abbrev cX2_enter : ByteArray := prog_4_method_24_code
def yX2_enter : MethodName := ⟨RX2, "enter", "(IIJ)I"⟩
theorem dX2_enter_0 : decode cX2_enter 0 = .ok (.iload_n 1, 1) := by decide +kernel
theorem dX2_enter_1 : decode cX2_enter 1 = .ok (.invokestatic 89, 3) := by decide +kernel
theorem dX2_enter_4 : decode cX2_enter 4 = .ok (.ifCond .eq 10, 3) := by decide +kernel
theorem dX2_enter_7 : decode cX2_enter 7 = .ok (.iload_n 2, 1) := by decide +kernel
theorem dX2_enter_8 : decode cX2_enter 8 = .ok (.invokestatic 33, 3) := by decide +kernel
theorem dX2_enter_11 : decode cX2_enter 11 = .ok (.ifCond .ne 5, 3) := by decide +kernel
theorem dX2_enter_14 : decode cX2_enter 14 = .ok (.iconst (-1), 1) := by decide +kernel
theorem dX2_enter_15 : decode cX2_enter 15 = .ok (.ireturn, 1) := by decide +kernel
theorem dX2_enter_16 : decode cX2_enter 16 = .ok (.aload_n 0, 1) := by decide +kernel
theorem dX2_enter_17 : decode cX2_enter 17 = .ok (.getfield 7, 3) := by decide +kernel
theorem dX2_enter_20 : decode cX2_enter 20 = .ok (.iload_n 2, 1) := by decide +kernel
theorem dX2_enter_21 : decode cX2_enter 21 = .ok (.laload, 1) := by decide +kernel
theorem dX2_enter_22 : decode cX2_enter 22 = .ok (.aload_n 0, 1) := by decide +kernel
theorem dX2_enter_23 : decode cX2_enter 23 = .ok (.getfield 21, 3) := by decide +kernel
theorem dX2_enter_26 : decode cX2_enter 26 = .ok (.invokestatic 63, 3) := by decide +kernel
theorem dX2_enter_29 : decode cX2_enter 29 = .ok (.lload_n 3, 1) := by decide +kernel
theorem dX2_enter_30 : decode cX2_enter 30 = .ok (.aload_n 0, 1) := by decide +kernel
theorem dX2_enter_31 : decode cX2_enter 31 = .ok (.getfield 24, 3) := by decide +kernel
theorem dX2_enter_34 : decode cX2_enter 34 = .ok (.invokestatic 63, 3) := by decide +kernel
theorem dX2_enter_37 : decode cX2_enter 37 = .ok (.aload_n 0, 1) := by decide +kernel
theorem dX2_enter_38 : decode cX2_enter 38 = .ok (.invokevirtual 79, 3) := by decide +kernel
theorem dX2_enter_41 : decode cX2_enter 41 = .ok (.aload_n 0, 1) := by decide +kernel
theorem dX2_enter_42 : decode cX2_enter 42 = .ok (.getfield 21, 3) := by decide +kernel
theorem dX2_enter_45 : decode cX2_enter 45 = .ok (.aload_n 0, 1) := by decide +kernel
theorem dX2_enter_46 : decode cX2_enter 46 = .ok (.getfield 27, 3) := by decide +kernel
theorem dX2_enter_49 : decode cX2_enter 49 = .ok (.invokestatic 43, 3) := by decide +kernel
theorem dX2_enter_52 : decode cX2_enter 52 = .ok (.aload_n 0, 1) := by decide +kernel
theorem dX2_enter_53 : decode cX2_enter 53 = .ok (.iload_n 1, 1) := by decide +kernel
theorem dX2_enter_54 : decode cX2_enter 54 = .ok (.invokevirtual 92, 3) := by decide +kernel
theorem dX2_enter_57 : decode cX2_enter 57 = .ok (.aload_n 0, 1) := by decide +kernel
theorem dX2_enter_58 : decode cX2_enter 58 = .ok (.aload_n 0, 1) := by decide +kernel
theorem dX2_enter_59 : decode cX2_enter 59 = .ok (.getfield 7, 3) := by decide +kernel
theorem dX2_enter_62 : decode cX2_enter 62 = .ok (.iload_n 2, 1) := by decide +kernel
theorem dX2_enter_63 : decode cX2_enter 63 = .ok (.laload, 1) := by decide +kernel
theorem dX2_enter_64 : decode cX2_enter 64 = .ok (.lconst 0, 1) := by decide +kernel
theorem dX2_enter_65 : decode cX2_enter 65 = .ok (.lcmp, 1) := by decide +kernel
theorem dX2_enter_66 : decode cX2_enter 66 = .ok (.ifCond .ge 7, 3) := by decide +kernel
theorem dX2_enter_69 : decode cX2_enter 69 = .ok (.iconst 1, 1) := by decide +kernel
theorem dX2_enter_70 : decode cX2_enter 70 = .ok (.goto 4, 3) := by decide +kernel
theorem dX2_enter_73 : decode cX2_enter 73 = .ok (.iconst 0, 1) := by decide +kernel
theorem dX2_enter_74 : decode cX2_enter 74 = .ok (.lload_n 3, 1) := by decide +kernel
theorem dX2_enter_75 : decode cX2_enter 75 = .ok (.lconst 0, 1) := by decide +kernel
theorem dX2_enter_76 : decode cX2_enter 76 = .ok (.lcmp, 1) := by decide +kernel
theorem dX2_enter_77 : decode cX2_enter 77 = .ok (.ifCond .ge 7, 3) := by decide +kernel
theorem dX2_enter_80 : decode cX2_enter 80 = .ok (.iconst 1, 1) := by decide +kernel
theorem dX2_enter_81 : decode cX2_enter 81 = .ok (.goto 4, 3) := by decide +kernel
theorem dX2_enter_84 : decode cX2_enter 84 = .ok (.iconst 0, 1) := by decide +kernel
theorem dX2_enter_85 : decode cX2_enter 85 = .ok (.if_icmp .eq 7, 3) := by decide +kernel
theorem dX2_enter_88 : decode cX2_enter 88 = .ok (.iconst 1, 1) := by decide +kernel
theorem dX2_enter_89 : decode cX2_enter 89 = .ok (.goto 4, 3) := by decide +kernel
theorem dX2_enter_92 : decode cX2_enter 92 = .ok (.iconst 0, 1) := by decide +kernel
theorem dX2_enter_93 : decode cX2_enter 93 = .ok (.invokevirtual 67, 3) := by decide +kernel
theorem dX2_enter_96 : decode cX2_enter 96 = .ok (.aload_n 0, 1) := by decide +kernel
theorem dX2_enter_97 : decode cX2_enter 97 = .ok (.iload_n 1, 1) := by decide +kernel
theorem dX2_enter_98 : decode cX2_enter 98 = .ok (.invokevirtual 96, 3) := by decide +kernel
theorem dX2_enter_101 : decode cX2_enter 101 = .ok (.ireturn, 1) := by decide +kernel
abbrev cX2_isTally : ByteArray := prog_4_method_3_code
def yX2_isTally : MethodName := ⟨RX2, "isTally", "(I)Z"⟩
theorem dX2_isTally_0 : decode cX2_isTally 0 = .ok (.iload_n 0, 1) := by decide +kernel
theorem dX2_isTally_1 : decode cX2_isTally 1 = .ok (.ifCond .lt 12, 3) := by decide +kernel
theorem dX2_isTally_4 : decode cX2_isTally 4 = .ok (.iload_n 0, 1) := by decide +kernel
theorem dX2_isTally_5 : decode cX2_isTally 5 = .ok (.iconst 4, 1) := by decide +kernel
theorem dX2_isTally_6 : decode cX2_isTally 6 = .ok (.if_icmp .ge 7, 3) := by decide +kernel
theorem dX2_isTally_9 : decode cX2_isTally 9 = .ok (.iconst 1, 1) := by decide +kernel
theorem dX2_isTally_10 : decode cX2_isTally 10 = .ok (.goto 4, 3) := by decide +kernel
theorem dX2_isTally_13 : decode cX2_isTally 13 = .ok (.iconst 0, 1) := by decide +kernel
theorem dX2_isTally_14 : decode cX2_isTally 14 = .ok (.ireturn, 1) := by decide +kernel
abbrev cX2_read : ByteArray := prog_4_method_22_code
def yX2_read : MethodName := ⟨RX2, "read", "(I)V"⟩
theorem dX2_read_0 : decode cX2_read 0 = .ok (.iconst 0, 1) := by decide +kernel
theorem dX2_read_1 : decode cX2_read 1 = .ok (.istore_n 2, 1) := by decide +kernel
theorem dX2_read_2 : decode cX2_read 2 = .ok (.iload_n 2, 1) := by decide +kernel
theorem dX2_read_3 : decode cX2_read 3 = .ok (.bipush 80, 2) := by decide +kernel
theorem dX2_read_5 : decode cX2_read 5 = .ok (.if_icmp .ge 36, 3) := by decide +kernel
theorem dX2_read_8 : decode cX2_read 8 = .ok (.aload_n 0, 1) := by decide +kernel
theorem dX2_read_9 : decode cX2_read 9 = .ok (.getfield 21, 3) := by decide +kernel
theorem dX2_read_12 : decode cX2_read 12 = .ok (.iload_n 2, 1) := by decide +kernel
theorem dX2_read_13 : decode cX2_read 13 = .ok (.iload_n 2, 1) := by decide +kernel
theorem dX2_read_14 : decode cX2_read 14 = .ok (.bipush 36, 2) := by decide +kernel
theorem dX2_read_16 : decode cX2_read 16 = .ok (.if_icmp .ge 17, 3) := by decide +kernel
theorem dX2_read_19 : decode cX2_read 19 = .ok (.aload_n 0, 1) := by decide +kernel
theorem dX2_read_20 : decode cX2_read 20 = .ok (.getfield 13, 3) := by decide +kernel
theorem dX2_read_23 : decode cX2_read 23 = .ok (.bipush 40, 2) := by decide +kernel
theorem dX2_read_25 : decode cX2_read 25 = .ok (.iload_n 1, 1) := by decide +kernel
theorem dX2_read_26 : decode cX2_read 26 = .ok (.imul, 1) := by decide +kernel
theorem dX2_read_27 : decode cX2_read 27 = .ok (.iload_n 2, 1) := by decide +kernel
theorem dX2_read_28 : decode cX2_read 28 = .ok (.iadd, 1) := by decide +kernel
theorem dX2_read_29 : decode cX2_read 29 = .ok (.iaload, 1) := by decide +kernel
theorem dX2_read_30 : decode cX2_read 30 = .ok (.goto 4, 3) := by decide +kernel
theorem dX2_read_33 : decode cX2_read 33 = .ok (.iconst 0, 1) := by decide +kernel
theorem dX2_read_34 : decode cX2_read 34 = .ok (.iastore, 1) := by decide +kernel
theorem dX2_read_35 : decode cX2_read 35 = .ok (.iinc 2 1, 3) := by decide +kernel
theorem dX2_read_38 : decode cX2_read 38 = .ok (.goto (-36), 3) := by decide +kernel
theorem dX2_read_41 : decode cX2_read 41 = .ok (.aload_n 0, 1) := by decide +kernel
theorem dX2_read_42 : decode cX2_read 42 = .ok (.aload_n 0, 1) := by decide +kernel
theorem dX2_read_43 : decode cX2_read 43 = .ok (.getfield 17, 3) := by decide +kernel
theorem dX2_read_46 : decode cX2_read 46 = .ok (.iload_n 1, 1) := by decide +kernel
theorem dX2_read_47 : decode cX2_read 47 = .ok (.baload, 1) := by decide +kernel
theorem dX2_read_48 : decode cX2_read 48 = .ok (.putfield 54, 3) := by decide +kernel
theorem dX2_read_51 : decode cX2_read 51 = .ok (.return_, 1) := by decide +kernel
abbrev cX2_keep : ByteArray := prog_4_method_23_code
def yX2_keep : MethodName := ⟨RX2, "keep", "(I)I"⟩
theorem dX2_keep_0 : decode cX2_keep 0 = .ok (.iconst 0, 1) := by decide +kernel
theorem dX2_keep_1 : decode cX2_keep 1 = .ok (.istore_n 2, 1) := by decide +kernel
theorem dX2_keep_2 : decode cX2_keep 2 = .ok (.bipush 36, 2) := by decide +kernel
theorem dX2_keep_4 : decode cX2_keep 4 = .ok (.istore_n 3, 1) := by decide +kernel
theorem dX2_keep_5 : decode cX2_keep 5 = .ok (.iload_n 3, 1) := by decide +kernel
theorem dX2_keep_6 : decode cX2_keep 6 = .ok (.bipush 80, 2) := by decide +kernel
theorem dX2_keep_8 : decode cX2_keep 8 = .ok (.if_icmp .ge 28, 3) := by decide +kernel
theorem dX2_keep_11 : decode cX2_keep 11 = .ok (.iload_n 2, 1) := by decide +kernel
theorem dX2_keep_12 : decode cX2_keep 12 = .ok (.ifCond .ne 12, 3) := by decide +kernel
theorem dX2_keep_15 : decode cX2_keep 15 = .ok (.aload_n 0, 1) := by decide +kernel
theorem dX2_keep_16 : decode cX2_keep 16 = .ok (.getfield 21, 3) := by decide +kernel
theorem dX2_keep_19 : decode cX2_keep 19 = .ok (.iload_n 3, 1) := by decide +kernel
theorem dX2_keep_20 : decode cX2_keep 20 = .ok (.iaload, 1) := by decide +kernel
theorem dX2_keep_21 : decode cX2_keep 21 = .ok (.ifCond .le 7, 3) := by decide +kernel
theorem dX2_keep_24 : decode cX2_keep 24 = .ok (.iconst 1, 1) := by decide +kernel
theorem dX2_keep_25 : decode cX2_keep 25 = .ok (.goto 4, 3) := by decide +kernel
theorem dX2_keep_28 : decode cX2_keep 28 = .ok (.iconst 0, 1) := by decide +kernel
theorem dX2_keep_29 : decode cX2_keep 29 = .ok (.istore_n 2, 1) := by decide +kernel
theorem dX2_keep_30 : decode cX2_keep 30 = .ok (.iinc 3 1, 3) := by decide +kernel
theorem dX2_keep_33 : decode cX2_keep 33 = .ok (.goto (-28), 3) := by decide +kernel
theorem dX2_keep_36 : decode cX2_keep 36 = .ok (.iload_n 2, 1) := by decide +kernel
theorem dX2_keep_37 : decode cX2_keep 37 = .ok (.ifCond .eq 16, 3) := by decide +kernel
theorem dX2_keep_40 : decode cX2_keep 40 = .ok (.aload_n 0, 1) := by decide +kernel
theorem dX2_keep_41 : decode cX2_keep 41 = .ok (.getfield 54, 3) := by decide +kernel
theorem dX2_keep_44 : decode cX2_keep 44 = .ok (.ifCond .eq 7, 3) := by decide +kernel
theorem dX2_keep_47 : decode cX2_keep 47 = .ok (.iconst 2, 1) := by decide +kernel
theorem dX2_keep_48 : decode cX2_keep 48 = .ok (.goto 4, 3) := by decide +kernel
theorem dX2_keep_51 : decode cX2_keep 51 = .ok (.iconst 1, 1) := by decide +kernel
theorem dX2_keep_52 : decode cX2_keep 52 = .ok (.ireturn, 1) := by decide +kernel
theorem dX2_keep_53 : decode cX2_keep 53 = .ok (.iconst 0, 1) := by decide +kernel
theorem dX2_keep_54 : decode cX2_keep 54 = .ok (.istore_n 3, 1) := by decide +kernel
theorem dX2_keep_55 : decode cX2_keep 55 = .ok (.iload_n 3, 1) := by decide +kernel
theorem dX2_keep_56 : decode cX2_keep 56 = .ok (.bipush 36, 2) := by decide +kernel
theorem dX2_keep_58 : decode cX2_keep 58 = .ok (.if_icmp .ge 26, 3) := by decide +kernel
theorem dX2_keep_61 : decode cX2_keep 61 = .ok (.aload_n 0, 1) := by decide +kernel
theorem dX2_keep_62 : decode cX2_keep 62 = .ok (.getfield 13, 3) := by decide +kernel
theorem dX2_keep_65 : decode cX2_keep 65 = .ok (.bipush 40, 2) := by decide +kernel
theorem dX2_keep_67 : decode cX2_keep 67 = .ok (.iload_n 1, 1) := by decide +kernel
theorem dX2_keep_68 : decode cX2_keep 68 = .ok (.imul, 1) := by decide +kernel
theorem dX2_keep_69 : decode cX2_keep 69 = .ok (.iload_n 3, 1) := by decide +kernel
theorem dX2_keep_70 : decode cX2_keep 70 = .ok (.iadd, 1) := by decide +kernel
theorem dX2_keep_71 : decode cX2_keep 71 = .ok (.aload_n 0, 1) := by decide +kernel
theorem dX2_keep_72 : decode cX2_keep 72 = .ok (.getfield 21, 3) := by decide +kernel
theorem dX2_keep_75 : decode cX2_keep 75 = .ok (.iload_n 3, 1) := by decide +kernel
theorem dX2_keep_76 : decode cX2_keep 76 = .ok (.iaload, 1) := by decide +kernel
theorem dX2_keep_77 : decode cX2_keep 77 = .ok (.iastore, 1) := by decide +kernel
theorem dX2_keep_78 : decode cX2_keep 78 = .ok (.iinc 3 1, 3) := by decide +kernel
theorem dX2_keep_81 : decode cX2_keep 81 = .ok (.goto (-26), 3) := by decide +kernel
theorem dX2_keep_84 : decode cX2_keep 84 = .ok (.aload_n 0, 1) := by decide +kernel
theorem dX2_keep_85 : decode cX2_keep 85 = .ok (.getfield 17, 3) := by decide +kernel
theorem dX2_keep_88 : decode cX2_keep 88 = .ok (.iload_n 1, 1) := by decide +kernel
theorem dX2_keep_89 : decode cX2_keep 89 = .ok (.aload_n 0, 1) := by decide +kernel
theorem dX2_keep_90 : decode cX2_keep 90 = .ok (.getfield 54, 3) := by decide +kernel
theorem dX2_keep_93 : decode cX2_keep 93 = .ok (.ifCond .eq 17, 3) := by decide +kernel
theorem dX2_keep_96 : decode cX2_keep 96 = .ok (.aload_n 0, 1) := by decide +kernel
theorem dX2_keep_97 : decode cX2_keep 97 = .ok (.getfield 21, 3) := by decide +kernel
theorem dX2_keep_100 : decode cX2_keep 100 = .ok (.invokestatic 85, 3) := by decide +kernel
theorem dX2_keep_103 : decode cX2_keep 103 = .ok (.ifCond .ne 7, 3) := by decide +kernel
theorem dX2_keep_106 : decode cX2_keep 106 = .ok (.iconst 1, 1) := by decide +kernel
theorem dX2_keep_107 : decode cX2_keep 107 = .ok (.goto 4, 3) := by decide +kernel
theorem dX2_keep_110 : decode cX2_keep 110 = .ok (.iconst 0, 1) := by decide +kernel
theorem dX2_keep_111 : decode cX2_keep 111 = .ok (.bastore, 1) := by decide +kernel
theorem dX2_keep_112 : decode cX2_keep 112 = .ok (.iconst 0, 1) := by decide +kernel
theorem dX2_keep_113 : decode cX2_keep 113 = .ok (.ireturn, 1) := by decide +kernel
abbrev cX2_merge : ByteArray := prog_4_method_25_code
def yX2_merge : MethodName := ⟨RX2, "merge", "(II)I"⟩
theorem dX2_merge_0 : decode cX2_merge 0 = .ok (.iload_n 1, 1) := by decide +kernel
theorem dX2_merge_1 : decode cX2_merge 1 = .ok (.invokestatic 89, 3) := by decide +kernel
theorem dX2_merge_4 : decode cX2_merge 4 = .ok (.ifCond .eq 10, 3) := by decide +kernel
theorem dX2_merge_7 : decode cX2_merge 7 = .ok (.iload_n 2, 1) := by decide +kernel
theorem dX2_merge_8 : decode cX2_merge 8 = .ok (.invokestatic 89, 3) := by decide +kernel
theorem dX2_merge_11 : decode cX2_merge 11 = .ok (.ifCond .ne 5, 3) := by decide +kernel
theorem dX2_merge_14 : decode cX2_merge 14 = .ok (.iconst (-1), 1) := by decide +kernel
theorem dX2_merge_15 : decode cX2_merge 15 = .ok (.ireturn, 1) := by decide +kernel
theorem dX2_merge_16 : decode cX2_merge 16 = .ok (.aload_n 0, 1) := by decide +kernel
theorem dX2_merge_17 : decode cX2_merge 17 = .ok (.iload_n 2, 1) := by decide +kernel
theorem dX2_merge_18 : decode cX2_merge 18 = .ok (.invokevirtual 92, 3) := by decide +kernel
theorem dX2_merge_21 : decode cX2_merge 21 = .ok (.aload_n 0, 1) := by decide +kernel
theorem dX2_merge_22 : decode cX2_merge 22 = .ok (.getfield 21, 3) := by decide +kernel
theorem dX2_merge_25 : decode cX2_merge 25 = .ok (.aload_n 0, 1) := by decide +kernel
theorem dX2_merge_26 : decode cX2_merge 26 = .ok (.getfield 27, 3) := by decide +kernel
theorem dX2_merge_29 : decode cX2_merge 29 = .ok (.invokestatic 43, 3) := by decide +kernel
theorem dX2_merge_32 : decode cX2_merge 32 = .ok (.aload_n 0, 1) := by decide +kernel
theorem dX2_merge_33 : decode cX2_merge 33 = .ok (.iload_n 1, 1) := by decide +kernel
theorem dX2_merge_34 : decode cX2_merge 34 = .ok (.invokevirtual 92, 3) := by decide +kernel
theorem dX2_merge_37 : decode cX2_merge 37 = .ok (.aload_n 0, 1) := by decide +kernel
theorem dX2_merge_38 : decode cX2_merge 38 = .ok (.aload_n 0, 1) := by decide +kernel
theorem dX2_merge_39 : decode cX2_merge 39 = .ok (.getfield 17, 3) := by decide +kernel
theorem dX2_merge_42 : decode cX2_merge 42 = .ok (.iload_n 2, 1) := by decide +kernel
theorem dX2_merge_43 : decode cX2_merge 43 = .ok (.baload, 1) := by decide +kernel
theorem dX2_merge_44 : decode cX2_merge 44 = .ok (.invokevirtual 67, 3) := by decide +kernel
theorem dX2_merge_47 : decode cX2_merge 47 = .ok (.aload_n 0, 1) := by decide +kernel
theorem dX2_merge_48 : decode cX2_merge 48 = .ok (.iload_n 1, 1) := by decide +kernel
theorem dX2_merge_49 : decode cX2_merge 49 = .ok (.invokevirtual 96, 3) := by decide +kernel
theorem dX2_merge_52 : decode cX2_merge 52 = .ok (.ireturn, 1) := by decide +kernel
abbrev cX2_split : ByteArray := prog_4_method_26_code
def yX2_split : MethodName := ⟨RX2, "split", "(IJI)I"⟩
theorem dX2_split_0 : decode cX2_split 0 = .ok (.iload_n 1, 1) := by decide +kernel
theorem dX2_split_1 : decode cX2_split 1 = .ok (.invokestatic 89, 3) := by decide +kernel
theorem dX2_split_4 : decode cX2_split 4 = .ok (.ifCond .eq 25, 3) := by decide +kernel
theorem dX2_split_7 : decode cX2_split 7 = .ok (.iload 4, 2) := by decide +kernel
theorem dX2_split_9 : decode cX2_split 9 = .ok (.invokestatic 33, 3) := by decide +kernel
theorem dX2_split_12 : decode cX2_split 12 = .ok (.ifCond .eq 17, 3) := by decide +kernel
theorem dX2_split_15 : decode cX2_split 15 = .ok (.lload_n 2, 1) := by decide +kernel
theorem dX2_split_16 : decode cX2_split 16 = .ok (.lconst 0, 1) := by decide +kernel
theorem dX2_split_17 : decode cX2_split 17 = .ok (.lcmp, 1) := by decide +kernel
theorem dX2_split_18 : decode cX2_split 18 = .ok (.ifCond .lt 11, 3) := by decide +kernel
theorem dX2_split_21 : decode cX2_split 21 = .ok (.lload_n 2, 1) := by decide +kernel
theorem dX2_split_22 : decode cX2_split 22 = .ok (.ldc2_w 99, 3) := by decide +kernel
theorem dX2_split_25 : decode cX2_split 25 = .ok (.lcmp, 1) := by decide +kernel
theorem dX2_split_26 : decode cX2_split 26 = .ok (.ifCond .le 5, 3) := by decide +kernel
theorem dX2_split_29 : decode cX2_split 29 = .ok (.iconst (-1), 1) := by decide +kernel
theorem dX2_split_30 : decode cX2_split 30 = .ok (.ireturn, 1) := by decide +kernel
theorem dX2_split_31 : decode cX2_split 31 = .ok (.lload_n 2, 1) := by decide +kernel
theorem dX2_split_32 : decode cX2_split 32 = .ok (.lconst 0, 1) := by decide +kernel
theorem dX2_split_33 : decode cX2_split 33 = .ok (.lcmp, 1) := by decide +kernel
theorem dX2_split_34 : decode cX2_split 34 = .ok (.ifCond .ne 5, 3) := by decide +kernel
theorem dX2_split_37 : decode cX2_split 37 = .ok (.iconst 3, 1) := by decide +kernel
theorem dX2_split_38 : decode cX2_split 38 = .ok (.ireturn, 1) := by decide +kernel
theorem dX2_split_39 : decode cX2_split 39 = .ok (.aload_n 0, 1) := by decide +kernel
theorem dX2_split_40 : decode cX2_split 40 = .ok (.iload_n 1, 1) := by decide +kernel
theorem dX2_split_41 : decode cX2_split 41 = .ok (.invokevirtual 92, 3) := by decide +kernel
theorem dX2_split_44 : decode cX2_split 44 = .ok (.lload_n 2, 1) := by decide +kernel
theorem dX2_split_45 : decode cX2_split 45 = .ok (.aload_n 0, 1) := by decide +kernel
theorem dX2_split_46 : decode cX2_split 46 = .ok (.getfield 24, 3) := by decide +kernel
theorem dX2_split_49 : decode cX2_split 49 = .ok (.invokestatic 63, 3) := by decide +kernel
theorem dX2_split_52 : decode cX2_split 52 = .ok (.aload_n 0, 1) := by decide +kernel
theorem dX2_split_53 : decode cX2_split 53 = .ok (.invokevirtual 82, 3) := by decide +kernel
theorem dX2_split_56 : decode cX2_split 56 = .ok (.lconst 0, 1) := by decide +kernel
theorem dX2_split_57 : decode cX2_split 57 = .ok (.lstore 5, 2) := by decide +kernel
theorem dX2_split_59 : decode cX2_split 59 = .ok (.bipush 19, 2) := by decide +kernel
theorem dX2_split_61 : decode cX2_split 61 = .ok (.istore 7, 2) := by decide +kernel
theorem dX2_split_63 : decode cX2_split 63 = .ok (.iload 7, 2) := by decide +kernel
theorem dX2_split_65 : decode cX2_split 65 = .ok (.ifCond .lt 26, 3) := by decide +kernel
theorem dX2_split_68 : decode cX2_split 68 = .ok (.ldc2_w 37, 3) := by decide +kernel
theorem dX2_split_71 : decode cX2_split 71 = .ok (.lload 5, 2) := by decide +kernel
theorem dX2_split_73 : decode cX2_split 73 = .ok (.lmul, 1) := by decide +kernel
theorem dX2_split_74 : decode cX2_split 74 = .ok (.aload_n 0, 1) := by decide +kernel
theorem dX2_split_75 : decode cX2_split 75 = .ok (.getfield 30, 3) := by decide +kernel
theorem dX2_split_78 : decode cX2_split 78 = .ok (.iload 7, 2) := by decide +kernel
theorem dX2_split_80 : decode cX2_split 80 = .ok (.iaload, 1) := by decide +kernel
theorem dX2_split_81 : decode cX2_split 81 = .ok (.i2l, 1) := by decide +kernel
theorem dX2_split_82 : decode cX2_split 82 = .ok (.ladd, 1) := by decide +kernel
theorem dX2_split_83 : decode cX2_split 83 = .ok (.lstore 5, 2) := by decide +kernel
theorem dX2_split_85 : decode cX2_split 85 = .ok (.iinc 7 (-1), 3) := by decide +kernel
theorem dX2_split_88 : decode cX2_split 88 = .ok (.goto (-25), 3) := by decide +kernel
theorem dX2_split_91 : decode cX2_split 91 = .ok (.aload_n 0, 1) := by decide +kernel
theorem dX2_split_92 : decode cX2_split 92 = .ok (.getfield 7, 3) := by decide +kernel
theorem dX2_split_95 : decode cX2_split 95 = .ok (.iload 4, 2) := by decide +kernel
theorem dX2_split_97 : decode cX2_split 97 = .ok (.aload_n 0, 1) := by decide +kernel
theorem dX2_split_98 : decode cX2_split 98 = .ok (.getfield 54, 3) := by decide +kernel
theorem dX2_split_101 : decode cX2_split 101 = .ok (.ifCond .eq 9, 3) := by decide +kernel
theorem dX2_split_104 : decode cX2_split 104 = .ok (.lload 5, 2) := by decide +kernel
theorem dX2_split_106 : decode cX2_split 106 = .ok (.lneg, 1) := by decide +kernel
theorem dX2_split_107 : decode cX2_split 107 = .ok (.goto 5, 3) := by decide +kernel
theorem dX2_split_110 : decode cX2_split 110 = .ok (.lload 5, 2) := by decide +kernel
theorem dX2_split_112 : decode cX2_split 112 = .ok (.lastore, 1) := by decide +kernel
theorem dX2_split_113 : decode cX2_split 113 = .ok (.aload_n 0, 1) := by decide +kernel
theorem dX2_split_114 : decode cX2_split 114 = .ok (.iload_n 1, 1) := by decide +kernel
theorem dX2_split_115 : decode cX2_split 115 = .ok (.invokevirtual 96, 3) := by decide +kernel
theorem dX2_split_118 : decode cX2_split 118 = .ok (.ireturn, 1) := by decide +kernel
abbrev cX2_take : ByteArray := prog_4_method_27_code
def yX2_take : MethodName := ⟨RX2, "take", "(II)I"⟩
theorem dX2_take_0 : decode cX2_take 0 = .ok (.iload_n 1, 1) := by decide +kernel
theorem dX2_take_1 : decode cX2_take 1 = .ok (.invokestatic 89, 3) := by decide +kernel
theorem dX2_take_4 : decode cX2_take 4 = .ok (.ifCond .eq 10, 3) := by decide +kernel
theorem dX2_take_7 : decode cX2_take 7 = .ok (.iload_n 2, 1) := by decide +kernel
theorem dX2_take_8 : decode cX2_take 8 = .ok (.invokestatic 33, 3) := by decide +kernel
theorem dX2_take_11 : decode cX2_take 11 = .ok (.ifCond .ne 5, 3) := by decide +kernel
theorem dX2_take_14 : decode cX2_take 14 = .ok (.iconst (-1), 1) := by decide +kernel
theorem dX2_take_15 : decode cX2_take 15 = .ok (.ireturn, 1) := by decide +kernel
theorem dX2_take_16 : decode cX2_take 16 = .ok (.aload_n 0, 1) := by decide +kernel
theorem dX2_take_17 : decode cX2_take 17 = .ok (.iload_n 1, 1) := by decide +kernel
theorem dX2_take_18 : decode cX2_take 18 = .ok (.invokevirtual 92, 3) := by decide +kernel
theorem dX2_take_21 : decode cX2_take 21 = .ok (.aload_n 0, 1) := by decide +kernel
theorem dX2_take_22 : decode cX2_take 22 = .ok (.iload_n 2, 1) := by decide +kernel
theorem dX2_take_23 : decode cX2_take 23 = .ok (.invokevirtual 71, 3) := by decide +kernel
theorem dX2_take_26 : decode cX2_take 26 = .ok (.ireturn, 1) := by decide +kernel
abbrev cX2_clear : ByteArray := prog_4_method_28_code
def yX2_clear : MethodName := ⟨RX2, "clear", "(I)Z"⟩
theorem dX2_clear_0 : decode cX2_clear 0 = .ok (.iconst 0, 1) := by decide +kernel
theorem dX2_clear_1 : decode cX2_clear 1 = .ok (.istore_n 2, 1) := by decide +kernel
theorem dX2_clear_2 : decode cX2_clear 2 = .ok (.iload_n 2, 1) := by decide +kernel
theorem dX2_clear_3 : decode cX2_clear 3 = .ok (.bipush 40, 2) := by decide +kernel
theorem dX2_clear_5 : decode cX2_clear 5 = .ok (.if_icmp .ge 28, 3) := by decide +kernel
theorem dX2_clear_8 : decode cX2_clear 8 = .ok (.iload_n 1, 1) := by decide +kernel
theorem dX2_clear_9 : decode cX2_clear 9 = .ok (.invokestatic 89, 3) := by decide +kernel
theorem dX2_clear_12 : decode cX2_clear 12 = .ok (.ifCond .eq 21, 3) := by decide +kernel
theorem dX2_clear_15 : decode cX2_clear 15 = .ok (.aload_n 0, 1) := by decide +kernel
theorem dX2_clear_16 : decode cX2_clear 16 = .ok (.getfield 13, 3) := by decide +kernel
theorem dX2_clear_19 : decode cX2_clear 19 = .ok (.bipush 40, 2) := by decide +kernel
theorem dX2_clear_21 : decode cX2_clear 21 = .ok (.iload_n 1, 1) := by decide +kernel
theorem dX2_clear_22 : decode cX2_clear 22 = .ok (.imul, 1) := by decide +kernel
theorem dX2_clear_23 : decode cX2_clear 23 = .ok (.iload_n 2, 1) := by decide +kernel
theorem dX2_clear_24 : decode cX2_clear 24 = .ok (.iadd, 1) := by decide +kernel
theorem dX2_clear_25 : decode cX2_clear 25 = .ok (.iconst 0, 1) := by decide +kernel
theorem dX2_clear_26 : decode cX2_clear 26 = .ok (.iastore, 1) := by decide +kernel
theorem dX2_clear_27 : decode cX2_clear 27 = .ok (.iinc 2 1, 3) := by decide +kernel
theorem dX2_clear_30 : decode cX2_clear 30 = .ok (.goto (-28), 3) := by decide +kernel
theorem dX2_clear_33 : decode cX2_clear 33 = .ok (.iload_n 1, 1) := by decide +kernel
theorem dX2_clear_34 : decode cX2_clear 34 = .ok (.invokestatic 89, 3) := by decide +kernel
theorem dX2_clear_37 : decode cX2_clear 37 = .ok (.ifCond .eq 10, 3) := by decide +kernel
theorem dX2_clear_40 : decode cX2_clear 40 = .ok (.aload_n 0, 1) := by decide +kernel
theorem dX2_clear_41 : decode cX2_clear 41 = .ok (.getfield 17, 3) := by decide +kernel
theorem dX2_clear_44 : decode cX2_clear 44 = .ok (.iload_n 1, 1) := by decide +kernel
theorem dX2_clear_45 : decode cX2_clear 45 = .ok (.iconst 0, 1) := by decide +kernel
theorem dX2_clear_46 : decode cX2_clear 46 = .ok (.bastore, 1) := by decide +kernel
theorem dX2_clear_47 : decode cX2_clear 47 = .ok (.iload_n 1, 1) := by decide +kernel
theorem dX2_clear_48 : decode cX2_clear 48 = .ok (.invokestatic 89, 3) := by decide +kernel
theorem dX2_clear_51 : decode cX2_clear 51 = .ok (.ireturn, 1) := by decide +kernel
abbrev cX2_compare : ByteArray := prog_4_method_29_code
def yX2_compare : MethodName := ⟨RX2, "compare", "(II)I"⟩
theorem dX2_compare_0 : decode cX2_compare 0 = .ok (.iload_n 1, 1) := by decide +kernel
theorem dX2_compare_1 : decode cX2_compare 1 = .ok (.invokestatic 89, 3) := by decide +kernel
theorem dX2_compare_4 : decode cX2_compare 4 = .ok (.ifCond .eq 10, 3) := by decide +kernel
theorem dX2_compare_7 : decode cX2_compare 7 = .ok (.iload_n 2, 1) := by decide +kernel
theorem dX2_compare_8 : decode cX2_compare 8 = .ok (.invokestatic 89, 3) := by decide +kernel
theorem dX2_compare_11 : decode cX2_compare 11 = .ok (.ifCond .ne 6, 3) := by decide +kernel
theorem dX2_compare_14 : decode cX2_compare 14 = .ok (.bipush (-2), 2) := by decide +kernel
theorem dX2_compare_16 : decode cX2_compare 16 = .ok (.ireturn, 1) := by decide +kernel
theorem dX2_compare_17 : decode cX2_compare 17 = .ok (.aload_n 0, 1) := by decide +kernel
theorem dX2_compare_18 : decode cX2_compare 18 = .ok (.iload_n 2, 1) := by decide +kernel
theorem dX2_compare_19 : decode cX2_compare 19 = .ok (.invokevirtual 92, 3) := by decide +kernel
theorem dX2_compare_22 : decode cX2_compare 22 = .ok (.aload_n 0, 1) := by decide +kernel
theorem dX2_compare_23 : decode cX2_compare 23 = .ok (.getfield 21, 3) := by decide +kernel
theorem dX2_compare_26 : decode cX2_compare 26 = .ok (.aload_n 0, 1) := by decide +kernel
theorem dX2_compare_27 : decode cX2_compare 27 = .ok (.getfield 27, 3) := by decide +kernel
theorem dX2_compare_30 : decode cX2_compare 30 = .ok (.invokestatic 43, 3) := by decide +kernel
theorem dX2_compare_33 : decode cX2_compare 33 = .ok (.aload_n 0, 1) := by decide +kernel
theorem dX2_compare_34 : decode cX2_compare 34 = .ok (.iload_n 1, 1) := by decide +kernel
theorem dX2_compare_35 : decode cX2_compare 35 = .ok (.invokevirtual 92, 3) := by decide +kernel
theorem dX2_compare_38 : decode cX2_compare 38 = .ok (.aload_n 0, 1) := by decide +kernel
theorem dX2_compare_39 : decode cX2_compare 39 = .ok (.getfield 21, 3) := by decide +kernel
theorem dX2_compare_42 : decode cX2_compare 42 = .ok (.aload_n 0, 1) := by decide +kernel
theorem dX2_compare_43 : decode cX2_compare 43 = .ok (.getfield 27, 3) := by decide +kernel
theorem dX2_compare_46 : decode cX2_compare 46 = .ok (.invokestatic 47, 3) := by decide +kernel
theorem dX2_compare_49 : decode cX2_compare 49 = .ok (.istore_n 3, 1) := by decide +kernel
theorem dX2_compare_50 : decode cX2_compare 50 = .ok (.aload_n 0, 1) := by decide +kernel
theorem dX2_compare_51 : decode cX2_compare 51 = .ok (.getfield 17, 3) := by decide +kernel
theorem dX2_compare_54 : decode cX2_compare 54 = .ok (.iload_n 1, 1) := by decide +kernel
theorem dX2_compare_55 : decode cX2_compare 55 = .ok (.baload, 1) := by decide +kernel
theorem dX2_compare_56 : decode cX2_compare 56 = .ok (.aload_n 0, 1) := by decide +kernel
theorem dX2_compare_57 : decode cX2_compare 57 = .ok (.getfield 17, 3) := by decide +kernel
theorem dX2_compare_60 : decode cX2_compare 60 = .ok (.iload_n 2, 1) := by decide +kernel
theorem dX2_compare_61 : decode cX2_compare 61 = .ok (.baload, 1) := by decide +kernel
theorem dX2_compare_62 : decode cX2_compare 62 = .ok (.if_icmp .eq 20, 3) := by decide +kernel
theorem dX2_compare_65 : decode cX2_compare 65 = .ok (.aload_n 0, 1) := by decide +kernel
theorem dX2_compare_66 : decode cX2_compare 66 = .ok (.getfield 17, 3) := by decide +kernel
theorem dX2_compare_69 : decode cX2_compare 69 = .ok (.iload_n 1, 1) := by decide +kernel
theorem dX2_compare_70 : decode cX2_compare 70 = .ok (.baload, 1) := by decide +kernel
theorem dX2_compare_71 : decode cX2_compare 71 = .ok (.ifCond .eq 7, 3) := by decide +kernel
theorem dX2_compare_74 : decode cX2_compare 74 = .ok (.iconst (-1), 1) := by decide +kernel
theorem dX2_compare_75 : decode cX2_compare 75 = .ok (.goto 22, 3) := by decide +kernel
theorem dX2_compare_78 : decode cX2_compare 78 = .ok (.iconst 1, 1) := by decide +kernel
theorem dX2_compare_79 : decode cX2_compare 79 = .ok (.goto 18, 3) := by decide +kernel
theorem dX2_compare_82 : decode cX2_compare 82 = .ok (.aload_n 0, 1) := by decide +kernel
theorem dX2_compare_83 : decode cX2_compare 83 = .ok (.getfield 17, 3) := by decide +kernel
theorem dX2_compare_86 : decode cX2_compare 86 = .ok (.iload_n 1, 1) := by decide +kernel
theorem dX2_compare_87 : decode cX2_compare 87 = .ok (.baload, 1) := by decide +kernel
theorem dX2_compare_88 : decode cX2_compare 88 = .ok (.ifCond .eq 8, 3) := by decide +kernel
theorem dX2_compare_91 : decode cX2_compare 91 = .ok (.iload_n 3, 1) := by decide +kernel
theorem dX2_compare_92 : decode cX2_compare 92 = .ok (.ineg, 1) := by decide +kernel
theorem dX2_compare_93 : decode cX2_compare 93 = .ok (.goto 4, 3) := by decide +kernel
theorem dX2_compare_96 : decode cX2_compare 96 = .ok (.iload_n 3, 1) := by decide +kernel
theorem dX2_compare_97 : decode cX2_compare 97 = .ok (.ireturn, 1) := by decide +kernel
abbrev cX2_digits : ByteArray := prog_4_method_30_code
def yX2_digits : MethodName := ⟨RX2, "digits", "(I)I"⟩
theorem dX2_digits_0 : decode cX2_digits 0 = .ok (.iconst 1, 1) := by decide +kernel
theorem dX2_digits_1 : decode cX2_digits 1 = .ok (.istore_n 2, 1) := by decide +kernel
theorem dX2_digits_2 : decode cX2_digits 2 = .ok (.iconst 0, 1) := by decide +kernel
theorem dX2_digits_3 : decode cX2_digits 3 = .ok (.istore_n 3, 1) := by decide +kernel
theorem dX2_digits_4 : decode cX2_digits 4 = .ok (.iload_n 3, 1) := by decide +kernel
theorem dX2_digits_5 : decode cX2_digits 5 = .ok (.bipush 36, 2) := by decide +kernel
theorem dX2_digits_7 : decode cX2_digits 7 = .ok (.if_icmp .ge 38, 3) := by decide +kernel
theorem dX2_digits_10 : decode cX2_digits 10 = .ok (.iload_n 1, 1) := by decide +kernel
theorem dX2_digits_11 : decode cX2_digits 11 = .ok (.invokestatic 89, 3) := by decide +kernel
theorem dX2_digits_14 : decode cX2_digits 14 = .ok (.ifCond .eq 31, 3) := by decide +kernel
theorem dX2_digits_17 : decode cX2_digits 17 = .ok (.aload_n 0, 1) := by decide +kernel
theorem dX2_digits_18 : decode cX2_digits 18 = .ok (.getfield 13, 3) := by decide +kernel
theorem dX2_digits_21 : decode cX2_digits 21 = .ok (.bipush 40, 2) := by decide +kernel
theorem dX2_digits_23 : decode cX2_digits 23 = .ok (.iload_n 1, 1) := by decide +kernel
theorem dX2_digits_24 : decode cX2_digits 24 = .ok (.imul, 1) := by decide +kernel
theorem dX2_digits_25 : decode cX2_digits 25 = .ok (.iload_n 3, 1) := by decide +kernel
theorem dX2_digits_26 : decode cX2_digits 26 = .ok (.iadd, 1) := by decide +kernel
theorem dX2_digits_27 : decode cX2_digits 27 = .ok (.iaload, 1) := by decide +kernel
theorem dX2_digits_28 : decode cX2_digits 28 = .ok (.ifCond .le 9, 3) := by decide +kernel
theorem dX2_digits_31 : decode cX2_digits 31 = .ok (.iload_n 3, 1) := by decide +kernel
theorem dX2_digits_32 : decode cX2_digits 32 = .ok (.iconst 1, 1) := by decide +kernel
theorem dX2_digits_33 : decode cX2_digits 33 = .ok (.iadd, 1) := by decide +kernel
theorem dX2_digits_34 : decode cX2_digits 34 = .ok (.goto 4, 3) := by decide +kernel
theorem dX2_digits_37 : decode cX2_digits 37 = .ok (.iload_n 2, 1) := by decide +kernel
theorem dX2_digits_38 : decode cX2_digits 38 = .ok (.istore_n 2, 1) := by decide +kernel
theorem dX2_digits_39 : decode cX2_digits 39 = .ok (.iinc 3 1, 3) := by decide +kernel
theorem dX2_digits_42 : decode cX2_digits 42 = .ok (.goto (-38), 3) := by decide +kernel
theorem dX2_digits_45 : decode cX2_digits 45 = .ok (.iload_n 1, 1) := by decide +kernel
theorem dX2_digits_46 : decode cX2_digits 46 = .ok (.invokestatic 89, 3) := by decide +kernel
theorem dX2_digits_49 : decode cX2_digits 49 = .ok (.ifCond .ne 7, 3) := by decide +kernel
theorem dX2_digits_52 : decode cX2_digits 52 = .ok (.iconst 0, 1) := by decide +kernel
theorem dX2_digits_53 : decode cX2_digits 53 = .ok (.goto 18, 3) := by decide +kernel
theorem dX2_digits_56 : decode cX2_digits 56 = .ok (.aload_n 0, 1) := by decide +kernel
theorem dX2_digits_57 : decode cX2_digits 57 = .ok (.getfield 17, 3) := by decide +kernel
theorem dX2_digits_60 : decode cX2_digits 60 = .ok (.iload_n 1, 1) := by decide +kernel
theorem dX2_digits_61 : decode cX2_digits 61 = .ok (.baload, 1) := by decide +kernel
theorem dX2_digits_62 : decode cX2_digits 62 = .ok (.ifCond .eq 8, 3) := by decide +kernel
theorem dX2_digits_65 : decode cX2_digits 65 = .ok (.iload_n 2, 1) := by decide +kernel
theorem dX2_digits_66 : decode cX2_digits 66 = .ok (.ineg, 1) := by decide +kernel
theorem dX2_digits_67 : decode cX2_digits 67 = .ok (.goto 4, 3) := by decide +kernel
theorem dX2_digits_70 : decode cX2_digits 70 = .ok (.iload_n 2, 1) := by decide +kernel
theorem dX2_digits_71 : decode cX2_digits 71 = .ok (.ireturn, 1) := by decide +kernel
abbrev cX2_digit : ByteArray := prog_4_method_31_code
def yX2_digit : MethodName := ⟨RX2, "digit", "(II)I"⟩
theorem dX2_digit_0 : decode cX2_digit 0 = .ok (.iload_n 1, 1) := by decide +kernel
theorem dX2_digit_1 : decode cX2_digit 1 = .ok (.invokestatic 89, 3) := by decide +kernel
theorem dX2_digit_4 : decode cX2_digit 4 = .ok (.ifCond .eq 27, 3) := by decide +kernel
theorem dX2_digit_7 : decode cX2_digit 7 = .ok (.iload_n 2, 1) := by decide +kernel
theorem dX2_digit_8 : decode cX2_digit 8 = .ok (.ifCond .lt 23, 3) := by decide +kernel
theorem dX2_digit_11 : decode cX2_digit 11 = .ok (.iload_n 2, 1) := by decide +kernel
theorem dX2_digit_12 : decode cX2_digit 12 = .ok (.bipush 36, 2) := by decide +kernel
theorem dX2_digit_14 : decode cX2_digit 14 = .ok (.if_icmp .ge 17, 3) := by decide +kernel
theorem dX2_digit_17 : decode cX2_digit 17 = .ok (.aload_n 0, 1) := by decide +kernel
theorem dX2_digit_18 : decode cX2_digit 18 = .ok (.getfield 13, 3) := by decide +kernel
theorem dX2_digit_21 : decode cX2_digit 21 = .ok (.bipush 40, 2) := by decide +kernel
theorem dX2_digit_23 : decode cX2_digit 23 = .ok (.iload_n 1, 1) := by decide +kernel
theorem dX2_digit_24 : decode cX2_digit 24 = .ok (.imul, 1) := by decide +kernel
theorem dX2_digit_25 : decode cX2_digit 25 = .ok (.iload_n 2, 1) := by decide +kernel
theorem dX2_digit_26 : decode cX2_digit 26 = .ok (.iadd, 1) := by decide +kernel
theorem dX2_digit_27 : decode cX2_digit 27 = .ok (.iaload, 1) := by decide +kernel
theorem dX2_digit_28 : decode cX2_digit 28 = .ok (.goto 4, 3) := by decide +kernel
theorem dX2_digit_31 : decode cX2_digit 31 = .ok (.iconst (-1), 1) := by decide +kernel
theorem dX2_digit_32 : decode cX2_digit 32 = .ok (.ireturn, 1) := by decide +kernel
/-- the words that the methods of the reference need, all of them -/
def mdT_1 : List Cond := [.initialized RX2, .methodLink RX2 33 yX2_isRegister, .static yX2_isRegister, .fieldLink RX2 7 "ExactDeskModel" "registers" "[J", .methodLink RX2 75 yX2_sum, .instanceMethod yX2_sum, .selects RX2 yX2_sum yX2_sum, .fieldLink RX2 21 "ExactDeskModel" "a" "[I", .methodLink RX2 63 yX2_write, .static yX2_write, .fieldLink RX2 54 "ExactDeskModel" "negative" "Z", .fieldLink RX2 27 "ExactDeskModel" "c" "[I", .methodLink RX2 67 yX2_join, .instanceMethod yX2_join, .selects RX2 yX2_join yX2_join, .methodLink RX2 71 yX2_store, .instanceMethod yX2_store, .selects RX2 yX2_store yX2_store, .constantLong RX2 37 (10), .methodLink RX2 58 yX2_plus, .static yX2_plus, .methodLink RX2 47 yX2_compareSizes, .static yX2_compareSizes, .methodLink RX2 51 yX2_minus, .static yX2_minus, .fieldLink RX2 30 "ExactDeskModel" "rest" "[I", .methodLink RX2 43 yX2_copy, .static yX2_copy, .constantLong RX2 61 (9223372036854775807), .fieldLink RX2 24 "ExactDeskModel" "b" "[I", .methodLink RX2 79 yX2_multiply, .instanceMethod yX2_multiply, .selects RX2 yX2_multiply yX2_multiply, .methodLink RX2 39 yX2_nothing, .static yX2_nothing, .methodLink RX2 82 yX2_divide, .instanceMethod yX2_divide, .selects RX2 yX2_divide yX2_divide, .methodLink RX2 85 yX2_isNothing, .static yX2_isNothing, .methodLink RX2 89 yX2_isTally]
def mdT_2 : List Cond := [.static yX2_isTally, .methodLink RX2 92 yX2_read, .instanceMethod yX2_read, .selects RX2 yX2_read yX2_read, .methodLink RX2 96 yX2_keep, .instanceMethod yX2_keep, .selects RX2 yX2_keep yX2_keep, .fieldLink RX2 13 "ExactDeskModel" "tallies" "[I", .fieldLink RX2 17 "ExactDeskModel" "below" "[Z", .constantLong RX2 99 (1000000000000000000), .code yX2_set cX2_set 4 (some .boolean), .code yX2_isRegister cX2_isRegister 1 (some .boolean), .code yX2_get cX2_get 2 (some .long), .code yX2_add cX2_add 4 (some .int), .code yX2_sum cX2_sum 5 (some .int), .code yX2_write cX2_write 7 none, .code yX2_join cX2_join 2 none, .code yX2_plus cX2_plus 5 none, .code yX2_compareSizes cX2_compareSizes 4 (some .int), .code yX2_minus cX2_minus 5 none, .code yX2_copy cX2_copy 3 none, .code yX2_store cX2_store 5 (some .int), .code yX2_subtract cX2_subtract 4 (some .int), .code yX2_times cX2_times 4 (some .int), .code yX2_multiply cX2_multiply 5 none, .code yX2_nothing cX2_nothing 2 none, .code yX2_share cX2_share 9 (some .int), .code yX2_divide cX2_divide 4 none, .code yX2_isNothing cX2_isNothing 3 (some .boolean), .code yX2_enter cX2_enter 5 (some .int), .code yX2_isTally cX2_isTally 1 (some .boolean), .code yX2_read cX2_read 3 none, .code yX2_keep cX2_keep 4 (some .int), .code yX2_merge cX2_merge 3 (some .int), .code yX2_split cX2_split 8 (some .int), .code yX2_take cX2_take 3 (some .int), .code yX2_clear cX2_clear 3 (some .boolean), .code yX2_compare cX2_compare 4 (some .int), .code yX2_digits cX2_digits 4 (some .int), .code yX2_digit cX2_digit 3 (some .int)]
def mdT : List Cond := (mdT_1 ++ mdT_2) ++ wsX20
set_option maxRecDepth 20000 in
theorem mdT_good : mdT.all goodWord = true := by decide +kernel
set_option maxRecDepth 20000 in
theorem mdT_in : ∀ w ∈ mdT, w ∈ lw_tbl := fun w h => (goodIn_p mdT [249, 252, 256, 260, 264, 267, 272, 275, 278, 281, 284, 288, 293, 297, 301, 304, 308, 312, 315, 319, 322, 326, 330, 334, 338, 343, 347, 351, 355, 359] (by decide +kernel) (by decide +kernel) w h).1
theorem gM {a : Cond} {ws : List Cond} (h : ∀ w ∈ ws, w ∈ mdT) : GoodIn (a :: mdT) ws := fun w hw => ⟨List.mem_cons_of_mem _ (h w hw), good_of_word (List.all_eq_true.mp mdT_good w (h w hw))⟩
theorem gM_V {a : Cond} (idx : Nat) (y : MethodName) (cy : Cond) (h : ∀ w ∈ ([.methodLink RX2 idx y, .instanceMethod y, .selects RX2 y y, .initialized RX2] : List Cond), w ∈ mdT) (hc : cy ∈ mdT) : GoodIn (a :: mdT) (wsV RX2 idx RX2 y (cy :: mdT)) := gM (fun w hw => by
  unfold wsV at hw
  rcases List.mem_append.mp hw with q | q
  · exact h w q
  · rcases List.mem_cons.mp q with rfl | q
    · exact hc
    · exact q)
theorem gM_S {a : Cond} (idx : Nat) (y : MethodName) (cy : Cond) (h : ∀ w ∈ ([.methodLink RX2 idx y, .static y, .initialized y.cls] : List Cond), w ∈ mdT) (hc : cy ∈ mdT) : GoodIn (a :: mdT) (va_wsS RX2 idx y (cy :: mdT)) := gM (fun w hw => by
  unfold va_wsS at hw
  rcases List.mem_append.mp hw with q | q
  · exact h w q
  · rcases List.mem_cons.mp q with rfl | q
    · exact hc
    · exact q)
theorem gL_M {idx : Nat} {y : MethodName} {cy : Cond} (h : ∀ w ∈ ([.methodLink RL idx y, .instanceMethod y, .selects RX2 y y, .initialized RX2] : List Cond), w ∈ lw_tbl ∧ goodWord w = true) (hc : cy ∈ mdT) : GoodIn lw_tbl (wsV RL idx RX2 y (cy :: mdT)) := fun w hw => by
  unfold wsV at hw
  rcases List.mem_append.mp hw with q | q
  · exact ⟨(h w q).1, good_of_word (h w q).2⟩
  · rcases List.mem_cons.mp q with rfl | q
    · exact ⟨mdT_in _ hc, good_of_word (List.all_eq_true.mp mdT_good _ hc)⟩
    · exact ⟨mdT_in _ q, good_of_word (List.all_eq_true.mp mdT_good _ q)⟩
theorem inM {a : Cond} : ∀ w ∈ wsX20, w ∈ a :: mdT := fun _ h => List.mem_cons_of_mem _ (List.mem_append_right _ h)
theorem inT {a w : Cond} (h : w ∈ mdT) : w ∈ a :: mdT := List.mem_cons_of_mem _ h
theorem mw_0 : (.initialized RX2 : Cond) ∈ mdT := List.mem_of_getElem? (i := 0) rfl
theorem mw_1 : (.methodLink RX2 33 yX2_isRegister : Cond) ∈ mdT := List.mem_of_getElem? (i := 1) rfl
theorem mw_2 : (.static yX2_isRegister : Cond) ∈ mdT := List.mem_of_getElem? (i := 2) rfl
theorem mw_3 : (.fieldLink RX2 7 "ExactDeskModel" "registers" "[J" : Cond) ∈ mdT := List.mem_of_getElem? (i := 3) rfl
theorem mw_4 : (.methodLink RX2 75 yX2_sum : Cond) ∈ mdT := List.mem_of_getElem? (i := 4) rfl
theorem mw_5 : (.instanceMethod yX2_sum : Cond) ∈ mdT := List.mem_of_getElem? (i := 5) rfl
theorem mw_6 : (.selects RX2 yX2_sum yX2_sum : Cond) ∈ mdT := List.mem_of_getElem? (i := 6) rfl
theorem mw_7 : (.fieldLink RX2 21 "ExactDeskModel" "a" "[I" : Cond) ∈ mdT := List.mem_of_getElem? (i := 7) rfl
theorem mw_8 : (.methodLink RX2 63 yX2_write : Cond) ∈ mdT := List.mem_of_getElem? (i := 8) rfl
theorem mw_9 : (.static yX2_write : Cond) ∈ mdT := List.mem_of_getElem? (i := 9) rfl
theorem mw_10 : (.fieldLink RX2 54 "ExactDeskModel" "negative" "Z" : Cond) ∈ mdT := List.mem_of_getElem? (i := 10) rfl
theorem mw_11 : (.fieldLink RX2 27 "ExactDeskModel" "c" "[I" : Cond) ∈ mdT := List.mem_of_getElem? (i := 11) rfl
theorem mw_12 : (.methodLink RX2 67 yX2_join : Cond) ∈ mdT := List.mem_of_getElem? (i := 12) rfl
theorem mw_13 : (.instanceMethod yX2_join : Cond) ∈ mdT := List.mem_of_getElem? (i := 13) rfl
theorem mw_14 : (.selects RX2 yX2_join yX2_join : Cond) ∈ mdT := List.mem_of_getElem? (i := 14) rfl
theorem mw_15 : (.methodLink RX2 71 yX2_store : Cond) ∈ mdT := List.mem_of_getElem? (i := 15) rfl
theorem mw_16 : (.instanceMethod yX2_store : Cond) ∈ mdT := List.mem_of_getElem? (i := 16) rfl
theorem mw_17 : (.selects RX2 yX2_store yX2_store : Cond) ∈ mdT := List.mem_of_getElem? (i := 17) rfl
theorem mw_18 : (.constantLong RX2 37 (10) : Cond) ∈ mdT := List.mem_of_getElem? (i := 18) rfl
theorem mw_19 : (.methodLink RX2 58 yX2_plus : Cond) ∈ mdT := List.mem_of_getElem? (i := 19) rfl
theorem mw_20 : (.static yX2_plus : Cond) ∈ mdT := List.mem_of_getElem? (i := 20) rfl
theorem mw_21 : (.methodLink RX2 47 yX2_compareSizes : Cond) ∈ mdT := List.mem_of_getElem? (i := 21) rfl
theorem mw_22 : (.static yX2_compareSizes : Cond) ∈ mdT := List.mem_of_getElem? (i := 22) rfl
theorem mw_23 : (.methodLink RX2 51 yX2_minus : Cond) ∈ mdT := List.mem_of_getElem? (i := 23) rfl
theorem mw_24 : (.static yX2_minus : Cond) ∈ mdT := List.mem_of_getElem? (i := 24) rfl
theorem mw_25 : (.fieldLink RX2 30 "ExactDeskModel" "rest" "[I" : Cond) ∈ mdT := List.mem_of_getElem? (i := 25) rfl
theorem mw_26 : (.methodLink RX2 43 yX2_copy : Cond) ∈ mdT := List.mem_of_getElem? (i := 26) rfl
theorem mw_27 : (.static yX2_copy : Cond) ∈ mdT := List.mem_of_getElem? (i := 27) rfl
theorem mw_28 : (.constantLong RX2 61 (9223372036854775807) : Cond) ∈ mdT := List.mem_of_getElem? (i := 28) rfl
theorem mw_29 : (.fieldLink RX2 24 "ExactDeskModel" "b" "[I" : Cond) ∈ mdT := List.mem_of_getElem? (i := 29) rfl
theorem mw_30 : (.methodLink RX2 79 yX2_multiply : Cond) ∈ mdT := List.mem_of_getElem? (i := 30) rfl
theorem mw_31 : (.instanceMethod yX2_multiply : Cond) ∈ mdT := List.mem_of_getElem? (i := 31) rfl
theorem mw_32 : (.selects RX2 yX2_multiply yX2_multiply : Cond) ∈ mdT := List.mem_of_getElem? (i := 32) rfl
theorem mw_33 : (.methodLink RX2 39 yX2_nothing : Cond) ∈ mdT := List.mem_of_getElem? (i := 33) rfl
theorem mw_34 : (.static yX2_nothing : Cond) ∈ mdT := List.mem_of_getElem? (i := 34) rfl
theorem mw_35 : (.methodLink RX2 82 yX2_divide : Cond) ∈ mdT := List.mem_of_getElem? (i := 35) rfl
theorem mw_36 : (.instanceMethod yX2_divide : Cond) ∈ mdT := List.mem_of_getElem? (i := 36) rfl
theorem mw_37 : (.selects RX2 yX2_divide yX2_divide : Cond) ∈ mdT := List.mem_of_getElem? (i := 37) rfl
theorem mw_38 : (.methodLink RX2 85 yX2_isNothing : Cond) ∈ mdT := List.mem_of_getElem? (i := 38) rfl
theorem mw_39 : (.static yX2_isNothing : Cond) ∈ mdT := List.mem_of_getElem? (i := 39) rfl
theorem mw_40 : (.methodLink RX2 89 yX2_isTally : Cond) ∈ mdT := List.mem_of_getElem? (i := 40) rfl
theorem mw_41 : (.static yX2_isTally : Cond) ∈ mdT := List.mem_of_getElem? (i := 41) rfl
theorem mw_42 : (.methodLink RX2 92 yX2_read : Cond) ∈ mdT := List.mem_of_getElem? (i := 42) rfl
theorem mw_43 : (.instanceMethod yX2_read : Cond) ∈ mdT := List.mem_of_getElem? (i := 43) rfl
theorem mw_44 : (.selects RX2 yX2_read yX2_read : Cond) ∈ mdT := List.mem_of_getElem? (i := 44) rfl
theorem mw_45 : (.methodLink RX2 96 yX2_keep : Cond) ∈ mdT := List.mem_of_getElem? (i := 45) rfl
theorem mw_46 : (.instanceMethod yX2_keep : Cond) ∈ mdT := List.mem_of_getElem? (i := 46) rfl
theorem mw_47 : (.selects RX2 yX2_keep yX2_keep : Cond) ∈ mdT := List.mem_of_getElem? (i := 47) rfl
theorem mw_48 : (.fieldLink RX2 13 "ExactDeskModel" "tallies" "[I" : Cond) ∈ mdT := List.mem_of_getElem? (i := 48) rfl
theorem mw_49 : (.fieldLink RX2 17 "ExactDeskModel" "below" "[Z" : Cond) ∈ mdT := List.mem_of_getElem? (i := 49) rfl
theorem mw_50 : (.constantLong RX2 99 (1000000000000000000) : Cond) ∈ mdT := List.mem_of_getElem? (i := 50) rfl
theorem mw_51 : (.code yX2_set cX2_set 4 (some .boolean) : Cond) ∈ mdT := List.mem_of_getElem? (i := 51) rfl
theorem mw_52 : (.code yX2_isRegister cX2_isRegister 1 (some .boolean) : Cond) ∈ mdT := List.mem_of_getElem? (i := 52) rfl
theorem mw_53 : (.code yX2_get cX2_get 2 (some .long) : Cond) ∈ mdT := List.mem_of_getElem? (i := 53) rfl
theorem mw_54 : (.code yX2_add cX2_add 4 (some .int) : Cond) ∈ mdT := List.mem_of_getElem? (i := 54) rfl
theorem mw_55 : (.code yX2_sum cX2_sum 5 (some .int) : Cond) ∈ mdT := List.mem_of_getElem? (i := 55) rfl
theorem mw_56 : (.code yX2_write cX2_write 7 none : Cond) ∈ mdT := List.mem_of_getElem? (i := 56) rfl
theorem mw_57 : (.code yX2_join cX2_join 2 none : Cond) ∈ mdT := List.mem_of_getElem? (i := 57) rfl
theorem mw_58 : (.code yX2_plus cX2_plus 5 none : Cond) ∈ mdT := List.mem_of_getElem? (i := 58) rfl
theorem mw_59 : (.code yX2_compareSizes cX2_compareSizes 4 (some .int) : Cond) ∈ mdT := List.mem_of_getElem? (i := 59) rfl
theorem mw_60 : (.code yX2_minus cX2_minus 5 none : Cond) ∈ mdT := List.mem_of_getElem? (i := 60) rfl
theorem mw_61 : (.code yX2_copy cX2_copy 3 none : Cond) ∈ mdT := List.mem_of_getElem? (i := 61) rfl
theorem mw_62 : (.code yX2_store cX2_store 5 (some .int) : Cond) ∈ mdT := List.mem_of_getElem? (i := 62) rfl
theorem mw_63 : (.code yX2_subtract cX2_subtract 4 (some .int) : Cond) ∈ mdT := List.mem_of_getElem? (i := 63) rfl
theorem mw_64 : (.code yX2_times cX2_times 4 (some .int) : Cond) ∈ mdT := List.mem_of_getElem? (i := 64) rfl
theorem mw_65 : (.code yX2_multiply cX2_multiply 5 none : Cond) ∈ mdT := List.mem_of_getElem? (i := 65) rfl
theorem mw_66 : (.code yX2_nothing cX2_nothing 2 none : Cond) ∈ mdT := List.mem_of_getElem? (i := 66) rfl
theorem mw_67 : (.code yX2_share cX2_share 9 (some .int) : Cond) ∈ mdT := List.mem_of_getElem? (i := 67) rfl
theorem mw_68 : (.code yX2_divide cX2_divide 4 none : Cond) ∈ mdT := List.mem_of_getElem? (i := 68) rfl
theorem mw_69 : (.code yX2_isNothing cX2_isNothing 3 (some .boolean) : Cond) ∈ mdT := List.mem_of_getElem? (i := 69) rfl
theorem mw_70 : (.code yX2_enter cX2_enter 5 (some .int) : Cond) ∈ mdT := List.mem_of_getElem? (i := 70) rfl
theorem mw_71 : (.code yX2_isTally cX2_isTally 1 (some .boolean) : Cond) ∈ mdT := List.mem_of_getElem? (i := 71) rfl
theorem mw_72 : (.code yX2_read cX2_read 3 none : Cond) ∈ mdT := List.mem_of_getElem? (i := 72) rfl
theorem mw_73 : (.code yX2_keep cX2_keep 4 (some .int) : Cond) ∈ mdT := List.mem_of_getElem? (i := 73) rfl
theorem mw_74 : (.code yX2_merge cX2_merge 3 (some .int) : Cond) ∈ mdT := List.mem_of_getElem? (i := 74) rfl
theorem mw_75 : (.code yX2_split cX2_split 8 (some .int) : Cond) ∈ mdT := List.mem_of_getElem? (i := 75) rfl
theorem mw_76 : (.code yX2_take cX2_take 3 (some .int) : Cond) ∈ mdT := List.mem_of_getElem? (i := 76) rfl
theorem mw_77 : (.code yX2_clear cX2_clear 3 (some .boolean) : Cond) ∈ mdT := List.mem_of_getElem? (i := 77) rfl
theorem mw_78 : (.code yX2_compare cX2_compare 4 (some .int) : Cond) ∈ mdT := List.mem_of_getElem? (i := 78) rfl
theorem mw_79 : (.code yX2_digits cX2_digits 4 (some .int) : Cond) ∈ mdT := List.mem_of_getElem? (i := 79) rfl
theorem mw_80 : (.code yX2_digit cX2_digit 3 (some .int) : Cond) ∈ mdT := List.mem_of_getElem? (i := 80) rfl
end
section
/-! numbers by their decimal digits: an int array f holds (the 80 lower digits of) v -/
def dg (f : Nat → Int32) (v : Nat) : Prop := ∀ j, j < 80 → f j = nI (v / 10 ^ j % 10)
theorem nlt {x N : Int32} {k M : Nat} (hN : N = nI M) (ex : x = nI k) (hM : M < 2 ^ 31) (c : ¬ N ≤ x) (hk : k < 2 ^ 31) : k < M := by
  rcases Nat.lt_or_ge k M with q | q
  · exact q
  · exact absurd (by rw [hN, ex]; exact nI_le q hk) c
theorem nge {x N : Int32} {k M : Nat} (hN : N = nI M) (ex : x = nI k) (hM : M < 2 ^ 31) (c : N ≤ x) (hk : k < 2 ^ 31) : M ≤ k := by
  rw [hN, ex] at c
  exact (nI_leI hM hk).mp c
theorem p10 (k : Nat) : 0 < 10 ^ k := Nat.pow_pos (by decide)
theorem d9 (v k : Nat) : v / 10 ^ k % 10 < 10 := Nat.mod_lt _ (by decide)
theorem pd_mod (x k : Nat) : x % 10 ^ (k + 1) = x % 10 ^ k + 10 ^ k * (x / 10 ^ k % 10) := Nat.mod_pow_succ
/-- the carry into place k of a sum -/
def cy (X Y k : Nat) : Nat := (X % 10 ^ k + Y % 10 ^ k) / 10 ^ k
theorem cy_0 (X Y : Nat) : cy X Y 0 = 0 := by simp [cy, Nat.mod_one]
theorem cy_le (X Y k : Nat) : cy X Y k ≤ 1 := by
  have h := p10 k
  have a := Nat.mod_lt X h
  have b := Nat.mod_lt Y h
  have : cy X Y k < 2 := (Nat.div_lt_iff_lt_mul h).mpr (by omega)
  omega
theorem cy_div (X Y k : Nat) : (X + Y) / 10 ^ k = X / 10 ^ k + Y / 10 ^ k + cy X Y k := by
  have h := p10 k
  have e : X + Y = 10 ^ k * (X / 10 ^ k + Y / 10 ^ k) + (X % 10 ^ k + Y % 10 ^ k) := by
    have a := Nat.div_add_mod X (10 ^ k)
    have b := Nat.div_add_mod Y (10 ^ k)
    rw [Nat.mul_add]
    omega
  rw [e, Nat.mul_add_div h]
  rfl
theorem cy_dig (X Y k : Nat) : (X / 10 ^ k % 10 + Y / 10 ^ k % 10 + cy X Y k) % 10 = (X + Y) / 10 ^ k % 10 := by
  rw [cy_div]
  omega
theorem cy_succ (X Y k : Nat) : (X / 10 ^ k % 10 + Y / 10 ^ k % 10 + cy X Y k) / 10 = cy X Y (k + 1) := by
  have h := p10 k
  unfold cy
  rw [pd_mod X k, pd_mod Y k, show X % 10 ^ k + 10 ^ k * (X / 10 ^ k % 10) + (Y % 10 ^ k + 10 ^ k * (Y / 10 ^ k % 10)) = 10 ^ k * (X / 10 ^ k % 10 + Y / 10 ^ k % 10) + (X % 10 ^ k + Y % 10 ^ k) by rw [Nat.mul_add]; omega, Nat.pow_succ, ← Nat.div_div_eq_div_mul, Nat.mul_add_div h]
/-- the borrow into place k of a difference X - Y -/
def bw (X Y k : Nat) : Nat := if X % 10 ^ k < Y % 10 ^ k then 1 else 0
theorem bw_cy {X Y : Nat} (h : Y ≤ X) (k : Nat) : bw X Y k = cy Y (X - Y) k := by
  have hp := p10 k
  have a := Nat.mod_lt Y hp
  have b := Nat.mod_lt (X - Y) hp
  have c := cy_le Y (X - Y) k
  have e : X % 10 ^ k + 10 ^ k * cy Y (X - Y) k = Y % 10 ^ k + (X - Y) % 10 ^ k := by
    have q := Nat.mod_add_div (Y % 10 ^ k + (X - Y) % 10 ^ k) (10 ^ k)
    have r : (Y % 10 ^ k + (X - Y) % 10 ^ k) % 10 ^ k = X % 10 ^ k := by rw [← Nat.add_mod, show Y + (X - Y) = X by omega]
    rw [r] at q
    exact q
  have d := Nat.mod_lt X hp
  unfold bw
  rcases (show cy Y (X - Y) k = 0 ∨ cy Y (X - Y) k = 1 by omega) with q | q
  · rw [q, Nat.mul_zero] at e
    rw [q, if_neg (by omega)]
  · rw [q, Nat.mul_one] at e
    rw [q, if_pos (by omega)]
theorem bw_0 (X Y : Nat) : bw X Y 0 = 0 := by simp [bw, Nat.mod_one]
theorem bw_le (X Y k : Nat) : bw X Y k ≤ 1 := by unfold bw; split <;> omega
/-- one place of a difference -/
theorem bw_step {X Y : Nat} (h : Y ≤ X) (k : Nat) : (X / 10 ^ k % 10 < Y / 10 ^ k % 10 + bw X Y k → X / 10 ^ k % 10 + 10 - Y / 10 ^ k % 10 - bw X Y k = (X - Y) / 10 ^ k % 10 ∧ bw X Y (k + 1) = 1) ∧ (Y / 10 ^ k % 10 + bw X Y k ≤ X / 10 ^ k % 10 → X / 10 ^ k % 10 - Y / 10 ^ k % 10 - bw X Y k = (X - Y) / 10 ^ k % 10 ∧ bw X Y (k + 1) = 0) := by
  have a := cy_dig Y (X - Y) k
  have b := cy_succ Y (X - Y) k
  rw [show Y + (X - Y) = X by omega] at a
  rw [bw_cy h k, bw_cy h (k + 1)]
  have c := cy_le Y (X - Y) k
  have d := d9 Y k
  have e := d9 (X - Y) k
  generalize cy Y (X - Y) k = q at *
  generalize cy Y (X - Y) (k + 1) = r at *
  omega
theorem sb10 : ∀ a, a < 10 → ∀ b, b < 10 → ∀ c, c < 2 → ((0 ≤ nI a - nI b - nI c ↔ b + c ≤ a) ∧ (a < b + c → nI a - nI b - nI c + 10 = nI (a + 10 - b - c)) ∧ (b + c ≤ a → nI a - nI b - nI c = nI (a - b - c))) := by decide +kernel
/-- order of two numbers by their lower digits -/
theorem od_step (X Y k : Nat) : sp_ord ((X % 10 ^ (k + 1) : Nat) : Int) ((Y % 10 ^ (k + 1) : Nat) : Int) = if X / 10 ^ k % 10 < Y / 10 ^ k % 10 then -1 else if Y / 10 ^ k % 10 < X / 10 ^ k % 10 then 1 else sp_ord ((X % 10 ^ k : Nat) : Int) ((Y % 10 ^ k : Nat) : Int) := by
  have hp := p10 k
  have a := Nat.mod_lt X hp
  have b := Nat.mod_lt Y hp
  rw [pd_mod X k, pd_mod Y k]
  generalize X % 10 ^ k = x at *
  generalize Y % 10 ^ k = y at *
  generalize X / 10 ^ k % 10 = u at *
  generalize Y / 10 ^ k % 10 = v at *
  generalize 10 ^ k = p at *
  unfold sp_ord
  rcases Nat.lt_trichotomy u v with q | q | q
  · have : p * u + p ≤ p * v := by rw [← Nat.mul_succ]; exact Nat.mul_le_mul_left p q
    rw [if_pos q, if_pos (by omega)]
  · subst q
    rw [if_neg (Nat.lt_irrefl u), if_neg (Nat.lt_irrefl u)]
    have e1 : (((x + p * u : Nat) : Int) < ((y + p * u : Nat) : Int)) ↔ ((x : Int) < (y : Int)) := by omega
    have e2 : (((x + p * u : Nat) : Int) = ((y + p * u : Nat) : Int)) ↔ ((x : Int) = (y : Int)) := by omega
    simp only [e1, e2]
  · have : p * v + p ≤ p * u := by rw [← Nat.mul_succ]; exact Nat.mul_le_mul_left p q
    rw [if_neg (by omega), if_pos q, if_neg (by omega), if_neg (by omega)]
theorem od_0 (X Y : Nat) : sp_ord ((X % 10 ^ 0 : Nat) : Int) ((Y % 10 ^ 0 : Nat) : Int) = 0 := by
  rw [Nat.pow_zero, Nat.mod_one, Nat.mod_one]; decide
theorem nI_lt10 {a b : Nat} (ha : a < 10) (hb : b < 10) : (nI b ≤ nI a) ↔ b ≤ a := nI_leI (by omega) (by omega)
theorem mod_z (X k : Nat) : (X % 10 ^ (k + 1) = 0) ↔ (X % 10 ^ k = 0 ∧ X / 10 ^ k % 10 = 0) := by
  have hp := p10 k
  rw [pd_mod]
  constructor
  · intro h
    have h1 : X % 10 ^ k = 0 := by omega
    have h2 : 10 ^ k * (X / 10 ^ k % 10) = 0 := by omega
    rcases Nat.mul_eq_zero.mp h2 with q | q
    · omega
    · exact ⟨h1, q⟩
  · intro h
    rw [h.1, h.2, Nat.mul_zero]
/-- digits of a long, sign apart -/
theorem lr10 (v : Int64) : v - v / 10 * 10 = Int64.ofInt (v.toInt.tmod 10) ∧ v / 10 = Int64.ofInt (v.toInt.tdiv 10) := by
  have e10 : (10 : Int64).toInt = 10 := by decide
  have h1 : (v / 10).toInt = v.toInt.tdiv 10 := by rw [Int64.toInt_div_of_ne_right _ _ (by decide), e10]
  have h2 : v / 10 = Int64.ofInt (v.toInt.tdiv 10) := by rw [← h1, Int64.ofInt_toInt]
  refine ⟨?_, h2⟩
  apply uN_inj
  have a := un_sub v (v / 10 * 10)
  have b := un_mul (v / 10) 10
  have c := un_c (v / 10 * 10)
  have d := zl_un (v.toInt.tmod 10)
  rw [h1, e10] at b
  have f : v.toInt.tdiv 10 * 10 + v.toInt.tmod 10 = v.toInt := Int.tdiv_mul_add_tmod _ _
  have g : (uN (Int64.ofInt (v.toInt.tmod 10)) : Int) = v.toInt.tmod 10 % 18446744073709551616 := d
  omega
theorem dig_l {z : Int} (h1 : -9223372036854775808 ≤ z) (h2 : z < 9223372036854775808) : (if 0 ≤ (Int64.ofInt (z.tmod 10)).toInt32 then (Int64.ofInt (z.tmod 10)).toInt32 else -(Int64.ofInt (z.tmod 10)).toInt32) = nI (z.natAbs % 10) := by
  have key : ∀ n : Nat, n < 10 → (Int64.ofInt (n : Int)).toInt32 = nI n ∧ (Int64.ofInt (-(n : Int))).toInt32 = -nI n ∧ (0 ≤ nI n) ∧ (n = 0 ∨ ¬ 0 ≤ -nI n) ∧ - -nI n = nI n := by decide +kernel
  have hm : z.natAbs % 10 < 10 := Nat.mod_lt _ (by decide)
  obtain ⟨k1, k2, k3, k4, k5⟩ := key _ hm
  by_cases hz : 0 ≤ z
  · have e : z.tmod 10 = ((z.natAbs % 10 : Nat) : Int) := by rw [Int.tmod_eq_emod_of_nonneg hz]; omega
    rw [e, k1, if_pos k3]
  · have e : z.tmod 10 = -((z.natAbs % 10 : Nat) : Int) := by
      have q : z = -((z.natAbs : Nat) : Int) := by omega
      have r : (-((z.natAbs : Nat) : Int)).tmod 10 = -((z.natAbs % 10 : Nat) : Int) := by
        rw [Int.neg_tmod, Int.tmod_eq_emod_of_nonneg (by omega)]
        omega
      rw [← q] at r
      exact r
    rw [e, k2]
    rcases k4 with q | q
    · rw [q]; decide
    · rw [if_neg q, k5]
theorem td_abs (z : Int) (k : Nat) : (z.tdiv ((10 ^ k : Nat) : Int)).natAbs = z.natAbs / 10 ^ k := by
  rw [Int.natAbs_tdiv]; rfl
theorem tdn (n m : Nat) : (n : Int).tdiv (m : Int) = ((n / m : Nat) : Int) := by
  rw [Int.tdiv_eq_ediv_of_nonneg (by omega)]
  rfl
theorem td_succ (z : Int) (k : Nat) : (z.tdiv ((10 ^ k : Nat) : Int)).tdiv 10 = z.tdiv ((10 ^ (k + 1) : Nat) : Int) := by
  have key : ∀ n : Nat, ((n : Int).tdiv ((10 ^ k : Nat) : Int)).tdiv 10 = (n : Int).tdiv ((10 ^ (k + 1) : Nat) : Int) := by
    intro n
    rw [tdn, show (10 : Int) = ((10 : Nat) : Int) from rfl, tdn, tdn, Nat.div_div_eq_div_mul, Nat.pow_succ]
  by_cases hz : 0 ≤ z
  · have e : z = ((z.natAbs : Nat) : Int) := by omega
    rw [e]; exact key _
  · have e : z = -((z.natAbs : Nat) : Int) := by omega
    rw [e, Int.neg_tdiv, Int.neg_tdiv, Int.neg_tdiv, key]
theorem td_0 (z : Int) : z.tdiv ((10 ^ 0 : Nat) : Int) = z := by
  rw [Nat.pow_zero]; exact Int.tdiv_one z
/-! int arrays, by the number of the place -/
section MA
variable {p : Program} {l : Launch} {e : Env} {R : Room} {s : State} {m : MethodId} {args : Array Value} {below : List Frame} {meth : Method} {c : Code} {H : Heap} {locs : List Loc} {cells slots : Nat} {Q : State → Prop}
variable {cc : ByteArray} {pc : Nat} {ls : Array Slot} {rest : List Value} {D : va_G} {A : Nat → Prop} {H0 : Heap} {ws : va_W} {tys : xT} {q0 t0 a n : Nat} {cA : ClassId} {f : Nat → Int32}
theorem ia_ld (hx : p.tables.exec = Jvm.exec) (hb : c.code = cc) (hK : va_K D vwCl tys s) (hP : va_P D vwCl ws H) (ha : ws[q0]? = some (a, .inl (cA, n, .inl f))) (ht : tys[t0]? = some (cA, .int)) {i : Int32} {k : Nat} (hi : i = nI k) (hk : k < n) (hn : n < 2 ^ 31) (hdg : decode cc pc = .ok (.iaload, 1))
    (kk : W p l e R s m args below meth c H locs cells slots Q (F0 m (pc + 1) ls (.int (f k) :: rest))) : W p l e R s m args below meth c H locs cells slots Q (F0 m pc ls (.int i :: .ref a :: rest)) := by
  subst hi
  refine va_iald hx hb hK hP q0 t0 ha ht (vp_in_nI hk hn) hdg ?_
  rw [nI_clamp (by omega)]
  exact kk
theorem ia_st (hx : p.tables.exec = Jvm.exec) (hb : c.code = cc) (hK : va_K D vwCl tys s) (hP : va_P D vwCl ws H) (hD : va_D A ws) (hS : va_S A H0 H locs) (ha : ws[q0]? = some (a, .inl (cA, n, .inl f))) (ht : tys[t0]? = some (cA, .int)) {i x : Int32} {k : Nat} (hi : i = nI k) (hk : k < n) (hn : n < 2 ^ 31) (hdg : decode cc pc = .ok (.iastore, 1))
    (kk : ∀ (ws1 : va_W) (H1 : Heap) (locs1 : List Loc), ws1 = ws.set q0 (a, .inl (cA, n, .inl (upd f k x))) → va_P D vwCl ws1 H1 → va_D A ws1 → va_S A H0 H1 locs1 → W p l e R s m args below meth c H1 locs1 cells slots Q (F0 m (pc + 1) ls rest)) : W p l e R s m args below meth c H locs cells slots Q (F0 m pc ls (.int x :: .int i :: .ref a :: rest)) := by
  subst hi
  refine va_iast hx hb hK hP hD hS q0 t0 ha ht (vp_in_nI hk hn) hdg (fun H1 locs1 hP1 hD1 hS1 => ?_)
  rw [nI_clamp (by omega)] at hP1 hD1
  exact kk _ H1 locs1 rfl hP1 hD1 hS1
end MA
theorem up_s {f : Nat → Int32} {k : Nat} {x : Int32} : upd f k x k = x := pk_us
theorem up_n {f : Nat → Int32} {k j : Nat} {x : Int32} (h : j ≠ k) : upd f k x j = f j := pk_un h
end
section
-- the reference: methods over int arrays (laid by wip/whole/gen_ms.py)
theorem inv_lo {f T : Nat → Int32} {i : Nat} {x : Int32} (h : ∀ j, j < i → f j = T j) (hx : x = T i) : ∀ j, j < i + 1 → upd f i x j = T j := fun j hj => by
  by_cases e : j = i
  · subst e; rw [up_s]; exact hx
  · rw [up_n e]; exact h j (by omega)
theorem inv_hi {f g : Nat → Int32} {i : Nat} {x : Int32} (h : ∀ j, i ≤ j → f j = g j) : ∀ j, i + 1 ≤ j → upd f i x j = g j := fun j hj => by
  rw [up_n (by omega)]; exact h j (by omega)
theorem nI_z {a : Nat} (h : a < 2 ^ 31) (e : nI a = 0) : a = 0 := (nI_eq h (by decide)).mp (e.trans nI_0.symm)
theorem isn_fin {X i : Nat} {x1 xi : Int32} {ws : va_W} (hX : X < 10 ^ 80) (ex1 : x1 = (if X % 10 ^ i = 0 then 1 else 0)) (exi : xi = nI i) (c : (80 : Int32) ≤ xi) (h1 : i ≤ 80) : x1 = (if X = 0 then 1 else 0) ∧ ws = ws := by
  have q := nge (M := 80) rfl exi (by decide) c (by omega)
  have q2 : i = 80 := by omega
  subst q2
  rw [Nat.mod_eq_of_lt hX] at ex1
  exact ⟨ex1, rfl⟩
set_option maxHeartbeats 4000000 in
set_option maxRecDepth 100000 in
theorem cM_copy (l : Launch) (D : va_G) {tys : xT} {ws : va_W} {sz : Nat} {k a1 t1 : Nat} {c1 : ClassId} {f : Nat → Int32} (hk : ws[k]? = some (a1, .inl (c1, 80, .inl f))) (ht1 : tys[t1]? = some (c1, .int)) {k2 a2 t2 : Nat} {c2 : ClassId} {g : Nat → Int32} (hk2 : ws[k2]? = some (a2, .inl (c2, 80, .inl g))) (ht2 : tys[t2]? = some (c2, .int)) (hne : k2 ≠ k) : xM l yX2_copy (.code yX2_copy cX2_copy 3 none :: mdT) ({ frames := 0, cells := 0, slots := 0, locals := 0 }) D tys ws sz [.ref a2, .ref a1] (xQv D tys (fun w => ∃ f1, w = ws.set k (a1, .inl (c1, 80, .inl f1)) ∧ ∀ j, j < 80 → f1 j = g j)) 0 0 := by
  refine xb_m (cc := cX2_copy) (maxL := 3) (ret := none) (by decide) rfl (Nat.le_of_ble_eq_true rfl) ?_
  intro p e s m below meth c A ls hx hb hr hml hown hts hlocks hnm hA hP hK hD hS hl
  have hl : lv_has ls 3 [(0, .ref a2), (1, .ref a1)] := hl
  have hown : s.vm.findClass RX2 = some m.cls := hown
  have loop : ∀ (n i : Nat) (xi : Int32) (fi : Nat → Int32)  (ws1 : va_W) (H : Heap) (locs : List Loc) (ls : Array Slot), i ≤ 80 → 80 < i + n → xi = nI i → ws1 = ws.set k (a1, .inl (c1, 80, .inl fi)) → (∀ j, j < i → fi j = g j) → (∀ j, i ≤ j → fi j = f j) → va_P D vwCl ws1 H → va_D A ws1 → va_S A s.heap H locs → lv_has ls 3 [(0, .ref a2), (1, .ref a1), (2, .int xi)] → W p l e ({ frames := 0, cells := 0, slots := 0, locals := 0 }) s m [.ref a2, .ref a1].toArray below meth c H locs 0 0 (MQ below (xQv D tys (fun w => ∃ f1, w = ws.set k (a1, .inl (c1, 80, .inl f1)) ∧ ∀ j, j < 80 → f1 j = g j) A) [.ref a2, .ref a1].toArray s 0 0 A) (F0 m 2 ls []) := by
    intro n
    induction n with
    | zero =>
      intro i xi fi  ws1 H locs ls h1 h2
      omega
    | succ n ih =>
      intro i xi fi  ws1 H locs ls h1 h2 exi hw hA1 hA2  hP hD hS hl
      have hk : ws1[k]? = some (a1, .inl (c1, 80, .inl fi)) := by rw [hw]; exact sgS hk
      have hk2 : ws1[k2]? = some (a2, .inl (c2, 80, .inl g)) := by rw [hw, sgN hne]; exact hk2
      refine lv_iload_n hx hb dX2_copy_2 rfl (lv_at hl 2 rfl) ?_
      refine lv_bipush (v := 80) hx hb dX2_copy_3 (by decide) ?_
      refine lv_icmp_ge (tgt := 20) hx hb dX2_copy_5 (by decide) (fun c5 => ?_) (fun c5 => ?_)
      · exact xb_vr hx hb hr hlocks hP hK hD hS dX2_copy_20 (⟨fi, hw, fun j hj => hA1 j (by have q := nge (M := 80) rfl exi (by decide) c5 (by omega); omega)⟩)
      · have hi8 := nlt (M := 80) rfl exi (by decide) c5 (by omega)
        refine lv_aload_n hx hb dX2_copy_8 rfl (lv_at hl 1 rfl) ?_
        refine lv_iload_n hx hb dX2_copy_9 rfl (lv_at hl 2 rfl) ?_
        refine lv_aload_n hx hb dX2_copy_10 rfl (lv_at hl 0 rfl) ?_
        refine lv_iload_n hx hb dX2_copy_11 rfl (lv_at hl 2 rfl) ?_
        refine ia_ld hx hb hK hP hk2 ht2 exi hi8 (by decide) dX2_copy_12 ?_
        refine ia_st (x := g i) hx hb hK hP hD hS hk ht1 exi hi8 (by decide) dX2_copy_13 (fun ws2 H locs hws2 hP hD hS => ?_)
        have hk : ws2[k]? = some (a1, .inl (c1, 80, .inl (upd fi i (g i)))) := by rw [hws2]; exact sgS hk
        have hk2 : ws2[k2]? = some (a2, .inl (c2, 80, .inl g)) := by rw [hws2, sgN hne]; exact hk2
        refine lv_iinc (v := xi + 1) (lv' := [(2, .int (xi + 1)), (0, .ref a2), (1, .ref a1)]) hx hb dX2_copy_14 hl (k := 2) rfl (by rfl) (by decide) rfl (fun ls hl => ?_)
        refine lv_goto (tgt := 2) hx hb dX2_copy_17 (by decide) ?_
        exact ih (i + 1) (xi + 1) (upd fi i (g i))  ws2 H locs ls (by omega) (by omega) (by rw [exi]; exact nI_1 i) (by rw [hws2, hw, List.set_set]) (inv_lo hA1 (rfl)) (inv_hi hA2)  hP hD hS (lv_sub hl [1, 2, 0] rfl)
  refine lv_iconst (v := 0) hx hb dX2_copy_0 (by decide) ?_
  refine lv_istore_n (lv' := [(2, .int 0), (0, .ref a2), (1, .ref a1)]) hx hb dX2_copy_1 rfl hl (by decide) rfl (fun ls hl => ?_)
  exact loop 81 0 0 f  ws s.heap [] ls (by omega) (by omega) nI_0.symm (set_same hk).symm (fun j hj => absurd hj (by omega)) (fun j _ => rfl)  hP hD hS (lv_sub hl [1, 2, 0] rfl)
set_option maxHeartbeats 4000000 in
set_option maxRecDepth 100000 in
theorem cM_nothing (l : Launch) (D : va_G) {tys : xT} {ws : va_W} {sz : Nat} {k a1 t1 : Nat} {c1 : ClassId} {f : Nat → Int32} (hk : ws[k]? = some (a1, .inl (c1, 80, .inl f))) (ht1 : tys[t1]? = some (c1, .int)) : xM l yX2_nothing (.code yX2_nothing cX2_nothing 2 none :: mdT) ({ frames := 0, cells := 0, slots := 0, locals := 0 }) D tys ws sz [.ref a1] (xQv D tys (fun w => ∃ f1, w = ws.set k (a1, .inl (c1, 80, .inl f1)) ∧ ∀ j, j < 80 → f1 j = 0)) 0 0 := by
  refine xb_m (cc := cX2_nothing) (maxL := 2) (ret := none) (by decide) rfl (Nat.le_of_ble_eq_true rfl) ?_
  intro p e s m below meth c A ls hx hb hr hml hown hts hlocks hnm hA hP hK hD hS hl
  have hl : lv_has ls 2 [(0, .ref a1)] := hl
  have hown : s.vm.findClass RX2 = some m.cls := hown
  have loop : ∀ (n i : Nat) (xi : Int32) (fi : Nat → Int32)  (ws1 : va_W) (H : Heap) (locs : List Loc) (ls : Array Slot), i ≤ 80 → 80 < i + n → xi = nI i → ws1 = ws.set k (a1, .inl (c1, 80, .inl fi)) → (∀ j, j < i → fi j = 0) → (∀ j, i ≤ j → fi j = f j) → va_P D vwCl ws1 H → va_D A ws1 → va_S A s.heap H locs → lv_has ls 2 [(0, .ref a1), (1, .int xi)] → W p l e ({ frames := 0, cells := 0, slots := 0, locals := 0 }) s m [.ref a1].toArray below meth c H locs 0 0 (MQ below (xQv D tys (fun w => ∃ f1, w = ws.set k (a1, .inl (c1, 80, .inl f1)) ∧ ∀ j, j < 80 → f1 j = 0) A) [.ref a1].toArray s 0 0 A) (F0 m 2 ls []) := by
    intro n
    induction n with
    | zero =>
      intro i xi fi  ws1 H locs ls h1 h2
      omega
    | succ n ih =>
      intro i xi fi  ws1 H locs ls h1 h2 exi hw hA1 hA2  hP hD hS hl
      have hk : ws1[k]? = some (a1, .inl (c1, 80, .inl fi)) := by rw [hw]; exact sgS hk
      refine lv_iload_n hx hb dX2_nothing_2 rfl (lv_at hl 1 rfl) ?_
      refine lv_bipush (v := 80) hx hb dX2_nothing_3 (by decide) ?_
      refine lv_icmp_ge (tgt := 18) hx hb dX2_nothing_5 (by decide) (fun c5 => ?_) (fun c5 => ?_)
      · exact xb_vr hx hb hr hlocks hP hK hD hS dX2_nothing_18 (⟨fi, hw, fun j hj => hA1 j (by have q := nge (M := 80) rfl exi (by decide) c5 (by omega); omega)⟩)
      · have hi8 := nlt (M := 80) rfl exi (by decide) c5 (by omega)
        refine lv_aload_n hx hb dX2_nothing_8 rfl (lv_at hl 0 rfl) ?_
        refine lv_iload_n hx hb dX2_nothing_9 rfl (lv_at hl 1 rfl) ?_
        refine lv_iconst (v := 0) hx hb dX2_nothing_10 (by decide) ?_
        refine ia_st (x := 0) hx hb hK hP hD hS hk ht1 exi hi8 (by decide) dX2_nothing_11 (fun ws2 H locs hws2 hP hD hS => ?_)
        have hk : ws2[k]? = some (a1, .inl (c1, 80, .inl (upd fi i 0))) := by rw [hws2]; exact sgS hk
        refine lv_iinc (v := xi + 1) (lv' := [(1, .int (xi + 1)), (0, .ref a1)]) hx hb dX2_nothing_12 hl (k := 1) rfl (by rfl) (by decide) rfl (fun ls hl => ?_)
        refine lv_goto (tgt := 2) hx hb dX2_nothing_15 (by decide) ?_
        exact ih (i + 1) (xi + 1) (upd fi i 0)  ws2 H locs ls (by omega) (by omega) (by rw [exi]; exact nI_1 i) (by rw [hws2, hw, List.set_set]) (inv_lo hA1 (rfl)) (inv_hi hA2)  hP hD hS (lv_sub hl [1, 0] rfl)
  refine lv_iconst (v := 0) hx hb dX2_nothing_0 (by decide) ?_
  refine lv_istore_n (lv' := [(1, .int 0), (0, .ref a1)]) hx hb dX2_nothing_1 rfl hl (by decide) rfl (fun ls hl => ?_)
  exact loop 81 0 0 f  ws s.heap [] ls (by omega) (by omega) nI_0.symm (set_same hk).symm (fun j hj => absurd hj (by omega)) (fun j _ => rfl)  hP hD hS (lv_sub hl [1, 0] rfl)
set_option maxHeartbeats 4000000 in
set_option maxRecDepth 100000 in
theorem cM_plus (l : Launch) (D : va_G) {tys : xT} {ws : va_W} {sz : Nat} {k a1 t1 : Nat} {c1 : ClassId} {f : Nat → Int32} (hk : ws[k]? = some (a1, .inl (c1, 80, .inl f))) (ht1 : tys[t1]? = some (c1, .int)) {k2 a2 t2 : Nat} {c2 : ClassId} {g : Nat → Int32} (hk2 : ws[k2]? = some (a2, .inl (c2, 80, .inl g))) (ht2 : tys[t2]? = some (c2, .int)) {X Y : Nat} (hf : dg f X) (hg : dg g Y) (hne : k2 ≠ k) : xM l yX2_plus (.code yX2_plus cX2_plus 5 none :: mdT) ({ frames := 0, cells := 0, slots := 0, locals := 0 }) D tys ws sz [.ref a1, .ref a2] (xQv D tys (fun w => ∃ f1, w = ws.set k (a1, .inl (c1, 80, .inl f1)) ∧ ∀ j, j < 80 → f1 j = nI ((X + Y) / 10 ^ j % 10))) 0 0 := by
  refine xb_m (cc := cX2_plus) (maxL := 5) (ret := none) (by decide) rfl (Nat.le_of_ble_eq_true rfl) ?_
  intro p e s m below meth c A ls hx hb hr hml hown hts hlocks hnm hA hP hK hD hS hl
  have hl : lv_has ls 5 [(0, .ref a1), (1, .ref a2)] := hl
  have hown : s.vm.findClass RX2 = some m.cls := hown
  have loop : ∀ (n i : Nat) (xi : Int32) (fi : Nat → Int32) (x2 : Int32) (ws1 : va_W) (H : Heap) (locs : List Loc) (ls : Array Slot), i ≤ 80 → 80 < i + n → xi = nI i → ws1 = ws.set k (a1, .inl (c1, 80, .inl fi)) → (∀ j, j < i → fi j = nI ((X + Y) / 10 ^ j % 10)) → (∀ j, i ≤ j → fi j = f j) → x2 = nI (cy X Y i) → va_P D vwCl ws1 H → va_D A ws1 → va_S A s.heap H locs → lv_has ls 5 [(0, .ref a1), (1, .ref a2), (2, .int x2), (3, .int xi)] → W p l e ({ frames := 0, cells := 0, slots := 0, locals := 0 }) s m [.ref a1, .ref a2].toArray below meth c H locs 0 0 (MQ below (xQv D tys (fun w => ∃ f1, w = ws.set k (a1, .inl (c1, 80, .inl f1)) ∧ ∀ j, j < 80 → f1 j = nI ((X + Y) / 10 ^ j % 10)) A) [.ref a1, .ref a2].toArray s 0 0 A) (F0 m 4 ls []) := by
    intro n
    induction n with
    | zero =>
      intro i xi fi x2 ws1 H locs ls h1 h2
      omega
    | succ n ih =>
      intro i xi fi x2 ws1 H locs ls h1 h2 exi hw hA1 hA2 ex2 hP hD hS hl
      have hk : ws1[k]? = some (a1, .inl (c1, 80, .inl fi)) := by rw [hw]; exact sgS hk
      have hk2 : ws1[k2]? = some (a2, .inl (c2, 80, .inl g)) := by rw [hw, sgN hne]; exact hk2
      refine lv_iload_n hx hb dX2_plus_4 rfl (lv_at hl 3 rfl) ?_
      refine lv_bipush (v := 80) hx hb dX2_plus_5 (by decide) ?_
      refine lv_icmp_ge (tgt := 41) hx hb dX2_plus_7 (by decide) (fun c7 => ?_) (fun c7 => ?_)
      · exact xb_vr hx hb hr hlocks hP hK hD hS dX2_plus_41 (⟨fi, hw, fun j hj => hA1 j (by have q := nge (M := 80) rfl exi (by decide) c7 (by omega); omega)⟩)
      · have hi8 := nlt (M := 80) rfl exi (by decide) c7 (by omega)
        have q1 := d9 X i
        have q2 := d9 Y i
        have q3 := cy_le X Y i
        refine lv_aload_n hx hb dX2_plus_10 rfl (lv_at hl 0 rfl) ?_
        refine lv_iload_n hx hb dX2_plus_11 rfl (lv_at hl 3 rfl) ?_
        refine ia_ld hx hb hK hP hk ht1 exi hi8 (by decide) dX2_plus_12 ?_
        refine lv_aload_n hx hb dX2_plus_13 rfl (lv_at hl 1 rfl) ?_
        refine lv_iload_n hx hb dX2_plus_14 rfl (lv_at hl 3 rfl) ?_
        refine ia_ld hx hb hK hP hk2 ht2 exi hi8 (by decide) dX2_plus_15 ?_
        refine lv_iadd hx hb dX2_plus_16 ?_
        refine lv_iload_n hx hb dX2_plus_17 rfl (lv_at hl 2 rfl) ?_
        refine lv_iadd hx hb dX2_plus_18 ?_
        refine lv_topi (fun x19 ex19 => ?_)
        have e19 : x19 = nI (X / 10 ^ i % 10 + Y / 10 ^ i % 10 + cy X Y i) := by rw [ex19, hA2 i (by omega), hf i hi8, hg i hi8, ex2, nI_add, nI_add]
        refine lv_istore (lv' := [(4, .int x19), (0, .ref a1), (1, .ref a2), (2, .int x2), (3, .int xi)]) hx hb dX2_plus_19 hl (by decide) rfl (fun ls hl => ?_)
        refine lv_aload_n hx hb dX2_plus_21 rfl (lv_at hl 1 rfl) ?_
        refine lv_iload_n hx hb dX2_plus_22 rfl (lv_at hl 4 rfl) ?_
        refine lv_iload hx hb dX2_plus_23 (lv_at hl 0 rfl) ?_
        refine lv_bipush (v := 10) hx hb dX2_plus_25 (by decide) ?_
        refine lv_irem hx hb dX2_plus_27 (by decide) ?_
        refine ia_st (x := x19 - x19 / 10 * 10) hx hb hK hP hD hS hk ht1 exi hi8 (by decide) dX2_plus_28 (fun ws2 H locs hws2 hP hD hS => ?_)
        have hk : ws2[k]? = some (a1, .inl (c1, 80, .inl (upd fi i (x19 - x19 / 10 * 10)))) := by rw [hws2]; exact sgS hk
        have hk2 : ws2[k2]? = some (a2, .inl (c2, 80, .inl g)) := by rw [hws2, sgN hne]; exact hk2
        refine lv_iload hx hb dX2_plus_29 (lv_at hl 0 rfl) ?_
        refine lv_bipush (v := 10) hx hb dX2_plus_31 (by decide) ?_
        refine lv_idiv hx hb dX2_plus_33 (by decide) ?_
        refine lv_istore_n (lv' := [(2, .int (x19 / 10)), (4, .int x19), (0, .ref a1), (1, .ref a2), (3, .int xi)]) hx hb dX2_plus_34 rfl hl (by decide) rfl (fun ls hl => ?_)
        refine lv_iinc (v := xi + 1) (lv' := [(3, .int (xi + 1)), (2, .int (x19 / 10)), (4, .int x19), (0, .ref a1), (1, .ref a2)]) hx hb dX2_plus_35 hl (k := 4) rfl (by rfl) (by decide) rfl (fun ls hl => ?_)
        refine lv_goto (tgt := 4) hx hb dX2_plus_38 (by decide) ?_
        exact ih (i + 1) (xi + 1) (upd fi i (x19 - x19 / 10 * 10)) (x19 / 10) ws2 H locs ls (by omega) (by omega) (by rw [exi]; exact nI_1 i) (by rw [hws2, hw, List.set_set]) (inv_lo hA1 (by rw [e19, show (10 : Int32) = nI 10 from rfl, pk_rem (by omega) (by decide) (by decide), cy_dig])) (inv_hi hA2) (by rw [e19, show (10 : Int32) = nI 10 from rfl, pk_div (by omega) (by decide) (by decide), cy_succ]) hP hD hS (lv_sub hl [3, 4, 1, 0] rfl)
  refine lv_iconst (v := 0) hx hb dX2_plus_0 (by decide) ?_
  refine lv_istore_n (lv' := [(2, .int 0), (0, .ref a1), (1, .ref a2)]) hx hb dX2_plus_1 rfl hl (by decide) rfl (fun ls hl => ?_)
  refine lv_iconst (v := 0) hx hb dX2_plus_2 (by decide) ?_
  refine lv_istore_n (lv' := [(3, .int 0), (2, .int 0), (0, .ref a1), (1, .ref a2)]) hx hb dX2_plus_3 rfl hl (by decide) rfl (fun ls hl => ?_)
  exact loop 81 0 0 f 0 ws s.heap [] ls (by omega) (by omega) nI_0.symm (set_same hk).symm (fun j hj => absurd hj (by omega)) (fun j _ => rfl) (by rw [cy_0]; rfl) hP hD hS (lv_sub hl [2, 3, 1, 0] rfl)
set_option maxHeartbeats 4000000 in
set_option maxRecDepth 100000 in
theorem cM_minus (l : Launch) (D : va_G) {tys : xT} {ws : va_W} {sz : Nat} {k a1 t1 : Nat} {c1 : ClassId} {f : Nat → Int32} (hk : ws[k]? = some (a1, .inl (c1, 80, .inl f))) (ht1 : tys[t1]? = some (c1, .int)) {k2 a2 t2 : Nat} {c2 : ClassId} {g : Nat → Int32} (hk2 : ws[k2]? = some (a2, .inl (c2, 80, .inl g))) (ht2 : tys[t2]? = some (c2, .int)) {X Y : Nat} (hf : dg f X) (hg : dg g Y) (hXY : Y ≤ X) (hne : k2 ≠ k) : xM l yX2_minus (.code yX2_minus cX2_minus 5 none :: mdT) ({ frames := 0, cells := 0, slots := 0, locals := 0 }) D tys ws sz [.ref a1, .ref a2] (xQv D tys (fun w => ∃ f1, w = ws.set k (a1, .inl (c1, 80, .inl f1)) ∧ ∀ j, j < 80 → f1 j = nI ((X - Y) / 10 ^ j % 10))) 0 0 := by
  refine xb_m (cc := cX2_minus) (maxL := 5) (ret := none) (by decide) rfl (Nat.le_of_ble_eq_true rfl) ?_
  intro p e s m below meth c A ls hx hb hr hml hown hts hlocks hnm hA hP hK hD hS hl
  have hl : lv_has ls 5 [(0, .ref a1), (1, .ref a2)] := hl
  have hown : s.vm.findClass RX2 = some m.cls := hown
  have loop : ∀ (n i : Nat) (xi : Int32) (fi : Nat → Int32) (x2 : Int32) (ws1 : va_W) (H : Heap) (locs : List Loc) (ls : Array Slot), i ≤ 80 → 80 < i + n → xi = nI i → ws1 = ws.set k (a1, .inl (c1, 80, .inl fi)) → (∀ j, j < i → fi j = nI ((X - Y) / 10 ^ j % 10)) → (∀ j, i ≤ j → fi j = f j) → x2 = nI (bw X Y i) → va_P D vwCl ws1 H → va_D A ws1 → va_S A s.heap H locs → lv_has ls 5 [(0, .ref a1), (1, .ref a2), (2, .int x2), (3, .int xi)] → W p l e ({ frames := 0, cells := 0, slots := 0, locals := 0 }) s m [.ref a1, .ref a2].toArray below meth c H locs 0 0 (MQ below (xQv D tys (fun w => ∃ f1, w = ws.set k (a1, .inl (c1, 80, .inl f1)) ∧ ∀ j, j < 80 → f1 j = nI ((X - Y) / 10 ^ j % 10)) A) [.ref a1, .ref a2].toArray s 0 0 A) (F0 m 4 ls []) := by
    intro n
    induction n with
    | zero =>
      intro i xi fi x2 ws1 H locs ls h1 h2
      omega
    | succ n ih =>
      intro i xi fi x2 ws1 H locs ls h1 h2 exi hw hA1 hA2 ex2 hP hD hS hl
      have hk : ws1[k]? = some (a1, .inl (c1, 80, .inl fi)) := by rw [hw]; exact sgS hk
      have hk2 : ws1[k2]? = some (a2, .inl (c2, 80, .inl g)) := by rw [hw, sgN hne]; exact hk2
      refine lv_iload_n hx hb dX2_minus_4 rfl (lv_at hl 3 rfl) ?_
      refine lv_bipush (v := 80) hx hb dX2_minus_5 (by decide) ?_
      refine lv_icmp_ge (tgt := 56) hx hb dX2_minus_7 (by decide) (fun c7 => ?_) (fun c7 => ?_)
      · exact xb_vr hx hb hr hlocks hP hK hD hS dX2_minus_56 (⟨fi, hw, fun j hj => hA1 j (by have q := nge (M := 80) rfl exi (by decide) c7 (by omega); omega)⟩)
      · have hi8 := nlt (M := 80) rfl exi (by decide) c7 (by omega)
        have q1 := d9 X i
        have q2 := d9 Y i
        have q3 := bw_le X Y i
        refine lv_aload_n hx hb dX2_minus_10 rfl (lv_at hl 0 rfl) ?_
        refine lv_iload_n hx hb dX2_minus_11 rfl (lv_at hl 3 rfl) ?_
        refine ia_ld hx hb hK hP hk ht1 exi hi8 (by decide) dX2_minus_12 ?_
        refine lv_aload_n hx hb dX2_minus_13 rfl (lv_at hl 1 rfl) ?_
        refine lv_iload_n hx hb dX2_minus_14 rfl (lv_at hl 3 rfl) ?_
        refine ia_ld hx hb hK hP hk2 ht2 exi hi8 (by decide) dX2_minus_15 ?_
        refine lv_isub hx hb dX2_minus_16 ?_
        refine lv_iload_n hx hb dX2_minus_17 rfl (lv_at hl 2 rfl) ?_
        refine lv_isub hx hb dX2_minus_18 ?_
        refine lv_topi (fun x19 ex19 => ?_)
        have e19 : x19 = nI (X / 10 ^ i % 10) - nI (Y / 10 ^ i % 10) - nI (bw X Y i) := by rw [ex19, hA2 i (by omega), hf i hi8, hg i hi8, ex2]
        obtain ⟨g1, g2, g3⟩ := sb10 _ q1 _ q2 _ (show bw X Y i < 2 by omega)
        rw [← e19] at g1 g2 g3
        obtain ⟨s1, s2⟩ := bw_step hXY i
        refine lv_istore (lv' := [(4, .int x19), (0, .ref a1), (1, .ref a2), (2, .int x2), (3, .int xi)]) hx hb dX2_minus_19 hl (by decide) rfl (fun ls hl => ?_)
        refine lv_aload_n hx hb dX2_minus_21 rfl (lv_at hl 1 rfl) ?_
        refine lv_iload_n hx hb dX2_minus_22 rfl (lv_at hl 4 rfl) ?_
        refine lv_iload hx hb dX2_minus_23 (lv_at hl 0 rfl) ?_
        refine lv_if_ge (tgt := 36) hx hb dX2_minus_25 (by decide) (fun c25 => ?_) (fun c25 => ?_)
        · refine lv_iload hx hb dX2_minus_36 (lv_at hl 0 rfl) ?_
          refine ia_st (x := x19) hx hb hK hP hD hS hk ht1 exi hi8 (by decide) dX2_minus_38 (fun ws2 H locs hws2 hP hD hS => ?_)
          have hk : ws2[k]? = some (a1, .inl (c1, 80, .inl (upd fi i x19))) := by rw [hws2]; exact sgS hk
          have hk2 : ws2[k2]? = some (a2, .inl (c2, 80, .inl g)) := by rw [hws2, sgN hne]; exact hk2
          refine lv_iload hx hb dX2_minus_39 (lv_at hl 0 rfl) ?_
          refine lv_if_ge (tgt := 48) hx hb dX2_minus_41 (by decide) (fun c41 => ?_) (fun c41 => ?_)
          · refine lv_iconst (v := 0) hx hb dX2_minus_48 (by decide) ?_
            refine lv_istore_n (lv' := [(2, .int 0), (4, .int x19), (0, .ref a1), (1, .ref a2), (3, .int xi)]) hx hb dX2_minus_49 rfl hl (by decide) rfl (fun ls hl => ?_)
            refine lv_iinc (v := xi + 1) (lv' := [(3, .int (xi + 1)), (2, .int 0), (4, .int x19), (0, .ref a1), (1, .ref a2)]) hx hb dX2_minus_50 hl (k := 4) rfl (by rfl) (by decide) rfl (fun ls hl => ?_)
            refine lv_goto (tgt := 4) hx hb dX2_minus_53 (by decide) ?_
            exact ih (i + 1) (xi + 1) (upd fi i x19) 0 ws2 H locs ls (by omega) (by omega) (by rw [exi]; exact nI_1 i) (by rw [hws2, hw, List.set_set]) (inv_lo hA1 (by rw [g3 (g1.mp c25), (s2 (g1.mp c25)).1])) (inv_hi hA2) (by rw [(s2 (g1.mp c25)).2]; rfl) hP hD hS (lv_sub hl [3, 4, 1, 0] rfl)
          · exact absurd c25 c41
        · refine lv_iload hx hb dX2_minus_28 (lv_at hl 0 rfl) ?_
          refine lv_bipush (v := 10) hx hb dX2_minus_30 (by decide) ?_
          refine lv_iadd hx hb dX2_minus_32 ?_
          refine lv_goto (tgt := 38) hx hb dX2_minus_33 (by decide) ?_
          refine ia_st (x := x19 + 10) hx hb hK hP hD hS hk ht1 exi hi8 (by decide) dX2_minus_38 (fun ws2 H locs hws2 hP hD hS => ?_)
          have hk : ws2[k]? = some (a1, .inl (c1, 80, .inl (upd fi i (x19 + 10)))) := by rw [hws2]; exact sgS hk
          have hk2 : ws2[k2]? = some (a2, .inl (c2, 80, .inl g)) := by rw [hws2, sgN hne]; exact hk2
          refine lv_iload hx hb dX2_minus_39 (lv_at hl 0 rfl) ?_
          refine lv_if_ge (tgt := 48) hx hb dX2_minus_41 (by decide) (fun c41 => ?_) (fun c41 => ?_)
          · exact absurd c41 c25
          · refine lv_iconst (v := 1) hx hb dX2_minus_44 (by decide) ?_
            refine lv_goto (tgt := 49) hx hb dX2_minus_45 (by decide) ?_
            refine lv_istore_n (lv' := [(2, .int 1), (4, .int x19), (0, .ref a1), (1, .ref a2), (3, .int xi)]) hx hb dX2_minus_49 rfl hl (by decide) rfl (fun ls hl => ?_)
            refine lv_iinc (v := xi + 1) (lv' := [(3, .int (xi + 1)), (2, .int 1), (4, .int x19), (0, .ref a1), (1, .ref a2)]) hx hb dX2_minus_50 hl (k := 4) rfl (by rfl) (by decide) rfl (fun ls hl => ?_)
            refine lv_goto (tgt := 4) hx hb dX2_minus_53 (by decide) ?_
            exact ih (i + 1) (xi + 1) (upd fi i (x19 + 10)) 1 ws2 H locs ls (by omega) (by omega) (by rw [exi]; exact nI_1 i) (by rw [hws2, hw, List.set_set]) (inv_lo hA1 (by rw [g2 (Nat.lt_of_not_le (fun q => c25 (g1.mpr q))), (s1 (Nat.lt_of_not_le (fun q => c25 (g1.mpr q)))).1])) (inv_hi hA2) (by rw [(s1 (Nat.lt_of_not_le (fun q => c25 (g1.mpr q)))).2]; rfl) hP hD hS (lv_sub hl [3, 4, 1, 0] rfl)
  refine lv_iconst (v := 0) hx hb dX2_minus_0 (by decide) ?_
  refine lv_istore_n (lv' := [(2, .int 0), (0, .ref a1), (1, .ref a2)]) hx hb dX2_minus_1 rfl hl (by decide) rfl (fun ls hl => ?_)
  refine lv_iconst (v := 0) hx hb dX2_minus_2 (by decide) ?_
  refine lv_istore_n (lv' := [(3, .int 0), (2, .int 0), (0, .ref a1), (1, .ref a2)]) hx hb dX2_minus_3 rfl hl (by decide) rfl (fun ls hl => ?_)
  exact loop 81 0 0 f 0 ws s.heap [] ls (by omega) (by omega) nI_0.symm (set_same hk).symm (fun j hj => absurd hj (by omega)) (fun j _ => rfl) (by rw [bw_0]; rfl) hP hD hS (lv_sub hl [2, 3, 1, 0] rfl)
set_option maxHeartbeats 4000000 in
set_option maxRecDepth 100000 in
theorem cM_write (l : Launch) (D : va_G) {tys : xT} {ws : va_W} {sz : Nat} {k a1 t1 : Nat} {c1 : ClassId} {f : Nat → Int32} (hk : ws[k]? = some (a1, .inl (c1, 80, .inl f))) (ht1 : tys[t1]? = some (c1, .int)) (v : Int64) : xM l yX2_write (.code yX2_write cX2_write 7 none :: mdT) ({ frames := 0, cells := 0, slots := 0, locals := 0 }) D tys ws sz [.long v, .ref a1] (xQv D tys (fun w => ∃ f1, w = ws.set k (a1, .inl (c1, 80, .inl f1)) ∧ ∀ j, j < 80 → f1 j = nI (v.toInt.natAbs / 10 ^ j % 10))) 0 0 := by
  refine xb_m (cc := cX2_write) (maxL := 7) (ret := none) (by decide) rfl (Nat.le_of_ble_eq_true rfl) ?_
  intro p e s m below meth c A ls hx hb hr hml hown hts hlocks hnm hA hP hK hD hS hl
  have hl : lv_has ls 7 [(0, .long v), (2, .ref a1)] := hl
  have hown : s.vm.findClass RX2 = some m.cls := hown
  have loop : ∀ (n i : Nat) (xi : Int32) (fi : Nat → Int32) (x3 : Int64) (ws1 : va_W) (H : Heap) (locs : List Loc) (ls : Array Slot), i ≤ 80 → 80 < i + n → xi = nI i → ws1 = ws.set k (a1, .inl (c1, 80, .inl fi)) → (∀ j, j < i → fi j = nI (v.toInt.natAbs / 10 ^ j % 10)) → (∀ j, i ≤ j → fi j = f j) → x3.toInt = v.toInt.tdiv ((10 ^ i : Nat) : Int) → va_P D vwCl ws1 H → va_D A ws1 → va_S A s.heap H locs → lv_has ls 7 [(2, .ref a1), (3, .long x3), (5, .int xi)] → W p l e ({ frames := 0, cells := 0, slots := 0, locals := 0 }) s m [.long v, .ref a1].toArray below meth c H locs 0 0 (MQ below (xQv D tys (fun w => ∃ f1, w = ws.set k (a1, .inl (c1, 80, .inl f1)) ∧ ∀ j, j < 80 → f1 j = nI (v.toInt.natAbs / 10 ^ j % 10)) A) [.long v, .ref a1].toArray s 0 0 A) (F0 m 5 ls []) := by
    intro n
    induction n with
    | zero =>
      intro i xi fi x3 ws1 H locs ls h1 h2
      omega
    | succ n ih =>
      intro i xi fi x3 ws1 H locs ls h1 h2 exi hw hA1 hA2 ex3 hP hD hS hl
      have hk : ws1[k]? = some (a1, .inl (c1, 80, .inl fi)) := by rw [hw]; exact sgS hk
      refine lv_iload hx hb dX2_write_5 (lv_at hl 2 rfl) ?_
      refine lv_bipush (v := 80) hx hb dX2_write_7 (by decide) ?_
      refine lv_icmp_ge (tgt := 49) hx hb dX2_write_9 (by decide) (fun c9 => ?_) (fun c9 => ?_)
      · exact xb_vr hx hb hr hlocks hP hK hD hS dX2_write_49 (⟨fi, hw, fun j hj => hA1 j (by have q := nge (M := 80) rfl exi (by decide) c9 (by omega); omega)⟩)
      · have hi8 := nlt (M := 80) rfl exi (by decide) c9 (by omega)
        refine lv_lload_n hx hb dX2_write_12 rfl (lv_at hl 1 rfl) ?_
        refine lv_ldc2 (v := 10) hx hb hown (hts _ (inT mw_18)) dX2_write_13 ?_
        refine lv_lrem hx hb dX2_write_16 (by decide) ?_
        refine lv_l2i hx hb dX2_write_17 rfl ?_
        refine lv_topi (fun x18 ex18 => ?_)
        have e18 : x18 = (Int64.ofInt ((v.toInt.tdiv ((10 ^ i : Nat) : Int)).tmod 10)).toInt32 := by rw [ex18, (lr10 x3).1, ex3]
        have e0 := dig_l (z := v.toInt.tdiv ((10 ^ i : Nat) : Int)) (by rw [← ex3]; exact un_lo x3) (by rw [← ex3]; exact un_hi x3)
        rw [← e18, td_abs] at e0
        refine lv_istore (lv' := [(6, .int x18), (2, .ref a1), (3, .long x3), (5, .int xi)]) hx hb dX2_write_18 hl (by decide) rfl (fun ls hl => ?_)
        refine lv_aload_n hx hb dX2_write_20 rfl (lv_at hl 1 rfl) ?_
        refine lv_iload hx hb dX2_write_21 (lv_at hl 3 rfl) ?_
        refine lv_iload hx hb dX2_write_23 (lv_at hl 0 rfl) ?_
        refine lv_if_ge (tgt := 34) hx hb dX2_write_25 (by decide) (fun c25 => ?_) (fun c25 => ?_)
        · refine lv_iload hx hb dX2_write_34 (lv_at hl 0 rfl) ?_
          refine ia_st (x := x18) hx hb hK hP hD hS hk ht1 exi hi8 (by decide) dX2_write_36 (fun ws2 H locs hws2 hP hD hS => ?_)
          have hk : ws2[k]? = some (a1, .inl (c1, 80, .inl (upd fi i x18))) := by rw [hws2]; exact sgS hk
          refine lv_lload_n hx hb dX2_write_37 rfl (lv_at hl 2 rfl) ?_
          refine lv_ldc2 (v := 10) hx hb hown (hts _ (inT mw_18)) dX2_write_38 ?_
          refine lv_ldiv hx hb dX2_write_41 (by decide) ?_
          refine lv_lstore_n (lv' := [(3, .long (x3 / 10)), (6, .int x18), (2, .ref a1), (5, .int xi)]) hx hb dX2_write_42 rfl hl (by decide) rfl (fun ls hl => ?_)
          refine lv_iinc (v := xi + 1) (lv' := [(5, .int (xi + 1)), (3, .long (x3 / 10)), (6, .int x18), (2, .ref a1)]) hx hb dX2_write_43 hl (k := 3) rfl (by rfl) (by decide) rfl (fun ls hl => ?_)
          refine lv_goto (tgt := 5) hx hb dX2_write_46 (by decide) ?_
          exact ih (i + 1) (xi + 1) (upd fi i x18) (x3 / 10) ws2 H locs ls (by omega) (by omega) (by rw [exi]; exact nI_1 i) (by rw [hws2, hw, List.set_set]) (inv_lo hA1 (by rw [← e0, if_pos c25])) (inv_hi hA2) (by rw [Int64.toInt_div_of_ne_right _ _ (by decide), ex3, show (10 : Int64).toInt = 10 from rfl]; exact td_succ _ _) hP hD hS (lv_sub hl [3, 1, 0] rfl)
        · refine lv_iload hx hb dX2_write_28 (lv_at hl 0 rfl) ?_
          refine lv_ineg hx hb dX2_write_30 ?_
          refine lv_goto (tgt := 36) hx hb dX2_write_31 (by decide) ?_
          refine ia_st (x := -x18) hx hb hK hP hD hS hk ht1 exi hi8 (by decide) dX2_write_36 (fun ws2 H locs hws2 hP hD hS => ?_)
          have hk : ws2[k]? = some (a1, .inl (c1, 80, .inl (upd fi i (-x18)))) := by rw [hws2]; exact sgS hk
          refine lv_lload_n hx hb dX2_write_37 rfl (lv_at hl 2 rfl) ?_
          refine lv_ldc2 (v := 10) hx hb hown (hts _ (inT mw_18)) dX2_write_38 ?_
          refine lv_ldiv hx hb dX2_write_41 (by decide) ?_
          refine lv_lstore_n (lv' := [(3, .long (x3 / 10)), (6, .int x18), (2, .ref a1), (5, .int xi)]) hx hb dX2_write_42 rfl hl (by decide) rfl (fun ls hl => ?_)
          refine lv_iinc (v := xi + 1) (lv' := [(5, .int (xi + 1)), (3, .long (x3 / 10)), (6, .int x18), (2, .ref a1)]) hx hb dX2_write_43 hl (k := 3) rfl (by rfl) (by decide) rfl (fun ls hl => ?_)
          refine lv_goto (tgt := 5) hx hb dX2_write_46 (by decide) ?_
          exact ih (i + 1) (xi + 1) (upd fi i (-x18)) (x3 / 10) ws2 H locs ls (by omega) (by omega) (by rw [exi]; exact nI_1 i) (by rw [hws2, hw, List.set_set]) (inv_lo hA1 (by rw [← e0, if_neg c25])) (inv_hi hA2) (by rw [Int64.toInt_div_of_ne_right _ _ (by decide), ex3, show (10 : Int64).toInt = 10 from rfl]; exact td_succ _ _) hP hD hS (lv_sub hl [3, 1, 0] rfl)
  refine lv_lload_n hx hb dX2_write_0 rfl (lv_at hl 0 rfl) ?_
  refine lv_lstore_n (lv' := [(3, .long v), (0, .long v), (2, .ref a1)]) hx hb dX2_write_1 rfl hl (by decide) rfl (fun ls hl => ?_)
  refine lv_iconst (v := 0) hx hb dX2_write_2 (by decide) ?_
  refine lv_istore (lv' := [(5, .int 0), (3, .long v), (0, .long v), (2, .ref a1)]) hx hb dX2_write_3 hl (by decide) rfl (fun ls hl => ?_)
  exact loop 81 0 0 f v ws s.heap [] ls (by omega) (by omega) nI_0.symm (set_same hk).symm (fun j hj => absurd hj (by omega)) (fun j _ => rfl) (td_0 _).symm hP hD hS (lv_sub hl [3, 1, 0] rfl)
set_option maxHeartbeats 4000000 in
set_option maxRecDepth 100000 in
theorem cM_cmps (l : Launch) (D : va_G) {tys : xT} {ws : va_W} {sz : Nat} {k a1 t1 : Nat} {c1 : ClassId} {f : Nat → Int32} (hk : ws[k]? = some (a1, .inl (c1, 80, .inl f))) (ht1 : tys[t1]? = some (c1, .int)) {k2 a2 t2 : Nat} {c2 : ClassId} {g : Nat → Int32} (hk2 : ws[k2]? = some (a2, .inl (c2, 80, .inl g))) (ht2 : tys[t2]? = some (c2, .int)) {X Y : Nat} (hf : dg f X) (hg : dg g Y) (hX : X < 10 ^ 80) (hY : Y < 10 ^ 80) : xM l yX2_compareSizes (.code yX2_compareSizes cX2_compareSizes 4 (some .int) :: mdT) ({ frames := 0, cells := 0, slots := 0, locals := 0 }) D tys ws sz [.ref a1, .ref a2] (xQi D tys (fun r w => r = sp_ord (X : Int) (Y : Int) ∧ ws = w)) 0 0 := by
  refine xb_m (cc := cX2_compareSizes) (maxL := 4) (ret := (some .int)) (by decide) rfl (Nat.le_of_ble_eq_true rfl) ?_
  intro p e s m below meth c A ls hx hb hr hml hown hts hlocks hnm hA hP hK hD hS hl
  have hl : lv_has ls 4 [(0, .ref a1), (1, .ref a2)] := hl
  have hown : s.vm.findClass RX2 = some m.cls := hown
  have loop : ∀ (n i : Nat) (xi : Int32) (x2 : Int32) (ls : Array Slot), i ≤ 80 → 80 < i + n → xi = nI i → x2 = sp_ord ((X % 10 ^ i : Nat) : Int) ((Y % 10 ^ i : Nat) : Int) → lv_has ls 4 [(0, .ref a1), (1, .ref a2), (2, .int x2), (3, .int xi)] → W p l e ({ frames := 0, cells := 0, slots := 0, locals := 0 }) s m [.ref a1, .ref a2].toArray below meth c s.heap [] 0 0 (MQ below (xQi D tys (fun r w => r = sp_ord (X : Int) (Y : Int) ∧ ws = w) A) [.ref a1, .ref a2].toArray s 0 0 A) (F0 m 4 ls []) := by
    intro n
    induction n with
    | zero =>
      intro i xi x2 ls h1 h2
      omega
    | succ n ih =>
      intro i xi x2 ls h1 h2 exi ex2 hl
      refine lv_iload_n hx hb dX2_compareSizes_4 rfl (lv_at hl 3 rfl) ?_
      refine lv_bipush (v := 80) hx hb dX2_compareSizes_5 (by decide) ?_
      refine lv_icmp_ge (tgt := 44) hx hb dX2_compareSizes_7 (by decide) (fun c7 => ?_) (fun c7 => ?_)
      · refine lv_iload_n hx hb dX2_compareSizes_44 rfl (lv_at hl 2 rfl) ?_
        exact xb_ir hx hb hr hlocks hP hK hD hS dX2_compareSizes_45 (⟨by have q := nge (M := 80) rfl exi (by decide) c7 (by omega); have q2 : i = 80 := (by omega); subst q2; rw [Nat.mod_eq_of_lt hX, Nat.mod_eq_of_lt hY] at ex2; exact ex2, rfl⟩)
      · have hi8 := nlt (M := 80) rfl exi (by decide) c7 (by omega)
        have q1 := d9 X i
        have q2 := d9 Y i
        refine lv_aload_n hx hb dX2_compareSizes_10 rfl (lv_at hl 0 rfl) ?_
        refine lv_iload_n hx hb dX2_compareSizes_11 rfl (lv_at hl 3 rfl) ?_
        refine ia_ld hx hb hK hP hk ht1 exi hi8 (by decide) dX2_compareSizes_12 ?_
        refine lv_aload_n hx hb dX2_compareSizes_13 rfl (lv_at hl 1 rfl) ?_
        refine lv_iload_n hx hb dX2_compareSizes_14 rfl (lv_at hl 3 rfl) ?_
        refine ia_ld hx hb hK hP hk2 ht2 exi hi8 (by decide) dX2_compareSizes_15 ?_
        refine lv_icmp_ge (tgt := 23) hx hb dX2_compareSizes_16 (by decide) (fun c16 => ?_) (fun c16 => ?_)
        · refine lv_aload_n hx hb dX2_compareSizes_23 rfl (lv_at hl 0 rfl) ?_
          refine lv_iload_n hx hb dX2_compareSizes_24 rfl (lv_at hl 3 rfl) ?_
          refine ia_ld hx hb hK hP hk ht1 exi hi8 (by decide) dX2_compareSizes_25 ?_
          refine lv_aload_n hx hb dX2_compareSizes_26 rfl (lv_at hl 1 rfl) ?_
          refine lv_iload_n hx hb dX2_compareSizes_27 rfl (lv_at hl 3 rfl) ?_
          refine ia_ld hx hb hK hP hk2 ht2 exi hi8 (by decide) dX2_compareSizes_28 ?_
          refine lv_icmp_le (tgt := 36) hx hb dX2_compareSizes_29 (by decide) (fun c29 => ?_) (fun c29 => ?_)
          · refine lv_iload_n hx hb dX2_compareSizes_36 rfl (lv_at hl 2 rfl) ?_
            refine lv_istore_n (lv' := [(2, .int x2), (0, .ref a1), (1, .ref a2), (3, .int xi)]) hx hb dX2_compareSizes_37 rfl hl (by decide) rfl (fun ls hl => ?_)
            refine lv_iinc (v := xi + 1) (lv' := [(3, .int (xi + 1)), (2, .int x2), (0, .ref a1), (1, .ref a2)]) hx hb dX2_compareSizes_38 hl (k := 3) rfl (by rfl) (by decide) rfl (fun ls hl => ?_)
            refine lv_goto (tgt := 4) hx hb dX2_compareSizes_41 (by decide) ?_
            exact ih (i + 1) (xi + 1) x2 ls (by omega) (by omega) (by rw [exi]; exact nI_1 i) (by rw [hf i hi8, hg i hi8, nI_lt10 q1 q2] at c16; rw [hf i hi8, hg i hi8, nI_lt10 q2 q1] at c29; rw [od_step, if_neg (by omega), if_neg (by omega)]; exact ex2) (lv_sub hl [2, 3, 1, 0] rfl)
          · refine lv_iconst (v := 1) hx hb dX2_compareSizes_32 (by decide) ?_
            refine lv_goto (tgt := 37) hx hb dX2_compareSizes_33 (by decide) ?_
            refine lv_istore_n (lv' := [(2, .int 1), (0, .ref a1), (1, .ref a2), (3, .int xi)]) hx hb dX2_compareSizes_37 rfl hl (by decide) rfl (fun ls hl => ?_)
            refine lv_iinc (v := xi + 1) (lv' := [(3, .int (xi + 1)), (2, .int 1), (0, .ref a1), (1, .ref a2)]) hx hb dX2_compareSizes_38 hl (k := 3) rfl (by rfl) (by decide) rfl (fun ls hl => ?_)
            refine lv_goto (tgt := 4) hx hb dX2_compareSizes_41 (by decide) ?_
            exact ih (i + 1) (xi + 1) 1 ls (by omega) (by omega) (by rw [exi]; exact nI_1 i) (by rw [hf i hi8, hg i hi8, nI_lt10 q1 q2] at c16; rw [hf i hi8, hg i hi8, nI_lt10 q2 q1] at c29; rw [od_step, if_neg (by omega), if_pos (by omega)]) (lv_sub hl [2, 3, 1, 0] rfl)
        · refine lv_iconst (v := (-1)) hx hb dX2_compareSizes_19 (by decide) ?_
          refine lv_goto (tgt := 37) hx hb dX2_compareSizes_20 (by decide) ?_
          refine lv_istore_n (lv' := [(2, .int (-1)), (0, .ref a1), (1, .ref a2), (3, .int xi)]) hx hb dX2_compareSizes_37 rfl hl (by decide) rfl (fun ls hl => ?_)
          refine lv_iinc (v := xi + 1) (lv' := [(3, .int (xi + 1)), (2, .int (-1)), (0, .ref a1), (1, .ref a2)]) hx hb dX2_compareSizes_38 hl (k := 3) rfl (by rfl) (by decide) rfl (fun ls hl => ?_)
          refine lv_goto (tgt := 4) hx hb dX2_compareSizes_41 (by decide) ?_
          exact ih (i + 1) (xi + 1) (-1) ls (by omega) (by omega) (by rw [exi]; exact nI_1 i) (by rw [hf i hi8, hg i hi8, nI_lt10 q1 q2] at c16; rw [od_step, if_pos (by omega)]) (lv_sub hl [2, 3, 1, 0] rfl)
  refine lv_iconst (v := 0) hx hb dX2_compareSizes_0 (by decide) ?_
  refine lv_istore_n (lv' := [(2, .int 0), (0, .ref a1), (1, .ref a2)]) hx hb dX2_compareSizes_1 rfl hl (by decide) rfl (fun ls hl => ?_)
  refine lv_iconst (v := 0) hx hb dX2_compareSizes_2 (by decide) ?_
  refine lv_istore_n (lv' := [(3, .int 0), (2, .int 0), (0, .ref a1), (1, .ref a2)]) hx hb dX2_compareSizes_3 rfl hl (by decide) rfl (fun ls hl => ?_)
  exact loop 81 0 0 0 ls (by omega) (by omega) nI_0.symm (od_0 X Y).symm (lv_sub hl [2, 3, 1, 0] rfl)
set_option maxHeartbeats 4000000 in
set_option maxRecDepth 100000 in
theorem cM_isn (l : Launch) (D : va_G) {tys : xT} {ws : va_W} {sz : Nat} {k a1 t1 : Nat} {c1 : ClassId} {f : Nat → Int32} (hk : ws[k]? = some (a1, .inl (c1, 80, .inl f))) (ht1 : tys[t1]? = some (c1, .int)) {X : Nat} (hf : dg f X) (hX : X < 10 ^ 80) : xM l yX2_isNothing (.code yX2_isNothing cX2_isNothing 3 (some .boolean) :: mdT) ({ frames := 0, cells := 0, slots := 0, locals := 0 }) D tys ws sz [.ref a1] (xQi D tys (fun r w => r = (if X = 0 then 1 else 0) ∧ ws = w)) 0 0 := by
  refine xb_m (cc := cX2_isNothing) (maxL := 3) (ret := (some .boolean)) (by decide) rfl (Nat.le_of_ble_eq_true rfl) ?_
  intro p e s m below meth c A ls hx hb hr hml hown hts hlocks hnm hA hP hK hD hS hl
  have hl : lv_has ls 3 [(0, .ref a1)] := hl
  have hown : s.vm.findClass RX2 = some m.cls := hown
  have loop : ∀ (n i : Nat) (xi : Int32) (x1 : Int32) (ls : Array Slot), i ≤ 80 → 80 < i + n → xi = nI i → x1 = (if X % 10 ^ i = 0 then 1 else 0) → lv_has ls 3 [(0, .ref a1), (1, .int x1), (2, .int xi)] → W p l e ({ frames := 0, cells := 0, slots := 0, locals := 0 }) s m [.ref a1].toArray below meth c s.heap [] 0 0 (MQ below (xQi D tys (fun r w => r = (if X = 0 then 1 else 0) ∧ ws = w) A) [.ref a1].toArray s 0 0 A) (F0 m 4 ls []) := by
    intro n
    induction n with
    | zero =>
      intro i xi x1 ls h1 h2
      omega
    | succ n ih =>
      intro i xi x1 ls h1 h2 exi ex1 hl
      refine lv_iload_n hx hb dX2_isNothing_4 rfl (lv_at hl 2 rfl) ?_
      refine lv_bipush (v := 80) hx hb dX2_isNothing_5 (by decide) ?_
      refine lv_icmp_ge (tgt := 32) hx hb dX2_isNothing_7 (by decide) (fun c7 => ?_) (fun c7 => ?_)
      · refine lv_iload_n hx hb dX2_isNothing_32 rfl (lv_at hl 1 rfl) ?_
        exact xb_zr hx hb hr hlocks hP hK hD hS dX2_isNothing_33 (by rw [ex1]; split <;> rfl) (isn_fin hX ex1 exi c7 h1)
      · have hi8 := nlt (M := 80) rfl exi (by decide) c7 (by omega)
        have q1 := d9 X i
        refine lv_iload_n hx hb dX2_isNothing_10 rfl (lv_at hl 1 rfl) ?_
        refine lv_if_eq (tgt := 24) hx hb dX2_isNothing_11 (by decide) (fun c11 => ?_) (fun c11 => ?_)
        · have c11 := bz_0 ex1 c11
          refine lv_iconst (v := 0) hx hb dX2_isNothing_24 (by decide) ?_
          refine lv_istore_n (lv' := [(1, .int 0), (0, .ref a1), (2, .int xi)]) hx hb dX2_isNothing_25 rfl hl (by decide) rfl (fun ls hl => ?_)
          refine lv_iinc (v := xi + 1) (lv' := [(2, .int (xi + 1)), (1, .int 0), (0, .ref a1)]) hx hb dX2_isNothing_26 hl (k := 2) rfl (by rfl) (by decide) rfl (fun ls hl => ?_)
          refine lv_goto (tgt := 4) hx hb dX2_isNothing_29 (by decide) ?_
          exact ih (i + 1) (xi + 1) 0 ls (by omega) (by omega) (by rw [exi]; exact nI_1 i) (by rw [if_neg (fun q => c11 ((mod_z X i).mp q).1)]) (lv_sub hl [2, 1, 0] rfl)
        · have c11 := bz_1 ex1 c11
          refine lv_aload_n hx hb dX2_isNothing_14 rfl (lv_at hl 0 rfl) ?_
          refine lv_iload_n hx hb dX2_isNothing_15 rfl (lv_at hl 2 rfl) ?_
          refine ia_ld hx hb hK hP hk ht1 exi hi8 (by decide) dX2_isNothing_16 ?_
          refine lv_if_ne (tgt := 24) hx hb dX2_isNothing_17 (by decide) (fun c17 => ?_) (fun c17 => ?_)
          · refine lv_iconst (v := 0) hx hb dX2_isNothing_24 (by decide) ?_
            refine lv_istore_n (lv' := [(1, .int 0), (0, .ref a1), (2, .int xi)]) hx hb dX2_isNothing_25 rfl hl (by decide) rfl (fun ls hl => ?_)
            refine lv_iinc (v := xi + 1) (lv' := [(2, .int (xi + 1)), (1, .int 0), (0, .ref a1)]) hx hb dX2_isNothing_26 hl (k := 2) rfl (by rfl) (by decide) rfl (fun ls hl => ?_)
            refine lv_goto (tgt := 4) hx hb dX2_isNothing_29 (by decide) ?_
            exact ih (i + 1) (xi + 1) 0 ls (by omega) (by omega) (by rw [exi]; exact nI_1 i) (by rw [if_neg (fun q => c17 (by rw [hf i hi8, ((mod_z X i).mp q).2]; rfl))]) (lv_sub hl [2, 1, 0] rfl)
          · refine lv_iconst (v := 1) hx hb dX2_isNothing_20 (by decide) ?_
            refine lv_goto (tgt := 25) hx hb dX2_isNothing_21 (by decide) ?_
            refine lv_istore_n (lv' := [(1, .int 1), (0, .ref a1), (2, .int xi)]) hx hb dX2_isNothing_25 rfl hl (by decide) rfl (fun ls hl => ?_)
            refine lv_iinc (v := xi + 1) (lv' := [(2, .int (xi + 1)), (1, .int 1), (0, .ref a1)]) hx hb dX2_isNothing_26 hl (k := 2) rfl (by rfl) (by decide) rfl (fun ls hl => ?_)
            refine lv_goto (tgt := 4) hx hb dX2_isNothing_29 (by decide) ?_
            exact ih (i + 1) (xi + 1) 1 ls (by omega) (by omega) (by rw [exi]; exact nI_1 i) (by rw [if_pos ((mod_z X i).mpr ⟨c11, nI_z (by omega) (by rw [← hf i hi8]; exact c17)⟩)]) (lv_sub hl [2, 1, 0] rfl)
  refine lv_iconst (v := 1) hx hb dX2_isNothing_0 (by decide) ?_
  refine lv_istore_n (lv' := [(1, .int 1), (0, .ref a1)]) hx hb dX2_isNothing_1 rfl hl (by decide) rfl (fun ls hl => ?_)
  refine lv_iconst (v := 0) hx hb dX2_isNothing_2 (by decide) ?_
  refine lv_istore_n (lv' := [(2, .int 0), (1, .int 1), (0, .ref a1)]) hx hb dX2_isNothing_3 rfl hl (by decide) rfl (fun ls hl => ?_)
  exact loop 81 0 0 1 ls (by omega) (by omega) nI_0.symm (by rw [if_pos (by rw [Nat.pow_zero, Nat.mod_one])]) (lv_sub hl [2, 1, 0] rfl)
end
section
/-! the reference: its cells by index -/
def md (w0 ws : va_W) (tys : xT) (ad : Nat → Nat) (cB : Nat → ClassId) (rf : Nat → Int64) (tf bf fa fb fc fr : Nat → Int32) (ng : Int32) : Prop :=
  ws[10]? = some (ad 0, .inr (ciM, [.ref (ad 1), .ref (ad 2), .ref (ad 3), .ref (ad 4), .ref (ad 5), .ref (ad 6), .ref (ad 7), .int ng])) ∧ ws[11]? = some (ad 1, .inl (cB 0, 8, .inr (.inl rf))) ∧ ws[12]? = some (ad 2, .inl (cB 1, 160, .inl tf)) ∧ ws[13]? = some (ad 3, .inl (cB 2, 4, .inl bf)) ∧ ws[14]? = some (ad 4, .inl (cB 3, 80, .inl fa)) ∧ ws[15]? = some (ad 5, .inl (cB 4, 80, .inl fb)) ∧ ws[16]? = some (ad 6, .inl (cB 5, 80, .inl fc)) ∧ ws[17]? = some (ad 7, .inl (cB 6, 80, .inl fr)) ∧ (∀ j, j < 10 → ws[j]? = w0[j]?) ∧ tys[2]? = some (cB 0, .long) ∧ tys[3]? = some (cB 1, .int) ∧ tys[4]? = some (cB 2, .boolean) ∧ tys[5]? = some (cB 3, .int) ∧ tys[6]? = some (cB 4, .int) ∧ tys[7]? = some (cB 5, .int) ∧ tys[8]? = some (cB 6, .int)
theorem md_a0 {w0 ws : va_W} {tys : xT} {ad : Nat → Nat} {cB : Nat → ClassId} {rf : Nat → Int64} {tf bf fa fb fc fr : Nat → Int32} {ng : Int32} (M : md w0 ws tys ad cB rf tf bf fa fb fc fr ng) : ws[10]? = some (ad 0, .inr (ciM, [.ref (ad 1), .ref (ad 2), .ref (ad 3), .ref (ad 4), .ref (ad 5), .ref (ad 6), .ref (ad 7), .int ng])) := M.1
theorem md_a1 {w0 ws : va_W} {tys : xT} {ad : Nat → Nat} {cB : Nat → ClassId} {rf : Nat → Int64} {tf bf fa fb fc fr : Nat → Int32} {ng : Int32} (M : md w0 ws tys ad cB rf tf bf fa fb fc fr ng) : ws[11]? = some (ad 1, .inl (cB 0, 8, .inr (.inl rf))) := M.2.1
theorem md_a2 {w0 ws : va_W} {tys : xT} {ad : Nat → Nat} {cB : Nat → ClassId} {rf : Nat → Int64} {tf bf fa fb fc fr : Nat → Int32} {ng : Int32} (M : md w0 ws tys ad cB rf tf bf fa fb fc fr ng) : ws[12]? = some (ad 2, .inl (cB 1, 160, .inl tf)) := M.2.2.1
theorem md_a3 {w0 ws : va_W} {tys : xT} {ad : Nat → Nat} {cB : Nat → ClassId} {rf : Nat → Int64} {tf bf fa fb fc fr : Nat → Int32} {ng : Int32} (M : md w0 ws tys ad cB rf tf bf fa fb fc fr ng) : ws[13]? = some (ad 3, .inl (cB 2, 4, .inl bf)) := M.2.2.2.1
theorem md_a4 {w0 ws : va_W} {tys : xT} {ad : Nat → Nat} {cB : Nat → ClassId} {rf : Nat → Int64} {tf bf fa fb fc fr : Nat → Int32} {ng : Int32} (M : md w0 ws tys ad cB rf tf bf fa fb fc fr ng) : ws[14]? = some (ad 4, .inl (cB 3, 80, .inl fa)) := M.2.2.2.2.1
theorem md_a5 {w0 ws : va_W} {tys : xT} {ad : Nat → Nat} {cB : Nat → ClassId} {rf : Nat → Int64} {tf bf fa fb fc fr : Nat → Int32} {ng : Int32} (M : md w0 ws tys ad cB rf tf bf fa fb fc fr ng) : ws[15]? = some (ad 5, .inl (cB 4, 80, .inl fb)) := M.2.2.2.2.2.1
theorem md_a6 {w0 ws : va_W} {tys : xT} {ad : Nat → Nat} {cB : Nat → ClassId} {rf : Nat → Int64} {tf bf fa fb fc fr : Nat → Int32} {ng : Int32} (M : md w0 ws tys ad cB rf tf bf fa fb fc fr ng) : ws[16]? = some (ad 6, .inl (cB 5, 80, .inl fc)) := M.2.2.2.2.2.2.1
theorem md_a7 {w0 ws : va_W} {tys : xT} {ad : Nat → Nat} {cB : Nat → ClassId} {rf : Nat → Int64} {tf bf fa fb fc fr : Nat → Int32} {ng : Int32} (M : md w0 ws tys ad cB rf tf bf fa fb fc fr ng) : ws[17]? = some (ad 7, .inl (cB 6, 80, .inl fr)) := M.2.2.2.2.2.2.2.1
theorem md_w {w0 ws : va_W} {tys : xT} {ad : Nat → Nat} {cB : Nat → ClassId} {rf : Nat → Int64} {tf bf fa fb fc fr : Nat → Int32} {ng : Int32} (M : md w0 ws tys ad cB rf tf bf fa fb fc fr ng) : ∀ j, j < 10 → ws[j]? = w0[j]? := M.2.2.2.2.2.2.2.2.1
theorem md_t0 {w0 ws : va_W} {tys : xT} {ad : Nat → Nat} {cB : Nat → ClassId} {rf : Nat → Int64} {tf bf fa fb fc fr : Nat → Int32} {ng : Int32} (M : md w0 ws tys ad cB rf tf bf fa fb fc fr ng) : tys[2]? = some (cB 0, .long) := M.2.2.2.2.2.2.2.2.2.1
theorem md_t1 {w0 ws : va_W} {tys : xT} {ad : Nat → Nat} {cB : Nat → ClassId} {rf : Nat → Int64} {tf bf fa fb fc fr : Nat → Int32} {ng : Int32} (M : md w0 ws tys ad cB rf tf bf fa fb fc fr ng) : tys[3]? = some (cB 1, .int) := M.2.2.2.2.2.2.2.2.2.2.1
theorem md_t2 {w0 ws : va_W} {tys : xT} {ad : Nat → Nat} {cB : Nat → ClassId} {rf : Nat → Int64} {tf bf fa fb fc fr : Nat → Int32} {ng : Int32} (M : md w0 ws tys ad cB rf tf bf fa fb fc fr ng) : tys[4]? = some (cB 2, .boolean) := M.2.2.2.2.2.2.2.2.2.2.2.1
theorem md_t3 {w0 ws : va_W} {tys : xT} {ad : Nat → Nat} {cB : Nat → ClassId} {rf : Nat → Int64} {tf bf fa fb fc fr : Nat → Int32} {ng : Int32} (M : md w0 ws tys ad cB rf tf bf fa fb fc fr ng) : tys[5]? = some (cB 3, .int) := M.2.2.2.2.2.2.2.2.2.2.2.2.1
theorem md_t4 {w0 ws : va_W} {tys : xT} {ad : Nat → Nat} {cB : Nat → ClassId} {rf : Nat → Int64} {tf bf fa fb fc fr : Nat → Int32} {ng : Int32} (M : md w0 ws tys ad cB rf tf bf fa fb fc fr ng) : tys[6]? = some (cB 4, .int) := M.2.2.2.2.2.2.2.2.2.2.2.2.2.1
theorem md_t5 {w0 ws : va_W} {tys : xT} {ad : Nat → Nat} {cB : Nat → ClassId} {rf : Nat → Int64} {tf bf fa fb fc fr : Nat → Int32} {ng : Int32} (M : md w0 ws tys ad cB rf tf bf fa fb fc fr ng) : tys[7]? = some (cB 5, .int) := M.2.2.2.2.2.2.2.2.2.2.2.2.2.2.1
theorem md_t6 {w0 ws : va_W} {tys : xT} {ad : Nat → Nat} {cB : Nat → ClassId} {rf : Nat → Int64} {tf bf fa fb fc fr : Nat → Int32} {ng : Int32} (M : md w0 ws tys ad cB rf tf bf fa fb fc fr ng) : tys[8]? = some (cB 6, .int) := M.2.2.2.2.2.2.2.2.2.2.2.2.2.2.2
theorem md_sng {w0 ws ws1 : va_W} {tys : xT} {ad : Nat → Nat} {cB : Nat → ClassId} {rf : Nat → Int64} {tf bf fa fb fc fr : Nat → Int32} {ng : Int32} (M : md w0 ws tys ad cB rf tf bf fa fb fc fr ng) {ng1 : Int32} (h : ws1 = ws.set 10 (ad 0, .inr (ciM, [.ref (ad 1), .ref (ad 2), .ref (ad 3), .ref (ad 4), .ref (ad 5), .ref (ad 6), .ref (ad 7), .int ng1]))) : md w0 ws1 tys ad cB rf tf bf fa fb fc fr ng1 := by
  subst h
  obtain ⟨h0, h1, h2, h3, h4, h5, h6, h7, hw, hy⟩ := M
  refine ⟨sgS h0, by rw [sgN (by decide)]; exact h1, by rw [sgN (by decide)]; exact h2, by rw [sgN (by decide)]; exact h3, by rw [sgN (by decide)]; exact h4, by rw [sgN (by decide)]; exact h5, by rw [sgN (by decide)]; exact h6, by rw [sgN (by decide)]; exact h7, fun j hj => ?_, hy⟩
  rw [sgN (by omega)]; exact hw j hj
theorem md_srf {w0 ws ws1 : va_W} {tys : xT} {ad : Nat → Nat} {cB : Nat → ClassId} {rf : Nat → Int64} {tf bf fa fb fc fr : Nat → Int32} {ng : Int32} (M : md w0 ws tys ad cB rf tf bf fa fb fc fr ng) {rf1 : Nat → Int64} (h : ws1 = ws.set 11 (ad 1, .inl (cB 0, 8, .inr (.inl rf1)))) : md w0 ws1 tys ad cB rf1 tf bf fa fb fc fr ng := by
  subst h
  obtain ⟨h0, h1, h2, h3, h4, h5, h6, h7, hw, hy⟩ := M
  refine ⟨by rw [sgN (by decide)]; exact h0, sgS h1, by rw [sgN (by decide)]; exact h2, by rw [sgN (by decide)]; exact h3, by rw [sgN (by decide)]; exact h4, by rw [sgN (by decide)]; exact h5, by rw [sgN (by decide)]; exact h6, by rw [sgN (by decide)]; exact h7, fun j hj => ?_, hy⟩
  rw [sgN (by omega)]; exact hw j hj
theorem md_stf {w0 ws ws1 : va_W} {tys : xT} {ad : Nat → Nat} {cB : Nat → ClassId} {rf : Nat → Int64} {tf bf fa fb fc fr : Nat → Int32} {ng : Int32} (M : md w0 ws tys ad cB rf tf bf fa fb fc fr ng) {tf1 : Nat → Int32} (h : ws1 = ws.set 12 (ad 2, .inl (cB 1, 160, .inl tf1))) : md w0 ws1 tys ad cB rf tf1 bf fa fb fc fr ng := by
  subst h
  obtain ⟨h0, h1, h2, h3, h4, h5, h6, h7, hw, hy⟩ := M
  refine ⟨by rw [sgN (by decide)]; exact h0, by rw [sgN (by decide)]; exact h1, sgS h2, by rw [sgN (by decide)]; exact h3, by rw [sgN (by decide)]; exact h4, by rw [sgN (by decide)]; exact h5, by rw [sgN (by decide)]; exact h6, by rw [sgN (by decide)]; exact h7, fun j hj => ?_, hy⟩
  rw [sgN (by omega)]; exact hw j hj
theorem md_sbf {w0 ws ws1 : va_W} {tys : xT} {ad : Nat → Nat} {cB : Nat → ClassId} {rf : Nat → Int64} {tf bf fa fb fc fr : Nat → Int32} {ng : Int32} (M : md w0 ws tys ad cB rf tf bf fa fb fc fr ng) {bf1 : Nat → Int32} (h : ws1 = ws.set 13 (ad 3, .inl (cB 2, 4, .inl bf1))) : md w0 ws1 tys ad cB rf tf bf1 fa fb fc fr ng := by
  subst h
  obtain ⟨h0, h1, h2, h3, h4, h5, h6, h7, hw, hy⟩ := M
  refine ⟨by rw [sgN (by decide)]; exact h0, by rw [sgN (by decide)]; exact h1, by rw [sgN (by decide)]; exact h2, sgS h3, by rw [sgN (by decide)]; exact h4, by rw [sgN (by decide)]; exact h5, by rw [sgN (by decide)]; exact h6, by rw [sgN (by decide)]; exact h7, fun j hj => ?_, hy⟩
  rw [sgN (by omega)]; exact hw j hj
theorem md_sfa {w0 ws ws1 : va_W} {tys : xT} {ad : Nat → Nat} {cB : Nat → ClassId} {rf : Nat → Int64} {tf bf fa fb fc fr : Nat → Int32} {ng : Int32} (M : md w0 ws tys ad cB rf tf bf fa fb fc fr ng) {fa1 : Nat → Int32} (h : ws1 = ws.set 14 (ad 4, .inl (cB 3, 80, .inl fa1))) : md w0 ws1 tys ad cB rf tf bf fa1 fb fc fr ng := by
  subst h
  obtain ⟨h0, h1, h2, h3, h4, h5, h6, h7, hw, hy⟩ := M
  refine ⟨by rw [sgN (by decide)]; exact h0, by rw [sgN (by decide)]; exact h1, by rw [sgN (by decide)]; exact h2, by rw [sgN (by decide)]; exact h3, sgS h4, by rw [sgN (by decide)]; exact h5, by rw [sgN (by decide)]; exact h6, by rw [sgN (by decide)]; exact h7, fun j hj => ?_, hy⟩
  rw [sgN (by omega)]; exact hw j hj
theorem md_sfb {w0 ws ws1 : va_W} {tys : xT} {ad : Nat → Nat} {cB : Nat → ClassId} {rf : Nat → Int64} {tf bf fa fb fc fr : Nat → Int32} {ng : Int32} (M : md w0 ws tys ad cB rf tf bf fa fb fc fr ng) {fb1 : Nat → Int32} (h : ws1 = ws.set 15 (ad 5, .inl (cB 4, 80, .inl fb1))) : md w0 ws1 tys ad cB rf tf bf fa fb1 fc fr ng := by
  subst h
  obtain ⟨h0, h1, h2, h3, h4, h5, h6, h7, hw, hy⟩ := M
  refine ⟨by rw [sgN (by decide)]; exact h0, by rw [sgN (by decide)]; exact h1, by rw [sgN (by decide)]; exact h2, by rw [sgN (by decide)]; exact h3, by rw [sgN (by decide)]; exact h4, sgS h5, by rw [sgN (by decide)]; exact h6, by rw [sgN (by decide)]; exact h7, fun j hj => ?_, hy⟩
  rw [sgN (by omega)]; exact hw j hj
theorem md_sfc {w0 ws ws1 : va_W} {tys : xT} {ad : Nat → Nat} {cB : Nat → ClassId} {rf : Nat → Int64} {tf bf fa fb fc fr : Nat → Int32} {ng : Int32} (M : md w0 ws tys ad cB rf tf bf fa fb fc fr ng) {fc1 : Nat → Int32} (h : ws1 = ws.set 16 (ad 6, .inl (cB 5, 80, .inl fc1))) : md w0 ws1 tys ad cB rf tf bf fa fb fc1 fr ng := by
  subst h
  obtain ⟨h0, h1, h2, h3, h4, h5, h6, h7, hw, hy⟩ := M
  refine ⟨by rw [sgN (by decide)]; exact h0, by rw [sgN (by decide)]; exact h1, by rw [sgN (by decide)]; exact h2, by rw [sgN (by decide)]; exact h3, by rw [sgN (by decide)]; exact h4, by rw [sgN (by decide)]; exact h5, sgS h6, by rw [sgN (by decide)]; exact h7, fun j hj => ?_, hy⟩
  rw [sgN (by omega)]; exact hw j hj
theorem md_sfr {w0 ws ws1 : va_W} {tys : xT} {ad : Nat → Nat} {cB : Nat → ClassId} {rf : Nat → Int64} {tf bf fa fb fc fr : Nat → Int32} {ng : Int32} (M : md w0 ws tys ad cB rf tf bf fa fb fc fr ng) {fr1 : Nat → Int32} (h : ws1 = ws.set 17 (ad 7, .inl (cB 6, 80, .inl fr1))) : md w0 ws1 tys ad cB rf tf bf fa fb fc fr1 ng := by
  subst h
  obtain ⟨h0, h1, h2, h3, h4, h5, h6, h7, hw, hy⟩ := M
  refine ⟨by rw [sgN (by decide)]; exact h0, by rw [sgN (by decide)]; exact h1, by rw [sgN (by decide)]; exact h2, by rw [sgN (by decide)]; exact h3, by rw [sgN (by decide)]; exact h4, by rw [sgN (by decide)]; exact h5, by rw [sgN (by decide)]; exact h6, sgS h7, fun j hj => ?_, hy⟩
  rw [sgN (by omega)]; exact hw j hj
theorem in160 {t k : Nat} (ht : t < 4) (hk : k < 40) : 40 * t + k < 160 := by omega
/-! products and quotients by digits -/
theorem dg_hi_add (T r i k : Nat) (h : k < i) : (T + 10 ^ i * r) / 10 ^ k % 10 = T / 10 ^ k % 10 := by
  have e : 10 ^ i * r = 10 ^ k * (10 * (10 ^ (i - k - 1) * r)) := by
    rw [← Nat.mul_assoc 10, ← Nat.mul_assoc (10 ^ k), ← Nat.pow_succ', ← Nat.pow_add, show k + (i - k - 1 + 1) = i by omega]
  rw [e, Nat.add_mul_div_left _ _ (p10 k)]
  omega
/-- what c holds behind j places of the inner loop -/
def mT (C0 ai y i j : Nat) : Nat := C0 + 10 ^ i * (ai * (y % 10 ^ j))
theorem mT_0 (C0 ai y i : Nat) : mT C0 ai y i 0 = C0 := by simp [mT, Nat.mod_one]
theorem mT_succ (C0 ai y i j : Nat) : mT C0 ai y i (j + 1) = mT C0 ai y i j + 10 ^ (i + j) * (ai * (y / 10 ^ j % 10)) := by
  unfold mT
  rw [pd_mod, Nat.mul_add, Nat.mul_add, Nat.pow_add, Nat.add_assoc, Nat.mul_left_comm ai (10 ^ j), Nat.mul_assoc]
def mC (C0 ai y i j : Nat) : Nat := mT C0 ai y i j / 10 ^ (i + j) - C0 / 10 ^ (i + j)
theorem mC_eq (C0 ai y i j : Nat) : mT C0 ai y i j / 10 ^ (i + j) = C0 / 10 ^ (i + j) + mC C0 ai y i j := by
  have : C0 / 10 ^ (i + j) ≤ mT C0 ai y i j / 10 ^ (i + j) := Nat.div_le_div_right (by unfold mT; omega)
  unfold mC
  omega
theorem mC_0 (C0 ai y i : Nat) : mC C0 ai y i 0 = 0 := by unfold mC; rw [mT_0]; omega
theorem mC_le {C0 ai y i j : Nat} (ha : ai < 10) : mC C0 ai y i j ≤ 9 := by
  have h1 : mT C0 ai y i j ≤ C0 + 10 ^ (i + j) * 9 := by
    unfold mT
    have a : ai * (y % 10 ^ j) ≤ 9 * 10 ^ j := Nat.mul_le_mul (by omega) (Nat.le_of_lt (Nat.mod_lt _ (p10 j)))
    have b := Nat.mul_le_mul_left (10 ^ i) a
    rw [Nat.pow_add, Nat.mul_assoc, Nat.mul_comm (10 ^ j) 9]
    omega
  have h2 := Nat.div_le_div_right (c := 10 ^ (i + j)) h1
  rw [Nat.add_mul_div_left _ _ (p10 _)] at h2
  unfold mC
  omega
theorem mS {C0 ai y i j : Nat} : (C0 / 10 ^ (i + j) % 10 + ai * (y / 10 ^ j % 10) + mC C0 ai y i j) % 10 = mT C0 ai y i (j + 1) / 10 ^ (i + j) % 10 ∧ (C0 / 10 ^ (i + j) % 10 + ai * (y / 10 ^ j % 10) + mC C0 ai y i j) / 10 = mC C0 ai y i (j + 1) := by
  have e := mC_eq C0 ai y i j
  have e2 : mT C0 ai y i (j + 1) / 10 ^ (i + j) = C0 / 10 ^ (i + j) + mC C0 ai y i j + ai * (y / 10 ^ j % 10) := by
    rw [mT_succ, Nat.add_mul_div_left _ _ (p10 _), e]
  have e3 : mC C0 ai y i (j + 1) = mT C0 ai y i (j + 1) / 10 ^ (i + j) / 10 - C0 / 10 ^ (i + j) / 10 := by
    unfold mC
    rw [Nat.div_div_eq_div_mul, Nat.div_div_eq_div_mul, ← Nat.pow_succ]
    rfl
  rw [e3, e2]
  generalize ai * (y / 10 ^ j % 10) = z
  generalize C0 / 10 ^ (i + j) = q
  generalize mC C0 ai y i j = r
  omega
theorem mT_lo {C0 ai y i j k : Nat} (h : k < i + j) : mT C0 ai y i (j + 1) / 10 ^ k % 10 = mT C0 ai y i j / 10 ^ k % 10 := by
  rw [mT_succ, dg_hi_add _ _ _ _ h]
/-- at the inner loop's end -/
theorem mT_end {x y i j : Nat} (hx : x < 10 ^ 40) (hy : y < 10 ^ 40) (h : 80 ≤ i + j ∨ x / 10 ^ i % 10 = 0) : mT (x % 10 ^ i * y) (x / 10 ^ i % 10) y i j = x % 10 ^ (i + 1) * y := by
  have e : x % 10 ^ (i + 1) * y = x % 10 ^ i * y + 10 ^ i * (x / 10 ^ i % 10 * y) := by
    rw [pd_mod, Nat.add_mul, Nat.mul_assoc]
  rw [e]
  unfold mT
  by_cases q : x / 10 ^ i % 10 = 0
  · rw [q, Nat.zero_mul, Nat.zero_mul]
  · have hi : i < 40 := by
      rcases Nat.lt_or_ge i 40 with z | z
      · exact z
      · exfalso
        apply q
        have : 10 ^ 40 ≤ 10 ^ i := Nat.pow_le_pow_right (by decide) z
        rw [Nat.div_eq_of_lt (by omega)]
    have hj : 40 ≤ j := by omega
    have : 10 ^ 40 ≤ 10 ^ j := Nat.pow_le_pow_right (by decide) hj
    rw [Nat.mod_eq_of_lt (show y < 10 ^ j by omega)]
/-- three stretches of digits -/
theorem d3_lo {Q z r u j : Nat} (h : j < u) : (Q * 10 ^ (u + 1) + z * 10 ^ u + r) / 10 ^ j % 10 = r / 10 ^ j % 10 := by
  rw [show Q * 10 ^ (u + 1) + z * 10 ^ u + r = r + 10 ^ u * (Q * 10 + z) by rw [Nat.mul_add, Nat.pow_succ, Nat.mul_comm (10 ^ u) (Q * 10), Nat.mul_assoc Q 10, Nat.mul_comm 10 (10 ^ u), Nat.mul_comm (10 ^ u) z]; omega]
  exact dg_hi_add _ _ _ _ h
theorem d3_at {Q z r u : Nat} (hz : z < 10) (hr : r < 10 ^ u) : (Q * 10 ^ (u + 1) + z * 10 ^ u + r) / 10 ^ u % 10 = z := by
  rw [show Q * 10 ^ (u + 1) + z * 10 ^ u + r = 10 ^ u * (Q * 10 + z) + r by rw [Nat.mul_add, Nat.pow_succ, Nat.mul_comm (10 ^ u) (Q * 10), Nat.mul_assoc Q 10, Nat.mul_comm 10 (10 ^ u), Nat.mul_comm (10 ^ u) z], Nat.mul_add_div (p10 u), Nat.div_eq_of_lt hr]
  omega
theorem d3_hi {Q z r u j : Nat} (hz : z < 10) (hr : r < 10 ^ u) (h : u < j) : (Q * 10 ^ (u + 1) + z * 10 ^ u + r) / 10 ^ j % 10 = Q / 10 ^ (j - (u + 1)) % 10 := by
  have e : (Q * 10 ^ (u + 1) + z * 10 ^ u + r) / 10 ^ (u + 1) = Q := by
    have h1 : z * 10 ^ u + r < 10 ^ (u + 1) := by
      have : z * 10 ^ u ≤ 9 * 10 ^ u := Nat.mul_le_mul_right _ (by omega)
      rw [Nat.pow_succ]
      omega
    rw [Nat.add_assoc, Nat.mul_comm Q, Nat.mul_add_div (p10 _), Nat.div_eq_of_lt h1]
    omega
  have e2 : 10 ^ j = 10 ^ (u + 1) * 10 ^ (j - (u + 1)) := by rw [← Nat.pow_add, show u + 1 + (j - (u + 1)) = j by omega]
  rw [e2, ← Nat.div_div_eq_div_mul, e]
/-- what a holds when u places are left to divide -/
def qV (x y u : Nat) : Nat := x / 10 ^ u / y * 10 ^ u + x % 10 ^ u
theorem qV_up {x y u : Nat} : qV x y (u + 1) = x / 10 ^ (u + 1) / y * 10 ^ (u + 1) + x / 10 ^ u % 10 * 10 ^ u + x % 10 ^ u := by
  unfold qV
  rw [pd_mod, Nat.mul_comm (10 ^ u)]
  omega
theorem q_step {x y u : Nat} (hy : 0 < y) : x / 10 ^ u / y = x / 10 ^ (u + 1) / y * 10 + (x / 10 ^ (u + 1) % y * 10 + x / 10 ^ u % 10) / y ∧ x / 10 ^ u % y = (x / 10 ^ (u + 1) % y * 10 + x / 10 ^ u % 10) % y := by
  have e : x / 10 ^ u = y * (x / 10 ^ (u + 1) / y * 10) + (x / 10 ^ (u + 1) % y * 10 + x / 10 ^ u % 10) := by
    have a : x / 10 ^ (u + 1) = x / 10 ^ u / 10 := by rw [Nat.pow_succ, Nat.div_div_eq_div_mul]
    have b := Nat.div_add_mod (x / 10 ^ (u + 1)) y
    have c : y * (x / 10 ^ (u + 1) / y * 10) = y * (x / 10 ^ (u + 1) / y) * 10 := (Nat.mul_assoc _ _ _).symm
    rw [c]
    rw [a] at b ⊢
    omega
  constructor
  · rw [e, Nat.mul_add_div hy]
    rw [← e]
  · rw [e, Nat.mul_add_mod]
    rw [← e]
theorem qV_dn {x y u : Nat} (hy : 0 < y) : qV x y u = x / 10 ^ (u + 1) / y * 10 ^ (u + 1) + (x / 10 ^ (u + 1) % y * 10 + x / 10 ^ u % 10) / y * 10 ^ u + x % 10 ^ u := by
  unfold qV
  rw [(q_step hy).1, Nat.add_mul, Nat.mul_assoc, Nat.pow_succ, Nat.mul_comm 10]
theorem q_lt {R e y : Nat} (hR : R < y) (he : e < 10) : (R * 10 + e) / y < 10 := by
  rw [Nat.div_lt_iff_lt_mul (by omega)]
  omega
theorem qV_80 {x y : Nat} (hx : x < 10 ^ 80) : qV x y 80 = x := by
  unfold qV
  rw [Nat.div_eq_of_lt hx, Nat.mod_eq_of_lt hx, Nat.zero_div, Nat.zero_mul, Nat.zero_add]
theorem qV_0 (x y : Nat) : qV x y 0 = x / y := by simp [qV, Nat.mod_one]
theorem dg_qV {f : Nat → Int32} {x y u : Nat} (hy : 0 < y) (h : dg f (qV x y (u + 1))) : dg (upd f u (nI ((x / 10 ^ (u + 1) % y * 10 + x / 10 ^ u % 10) / y))) (qV x y u) := by
  intro j hj
  have hz := q_lt (Nat.mod_lt (x / 10 ^ (u + 1)) hy) (d9 x u)
  have hr := Nat.mod_lt x (p10 u)
  rw [qV_dn hy]
  rcases Nat.lt_trichotomy j u with q | q | q
  · rw [up_n (by omega), h j hj, qV_up, d3_lo q, d3_lo q]
  · subst q
    rw [up_s, d3_at hz hr]
  · rw [up_n (by omega), h j hj, qV_up, d3_hi (d9 x u) hr q, d3_hi hz hr q]
/-- rest, moved up by a place, and a digit below -/
theorem dg_sh {f g : Nat → Int32} {R e : Nat} (h : dg f R) (he : e < 10) (h0 : g 0 = nI e) (hs : ∀ j, 1 ≤ j → j < 80 → g j = f (j - 1)) : dg g (R * 10 + e) := by
  intro j hj
  rcases Nat.eq_zero_or_pos j with q | q
  · subst q
    rw [h0, Nat.pow_zero, Nat.div_one, show (R * 10 + e) % 10 = e by omega]
  · rw [hs j q hj, h (j - 1) (by omega)]
    obtain ⟨i, rfl⟩ : ∃ i, j = i + 1 := ⟨j - 1, by omega⟩
    rw [Nat.add_sub_cancel, Nat.pow_succ, Nat.mul_comm (10 ^ i), ← Nat.div_div_eq_div_mul, show (R * 10 + e) / 10 = R by omega]
end
section
-- the reference: multiply (laid by wip/whole/gen_mi.py)
theorem mT_z {C0 ai y i j : Nat} (h : ai = 0) : mT C0 ai y i j = C0 := by unfold mT; rw [h, Nat.zero_mul, Nat.mul_zero, Nat.add_zero]
theorem mJ1 {f : Nat → Int32} {C0 ai y i j : Nat} {v : Int32} (h : ∀ k, k < i + j → f k = nI (mT C0 ai y i j / 10 ^ k % 10)) (hv : v = nI (mT C0 ai y i (j + 1) / 10 ^ (i + j) % 10)) : ∀ k, k < i + (j + 1) → upd f (i + j) v k = nI (mT C0 ai y i (j + 1) / 10 ^ k % 10) := fun k hk => by
  by_cases e : k = i + j
  · subst e; rw [up_s]; exact hv
  · rw [up_n e, h k (by omega), mT_lo (by omega)]
theorem mJ2 {f : Nat → Int32} {C0 i j : Nat} {v : Int32} (h : ∀ k, i + j ≤ k → k < 80 → f k = nI (C0 / 10 ^ k % 10)) : ∀ k, i + (j + 1) ≤ k → k < 80 → upd f (i + j) v k = nI (C0 / 10 ^ k % 10) := fun k hk hk8 => by
  rw [up_n (by omega)]; exact h k (by omega) hk8
set_option maxHeartbeats 4000000 in
set_option maxRecDepth 100000 in
theorem cM_isR (l : Launch) (D : va_G) {tys : xT} {ws : va_W} {sz : Nat} (r : Int32) : xM l yX2_isRegister (.code yX2_isRegister cX2_isRegister 1 (some .boolean) :: mdT) ({ frames := 0, cells := 0, slots := 0, locals := 0 }) D tys ws sz [.int r] (xQi D tys (fun a w => a = (if okR r then 1 else 0) ∧ ws = w)) 0 0 := by
  refine xb_m (cc := cX2_isRegister) (maxL := 1) (ret := (some .boolean)) (by decide) rfl (Nat.le_of_ble_eq_true rfl) ?_
  intro p e s m below meth c A ls hx hb hr hml hown hts hlocks hnm hA hP hK hD hS hl
  have hl : lv_has ls 1 [(0, .int r)] := hl
  have hown : s.vm.findClass RX2 = some m.cls := hown
  refine lv_iload_n hx hb dX2_isRegister_0 rfl (lv_at hl 0 rfl) ?_
  refine lv_if_lt (tgt := 14) hx hb dX2_isRegister_1 (by decide) (fun c1 => ?_) (fun c1 => ?_)
  · refine lv_iconst (v := 0) hx hb dX2_isRegister_14 (by decide) ?_
    exact xb_zr hx hb hr hlocks hP hK hD hS dX2_isRegister_15 rfl (⟨by rw [if_neg (fun q => q.1 c1)], rfl⟩)
  · refine lv_iload_n hx hb dX2_isRegister_4 rfl (lv_at hl 0 rfl) ?_
    refine lv_bipush (v := 8) hx hb dX2_isRegister_5 (by decide) ?_
    refine lv_icmp_ge (tgt := 14) hx hb dX2_isRegister_7 (by decide) (fun c7 => ?_) (fun c7 => ?_)
    · refine lv_iconst (v := 0) hx hb dX2_isRegister_14 (by decide) ?_
      exact xb_zr hx hb hr hlocks hP hK hD hS dX2_isRegister_15 rfl (⟨by rw [if_neg (fun q => Int32.not_lt.mpr c7 q.2)], rfl⟩)
    · refine lv_iconst (v := 1) hx hb dX2_isRegister_10 (by decide) ?_
      refine lv_goto (tgt := 15) hx hb dX2_isRegister_11 (by decide) ?_
      exact xb_zr hx hb hr hlocks hP hK hD hS dX2_isRegister_15 rfl (⟨by rw [if_pos ⟨c1, Int32.not_le.mp c7⟩], rfl⟩)
set_option maxHeartbeats 4000000 in
set_option maxRecDepth 100000 in
theorem cM_isT (l : Launch) (D : va_G) {tys : xT} {ws : va_W} {sz : Nat} (r : Int32) : xM l yX2_isTally (.code yX2_isTally cX2_isTally 1 (some .boolean) :: mdT) ({ frames := 0, cells := 0, slots := 0, locals := 0 }) D tys ws sz [.int r] (xQi D tys (fun a w => a = (if okT r then 1 else 0) ∧ ws = w)) 0 0 := by
  refine xb_m (cc := cX2_isTally) (maxL := 1) (ret := (some .boolean)) (by decide) rfl (Nat.le_of_ble_eq_true rfl) ?_
  intro p e s m below meth c A ls hx hb hr hml hown hts hlocks hnm hA hP hK hD hS hl
  have hl : lv_has ls 1 [(0, .int r)] := hl
  have hown : s.vm.findClass RX2 = some m.cls := hown
  refine lv_iload_n hx hb dX2_isTally_0 rfl (lv_at hl 0 rfl) ?_
  refine lv_if_lt (tgt := 13) hx hb dX2_isTally_1 (by decide) (fun c1 => ?_) (fun c1 => ?_)
  · refine lv_iconst (v := 0) hx hb dX2_isTally_13 (by decide) ?_
    exact xb_zr hx hb hr hlocks hP hK hD hS dX2_isTally_14 rfl (⟨by rw [if_neg (fun q => q.1 c1)], rfl⟩)
  · refine lv_iload_n hx hb dX2_isTally_4 rfl (lv_at hl 0 rfl) ?_
    refine lv_iconst (v := 4) hx hb dX2_isTally_5 (by decide) ?_
    refine lv_icmp_ge (tgt := 13) hx hb dX2_isTally_6 (by decide) (fun c6 => ?_) (fun c6 => ?_)
    · refine lv_iconst (v := 0) hx hb dX2_isTally_13 (by decide) ?_
      exact xb_zr hx hb hr hlocks hP hK hD hS dX2_isTally_14 rfl (⟨by rw [if_neg (fun q => Int32.not_lt.mpr c6 q.2)], rfl⟩)
    · refine lv_iconst (v := 1) hx hb dX2_isTally_9 (by decide) ?_
      refine lv_goto (tgt := 14) hx hb dX2_isTally_10 (by decide) ?_
      exact xb_zr hx hb hr hlocks hP hK hD hS dX2_isTally_14 rfl (⟨by rw [if_pos ⟨c1, Int32.not_le.mp c6⟩], rfl⟩)
set_option maxHeartbeats 4000000 in
set_option maxRecDepth 100000 in
theorem cM_mul (l : Launch) (D : va_G) {tys : xT} {ws : va_W} {sz : Nat} {w0 : va_W} {ad : Nat → Nat} {cB : Nat → ClassId} {rf : Nat → Int64} {tf bf fa fb fc fr : Nat → Int32} {ng : Int32} (M : md w0 ws tys ad cB rf tf bf fa fb fc fr ng) {x y : Nat} (hda : dg fa x) (hdb : dg fb y) (hxl : x < 10 ^ 40) (hyl : y < 10 ^ 40) : xM l yX2_multiply (.code yX2_multiply cX2_multiply 5 none :: mdT) ({ frames := 1, cells := 0, slots := 0, locals := 22 }) D tys ws sz [.ref (ad 0)] (xQv D tys (fun w => ∃ f1 f2, md w0 w tys ad cB rf tf bf f1 fb f2 fr ng ∧ dg f1 (x * y))) 0 0 := by
  refine xb_m (cc := cX2_multiply) (maxL := 5) (ret := none) (by decide) rfl (Nat.le_of_ble_eq_true rfl) ?_
  intro p e s m below meth c A ls hx hb hr hml hown hts hlocks hnm hA hP hK hD hS hl
  have hl : lv_has ls 5 [(0, .ref (ad 0))] := hl
  have hown : s.vm.findClass RX2 = some m.cls := hown
  have inner : ∀ (i : Nat) (xi : Int32), i < 80 → xi = nI i → (∀ (fj : Nat → Int32) (ws1 : va_W) (H : Heap) (locs : List Loc) (ls : Array Slot), md w0 ws1 tys ad cB rf tf bf fa fb fj fr ng → dg fj (x % 10 ^ (i + 1) * y) → va_P D vwCl ws1 H → va_D A ws1 → va_S A s.heap H locs → lv_has ls 5 [(0, .ref (ad 0)), (1, .int xi)] → W p l e ({ frames := 1, cells := 0, slots := 0, locals := 22 }) s m [.ref (ad 0)].toArray below meth c H locs 0 0 (MQ below (xQv D tys (fun w => ∃ f1 f2, md w0 w tys ad cB rf tf bf f1 fb f2 fr ng ∧ dg f1 (x * y)) A) [.ref (ad 0)].toArray s 0 0 A) (F0 m 87 ls [])) → ∀ (n j : Nat) (x2 xj : Int32) (fj : Nat → Int32) (ws1 : va_W) (H : Heap) (locs : List Loc) (ls : Array Slot), i + j ≤ 80 → 80 < i + j + n → xj = nI j → x2 = nI (mC (x % 10 ^ i * y) (x / 10 ^ i % 10) y i j) → md w0 ws1 tys ad cB rf tf bf fa fb fj fr ng → (∀ k, k < i + j → fj k = nI (mT (x % 10 ^ i * y) (x / 10 ^ i % 10) y i j / 10 ^ k % 10)) → (∀ k, i + j ≤ k → k < 80 → fj k = nI ((x % 10 ^ i * y) / 10 ^ k % 10)) → va_P D vwCl ws1 H → va_D A ws1 → va_S A s.heap H locs → lv_has ls 5 [(0, .ref (ad 0)), (1, .int xi), (2, .int x2), (3, .int xj)] → W p l e ({ frames := 1, cells := 0, slots := 0, locals := 22 }) s m [.ref (ad 0)].toArray below meth c H locs 0 0 (MQ below (xQv D tys (fun w => ∃ f1 f2, md w0 w tys ad cB rf tf bf f1 fb f2 fr ng ∧ dg f1 (x * y)) A) [.ref (ad 0)].toArray s 0 0 A) (F0 m 19 ls []) := by
    intro i xi hi8 exi K n
    induction n with
    | zero =>
      intro j x2 xj fj ws1 H locs ls h1 h2
      omega
    | succ n ih =>
      intro j x2 xj fj ws1 H locs ls h1 h2 exj ex2 M hJ1 hJ2 hP hD hS hl
      refine lv_iload_n hx hb dX2_multiply_19 rfl (lv_at hl 1 rfl) ?_
      refine lv_iload_n hx hb dX2_multiply_20 rfl (lv_at hl 3 rfl) ?_
      refine lv_iadd hx hb dX2_multiply_21 ?_
      refine lv_bipush (v := 80) hx hb dX2_multiply_22 (by decide) ?_
      refine lv_icmp_ge (tgt := 87) hx hb dX2_multiply_24 (by decide) (fun c24 => ?_) (fun c24 => ?_)
      · have q := nge (M := 80) (k := i + j) rfl (by rw [exi, exj, nI_add]) (by decide) c24 (by omega)
        exact K fj ws1 H locs ls M (fun k hk => by rw [hJ1 k (by omega), mT_end hxl hyl (Or.inl q)]) hP hD hS (lv_sub hl [0, 1] rfl)
      · have hij := nlt (M := 80) (k := i + j) rfl (by rw [exi, exj, nI_add]) (by decide) c24 (by omega)
        refine lv_aload_n hx hb dX2_multiply_27 rfl (lv_at hl 0 rfl) ?_
        refine va_get (D := D) (ci := ciM) (v := .ref (ad 4)) (C := RX2) (T := TX2) (N := 8) hx hb hts inM hown hK hP 10 (md_a0 M) rfl 3 (by decide) (hts _ (inT mw_7)) (fun _ h9 => h9) rfl dX2_multiply_28 ?_
        refine lv_iload_n hx hb dX2_multiply_31 rfl (lv_at hl 1 rfl) ?_
        refine ia_ld hx hb hK hP (md_a4 M) (md_t3 M) exi hi8 (by decide) dX2_multiply_32 ?_
        refine lv_if_le (tgt := 87) hx hb dX2_multiply_33 (by decide) (fun c33 => ?_) (fun c33 => ?_)
        · have q : x / 10 ^ i % 10 = 0 := by rw [hda i hi8] at c33; have := (nI_leI (b := 0) (by have := d9 x i; omega) (by decide)).mp c33; omega
          exact K fj ws1 H locs ls M (fun k hk => by rw [← mT_end (j := j) hxl hyl (Or.inr q)]; rcases Nat.lt_or_ge k (i + j) with z | z; exact hJ1 k z; rw [hJ2 k z hk, mT_z q]) hP hD hS (lv_sub hl [0, 1] rfl)
        · refine lv_aload_n hx hb dX2_multiply_36 rfl (lv_at hl 0 rfl) ?_
          refine va_get (D := D) (ci := ciM) (v := .ref (ad 6)) (C := RX2) (T := TX2) (N := 8) hx hb hts inM hown hK hP 10 (md_a0 M) rfl 5 (by decide) (hts _ (inT mw_11)) (fun _ h9 => h9) rfl dX2_multiply_37 ?_
          refine lv_iload_n hx hb dX2_multiply_40 rfl (lv_at hl 1 rfl) ?_
          refine lv_iload_n hx hb dX2_multiply_41 rfl (lv_at hl 3 rfl) ?_
          refine lv_iadd hx hb dX2_multiply_42 ?_
          refine ia_ld hx hb hK hP (md_a6 M) (md_t5 M) (show xi + xj = nI (i + j) by rw [exi, exj, nI_add]) hij (by decide) dX2_multiply_43 ?_
          refine lv_aload_n hx hb dX2_multiply_44 rfl (lv_at hl 0 rfl) ?_
          refine va_get (D := D) (ci := ciM) (v := .ref (ad 4)) (C := RX2) (T := TX2) (N := 8) hx hb hts inM hown hK hP 10 (md_a0 M) rfl 3 (by decide) (hts _ (inT mw_7)) (fun _ h9 => h9) rfl dX2_multiply_45 ?_
          refine lv_iload_n hx hb dX2_multiply_48 rfl (lv_at hl 1 rfl) ?_
          refine ia_ld hx hb hK hP (md_a4 M) (md_t3 M) exi hi8 (by decide) dX2_multiply_49 ?_
          refine lv_aload_n hx hb dX2_multiply_50 rfl (lv_at hl 0 rfl) ?_
          refine va_get (D := D) (ci := ciM) (v := .ref (ad 5)) (C := RX2) (T := TX2) (N := 8) hx hb hts inM hown hK hP 10 (md_a0 M) rfl 4 (by decide) (hts _ (inT mw_29)) (fun _ h9 => h9) rfl dX2_multiply_51 ?_
          refine lv_iload_n hx hb dX2_multiply_54 rfl (lv_at hl 3 rfl) ?_
          refine ia_ld hx hb hK hP (md_a5 M) (md_t4 M) exj (by omega) (by decide) dX2_multiply_55 ?_
          refine lv_imul hx hb dX2_multiply_56 ?_
          refine lv_iadd hx hb dX2_multiply_57 ?_
          refine lv_iload_n hx hb dX2_multiply_58 rfl (lv_at hl 2 rfl) ?_
          refine lv_iadd hx hb dX2_multiply_59 ?_
          refine lv_topi (fun x60 ex60 => ?_)
          have e60 : x60 = nI ((x % 10 ^ i * y) / 10 ^ (i + j) % 10 + (x / 10 ^ i % 10) * (y / 10 ^ j % 10) + mC (x % 10 ^ i * y) (x / 10 ^ i % 10) y i j) := by rw [ex60, hJ2 (i + j) (Nat.le_refl _) hij, hda i hi8, hdb j (by omega), ex2, pk_mul, nI_add, nI_add]
          have w1 := d9 x i
          have w2 := d9 y j
          have w3 : (x / 10 ^ i % 10) * (y / 10 ^ j % 10) ≤ 9 * 9 := Nat.mul_le_mul (by omega) (by omega)
          have w4 := mC_le (C0 := (x % 10 ^ i * y)) (y := y) (i := i) (j := j) w1
          have w5 := d9 (x % 10 ^ i * y) (i + j)
          refine lv_istore (lv' := [(4, .int x60), (0, .ref (ad 0)), (1, .int xi), (2, .int x2), (3, .int xj)]) hx hb dX2_multiply_60 hl (by decide) rfl (fun ls hl => ?_)
          refine lv_aload_n hx hb dX2_multiply_62 rfl (lv_at hl 1 rfl) ?_
          refine va_get (D := D) (ci := ciM) (v := .ref (ad 6)) (C := RX2) (T := TX2) (N := 8) hx hb hts inM hown hK hP 10 (md_a0 M) rfl 5 (by decide) (hts _ (inT mw_11)) (fun _ h9 => h9) rfl dX2_multiply_63 ?_
          refine lv_iload_n hx hb dX2_multiply_66 rfl (lv_at hl 2 rfl) ?_
          refine lv_iload_n hx hb dX2_multiply_67 rfl (lv_at hl 4 rfl) ?_
          refine lv_iadd hx hb dX2_multiply_68 ?_
          refine lv_iload hx hb dX2_multiply_69 (lv_at hl 0 rfl) ?_
          refine lv_bipush (v := 10) hx hb dX2_multiply_71 (by decide) ?_
          refine lv_irem hx hb dX2_multiply_73 (by decide) ?_
          refine ia_st (x := x60 - x60 / 10 * 10) hx hb hK hP hD hS (md_a6 M) (md_t5 M) (show xi + xj = nI (i + j) by rw [exi, exj, nI_add]) hij (by decide) dX2_multiply_74 (fun ws2 H locs hws2 hP hD hS => ?_)
          have M := md_sfc M hws2
          refine lv_iload hx hb dX2_multiply_75 (lv_at hl 0 rfl) ?_
          refine lv_bipush (v := 10) hx hb dX2_multiply_77 (by decide) ?_
          refine lv_idiv hx hb dX2_multiply_79 (by decide) ?_
          refine lv_istore_n (lv' := [(2, .int (x60 / 10)), (4, .int x60), (0, .ref (ad 0)), (1, .int xi), (3, .int xj)]) hx hb dX2_multiply_80 rfl hl (by decide) rfl (fun ls hl => ?_)
          refine lv_iinc (v := xj + 1) (lv' := [(3, .int (xj + 1)), (2, .int (x60 / 10)), (4, .int x60), (0, .ref (ad 0)), (1, .int xi)]) hx hb dX2_multiply_81 hl (k := 4) rfl (by rfl) (by decide) rfl (fun ls hl => ?_)
          refine lv_goto (tgt := 19) hx hb dX2_multiply_84 (by decide) ?_
          exact ih (j + 1) (x60 / 10) (xj + 1) (upd fj (i + j) (x60 - x60 / 10 * 10)) ws2 H locs ls (by omega) (by omega) (by rw [exj]; exact nI_1 j) (by rw [e60, show (10 : Int32) = nI 10 from rfl, pk_div (by omega) (by decide) (by decide), mS.2]) M (mJ1 hJ1 (by rw [e60, show (10 : Int32) = nI 10 from rfl, pk_rem (by omega) (by decide) (by decide), mS.1])) (mJ2 hJ2) hP hD hS (lv_sub hl [3, 4, 1, 0] rfl)
  have outer : ∀ (n i : Nat) (xi : Int32) (fi : Nat → Int32) (ws1 : va_W) (H : Heap) (locs : List Loc) (ls : Array Slot), i ≤ 80 → 80 < i + n → xi = nI i → md w0 ws1 tys ad cB rf tf bf fa fb fi fr ng → dg fi (x % 10 ^ i * y) → va_P D vwCl ws1 H → va_D A ws1 → va_S A s.heap H locs → lv_has ls 5 [(0, .ref (ad 0)), (1, .int xi)] → W p l e ({ frames := 1, cells := 0, slots := 0, locals := 22 }) s m [.ref (ad 0)].toArray below meth c H locs 0 0 (MQ below (xQv D tys (fun w => ∃ f1 f2, md w0 w tys ad cB rf tf bf f1 fb f2 fr ng ∧ dg f1 (x * y)) A) [.ref (ad 0)].toArray s 0 0 A) (F0 m 9 ls []) := by
    intro n
    induction n with
    | zero =>
      intro i xi fi ws1 H locs ls h1 h2
      omega
    | succ n ih =>
      intro i xi fi ws1 H locs ls h1 h2 exi M hdi hP hD hS hl
      refine lv_iload_n hx hb dX2_multiply_9 rfl (lv_at hl 1 rfl) ?_
      refine lv_bipush (v := 80) hx hb dX2_multiply_10 (by decide) ?_
      refine lv_icmp_ge (tgt := 93) hx hb dX2_multiply_12 (by decide) (fun c12 => ?_) (fun c12 => ?_)
      · have q := nge (M := 80) rfl exi (by decide) c12 (by omega)
        have q2 : i = 80 := by omega
        refine lv_aload_n hx hb dX2_multiply_93 rfl (lv_at hl 0 rfl) ?_
        refine va_get (D := D) (ci := ciM) (v := .ref (ad 6)) (C := RX2) (T := TX2) (N := 8) hx hb hts inM hown hK hP 10 (md_a0 M) rfl 5 (by decide) (hts _ (inT mw_11)) (fun _ h9 => h9) rfl dX2_multiply_94 ?_
        refine lv_aload_n hx hb dX2_multiply_97 rfl (lv_at hl 0 rfl) ?_
        refine va_get (D := D) (ci := ciM) (v := .ref (ad 4)) (C := RX2) (T := TX2) (N := 8) hx hb hts inM hown hK hP 10 (md_a0 M) rfl 3 (by decide) (hts _ (inT mw_7)) (fun _ h9 => h9) rfl dX2_multiply_98 ?_
        refine xb_rv (va_runS (As := [.ref (ad 6), .ref (ad 4)]) (rest := []) ⟨hx, hb, hml, hown, hts⟩ (cM_copy l D (md_a4 M) (md_t3 M) (md_a6 M) (md_t5 M) (by decide)) (va_cwS 2 hts (gM_S 43 yX2_copy (.code yX2_copy cX2_copy 3 none) (by decide +kernel) mw_61) rfl rfl rfl (by decide +kernel) ⟨Nat.le_of_ble_eq_true rfl, Nat.le_of_ble_eq_true rfl⟩) (xb_ps rfl hP hK hD) rfl rfl hl.1 rfl (lv_room (Nat.le_of_ble_eq_true rfl)) dX2_multiply_101 ⟨Nat.le_of_ble_eq_true rfl, Nat.le_of_ble_eq_true rfl⟩) hD hS hA (fun ws2 H locs hws2 hP hD hS => ?_)
        obtain ⟨fa_101, hws2, hdfa_101⟩ := hws2
        have M := md_sfa M hws2
        have hdfa_101 : dg fa_101 (x % 10 ^ i * y) := fun j hj => (hdfa_101 j hj).trans (hdi j hj)
        exact xb_vr hx hb hr hlocks hP hK hD hS dX2_multiply_104 (⟨_, _, M, by rw [q2, Nat.mod_eq_of_lt (Nat.lt_trans hxl (Nat.pow_lt_pow_right (by decide) (by decide)))] at hdfa_101; exact hdfa_101⟩)
      · have hi8 := nlt (M := 80) rfl exi (by decide) c12 (by omega)
        have K : ∀ (fj : Nat → Int32) (ws1 : va_W) (H : Heap) (locs : List Loc) (ls : Array Slot), md w0 ws1 tys ad cB rf tf bf fa fb fj fr ng → dg fj (x % 10 ^ (i + 1) * y) → va_P D vwCl ws1 H → va_D A ws1 → va_S A s.heap H locs → lv_has ls 5 [(0, .ref (ad 0)), (1, .int xi)] → W p l e ({ frames := 1, cells := 0, slots := 0, locals := 22 }) s m [.ref (ad 0)].toArray below meth c H locs 0 0 (MQ below (xQv D tys (fun w => ∃ f1 f2, md w0 w tys ad cB rf tf bf f1 fb f2 fr ng ∧ dg f1 (x * y)) A) [.ref (ad 0)].toArray s 0 0 A) (F0 m 87 ls []) := by
          intro fj ws1 H locs ls M hd hP hD hS hl
          refine lv_iinc (v := xi + 1) (lv' := [(1, .int (xi + 1)), (0, .ref (ad 0))]) hx hb dX2_multiply_87 hl (k := 1) rfl (by rfl) (by decide) rfl (fun ls hl => ?_)
          refine lv_goto (tgt := 9) hx hb dX2_multiply_90 (by decide) ?_
          exact ih (i + 1) (xi + 1) fj ws1 H locs ls (by omega) (by omega) (by rw [exi]; exact nI_1 i) M hd hP hD hS (lv_sub hl [1, 0] rfl)
        refine lv_iconst (v := 0) hx hb dX2_multiply_15 (by decide) ?_
        refine lv_istore_n (lv' := [(2, .int 0), (0, .ref (ad 0)), (1, .int xi)]) hx hb dX2_multiply_16 rfl hl (by decide) rfl (fun ls hl => ?_)
        refine lv_iconst (v := 0) hx hb dX2_multiply_17 (by decide) ?_
        refine lv_istore_n (lv' := [(3, .int 0), (2, .int 0), (0, .ref (ad 0)), (1, .int xi)]) hx hb dX2_multiply_18 rfl hl (by decide) rfl (fun ls hl => ?_)
        exact inner i xi hi8 exi K 81 0 0 0 fi ws1 H locs ls (by omega) (by omega) nI_0.symm (by rw [mC_0]; rfl) M (fun k hk => by rw [mT_0]; exact hdi k (by omega)) (fun k _ hk => hdi k hk) hP hD hS (lv_sub hl [2, 3, 1, 0] rfl)
  refine lv_aload_n hx hb dX2_multiply_0 rfl (lv_at hl 0 rfl) ?_
  refine va_get (D := D) (ci := ciM) (v := .ref (ad 6)) (C := RX2) (T := TX2) (N := 8) hx hb hts inM hown hK hP 10 (md_a0 M) rfl 5 (by decide) (hts _ (inT mw_11)) (fun _ h9 => h9) rfl dX2_multiply_1 ?_
  refine xb_rv (va_runS (As := [.ref (ad 6)]) (rest := []) ⟨hx, hb, hml, hown, hts⟩ (cM_nothing l D (md_a6 M) (md_t5 M)) (va_cwS 1 hts (gM_S 39 yX2_nothing (.code yX2_nothing cX2_nothing 2 none) (by decide +kernel) mw_66) rfl rfl rfl (by decide +kernel) ⟨Nat.le_of_ble_eq_true rfl, Nat.le_of_ble_eq_true rfl⟩) (xb_ps rfl hP hK hD) rfl rfl hl.1 rfl (lv_room (Nat.le_of_ble_eq_true rfl)) dX2_multiply_4 ⟨Nat.le_of_ble_eq_true rfl, Nat.le_of_ble_eq_true rfl⟩) hD hS hA (fun ws1 H locs hws1 hP hD hS => ?_)
  obtain ⟨fc_4, hws1, hdfc_4⟩ := hws1
  have M := md_sfc M hws1
  have hdfc_4 : dg fc_4 0 := fun j hj => by rw [hdfc_4 j hj, Nat.zero_div]; rfl
  refine lv_iconst (v := 0) hx hb dX2_multiply_7 (by decide) ?_
  refine lv_istore_n (lv' := [(1, .int 0), (0, .ref (ad 0))]) hx hb dX2_multiply_8 rfl hl (by decide) rfl (fun ls hl => ?_)
  exact outer 81 0 0 fc_4 ws1 H locs ls (by omega) (by omega) nI_0.symm M (by rw [Nat.pow_zero, Nat.mod_one, Nat.zero_mul]; exact hdfc_4) hP hD hS (lv_sub hl [1, 0] rfl)
end
section
-- the reference: divide, join (laid by wip/whole/gen_mj.py)
/-- a number by its sign and its size -/
def sv (n : Int32) (z : Nat) : Int := if n = 1 then -(z : Int) else (z : Int)
theorem sv_same {lw ng : Int32} {x y : Nat} (h : lw = ng) : sv ng (x + y) = sv ng x + sv lw y := by
  subst h; unfold sv; split <;> omega
theorem sv_sub {lw ng : Int32} {x y : Nat} (hl : lw = 0 ∨ lw = 1) (hn : ng = 0 ∨ ng = 1) (h : ¬ lw = ng) (hxy : y ≤ x) : sv ng (x - y) = sv ng x + sv lw y := by
  have a : ¬ (0 : Int32) = 1 := by decide
  rcases hl with rfl | rfl <;> rcases hn with rfl | rfl <;> first | exact absurd rfl h | (simp only [sv, if_neg a, if_pos]; omega)
theorem sv_bus {lw ng : Int32} {x y : Nat} (hl : lw = 0 ∨ lw = 1) (hn : ng = 0 ∨ ng = 1) (h : ¬ lw = ng) (hxy : x ≤ y) : sv lw (y - x) = sv ng x + sv lw y := by
  have a : ¬ (0 : Int32) = 1 := by decide
  rcases hl with rfl | rfl <;> rcases hn with rfl | rfl <;> first | exact absurd rfl h | (simp only [sv, if_neg a, if_pos]; omega)
set_option maxHeartbeats 4000000 in
set_option maxRecDepth 100000 in
theorem cM_div (l : Launch) (D : va_G) {tys : xT} {ws : va_W} {sz : Nat} {w0 : va_W} {ad : Nat → Nat} {cB : Nat → ClassId} {rf : Nat → Int64} {tf bf fa fb fc fr : Nat → Int32} {ng : Int32} (M : md w0 ws tys ad cB rf tf bf fa fb fc fr ng) {x y : Nat} (hda : dg fa x) (hdb : dg fb y) (hy0 : 0 < y) (hxl : x < 10 ^ 80) (hyl : y < 10 ^ 79) : xM l yX2_divide (.code yX2_divide cX2_divide 4 none :: mdT) ({ frames := 1, cells := 0, slots := 0, locals := 24 }) D tys ws sz [.ref (ad 0)] (xQv D tys (fun w => ∃ f1 f2, md w0 w tys ad cB rf tf bf f1 fb fc f2 ng ∧ dg f1 (x / y) ∧ dg f2 (x % y))) 0 0 := by
  refine xb_m (cc := cX2_divide) (maxL := 4) (ret := none) (by decide) rfl (Nat.le_of_ble_eq_true rfl) ?_
  intro p e s m below meth c A ls hx hb hr hml hown hts hlocks hnm hA hP hK hD hS hl
  have hl : lv_has ls 4 [(0, .ref (ad 0))] := hl
  have hown : s.vm.findClass RX2 = some m.cls := hown
  have outer : ∀ (t : Nat) (x1 : Int32) (f1 f2 : Nat → Int32) (ws1 : va_W) (H : Heap) (locs : List Loc) (ls : Array Slot), t ≤ 80 → x1 = nI t + (-1) → md w0 ws1 tys ad cB rf tf bf f1 fb fc f2 ng → dg f1 (qV x y t) → dg f2 (x / 10 ^ t % y) → va_P D vwCl ws1 H → va_D A ws1 → va_S A s.heap H locs → lv_has ls 4 [(0, .ref (ad 0)), (1, .int x1)] → W p l e ({ frames := 1, cells := 0, slots := 0, locals := 24 }) s m [.ref (ad 0)].toArray below meth c H locs 0 0 (MQ below (xQv D tys (fun w => ∃ f1 f2, md w0 w tys ad cB rf tf bf f1 fb fc f2 ng ∧ dg f1 (x / y) ∧ dg f2 (x % y)) A) [.ref (ad 0)].toArray s 0 0 A) (F0 m 10 ls []) := by
    intro t
    induction t with
    | zero =>
      intro x1 f1 f2 ws1 H locs ls h1 ex1 M hd1 hd2 hP hD hS hl
      refine lv_iload_n hx hb dX2_divide_10 rfl (lv_at hl 1 rfl) ?_
      refine lv_if_lt (tgt := 110) hx hb dX2_divide_11 (by decide) (fun c11 => ?_) (fun c11 => ?_)
      · exact xb_vr hx hb hr hlocks hP hK hD hS dX2_divide_110 (⟨f1, f2, M, by rw [qV_0] at hd1; exact hd1, by rw [Nat.pow_zero, Nat.div_one] at hd2; exact hd2⟩)
      · exact absurd (by rw [ex1]; decide) c11
    | succ u ih =>
      intro x1 f1 f2 ws1 H locs ls h1 ex1 M hd1 hd2 hP hD hS hl
      rw [pk_m1] at ex1
      have hu : u < 80 := by omega
      have eu : f1 u = nI (x / 10 ^ u % 10) := by rw [hd1 u hu, qV_up, d3_at (d9 x u) (Nat.mod_lt x (p10 u))]
      have hR : x / 10 ^ (u + 1) % y < y := Nat.mod_lt _ hy0
      have he := d9 x u
      have h10 : 10 * 10 ^ 79 = 10 ^ 80 := by decide
      have K97 : ∀ (tm : Nat) (x2 : Int32) (gr : Nat → Int32) (ws1 : va_W) (H : Heap) (locs : List Loc) (ls : Array Slot), x2 = nI tm → md w0 ws1 tys ad cB rf tf bf f1 fb fc gr ng → dg gr ((x / 10 ^ (u + 1) % y * 10 + x / 10 ^ u % 10) - tm * y) → tm * y ≤ (x / 10 ^ (u + 1) % y * 10 + x / 10 ^ u % 10) → (x / 10 ^ (u + 1) % y * 10 + x / 10 ^ u % 10) - tm * y < y → va_P D vwCl ws1 H → va_D A ws1 → va_S A s.heap H locs → lv_has ls 4 [(0, .ref (ad 0)), (1, .int x1), (2, .int x2)] → W p l e ({ frames := 1, cells := 0, slots := 0, locals := 24 }) s m [.ref (ad 0)].toArray below meth c H locs 0 0 (MQ below (xQv D tys (fun w => ∃ f1 f2, md w0 w tys ad cB rf tf bf f1 fb fc f2 ng ∧ dg f1 (x / y) ∧ dg f2 (x % y)) A) [.ref (ad 0)].toArray s 0 0 A) (F0 m 97 ls []) := by
        intro tm x2 gr ws1 H locs ls ex2 M hdr t1 t2 hP hD hS hl
        have etm : tm = (x / 10 ^ (u + 1) % y * 10 + x / 10 ^ u % 10) / y := by
          symm
          exact Nat.div_eq_of_lt_le (by omega) (by rw [Nat.succ_mul]; omega)
        have erm : (x / 10 ^ (u + 1) % y * 10 + x / 10 ^ u % 10) - tm * y = (x / 10 ^ (u + 1) % y * 10 + x / 10 ^ u % 10) % y := by
          have q := Nat.div_add_mod (x / 10 ^ (u + 1) % y * 10 + x / 10 ^ u % 10) y
          rw [← etm, Nat.mul_comm] at q
          omega
        refine lv_aload_n hx hb dX2_divide_97 rfl (lv_at hl 0 rfl) ?_
        refine va_get (D := D) (ci := ciM) (v := .ref (ad 4)) (C := RX2) (T := TX2) (N := 8) hx hb hts inM hown hK hP 10 (md_a0 M) rfl 3 (by decide) (hts _ (inT mw_7)) (fun _ h9 => h9) rfl dX2_divide_98 ?_
        refine lv_iload_n hx hb dX2_divide_101 rfl (lv_at hl 1 rfl) ?_
        refine lv_iload_n hx hb dX2_divide_102 rfl (lv_at hl 2 rfl) ?_
        refine ia_st (x := x2) hx hb hK hP hD hS (md_a4 M) (md_t3 M) ex1 hu (by decide) dX2_divide_103 (fun ws2 H locs hws2 hP hD hS => ?_)
        have M := md_sfa M hws2
        refine lv_iinc (v := x1 + (-1)) (lv' := [(1, .int (x1 + (-1))), (0, .ref (ad 0)), (2, .int x2)]) hx hb dX2_divide_104 hl (k := 1) rfl (by rfl) (by decide) rfl (fun ls hl => ?_)
        refine lv_goto (tgt := 10) hx hb dX2_divide_107 (by decide) ?_
        have hq := dg_qV hy0 hd1
        rw [← etm, ← ex2] at hq
        exact ih (x1 + (-1)) _ gr ws2 H locs ls (by omega) (by rw [ex1]) M hq (by rw [(q_step hy0).2, ← erm]; exact hdr) hP hD hS (lv_sub hl [1, 0] rfl)
      have turn : ∀ (n tm : Nat) (x2 x3 : Int32) (gr : Nat → Int32) (ws1 : va_W) (H : Heap) (locs : List Loc) (ls : Array Slot), tm ≤ 9 → 9 < tm + n → x2 = nI tm → x3 = nI tm → md w0 ws1 tys ad cB rf tf bf f1 fb fc gr ng → dg gr ((x / 10 ^ (u + 1) % y * 10 + x / 10 ^ u % 10) - tm * y) → tm * y ≤ (x / 10 ^ (u + 1) % y * 10 + x / 10 ^ u % 10) → va_P D vwCl ws1 H → va_D A ws1 → va_S A s.heap H locs → lv_has ls 4 [(0, .ref (ad 0)), (1, .int x1), (2, .int x2), (3, .int x3)] → W p l e ({ frames := 1, cells := 0, slots := 0, locals := 24 }) s m [.ref (ad 0)].toArray below meth c H locs 0 0 (MQ below (xQv D tys (fun w => ∃ f1 f2, md w0 w tys ad cB rf tf bf f1 fb fc f2 ng ∧ dg f1 (x / y) ∧ dg f2 (x % y)) A) [.ref (ad 0)].toArray s 0 0 A) (F0 m 57 ls []) := by
        intro n
        induction n with
        | zero =>
          intro tm x2 x3 gr ws1 H locs ls h1 h2
          omega
        | succ n ihn =>
          intro tm x2 x3 gr ws1 H locs ls h1 h2 ex2 ex3 M hdr t1 hP hD hS hl
          refine lv_iload_n hx hb dX2_divide_57 rfl (lv_at hl 3 rfl) ?_
          refine lv_bipush (v := 9) hx hb dX2_divide_58 (by decide) ?_
          refine lv_icmp_ge (tgt := 97) hx hb dX2_divide_60 (by decide) (fun c60 => ?_) (fun c60 => ?_)
          · have q9 := nge (M := 9) rfl ex3 (by decide) c60 (by omega)
            have e9 : tm = 9 := by omega
            exact K97 tm x2 gr ws1 H locs ls ex2 M hdr t1 (by subst e9; omega) hP hD hS (lv_sub hl [0, 1, 2] rfl)
          · have q9 := nlt (M := 9) rfl ex3 (by decide) c60 (by omega)
            refine lv_aload_n hx hb dX2_divide_63 rfl (lv_at hl 0 rfl) ?_
            refine va_get (D := D) (ci := ciM) (v := .ref (ad 7)) (C := RX2) (T := TX2) (N := 8) hx hb hts inM hown hK hP 10 (md_a0 M) rfl 6 (by decide) (hts _ (inT mw_25)) (fun _ h9 => h9) rfl dX2_divide_64 ?_
            refine lv_aload_n hx hb dX2_divide_67 rfl (lv_at hl 0 rfl) ?_
            refine va_get (D := D) (ci := ciM) (v := .ref (ad 5)) (C := RX2) (T := TX2) (N := 8) hx hb hts inM hown hK hP 10 (md_a0 M) rfl 4 (by decide) (hts _ (inT mw_29)) (fun _ h9 => h9) rfl dX2_divide_68 ?_
            refine xb_ri (va_runS (As := [.ref (ad 7), .ref (ad 5)]) (rest := []) ⟨hx, hb, hml, hown, hts⟩ (cM_cmps l D (md_a7 M) (md_t6 M) (md_a5 M) (md_t4 M) hdr hdb (by omega) (by omega)) (va_cwS 2 hts (gM_S 47 yX2_compareSizes (.code yX2_compareSizes cX2_compareSizes 4 (some .int)) (by decide +kernel) mw_59) rfl rfl rfl (by decide +kernel) ⟨Nat.le_of_ble_eq_true rfl, Nat.le_of_ble_eq_true rfl⟩) (xb_ps rfl hP hK hD) rfl rfl hl.1 rfl (lv_room (Nat.le_of_ble_eq_true rfl)) dX2_divide_71 ⟨Nat.le_of_ble_eq_true rfl, Nat.le_of_ble_eq_true rfl⟩) hD hS hA (fun r71 ws2 H locs hws2 hP hD hS => ?_)
            obtain ⟨hr71, rfl⟩ := hws2
            refine lv_if_lt (tgt := 97) hx hb dX2_divide_74 (by decide) (fun c74 => ?_) (fun c74 => ?_)
            · rw [hr71, ord_lt] at c74
              exact K97 tm x2 gr ws1 H locs ls ex2 M hdr t1 (by omega) hP hD hS (lv_sub hl [0, 1, 2] rfl)
            · rw [hr71, ord_lt] at c74
              refine lv_aload_n hx hb dX2_divide_77 rfl (lv_at hl 0 rfl) ?_
              refine va_get (D := D) (ci := ciM) (v := .ref (ad 7)) (C := RX2) (T := TX2) (N := 8) hx hb hts inM hown hK hP 10 (md_a0 M) rfl 6 (by decide) (hts _ (inT mw_25)) (fun _ h9 => h9) rfl dX2_divide_78 ?_
              refine lv_aload_n hx hb dX2_divide_81 rfl (lv_at hl 0 rfl) ?_
              refine va_get (D := D) (ci := ciM) (v := .ref (ad 5)) (C := RX2) (T := TX2) (N := 8) hx hb hts inM hown hK hP 10 (md_a0 M) rfl 4 (by decide) (hts _ (inT mw_29)) (fun _ h9 => h9) rfl dX2_divide_82 ?_
              refine xb_rv (va_runS (As := [.ref (ad 7), .ref (ad 5)]) (rest := []) ⟨hx, hb, hml, hown, hts⟩ (cM_minus l D (md_a7 M) (md_t6 M) (md_a5 M) (md_t4 M) hdr hdb (by omega) (by decide)) (va_cwS 2 hts (gM_S 51 yX2_minus (.code yX2_minus cX2_minus 5 none) (by decide +kernel) mw_60) rfl rfl rfl (by decide +kernel) ⟨Nat.le_of_ble_eq_true rfl, Nat.le_of_ble_eq_true rfl⟩) (xb_ps rfl hP hK hD) rfl rfl hl.1 rfl (lv_room (Nat.le_of_ble_eq_true rfl)) dX2_divide_85 ⟨Nat.le_of_ble_eq_true rfl, Nat.le_of_ble_eq_true rfl⟩) hD hS hA (fun ws3 H locs hws3 hP hD hS => ?_)
              obtain ⟨fr_85, hws3, hdfr_85⟩ := hws3
              have M := md_sfr M hws3
              have hdfr_85 : dg fr_85 (((x / 10 ^ (u + 1) % y * 10 + x / 10 ^ u % 10) - tm * y) - y) := hdfr_85
              refine lv_iinc (v := x2 + 1) (lv' := [(2, .int (x2 + 1)), (0, .ref (ad 0)), (1, .int x1), (3, .int x3)]) hx hb dX2_divide_88 hl (k := 2) rfl (by rfl) (by decide) rfl (fun ls hl => ?_)
              refine lv_iinc (v := x3 + 1) (lv' := [(3, .int (x3 + 1)), (2, .int (x2 + 1)), (0, .ref (ad 0)), (1, .int x1)]) hx hb dX2_divide_91 hl (k := 3) rfl (by rfl) (by decide) rfl (fun ls hl => ?_)
              refine lv_goto (tgt := 57) hx hb dX2_divide_94 (by decide) ?_
              exact ihn (tm + 1) (x2 + 1) (x3 + 1) _ ws3 H locs ls (by omega) (by omega) (by rw [ex2]; exact nI_1 tm) (by rw [ex3]; exact nI_1 tm) M (by rw [Nat.succ_mul, Nat.sub_add_eq]; exact hdfr_85) (by rw [Nat.succ_mul]; omega) hP hD hS (lv_sub hl [2, 3, 1, 0] rfl)
      have K41 : ∀ (fs : Nat → Int32) (ws1 : va_W) (H : Heap) (locs : List Loc) (ls : Array Slot), md w0 ws1 tys ad cB rf tf bf f1 fb fc fs ng → (∀ j, 1 ≤ j → j < 80 → fs j = f2 (j - 1)) → va_P D vwCl ws1 H → va_D A ws1 → va_S A s.heap H locs → lv_has ls 4 [(0, .ref (ad 0)), (1, .int x1)] → W p l e ({ frames := 1, cells := 0, slots := 0, locals := 24 }) s m [.ref (ad 0)].toArray below meth c H locs 0 0 (MQ below (xQv D tys (fun w => ∃ f1 f2, md w0 w tys ad cB rf tf bf f1 fb fc f2 ng ∧ dg f1 (x / y) ∧ dg f2 (x % y)) A) [.ref (ad 0)].toArray s 0 0 A) (F0 m 41 ls []) := by
        intro fs ws1 H locs ls M hsh hP hD hS hl
        refine lv_aload_n hx hb dX2_divide_41 rfl (lv_at hl 0 rfl) ?_
        refine va_get (D := D) (ci := ciM) (v := .ref (ad 7)) (C := RX2) (T := TX2) (N := 8) hx hb hts inM hown hK hP 10 (md_a0 M) rfl 6 (by decide) (hts _ (inT mw_25)) (fun _ h9 => h9) rfl dX2_divide_42 ?_
        refine lv_iconst (v := 0) hx hb dX2_divide_45 (by decide) ?_
        refine lv_aload_n hx hb dX2_divide_46 rfl (lv_at hl 0 rfl) ?_
        refine va_get (D := D) (ci := ciM) (v := .ref (ad 4)) (C := RX2) (T := TX2) (N := 8) hx hb hts inM hown hK hP 10 (md_a0 M) rfl 3 (by decide) (hts _ (inT mw_7)) (fun _ h9 => h9) rfl dX2_divide_47 ?_
        refine lv_iload_n hx hb dX2_divide_50 rfl (lv_at hl 1 rfl) ?_
        refine ia_ld hx hb hK hP (md_a4 M) (md_t3 M) ex1 hu (by decide) dX2_divide_51 ?_
        refine ia_st (x := f1 u) hx hb hK hP hD hS (md_a7 M) (md_t6 M) nI_0.symm (by decide) (by decide) dX2_divide_52 (fun ws2 H locs hws2 hP hD hS => ?_)
        have M := md_sfr M hws2
        refine lv_iconst (v := 0) hx hb dX2_divide_53 (by decide) ?_
        refine lv_istore_n (lv' := [(2, .int 0), (0, .ref (ad 0)), (1, .int x1)]) hx hb dX2_divide_54 rfl hl (by decide) rfl (fun ls hl => ?_)
        refine lv_iconst (v := 0) hx hb dX2_divide_55 (by decide) ?_
        refine lv_istore_n (lv' := [(3, .int 0), (2, .int 0), (0, .ref (ad 0)), (1, .int x1)]) hx hb dX2_divide_56 rfl hl (by decide) rfl (fun ls hl => ?_)
        exact turn 10 0 0 0 _ ws2 H locs ls (by omega) (by omega) nI_0.symm nI_0.symm M (by rw [Nat.zero_mul, Nat.sub_zero]; exact dg_sh hd2 he (by rw [up_s]; exact eu) (fun j j1 j2 => by rw [up_n (by omega)]; exact hsh j j1 j2)) (by omega) hP hD hS (lv_sub hl [2, 3, 1, 0] rfl)
      have shift : ∀ (sx : Nat) (x2 : Int32) (fs : Nat → Int32) (ws1 : va_W) (H : Heap) (locs : List Loc) (ls : Array Slot), sx < 80 → x2 = nI sx → md w0 ws1 tys ad cB rf tf bf f1 fb fc fs ng → (∀ j, sx < j → j < 80 → fs j = f2 (j - 1)) → (∀ j, j ≤ sx → fs j = f2 j) → va_P D vwCl ws1 H → va_D A ws1 → va_S A s.heap H locs → lv_has ls 4 [(0, .ref (ad 0)), (1, .int x1), (2, .int x2)] → W p l e ({ frames := 1, cells := 0, slots := 0, locals := 24 }) s m [.ref (ad 0)].toArray below meth c H locs 0 0 (MQ below (xQv D tys (fun w => ∃ f1 f2, md w0 w tys ad cB rf tf bf f1 fb fc f2 ng ∧ dg f1 (x / y) ∧ dg f2 (x % y)) A) [.ref (ad 0)].toArray s 0 0 A) (F0 m 17 ls []) := by
        intro sx
        induction sx with
        | zero =>
          intro x2 fs ws1 H locs ls s1 ex2 M hs1 hs2 hP hD hS hl
          refine lv_iload_n hx hb dX2_divide_17 rfl (lv_at hl 2 rfl) ?_
          refine lv_if_le (tgt := 41) hx hb dX2_divide_18 (by decide) (fun c18 => ?_) (fun c18 => ?_)
          · exact K41 fs ws1 H locs ls M (fun j j1 j2 => hs1 j (by omega) j2) hP hD hS (lv_sub hl [0, 1] rfl)
          · exact absurd (by rw [ex2]; decide) c18
        | succ sx ihs =>
          intro x2 fs ws1 H locs ls s1 ex2 M hs1 hs2 hP hD hS hl
          refine lv_iload_n hx hb dX2_divide_17 rfl (lv_at hl 2 rfl) ?_
          refine lv_if_le (tgt := 41) hx hb dX2_divide_18 (by decide) (fun c18 => ?_) (fun c18 => ?_)
          · exact absurd c18 (by rw [ex2]; exact nI_nle (by omega) (by omega))
          · refine lv_aload_n hx hb dX2_divide_21 rfl (lv_at hl 0 rfl) ?_
            refine va_get (D := D) (ci := ciM) (v := .ref (ad 7)) (C := RX2) (T := TX2) (N := 8) hx hb hts inM hown hK hP 10 (md_a0 M) rfl 6 (by decide) (hts _ (inT mw_25)) (fun _ h9 => h9) rfl dX2_divide_22 ?_
            refine lv_iload_n hx hb dX2_divide_25 rfl (lv_at hl 2 rfl) ?_
            refine lv_aload_n hx hb dX2_divide_26 rfl (lv_at hl 0 rfl) ?_
            refine va_get (D := D) (ci := ciM) (v := .ref (ad 7)) (C := RX2) (T := TX2) (N := 8) hx hb hts inM hown hK hP 10 (md_a0 M) rfl 6 (by decide) (hts _ (inT mw_25)) (fun _ h9 => h9) rfl dX2_divide_27 ?_
            refine lv_iload_n hx hb dX2_divide_30 rfl (lv_at hl 2 rfl) ?_
            refine lv_iconst (v := 1) hx hb dX2_divide_31 (by decide) ?_
            refine lv_isub hx hb dX2_divide_32 ?_
            refine ia_ld hx hb hK hP (md_a7 M) (md_t6 M) (show x2 - 1 = nI sx by rw [ex2]; exact nI_pred sx) (show sx < 80 by omega) (by decide) dX2_divide_33 ?_
            refine ia_st (x := fs sx) hx hb hK hP hD hS (md_a7 M) (md_t6 M) ex2 s1 (by decide) dX2_divide_34 (fun ws2 H locs hws2 hP hD hS => ?_)
            have M := md_sfr M hws2
            refine lv_iinc (v := x2 + (-1)) (lv' := [(2, .int (x2 + (-1))), (0, .ref (ad 0)), (1, .int x1)]) hx hb dX2_divide_35 hl (k := 2) rfl (by rfl) (by decide) rfl (fun ls hl => ?_)
            refine lv_goto (tgt := 17) hx hb dX2_divide_38 (by decide) ?_
            exact ihs (x2 + (-1)) _ ws2 H locs ls (by omega) (by rw [ex2]; exact pk_m1 sx) M (fun j j1 j2 => by
              by_cases e : j = sx + 1
              · subst e; rw [up_s, Nat.add_sub_cancel]; exact hs2 sx (by omega)
              · rw [up_n e]; exact hs1 j (by omega) j2) (fun j j1 => by rw [up_n (by omega)]; exact hs2 j (by omega)) hP hD hS (lv_sub hl [1, 2, 0] rfl)
      refine lv_iload_n hx hb dX2_divide_10 rfl (lv_at hl 1 rfl) ?_
      refine lv_if_lt (tgt := 110) hx hb dX2_divide_11 (by decide) (fun c11 => ?_) (fun c11 => ?_)
      · exact absurd c11 (by rw [ex1]; exact nI_pos (by omega))
      · refine lv_bipush (v := 79) hx hb dX2_divide_14 (by decide) ?_
        refine lv_istore_n (lv' := [(2, .int 79), (0, .ref (ad 0)), (1, .int x1)]) hx hb dX2_divide_16 rfl hl (by decide) rfl (fun ls hl => ?_)
        exact shift 79 79 f2 ws1 H locs ls (by decide) rfl M (fun j j1 j2 => absurd j1 (by omega)) (fun j _ => rfl) hP hD hS (lv_sub hl [1, 2, 0] rfl)
  refine lv_aload_n hx hb dX2_divide_0 rfl (lv_at hl 0 rfl) ?_
  refine va_get (D := D) (ci := ciM) (v := .ref (ad 7)) (C := RX2) (T := TX2) (N := 8) hx hb hts inM hown hK hP 10 (md_a0 M) rfl 6 (by decide) (hts _ (inT mw_25)) (fun _ h9 => h9) rfl dX2_divide_1 ?_
  refine xb_rv (va_runS (As := [.ref (ad 7)]) (rest := []) ⟨hx, hb, hml, hown, hts⟩ (cM_nothing l D (md_a7 M) (md_t6 M)) (va_cwS 1 hts (gM_S 39 yX2_nothing (.code yX2_nothing cX2_nothing 2 none) (by decide +kernel) mw_66) rfl rfl rfl (by decide +kernel) ⟨Nat.le_of_ble_eq_true rfl, Nat.le_of_ble_eq_true rfl⟩) (xb_ps rfl hP hK hD) rfl rfl hl.1 rfl (lv_room (Nat.le_of_ble_eq_true rfl)) dX2_divide_4 ⟨Nat.le_of_ble_eq_true rfl, Nat.le_of_ble_eq_true rfl⟩) hD hS hA (fun ws1 H locs hws1 hP hD hS => ?_)
  obtain ⟨fr_4, hws1, hdfr_4⟩ := hws1
  have M := md_sfr M hws1
  have hdfr_4 : dg fr_4 0 := fun j hj => by rw [hdfr_4 j hj, Nat.zero_div]; rfl
  refine lv_bipush (v := 79) hx hb dX2_divide_7 (by decide) ?_
  refine lv_istore_n (lv' := [(1, .int 79), (0, .ref (ad 0))]) hx hb dX2_divide_9 rfl hl (by decide) rfl (fun ls hl => ?_)
  exact outer 80 79 fa fr_4 ws1 H locs ls (by omega) rfl M (by rw [qV_80 hxl]; exact hda) (by rw [Nat.div_eq_of_lt hxl, Nat.zero_mod]; exact hdfr_4) hP hD hS (lv_sub hl [1, 0] rfl)
set_option maxHeartbeats 4000000 in
set_option maxRecDepth 100000 in
theorem cM_join (l : Launch) (D : va_G) {tys : xT} {ws : va_W} {sz : Nat} {w0 : va_W} {ad : Nat → Nat} {cB : Nat → ClassId} {rf : Nat → Int64} {tf bf fa fb fc fr : Nat → Int32} {ng : Int32} (M : md w0 ws tys ad cB rf tf bf fa fb fc fr ng) {x y : Nat} (hda : dg fa x) (hdc : dg fc y) (hxy : x + y < 10 ^ 80) {lw : Int32} (hlw : lw = 0 ∨ lw = 1) (hng : ng = 0 ∨ ng = 1) : xM l yX2_join (.code yX2_join cX2_join 2 none :: mdT) ({ frames := 1, cells := 0, slots := 0, locals := 24 }) D tys ws sz [.ref (ad 0), .int lw] (xQv D tys (fun w => ∃ f1 f2 n1 z, md w0 w tys ad cB rf tf bf f1 fb fc f2 n1 ∧ (n1 = 0 ∨ n1 = 1) ∧ dg f1 z ∧ z ≤ x + y ∧ sv n1 z = sv ng x + sv lw y)) 0 0 := by
  refine xb_m (cc := cX2_join) (maxL := 2) (ret := none) (by decide) rfl (Nat.le_of_ble_eq_true rfl) ?_
  intro p e s m below meth c A ls hx hb hr hml hown hts hlocks hnm hA hP hK hD hS hl
  have hl : lv_has ls 2 [(0, .ref (ad 0)), (1, .int lw)] := hl
  have hown : s.vm.findClass RX2 = some m.cls := hown
  refine lv_iload_n hx hb dX2_join_0 rfl (lv_at hl 1 rfl) ?_
  refine lv_aload_n hx hb dX2_join_1 rfl (lv_at hl 0 rfl) ?_
  refine va_get (D := D) (ci := ciM) (v := .int ng) (C := RX2) (T := TX2) (N := 8) hx hb hts inM hown hK hP 10 (md_a0 M) rfl 7 (by decide) (hts _ (inT mw_10)) (fun _ h9 => h9) rfl dX2_join_2 ?_
  refine lv_icmp_ne (tgt := 22) hx hb dX2_join_5 (by decide) (fun c5 => ?_) (fun c5 => ?_)
  · refine lv_aload_n hx hb dX2_join_22 rfl (lv_at hl 0 rfl) ?_
    refine va_get (D := D) (ci := ciM) (v := .ref (ad 4)) (C := RX2) (T := TX2) (N := 8) hx hb hts inM hown hK hP 10 (md_a0 M) rfl 3 (by decide) (hts _ (inT mw_7)) (fun _ h9 => h9) rfl dX2_join_23 ?_
    refine lv_aload_n hx hb dX2_join_26 rfl (lv_at hl 0 rfl) ?_
    refine va_get (D := D) (ci := ciM) (v := .ref (ad 6)) (C := RX2) (T := TX2) (N := 8) hx hb hts inM hown hK hP 10 (md_a0 M) rfl 5 (by decide) (hts _ (inT mw_11)) (fun _ h9 => h9) rfl dX2_join_27 ?_
    refine xb_ri (va_runS (As := [.ref (ad 4), .ref (ad 6)]) (rest := []) ⟨hx, hb, hml, hown, hts⟩ (cM_cmps l D (md_a4 M) (md_t3 M) (md_a6 M) (md_t5 M) hda hdc (by omega) (by omega)) (va_cwS 2 hts (gM_S 47 yX2_compareSizes (.code yX2_compareSizes cX2_compareSizes 4 (some .int)) (by decide +kernel) mw_59) rfl rfl rfl (by decide +kernel) ⟨Nat.le_of_ble_eq_true rfl, Nat.le_of_ble_eq_true rfl⟩) (xb_ps rfl hP hK hD) rfl rfl hl.1 rfl (lv_room (Nat.le_of_ble_eq_true rfl)) dX2_join_30 ⟨Nat.le_of_ble_eq_true rfl, Nat.le_of_ble_eq_true rfl⟩) hD hS hA (fun r30 ws1 H locs hws1 hP hD hS => ?_)
    obtain ⟨hr30, rfl⟩ := hws1
    refine lv_if_lt (tgt := 50) hx hb dX2_join_33 (by decide) (fun c33 => ?_) (fun c33 => ?_)
    · refine lv_aload_n hx hb dX2_join_50 rfl (lv_at hl 0 rfl) ?_
      refine va_get (D := D) (ci := ciM) (v := .ref (ad 4)) (C := RX2) (T := TX2) (N := 8) hx hb hts inM hown hK hP 10 (md_a0 M) rfl 3 (by decide) (hts _ (inT mw_7)) (fun _ h9 => h9) rfl dX2_join_51 ?_
      refine lv_aload_n hx hb dX2_join_54 rfl (lv_at hl 0 rfl) ?_
      refine va_get (D := D) (ci := ciM) (v := .ref (ad 7)) (C := RX2) (T := TX2) (N := 8) hx hb hts inM hown hK hP 10 (md_a0 M) rfl 6 (by decide) (hts _ (inT mw_25)) (fun _ h9 => h9) rfl dX2_join_55 ?_
      refine xb_rv (va_runS (As := [.ref (ad 4), .ref (ad 7)]) (rest := []) ⟨hx, hb, hml, hown, hts⟩ (cM_copy l D (md_a7 M) (md_t6 M) (md_a4 M) (md_t3 M) (by decide)) (va_cwS 2 hts (gM_S 43 yX2_copy (.code yX2_copy cX2_copy 3 none) (by decide +kernel) mw_61) rfl rfl rfl (by decide +kernel) ⟨Nat.le_of_ble_eq_true rfl, Nat.le_of_ble_eq_true rfl⟩) (xb_ps rfl hP hK hD) rfl rfl hl.1 rfl (lv_room (Nat.le_of_ble_eq_true rfl)) dX2_join_58 ⟨Nat.le_of_ble_eq_true rfl, Nat.le_of_ble_eq_true rfl⟩) hD hS hA (fun ws2 H locs hws2 hP hD hS => ?_)
      obtain ⟨fr_58, hws2, hdfr_58⟩ := hws2
      have M := md_sfr M hws2
      have hdfr_58 : dg fr_58 x := fun j hj => (hdfr_58 j hj).trans (hda j hj)
      refine lv_aload_n hx hb dX2_join_61 rfl (lv_at hl 0 rfl) ?_
      refine va_get (D := D) (ci := ciM) (v := .ref (ad 6)) (C := RX2) (T := TX2) (N := 8) hx hb hts inM hown hK hP 10 (md_a0 M) rfl 5 (by decide) (hts _ (inT mw_11)) (fun _ h9 => h9) rfl dX2_join_62 ?_
      refine lv_aload_n hx hb dX2_join_65 rfl (lv_at hl 0 rfl) ?_
      refine va_get (D := D) (ci := ciM) (v := .ref (ad 4)) (C := RX2) (T := TX2) (N := 8) hx hb hts inM hown hK hP 10 (md_a0 M) rfl 3 (by decide) (hts _ (inT mw_7)) (fun _ h9 => h9) rfl dX2_join_66 ?_
      refine xb_rv (va_runS (As := [.ref (ad 6), .ref (ad 4)]) (rest := []) ⟨hx, hb, hml, hown, hts⟩ (cM_copy l D (md_a4 M) (md_t3 M) (md_a6 M) (md_t5 M) (by decide)) (va_cwS 2 hts (gM_S 43 yX2_copy (.code yX2_copy cX2_copy 3 none) (by decide +kernel) mw_61) rfl rfl rfl (by decide +kernel) ⟨Nat.le_of_ble_eq_true rfl, Nat.le_of_ble_eq_true rfl⟩) (xb_ps rfl hP hK hD) rfl rfl hl.1 rfl (lv_room (Nat.le_of_ble_eq_true rfl)) dX2_join_69 ⟨Nat.le_of_ble_eq_true rfl, Nat.le_of_ble_eq_true rfl⟩) hD hS hA (fun ws3 H locs hws3 hP hD hS => ?_)
      obtain ⟨fa_69, hws3, hdfa_69⟩ := hws3
      have M := md_sfa M hws3
      have hdfa_69 : dg fa_69 y := fun j hj => (hdfa_69 j hj).trans (hdc j hj)
      refine lv_aload_n hx hb dX2_join_72 rfl (lv_at hl 0 rfl) ?_
      refine va_get (D := D) (ci := ciM) (v := .ref (ad 4)) (C := RX2) (T := TX2) (N := 8) hx hb hts inM hown hK hP 10 (md_a0 M) rfl 3 (by decide) (hts _ (inT mw_7)) (fun _ h9 => h9) rfl dX2_join_73 ?_
      refine lv_aload_n hx hb dX2_join_76 rfl (lv_at hl 0 rfl) ?_
      refine va_get (D := D) (ci := ciM) (v := .ref (ad 7)) (C := RX2) (T := TX2) (N := 8) hx hb hts inM hown hK hP 10 (md_a0 M) rfl 6 (by decide) (hts _ (inT mw_25)) (fun _ h9 => h9) rfl dX2_join_77 ?_
      refine xb_rv (va_runS (As := [.ref (ad 4), .ref (ad 7)]) (rest := []) ⟨hx, hb, hml, hown, hts⟩ (cM_minus l D (md_a4 M) (md_t3 M) (md_a7 M) (md_t6 M) hdfa_69 hdfr_58 (by rw [hr30, ord_lt] at c33; omega) (by decide)) (va_cwS 2 hts (gM_S 51 yX2_minus (.code yX2_minus cX2_minus 5 none) (by decide +kernel) mw_60) rfl rfl rfl (by decide +kernel) ⟨Nat.le_of_ble_eq_true rfl, Nat.le_of_ble_eq_true rfl⟩) (xb_ps rfl hP hK hD) rfl rfl hl.1 rfl (lv_room (Nat.le_of_ble_eq_true rfl)) dX2_join_80 ⟨Nat.le_of_ble_eq_true rfl, Nat.le_of_ble_eq_true rfl⟩) hD hS hA (fun ws4 H locs hws4 hP hD hS => ?_)
      obtain ⟨fa_80, hws4, hdfa_80⟩ := hws4
      have M := md_sfa M hws4
      have hdfa_80 : dg fa_80 (y - x) := hdfa_80
      refine lv_aload_n hx hb dX2_join_83 rfl (lv_at hl 0 rfl) ?_
      refine lv_iload_n hx hb dX2_join_84 rfl (lv_at hl 1 rfl) ?_
      refine va_put (D := D) (ci := ciM) (v := .int lw) (ty := .boolean) (C := RX2) (T := TX2) (N := 8) hx hb hts inM tyX2 tyX2_ok nmX2 hown hK hP hD hS 10 (md_a0 M) rfl 7 (by decide) (hts _ (inT mw_10)) (fun _ h9 => h9) rfl (by decide +kernel) (by rcases hlw with rfl | rfl <;> rfl) (by rcases hlw with rfl | rfl <;> rfl) (Nat.le_of_ble_eq_true rfl) dX2_join_85 (fun H locs hP hD hS => ?_)
      obtain ⟨ws5, hws5⟩ : ∃ q_, q_ = ws4.set 10 (ad 0, .inr (ciM, [.ref (ad 1), .ref (ad 2), .ref (ad 3), .ref (ad 4), .ref (ad 5), .ref (ad 6), .ref (ad 7), .int lw])) := ⟨_, rfl⟩
      have hP : va_P D vwCl ws5 H := by rw [hws5]; exact hP
      have hD : va_D A ws5 := by rw [hws5]; exact hD
      have M := md_sng M hws5
      exact xb_vr hx hb hr hlocks hP hK hD hS dX2_join_88 (⟨_, _, lw, y - x, M, hlw, hdfa_80, by omega, sv_bus hlw hng c5 (by rw [hr30, ord_lt] at c33; omega)⟩)
    · refine lv_aload_n hx hb dX2_join_36 rfl (lv_at hl 0 rfl) ?_
      refine va_get (D := D) (ci := ciM) (v := .ref (ad 4)) (C := RX2) (T := TX2) (N := 8) hx hb hts inM hown hK hP 10 (md_a0 M) rfl 3 (by decide) (hts _ (inT mw_7)) (fun _ h9 => h9) rfl dX2_join_37 ?_
      refine lv_aload_n hx hb dX2_join_40 rfl (lv_at hl 0 rfl) ?_
      refine va_get (D := D) (ci := ciM) (v := .ref (ad 6)) (C := RX2) (T := TX2) (N := 8) hx hb hts inM hown hK hP 10 (md_a0 M) rfl 5 (by decide) (hts _ (inT mw_11)) (fun _ h9 => h9) rfl dX2_join_41 ?_
      refine xb_rv (va_runS (As := [.ref (ad 4), .ref (ad 6)]) (rest := []) ⟨hx, hb, hml, hown, hts⟩ (cM_minus l D (md_a4 M) (md_t3 M) (md_a6 M) (md_t5 M) hda hdc (by rw [hr30, ord_lt] at c33; omega) (by decide)) (va_cwS 2 hts (gM_S 51 yX2_minus (.code yX2_minus cX2_minus 5 none) (by decide +kernel) mw_60) rfl rfl rfl (by decide +kernel) ⟨Nat.le_of_ble_eq_true rfl, Nat.le_of_ble_eq_true rfl⟩) (xb_ps rfl hP hK hD) rfl rfl hl.1 rfl (lv_room (Nat.le_of_ble_eq_true rfl)) dX2_join_44 ⟨Nat.le_of_ble_eq_true rfl, Nat.le_of_ble_eq_true rfl⟩) hD hS hA (fun ws2 H locs hws2 hP hD hS => ?_)
      obtain ⟨fa_44, hws2, hdfa_44⟩ := hws2
      have M := md_sfa M hws2
      have hdfa_44 : dg fa_44 (x - y) := hdfa_44
      refine lv_goto (tgt := 88) hx hb dX2_join_47 (by decide) ?_
      exact xb_vr hx hb hr hlocks hP hK hD hS dX2_join_88 (⟨_, _, ng, x - y, M, hng, hdfa_44, by omega, sv_sub hlw hng c5 (by rw [hr30, ord_lt] at c33; omega)⟩)
  · refine lv_aload_n hx hb dX2_join_8 rfl (lv_at hl 0 rfl) ?_
    refine va_get (D := D) (ci := ciM) (v := .ref (ad 4)) (C := RX2) (T := TX2) (N := 8) hx hb hts inM hown hK hP 10 (md_a0 M) rfl 3 (by decide) (hts _ (inT mw_7)) (fun _ h9 => h9) rfl dX2_join_9 ?_
    refine lv_aload_n hx hb dX2_join_12 rfl (lv_at hl 0 rfl) ?_
    refine va_get (D := D) (ci := ciM) (v := .ref (ad 6)) (C := RX2) (T := TX2) (N := 8) hx hb hts inM hown hK hP 10 (md_a0 M) rfl 5 (by decide) (hts _ (inT mw_11)) (fun _ h9 => h9) rfl dX2_join_13 ?_
    refine xb_rv (va_runS (As := [.ref (ad 4), .ref (ad 6)]) (rest := []) ⟨hx, hb, hml, hown, hts⟩ (cM_plus l D (md_a4 M) (md_t3 M) (md_a6 M) (md_t5 M) hda hdc (by decide)) (va_cwS 2 hts (gM_S 58 yX2_plus (.code yX2_plus cX2_plus 5 none) (by decide +kernel) mw_58) rfl rfl rfl (by decide +kernel) ⟨Nat.le_of_ble_eq_true rfl, Nat.le_of_ble_eq_true rfl⟩) (xb_ps rfl hP hK hD) rfl rfl hl.1 rfl (lv_room (Nat.le_of_ble_eq_true rfl)) dX2_join_16 ⟨Nat.le_of_ble_eq_true rfl, Nat.le_of_ble_eq_true rfl⟩) hD hS hA (fun ws1 H locs hws1 hP hD hS => ?_)
    obtain ⟨fa_16, hws1, hdfa_16⟩ := hws1
    have M := md_sfa M hws1
    have hdfa_16 : dg fa_16 (x + y) := hdfa_16
    refine lv_goto (tgt := 88) hx hb dX2_join_19 (by decide) ?_
    exact xb_vr hx hb hr hlocks hP hK hD hS dX2_join_88 (⟨_, _, ng, x + y, M, hng, hdfa_16, by omega, sv_same c5⟩)
end
section
/-! the reference's registers and signs at work -/
section MR
variable {p : Program} {l : Launch} {e : Env} {R : Room} {s : State} {m : MethodId} {args : Array Value} {below : List Frame} {meth : Method} {c : Code} {H : Heap} {locs : List Loc} {cells slots : Nat} {Q : State → Prop}
variable {cc : ByteArray} {pc : Nat} {ls : Array Slot} {rest : List Value} {D : va_G} {A : Nat → Prop} {H0 : Heap}
variable {w0 ws : va_W} {tys : xT} {ad : Nat → Nat} {cB : Nat → ClassId} {rf : Nat → Int64} {tf bf fa fb fc fr : Nat → Int32} {ng : Int32}
theorem md_lld (hx : p.tables.exec = Jvm.exec) (hb : c.code = cc) (hK : va_K D vwCl tys s) (hP : va_P D vwCl ws H) (M : md w0 ws tys ad cB rf tf bf fa fb fc fr ng) {r : Int32} (h : ¬ r < 0 ∧ r < 8) (hdg : decode cc pc = .ok (.laload, 1))
    (kk : W p l e R s m args below meth c H locs cells slots Q (F0 m (pc + 1) ls (.long (rf r.toNatClampNeg) :: rest))) : W p l e R s m args below meth c H locs cells slots Q (F0 m pc ls (.int r :: .ref (ad 1) :: rest)) :=
  va_lald hx hb hK hP 11 2 (md_a1 M) (md_t0 M) (in8 h) hdg kk
theorem md_lst (hx : p.tables.exec = Jvm.exec) (hb : c.code = cc) (hK : va_K D vwCl tys s) (hP : va_P D vwCl ws H) (hD : va_D A ws) (hS : va_S A H0 H locs) (M : md w0 ws tys ad cB rf tf bf fa fb fc fr ng) {r : Int32} {v : Int64} (h : ¬ r < 0 ∧ r < 8) (hdg : decode cc pc = .ok (.lastore, 1))
    (kk : ∀ (ws1 : va_W) (H1 : Heap) (locs1 : List Loc), md w0 ws1 tys ad cB (vp_updL rf r.toNatClampNeg v) tf bf fa fb fc fr ng → va_P D vwCl ws1 H1 → va_D A ws1 → va_S A H0 H1 locs1 → W p l e R s m args below meth c H1 locs1 cells slots Q (F0 m (pc + 1) ls rest)) : W p l e R s m args below meth c H locs cells slots Q (F0 m pc ls (.long v :: .int r :: .ref (ad 1) :: rest)) :=
  va_last hx hb hK hP hD hS 11 2 (md_a1 M) (md_t0 M) (in8 h) hdg (fun H1 locs1 hP1 hD1 hS1 => kk _ H1 locs1 (md_srf M rfl) hP1 hD1 hS1)
theorem md_zld (hx : p.tables.exec = Jvm.exec) (hb : c.code = cc) (hK : va_K D vwCl tys s) (hP : va_P D vwCl ws H) (M : md w0 ws tys ad cB rf tf bf fa fb fc fr ng) {t : Int32} (h : ¬ t < 0 ∧ t < 4) (hdg : decode cc pc = .ok (.baload, 1))
    (kk : W p l e R s m args below meth c H locs cells slots Q (F0 m (pc + 1) ls (.int (bf t.toNatClampNeg) :: rest))) : W p l e R s m args below meth c H locs cells slots Q (F0 m pc ls (.int t :: .ref (ad 3) :: rest)) :=
  va_zald hx hb hK hP 13 4 (md_a3 M) (md_t2 M) (in4 h) hdg kk
theorem md_zst (hx : p.tables.exec = Jvm.exec) (hb : c.code = cc) (hK : va_K D vwCl tys s) (hP : va_P D vwCl ws H) (hD : va_D A ws) (hS : va_S A H0 H locs) (M : md w0 ws tys ad cB rf tf bf fa fb fc fr ng) {t v : Int32} (h : ¬ t < 0 ∧ t < 4) (hv : v = 0 ∨ v = 1) (hdg : decode cc pc = .ok (.bastore, 1))
    (kk : ∀ (ws1 : va_W) (H1 : Heap) (locs1 : List Loc), md w0 ws1 tys ad cB rf tf (upd bf t.toNatClampNeg v) fa fb fc fr ng → va_P D vwCl ws1 H1 → va_D A ws1 → va_S A H0 H1 locs1 → W p l e R s m args below meth c H1 locs1 cells slots Q (F0 m (pc + 1) ls rest)) : W p l e R s m args below meth c H locs cells slots Q (F0 m pc ls (.int v :: .int t :: .ref (ad 3) :: rest)) := by
  have e : vp_nar .boolean v = v := by rcases hv with rfl | rfl <;> decide
  refine va_zast hx hb hK hP hD hS 13 4 (md_a3 M) (md_t2 M) (in4 h) hdg (fun H1 locs1 hP1 hD1 hS1 => ?_)
  rw [e] at hP1 hD1
  exact kk _ H1 locs1 (md_sbf M rfl) hP1 hD1 hS1
end MR
theorem lim_d {f : Nat → Int32} (h : dg f 9223372036854775807) : dg (upd f 0 8) 9223372036854775808 := by
  intro j hj
  rcases Nat.eq_zero_or_pos j with q | q
  · subst q
    rw [up_s]; decide
  · rw [up_n (by omega), h j hj]
    obtain ⟨i, rfl⟩ : ∃ i, j = i + 1 := ⟨j - 1, by omega⟩
    rw [Nat.pow_succ, Nat.mul_comm (10 ^ i), ← Nat.div_div_eq_div_mul, ← Nat.div_div_eq_div_mul]
theorem lim_m : (9223372036854775807 : Int64).toInt.natAbs = 9223372036854775807 := by decide
/-- the value loop of store: one digit more -/
theorem st_step {v : Int64} {x u : Nat} {f : Nat → Int32} (hx : x ≤ 9223372036854775808) (hv : v.toInt = -((x / 10 ^ (u + 1) : Nat) : Int)) (hf : f u = nI (x / 10 ^ u % 10)) : (10 * v - (f u).toInt64).toInt = -((x / 10 ^ u : Nat) : Int) := by
  have a : x / 10 ^ (u + 1) = x / 10 ^ u / 10 := by rw [Nat.pow_succ, Nat.div_div_eq_div_mul]
  have b : x / 10 ^ u ≤ x := Nat.div_le_self _ _
  have c := d9 x u
  rw [a] at hv
  rw [hf, nI_l (by omega)]
  generalize x / 10 ^ u = q at *
  have d := un_mul 10 v
  have e : (10 : Int64).toInt = 10 := by decide
  have g := un_sub (10 * v) (lN (q % 10))
  have h := un_c (10 * v)
  have i : (lN (q % 10)).toInt = ((q % 10 : Nat) : Int) := pk_lT (by omega)
  rw [e, hv] at d
  rw [i] at g
  exact un_eq (by omega) (by omega) (by omega)
theorem st_fin {v : Int64} {x : Nat} (hv : v.toInt = -((x / 10 ^ 0 : Nat) : Int)) (hx : x ≤ 9223372036854775808) : v = zl (-(x : Int)) ∧ -v = zl (x : Int) := by
  rw [Nat.pow_zero, Nat.div_one] at hv
  have a := un_c v
  have b := un_neg v
  have c := zl_un (-(x : Int))
  have d := zl_un (x : Int)
  rw [hv] at a b
  constructor <;> apply uN_inj <;> omega
theorem sv_0 {n : Int32} {x : Nat} (h : n = 0) : sv n x = (x : Int) := by subst h; unfold sv; rw [if_neg (by decide)]
theorem sv_1 {n : Int32} {x : Nat} (h : n = 1) : sv n x = -(x : Int) := by subst h; unfold sv; rw [if_pos rfl]
theorem n01 {n : Int32} (h : n = 0 ∨ n = 1) (c : ¬ n = 0) : n = 1 := h.resolve_left c
theorem n10 {n : Int32} (h : n = 0 ∨ n = 1) (c : ¬ n = 1) : n = 0 := h.resolve_right c
theorem ord_le (a b : Int) : sp_ord a b ≤ 0 ↔ a ≤ b := by
  unfold sp_ord
  split
  · exact ⟨fun _ => by omega, fun _ => by decide⟩
  · split
    · exact ⟨fun _ => by omega, fun _ => by decide⟩
    · exact ⟨fun q => absurd q (by decide), fun q => by omega⟩
/-- a long by its sign and its size -/
theorem sv_l (v : Int64) (n : Int32) (h : n = if v.toInt < 0 then 1 else 0) : sv n v.toInt.natAbs = v.toInt := by
  by_cases q : v.toInt < 0
  · rw [if_pos q] at h; rw [sv_1 h]; omega
  · rw [if_neg q] at h; rw [sv_0 h]; omega
-- the reference: store (laid by wip/whole/gen_mk.py)
set_option maxHeartbeats 4000000 in
set_option maxRecDepth 100000 in
theorem cM_store (l : Launch) (D : va_G) {tys : xT} {ws : va_W} {sz : Nat} {w0 : va_W} {ad : Nat → Nat} {cB : Nat → ClassId} {rf : Nat → Int64} {tf bf fa fb fc fr : Nat → Int32} {ng : Int32} (M : md w0 ws tys ad cB rf tf bf fa fb fc fr ng) (tv : Nat → Int) {x : Nat} (hda : dg fa x) (hxl : x < 10 ^ 80) (hng : ng = 0 ∨ ng = 1) {r : Int32} (h : okR r) : xM l yX2_store (.code yX2_store cX2_store 5 (some .int) :: mdT) ({ frames := 1, cells := 0, slots := 0, locals := 26 }) D tys ws sz [.ref (ad 0), .int r] (xQi D tys (fun a w => (∃ f2, md w0 w tys ad cB (sp_kR (rf, tv) r (sv ng x)).2.1 tf bf fa fb f2 fr ng) ∧ a = (sp_kR (rf, tv) r (sv ng x)).1)) 0 0 := by
  refine xb_m (cc := cX2_store) (maxL := 5) (ret := (some .int)) (by decide) rfl (Nat.le_of_ble_eq_true rfl) ?_
  intro p e s m below meth c A ls hx hb hr hml hown hts hlocks hnm hA hP hK hD hS hl
  have hl : lv_has ls 5 [(0, .ref (ad 0)), (1, .int r)] := hl
  have hown : s.vm.findClass RX2 = some m.cls := hown
  have loop : ∀ (t : Nat) (x2 : Int64) (x4 : Int32) (f2 : Nat → Int32) (ws1 : va_W) (H : Heap) (locs : List Loc) (ls : Array Slot), t ≤ 20 → x ≤ 9223372036854775808 → (ng = 0 → x ≤ 9223372036854775807) → x4 = nI t + (-1) → x2.toInt = -((x / 10 ^ t : Nat) : Int) → md w0 ws1 tys ad cB rf tf bf fa fb f2 fr ng → va_P D vwCl ws1 H → va_D A ws1 → va_S A s.heap H locs → lv_has ls 5 [(0, .ref (ad 0)), (1, .int r), (2, .long x2), (4, .int x4)] → W p l e ({ frames := 1, cells := 0, slots := 0, locals := 26 }) s m [.ref (ad 0), .int r].toArray below meth c H locs 0 0 (MQ below (xQi D tys (fun a w => (∃ f2, md w0 w tys ad cB (sp_kR (rf, tv) r (sv ng x)).2.1 tf bf fa fb f2 fr ng) ∧ a = (sp_kR (rf, tv) r (sv ng x)).1) A) [.ref (ad 0), .int r].toArray s 0 0 A) (F0 m 58 ls []) := by
    intro t
    induction t with
    | zero =>
      intro x2 x4 f2 ws1 H locs ls h1 hx8 hx7 ex4 ex2 M hP hD hS hl
      obtain ⟨z1, z2⟩ := st_fin ex2 hx8
      refine lv_iload hx hb dX2_store_58 (lv_at hl 3 rfl) ?_
      refine lv_if_lt (tgt := 84) hx hb dX2_store_60 (by decide) (fun c60 => ?_) (fun c60 => ?_)
      · refine lv_aload_n hx hb dX2_store_84 rfl (lv_at hl 0 rfl) ?_
        refine va_get (D := D) (ci := ciM) (v := .ref (ad 1)) (C := RX2) (T := TX2) (N := 8) hx hb hts inM hown hK hP 10 (md_a0 M) rfl 0 (by decide) (hts _ (inT mw_3)) (fun _ h9 => h9) rfl dX2_store_85 ?_
        refine lv_iload_n hx hb dX2_store_88 rfl (lv_at hl 1 rfl) ?_
        refine lv_aload_n hx hb dX2_store_89 rfl (lv_at hl 0 rfl) ?_
        refine va_get (D := D) (ci := ciM) (v := .int ng) (C := RX2) (T := TX2) (N := 8) hx hb hts inM hown hK hP 10 (md_a0 M) rfl 7 (by decide) (hts _ (inT mw_10)) (fun _ h9 => h9) rfl dX2_store_90 ?_
        refine lv_if_eq (tgt := 100) hx hb dX2_store_93 (by decide) (fun c93 => ?_) (fun c93 => ?_)
        · refine lv_lload_n hx hb dX2_store_100 rfl (lv_at hl 2 rfl) ?_
          refine lv_lneg hx hb dX2_store_101 ?_
          refine md_lst hx hb hK hP hD hS M h dX2_store_102 (fun ws2 H locs M hP hD hS => ?_)
          refine lv_iconst (v := 0) hx hb dX2_store_103 (by decide) ?_
          exact xb_ir hx hb hr hlocks hP hK hD hS dX2_store_104 (by rw [sv_0 c93, sp_kR, if_neg (by omega), if_neg (by have := hx7 c93; omega)]; rw [z2] at M; exact ⟨⟨f2, M⟩, rfl⟩)
        · refine lv_lload_n hx hb dX2_store_96 rfl (lv_at hl 2 rfl) ?_
          refine lv_goto (tgt := 102) hx hb dX2_store_97 (by decide) ?_
          refine md_lst hx hb hK hP hD hS M h dX2_store_102 (fun ws2 H locs M hP hD hS => ?_)
          refine lv_iconst (v := 0) hx hb dX2_store_103 (by decide) ?_
          exact xb_ir hx hb hr hlocks hP hK hD hS dX2_store_104 (by rw [sv_1 (n01 hng c93), sp_kR, if_neg (by omega), if_neg (by omega)]; rw [z1] at M; exact ⟨⟨f2, M⟩, rfl⟩)
      · exact absurd (by rw [ex4]; decide) c60
    | succ u ih =>
      intro x2 x4 f2 ws1 H locs ls h1 hx8 hx7 ex4 ex2 M hP hD hS hl
      rw [pk_m1] at ex4
      refine lv_iload hx hb dX2_store_58 (lv_at hl 3 rfl) ?_
      refine lv_if_lt (tgt := 84) hx hb dX2_store_60 (by decide) (fun c60 => ?_) (fun c60 => ?_)
      · exact absurd c60 (by rw [ex4]; exact nI_pos (by omega))
      · refine lv_ldc2 (v := 10) hx hb hown (hts _ (inT mw_18)) dX2_store_63 ?_
        refine lv_lload_n hx hb dX2_store_66 rfl (lv_at hl 2 rfl) ?_
        refine lv_lmul hx hb dX2_store_67 ?_
        refine lv_aload_n hx hb dX2_store_68 rfl (lv_at hl 0 rfl) ?_
        refine va_get (D := D) (ci := ciM) (v := .ref (ad 4)) (C := RX2) (T := TX2) (N := 8) hx hb hts inM hown hK hP 10 (md_a0 M) rfl 3 (by decide) (hts _ (inT mw_7)) (fun _ h9 => h9) rfl dX2_store_69 ?_
        refine lv_iload hx hb dX2_store_72 (lv_at hl 3 rfl) ?_
        refine ia_ld hx hb hK hP (md_a4 M) (md_t3 M) ex4 (show u < 80 by omega) (by decide) dX2_store_74 ?_
        refine lv_i2l hx hb dX2_store_75 rfl ?_
        refine lv_lsub hx hb dX2_store_76 ?_
        refine lv_lstore_n (lv' := [(2, .long ((10 * x2) - ((fa u).toInt64))), (0, .ref (ad 0)), (1, .int r), (4, .int x4)]) hx hb dX2_store_77 rfl hl (by decide) rfl (fun ls hl => ?_)
        refine lv_iinc (v := x4 + (-1)) (lv' := [(4, .int (x4 + (-1))), (2, .long ((10 * x2) - ((fa u).toInt64))), (0, .ref (ad 0)), (1, .int r)]) hx hb dX2_store_78 hl (k := 3) rfl (by rfl) (by decide) rfl (fun ls hl => ?_)
        refine lv_goto (tgt := 58) hx hb dX2_store_81 (by decide) ?_
        exact ih ((10 * x2) - ((fa u).toInt64)) (x4 + (-1)) f2 ws1 H locs ls (by omega) hx8 hx7 (by rw [ex4]) (st_step hx8 ex2 (hda u (by omega))) M hP hD hS (lv_sub hl [2, 3, 1, 0] rfl)
  refine lv_ldc2 (v := 9223372036854775807) hx hb hown (hts _ (inT mw_28)) dX2_store_0 ?_
  refine lv_aload_n hx hb dX2_store_3 rfl (lv_at hl 0 rfl) ?_
  refine va_get (D := D) (ci := ciM) (v := .ref (ad 6)) (C := RX2) (T := TX2) (N := 8) hx hb hts inM hown hK hP 10 (md_a0 M) rfl 5 (by decide) (hts _ (inT mw_11)) (fun _ h9 => h9) rfl dX2_store_4 ?_
  refine xb_rv (va_runS (As := [.long 9223372036854775807, .ref (ad 6)]) (rest := []) ⟨hx, hb, hml, hown, hts⟩ (cM_write l D (md_a6 M) (md_t5 M) 9223372036854775807) (va_cwS 2 hts (gM_S 63 yX2_write (.code yX2_write cX2_write 7 none) (by decide +kernel) mw_56) rfl rfl rfl (by decide +kernel) ⟨Nat.le_of_ble_eq_true rfl, Nat.le_of_ble_eq_true rfl⟩) (xb_ps rfl hP hK hD) rfl rfl hl.1 rfl (lv_room (Nat.le_of_ble_eq_true rfl)) dX2_store_7 ⟨Nat.le_of_ble_eq_true rfl, Nat.le_of_ble_eq_true rfl⟩) hD hS hA (fun ws1 H locs hws1 hP hD hS => ?_)
  obtain ⟨fc_7, hws1, hdfc_7⟩ := hws1
  have M := md_sfc M hws1
  have hdfc_7 : dg fc_7 ((9223372036854775807 : Int64).toInt.natAbs) := hdfc_7
  refine lv_aload_n hx hb dX2_store_10 rfl (lv_at hl 0 rfl) ?_
  refine va_get (D := D) (ci := ciM) (v := .int ng) (C := RX2) (T := TX2) (N := 8) hx hb hts inM hown hK hP 10 (md_a0 M) rfl 7 (by decide) (hts _ (inT mw_10)) (fun _ h9 => h9) rfl dX2_store_11 ?_
  refine lv_if_eq (tgt := 25) hx hb dX2_store_14 (by decide) (fun c14 => ?_) (fun c14 => ?_)
  · have hdl : dg fc_7 9223372036854775807 := by rw [lim_m] at hdfc_7; exact hdfc_7
    refine lv_aload_n hx hb dX2_store_25 rfl (lv_at hl 0 rfl) ?_
    refine va_get (D := D) (ci := ciM) (v := .ref (ad 4)) (C := RX2) (T := TX2) (N := 8) hx hb hts inM hown hK hP 10 (md_a0 M) rfl 3 (by decide) (hts _ (inT mw_7)) (fun _ h9 => h9) rfl dX2_store_26 ?_
    refine lv_aload_n hx hb dX2_store_29 rfl (lv_at hl 0 rfl) ?_
    refine va_get (D := D) (ci := ciM) (v := .ref (ad 6)) (C := RX2) (T := TX2) (N := 8) hx hb hts inM hown hK hP 10 (md_a0 M) rfl 5 (by decide) (hts _ (inT mw_11)) (fun _ h9 => h9) rfl dX2_store_30 ?_
    refine xb_ri (va_runS (As := [.ref (ad 4), .ref (ad 6)]) (rest := []) ⟨hx, hb, hml, hown, hts⟩ (cM_cmps l D (md_a4 M) (md_t3 M) (md_a6 M) (md_t5 M) hda hdl hxl (by decide)) (va_cwS 2 hts (gM_S 47 yX2_compareSizes (.code yX2_compareSizes cX2_compareSizes 4 (some .int)) (by decide +kernel) mw_59) rfl rfl rfl (by decide +kernel) ⟨Nat.le_of_ble_eq_true rfl, Nat.le_of_ble_eq_true rfl⟩) (xb_ps rfl hP hK hD) rfl rfl hl.1 rfl (lv_room (Nat.le_of_ble_eq_true rfl)) dX2_store_33 ⟨Nat.le_of_ble_eq_true rfl, Nat.le_of_ble_eq_true rfl⟩) hD hS hA (fun r33 ws2 H locs hws2 hP hD hS => ?_)
    obtain ⟨hr33, rfl⟩ := hws2
    refine lv_if_le (tgt := 52) hx hb dX2_store_36 (by decide) (fun c36 => ?_) (fun c36 => ?_)
    · rw [hr33, ord_le] at c36
      refine lv_lconst (v := 0) hx hb dX2_store_52 (by decide) ?_
      refine lv_lstore_n (lv' := [(2, .long 0), (0, .ref (ad 0)), (1, .int r)]) hx hb dX2_store_53 rfl hl (by decide) rfl (fun ls hl => ?_)
      refine lv_bipush (v := 19) hx hb dX2_store_54 (by decide) ?_
      refine lv_istore (lv' := [(4, .int 19), (2, .long 0), (0, .ref (ad 0)), (1, .int r)]) hx hb dX2_store_56 hl (by decide) rfl (fun ls hl => ?_)
      exact loop 20 0 19 _ ws1 H locs ls (by omega) (by omega) (fun _ => by omega) rfl (by rw [Nat.div_eq_of_lt (by omega)]; rfl) M hP hD hS (lv_sub hl [2, 3, 1, 0] rfl)
    · rw [hr33, ord_le] at c36
      refine lv_aload_n hx hb dX2_store_39 rfl (lv_at hl 0 rfl) ?_
      refine va_get (D := D) (ci := ciM) (v := .int ng) (C := RX2) (T := TX2) (N := 8) hx hb hts inM hown hK hP 10 (md_a0 M) rfl 7 (by decide) (hts _ (inT mw_10)) (fun _ h9 => h9) rfl dX2_store_40 ?_
      refine lv_if_eq (tgt := 50) hx hb dX2_store_43 (by decide) (fun c43 => ?_) (fun c43 => ?_)
      · refine lv_iconst (v := 1) hx hb dX2_store_50 (by decide) ?_
        exact xb_ir hx hb hr hlocks hP hK hD hS dX2_store_51 (by rw [sv_0 c14, sp_kR, if_neg (by omega), if_pos (by omega)]; exact ⟨⟨_, M⟩, rfl⟩)
      · exact absurd c14 c43
  · refine lv_aload_n hx hb dX2_store_17 rfl (lv_at hl 0 rfl) ?_
    refine va_get (D := D) (ci := ciM) (v := .ref (ad 6)) (C := RX2) (T := TX2) (N := 8) hx hb hts inM hown hK hP 10 (md_a0 M) rfl 5 (by decide) (hts _ (inT mw_11)) (fun _ h9 => h9) rfl dX2_store_18 ?_
    refine lv_iconst (v := 0) hx hb dX2_store_21 (by decide) ?_
    refine lv_bipush (v := 8) hx hb dX2_store_22 (by decide) ?_
    refine ia_st (x := 8) hx hb hK hP hD hS (md_a6 M) (md_t5 M) nI_0.symm (by decide) (by decide) dX2_store_24 (fun ws2 H locs hws2 hP hD hS => ?_)
    have M := md_sfc M hws2
    have hdl : dg (upd fc_7 0 8) 9223372036854775808 := lim_d (by rw [lim_m] at hdfc_7; exact hdfc_7)
    refine lv_aload_n hx hb dX2_store_25 rfl (lv_at hl 0 rfl) ?_
    refine va_get (D := D) (ci := ciM) (v := .ref (ad 4)) (C := RX2) (T := TX2) (N := 8) hx hb hts inM hown hK hP 10 (md_a0 M) rfl 3 (by decide) (hts _ (inT mw_7)) (fun _ h9 => h9) rfl dX2_store_26 ?_
    refine lv_aload_n hx hb dX2_store_29 rfl (lv_at hl 0 rfl) ?_
    refine va_get (D := D) (ci := ciM) (v := .ref (ad 6)) (C := RX2) (T := TX2) (N := 8) hx hb hts inM hown hK hP 10 (md_a0 M) rfl 5 (by decide) (hts _ (inT mw_11)) (fun _ h9 => h9) rfl dX2_store_30 ?_
    refine xb_ri (va_runS (As := [.ref (ad 4), .ref (ad 6)]) (rest := []) ⟨hx, hb, hml, hown, hts⟩ (cM_cmps l D (md_a4 M) (md_t3 M) (md_a6 M) (md_t5 M) hda hdl hxl (by decide)) (va_cwS 2 hts (gM_S 47 yX2_compareSizes (.code yX2_compareSizes cX2_compareSizes 4 (some .int)) (by decide +kernel) mw_59) rfl rfl rfl (by decide +kernel) ⟨Nat.le_of_ble_eq_true rfl, Nat.le_of_ble_eq_true rfl⟩) (xb_ps rfl hP hK hD) rfl rfl hl.1 rfl (lv_room (Nat.le_of_ble_eq_true rfl)) dX2_store_33 ⟨Nat.le_of_ble_eq_true rfl, Nat.le_of_ble_eq_true rfl⟩) hD hS hA (fun r33 ws3 H locs hws3 hP hD hS => ?_)
    obtain ⟨hr33, rfl⟩ := hws3
    refine lv_if_le (tgt := 52) hx hb dX2_store_36 (by decide) (fun c36 => ?_) (fun c36 => ?_)
    · rw [hr33, ord_le] at c36
      refine lv_lconst (v := 0) hx hb dX2_store_52 (by decide) ?_
      refine lv_lstore_n (lv' := [(2, .long 0), (0, .ref (ad 0)), (1, .int r)]) hx hb dX2_store_53 rfl hl (by decide) rfl (fun ls hl => ?_)
      refine lv_bipush (v := 19) hx hb dX2_store_54 (by decide) ?_
      refine lv_istore (lv' := [(4, .int 19), (2, .long 0), (0, .ref (ad 0)), (1, .int r)]) hx hb dX2_store_56 hl (by decide) rfl (fun ls hl => ?_)
      exact loop 20 0 19 _ ws2 H locs ls (by omega) (by omega) (fun q => absurd q c14) rfl (by rw [Nat.div_eq_of_lt (by omega)]; rfl) M hP hD hS (lv_sub hl [2, 3, 1, 0] rfl)
    · rw [hr33, ord_le] at c36
      refine lv_aload_n hx hb dX2_store_39 rfl (lv_at hl 0 rfl) ?_
      refine va_get (D := D) (ci := ciM) (v := .int ng) (C := RX2) (T := TX2) (N := 8) hx hb hts inM hown hK hP 10 (md_a0 M) rfl 7 (by decide) (hts _ (inT mw_10)) (fun _ h9 => h9) rfl dX2_store_40 ?_
      refine lv_if_eq (tgt := 50) hx hb dX2_store_43 (by decide) (fun c43 => ?_) (fun c43 => ?_)
      · exact absurd c43 c14
      · refine lv_iconst (v := 2) hx hb dX2_store_46 (by decide) ?_
        refine lv_goto (tgt := 51) hx hb dX2_store_47 (by decide) ?_
        exact xb_ir hx hb hr hlocks hP hK hD hS dX2_store_51 (by rw [sv_1 (n01 hng c14), sp_kR, if_pos (by omega)]; exact ⟨⟨_, M⟩, rfl⟩)
end
section
/-! the reference's state, and what its operations come to -/
def mt (tf bf : Nat → Int32) (tv : Nat → Int) : Prop := ∀ t, t < 4 → (∀ k, k < 36 → tf (40 * t + k) = nI ((tv t).natAbs / 10 ^ k % 10)) ∧ bf t = (if tv t < 0 then 1 else 0) ∧ (tv t).natAbs < 10 ^ 36
def mdS (w0 ws : va_W) (tys : xT) (ad : Nat → Nat) (cB : Nat → ClassId) (S : sS) : Prop := ∃ tf bf fa fb fc fr ng, md w0 ws tys ad cB S.1 tf bf fa fb fc fr ng ∧ mt tf bf S.2
def sp_sum (S : sS) (r : Int32) (v : Int64) (tu : Int32) : Int32 × sS := if okR r then sp_kR S r ((S.1 r.toNatClampNeg).toInt + (if tu = 1 then -v.toInt else v.toInt)) else (-1, S)
theorem kR_tv (rf : Nat → Int64) (tv : Nat → Int) (r : Int32) (v : Int) : (sp_kR (rf, tv) r v).2.2 = tv := by
  unfold sp_kR; split
  · rfl
  · split <;> rfl
theorem fin_kR {w0 w : va_W} {tys : xT} {ad : Nat → Nat} {cB : Nat → ClassId} {rf : Nat → Int64} {tv : Nat → Int} {tf bf fa fb fr : Nat → Int32} {ng r a : Int32} {V : Int} {SP : Int32 × sS} (T : mt tf bf tv) (hw : (∃ f2, md w0 w tys ad cB (sp_kR (rf, tv) r V).2.1 tf bf fa fb f2 fr ng) ∧ a = (sp_kR (rf, tv) r V).1) (e : SP = sp_kR (rf, tv) r V) : mdS w0 w tys ad cB SP.2 ∧ a = SP.1 := by
  obtain ⟨⟨f2, M⟩, h⟩ := hw
  rw [e]
  exact ⟨⟨tf, bf, fa, fb, f2, fr, ng, M, by rw [kR_tv]; exact T⟩, h⟩
theorem fin_no {w0 w : va_W} {tys : xT} {ad : Nat → Nat} {cB : Nat → ClassId} {rf : Nat → Int64} {tv : Nat → Int} {tf bf fa fb fc fr : Nat → Int32} {ng a : Int32} {SP : Int32 × sS} (M : md w0 w tys ad cB rf tf bf fa fb fc fr ng) (T : mt tf bf tv) (e : SP = (a, (rf, tv))) : mdS w0 w tys ad cB SP.2 ∧ a = SP.1 := by
  rw [e]
  exact ⟨⟨tf, bf, fa, fb, fc, fr, ng, M, T⟩, rfl⟩
theorem sum_eq {rf : Nat → Int64} {tv : Nat → Int} {r tu : Int32} {v : Int64} {V : Int} (h : okR r) (e : V = (rf r.toNatClampNeg).toInt + (if tu = 1 then -v.toInt else v.toInt)) : sp_sum (rf, tv) r v tu = sp_kR (rf, tv) r V := by
  rw [e]; exact if_pos h
theorem times_eq {rf : Nat → Int64} {tv : Nat → Int} {r : Int32} {v : Int64} {V : Int} (h : okR r) (e : V = (rf r.toNatClampNeg).toInt * v.toInt) : sp_times (rf, tv) r v = sp_kR (rf, tv) r V := by
  rw [e]; exact if_pos h
theorem abs40 (v : Int64) : v.toInt.natAbs < 10 ^ 40 := by
  have a := un_lo v
  have b := un_hi v
  have e : (10 : Nat) ^ 40 = 10000000000000000000000000000000000000000 := by decide
  omega
theorem m80 {x y : Nat} (hx : x < 10 ^ 40) (hy : y < 10 ^ 40) : x * y < 10 ^ 80 := by
  have h : x * y < 10 ^ 40 * 10 ^ 40 := Nat.mul_lt_mul_of_lt_of_lt hx hy
  rw [← Nat.pow_add] at h
  exact h
theorem a80 {x y : Nat} (hx : x < 10 ^ 40) (hy : y < 10 ^ 40) : x + y < 10 ^ 80 := by
  have e : (10 : Nat) ^ 40 = 10000000000000000000000000000000000000000 := by decide
  have f : (10 : Nat) ^ 80 = 100000000000000000000000000000000000000000000000000000000000000000000000000000000 := by decide
  omega
theorem svn {v : Int64} (h : ¬ 0 ≤ v) : sv 1 v.toInt.natAbs = v.toInt ∧ sv 0 v.toInt.natAbs = -v.toInt := by
  rw [l_neg] at h
  rw [sv_1 rfl, sv_0 rfl]; omega
theorem svp {v : Int64} (h : 0 ≤ v) : sv 0 v.toInt.natAbs = v.toInt ∧ sv 1 v.toInt.natAbs = -v.toInt := by
  rw [l_neg] at h
  rw [sv_1 rfl, sv_0 rfl]; omega
theorem sv_mul {a b n : Int32} {x y : Nat} (ha : a = 0 ∨ a = 1) (hb : b = 0 ∨ b = 1) (hn : n = if a = b then 0 else 1) : sv n (x * y) = sv a x * sv b y := by
  rcases ha with rfl | rfl <;> rcases hb with rfl | rfl
  · rw [if_pos rfl] at hn; rw [sv_0 hn, sv_0 rfl, sv_0 rfl]; rfl
  · rw [if_neg (by decide)] at hn; rw [sv_1 hn, sv_0 rfl, sv_1 rfl, Int.mul_neg]; rfl
  · rw [if_neg (by decide)] at hn; rw [sv_1 hn, sv_1 rfl, sv_0 rfl, Int.neg_mul]; rfl
  · rw [if_pos rfl] at hn; rw [sv_0 hn, sv_1 rfl, sv_1 rfl, Int.neg_mul, Int.mul_neg, Int.neg_neg]; rfl
-- the reference: set, get, sum, add, subtract, times (laid by wip/whole/gen_ml.py)
set_option maxHeartbeats 4000000 in
set_option maxRecDepth 100000 in
theorem cM_set (l : Launch) (D : va_G) {tys : xT} {ws : va_W} {sz : Nat} {w0 : va_W} {ad : Nat → Nat} {cB : Nat → ClassId} {rf : Nat → Int64} {tf bf fa fb fc fr : Nat → Int32} {ng : Int32} (M : md w0 ws tys ad cB rf tf bf fa fb fc fr ng) {tv : Nat → Int} (T : mt tf bf tv) (r : Int32) (v : Int64) : xM l yX2_set (.code yX2_set cX2_set 4 (some .boolean) :: mdT) ({ frames := 1, cells := 0, slots := 0, locals := 20 }) D tys ws sz [.ref (ad 0), .int r, .long v] (xQi D tys (fun a w => mdS w0 w tys ad cB (sp_set (rf, tv) r v).2 ∧ a = (sp_set (rf, tv) r v).1)) 0 0 := by
  refine xb_m (cc := cX2_set) (maxL := 4) (ret := (some .boolean)) (by decide) rfl (Nat.le_of_ble_eq_true rfl) ?_
  intro p e s m below meth c A ls hx hb hr hml hown hts hlocks hnm hA hP hK hD hS hl
  have hl : lv_has ls 4 [(0, .ref (ad 0)), (1, .int r), (2, .long v)] := hl
  have hown : s.vm.findClass RX2 = some m.cls := hown
  refine lv_iload_n hx hb dX2_set_0 rfl (lv_at hl 1 rfl) ?_
  refine xb_ri (va_runS (As := [.int r]) (rest := []) ⟨hx, hb, hml, hown, hts⟩ (cM_isR l D r) (va_cwS 1 hts (gM_S 33 yX2_isRegister (.code yX2_isRegister cX2_isRegister 1 (some .boolean)) (by decide +kernel) mw_52) rfl rfl rfl (by decide +kernel) ⟨Nat.le_of_ble_eq_true rfl, Nat.le_of_ble_eq_true rfl⟩) (xb_ps rfl hP hK hD) rfl rfl hl.1 rfl (lv_room (Nat.le_of_ble_eq_true rfl)) dX2_set_1 ⟨Nat.le_of_ble_eq_true rfl, Nat.le_of_ble_eq_true rfl⟩) hD hS hA (fun r1 ws1 H locs hws1 hP hD hS => ?_)
  obtain ⟨hr1, rfl⟩ := hws1
  refine lv_if_ne (tgt := 9) hx hb dX2_set_4 (by decide) (fun c4 => ?_) (fun c4 => ?_)
  · have c4 := bz_1 hr1 c4
    refine lv_aload_n hx hb dX2_set_9 rfl (lv_at hl 0 rfl) ?_
    refine va_get (D := D) (ci := ciM) (v := .ref (ad 1)) (C := RX2) (T := TX2) (N := 8) hx hb hts inM hown hK hP 10 (md_a0 M) rfl 0 (by decide) (hts _ (inT mw_3)) (fun _ h9 => h9) rfl dX2_set_10 ?_
    refine lv_iload_n hx hb dX2_set_13 rfl (lv_at hl 1 rfl) ?_
    refine lv_lload_n hx hb dX2_set_14 rfl (lv_at hl 2 rfl) ?_
    refine md_lst hx hb hK hP hD hS M c4 dX2_set_15 (fun ws2 H locs M hP hD hS => ?_)
    refine lv_iconst (v := 1) hx hb dX2_set_16 (by decide) ?_
    exact xb_zr hx hb hr hlocks hP hK hD hS dX2_set_17 rfl (by rw [sp_set, if_pos c4]; exact ⟨⟨tf, bf, _, _, _, _, _, M, T⟩, rfl⟩)
  · have c4 := bz_0 hr1 c4
    refine lv_iconst (v := 0) hx hb dX2_set_7 (by decide) ?_
    exact xb_zr hx hb hr hlocks hP hK hD hS dX2_set_8 rfl (fin_no M T (by rw [sp_set, if_neg c4]))
set_option maxHeartbeats 4000000 in
set_option maxRecDepth 100000 in
theorem cM_get (l : Launch) (D : va_G) {tys : xT} {ws : va_W} {sz : Nat} {w0 : va_W} {ad : Nat → Nat} {cB : Nat → ClassId} {rf : Nat → Int64} {tf bf fa fb fc fr : Nat → Int32} {ng : Int32} (M : md w0 ws tys ad cB rf tf bf fa fb fc fr ng) {tv : Nat → Int} (T : mt tf bf tv) (r : Int32) : xM l yX2_get (.code yX2_get cX2_get 2 (some .long) :: mdT) ({ frames := 1, cells := 0, slots := 0, locals := 20 }) D tys ws sz [.ref (ad 0), .int r] (xQl D tys (fun a w => mdS w0 w tys ad cB (rf, tv) ∧ a = sp_get (rf, tv) r)) 0 0 := by
  refine xb_m (cc := cX2_get) (maxL := 2) (ret := (some .long)) (by decide) rfl (Nat.le_of_ble_eq_true rfl) ?_
  intro p e s m below meth c A ls hx hb hr hml hown hts hlocks hnm hA hP hK hD hS hl
  have hl : lv_has ls 2 [(0, .ref (ad 0)), (1, .int r)] := hl
  have hown : s.vm.findClass RX2 = some m.cls := hown
  refine lv_iload_n hx hb dX2_get_0 rfl (lv_at hl 1 rfl) ?_
  refine xb_ri (va_runS (As := [.int r]) (rest := []) ⟨hx, hb, hml, hown, hts⟩ (cM_isR l D r) (va_cwS 1 hts (gM_S 33 yX2_isRegister (.code yX2_isRegister cX2_isRegister 1 (some .boolean)) (by decide +kernel) mw_52) rfl rfl rfl (by decide +kernel) ⟨Nat.le_of_ble_eq_true rfl, Nat.le_of_ble_eq_true rfl⟩) (xb_ps rfl hP hK hD) rfl rfl hl.1 rfl (lv_room (Nat.le_of_ble_eq_true rfl)) dX2_get_1 ⟨Nat.le_of_ble_eq_true rfl, Nat.le_of_ble_eq_true rfl⟩) hD hS hA (fun r1 ws1 H locs hws1 hP hD hS => ?_)
  obtain ⟨hr1, rfl⟩ := hws1
  refine lv_if_eq (tgt := 16) hx hb dX2_get_4 (by decide) (fun c4 => ?_) (fun c4 => ?_)
  · have c4 := bz_0 hr1 c4
    refine lv_lconst (v := 0) hx hb dX2_get_16 (by decide) ?_
    exact xb_lr hx hb hr hlocks hP hK hD hS dX2_get_17 (⟨⟨tf, bf, _, _, _, _, _, M, T⟩, by rw [sp_get, if_neg c4]⟩)
  · have c4 := bz_1 hr1 c4
    refine lv_aload_n hx hb dX2_get_7 rfl (lv_at hl 0 rfl) ?_
    refine va_get (D := D) (ci := ciM) (v := .ref (ad 1)) (C := RX2) (T := TX2) (N := 8) hx hb hts inM hown hK hP 10 (md_a0 M) rfl 0 (by decide) (hts _ (inT mw_3)) (fun _ h9 => h9) rfl dX2_get_8 ?_
    refine lv_iload_n hx hb dX2_get_11 rfl (lv_at hl 1 rfl) ?_
    refine md_lld hx hb hK hP M c4 dX2_get_12 ?_
    refine lv_goto (tgt := 17) hx hb dX2_get_13 (by decide) ?_
    exact xb_lr hx hb hr hlocks hP hK hD hS dX2_get_17 (⟨⟨tf, bf, _, _, _, _, _, M, T⟩, by rw [sp_get, if_pos c4]⟩)
set_option maxHeartbeats 4000000 in
set_option maxRecDepth 100000 in
theorem cM_sum (l : Launch) (D : va_G) {tys : xT} {ws : va_W} {sz : Nat} {w0 : va_W} {ad : Nat → Nat} {cB : Nat → ClassId} {rf : Nat → Int64} {tf bf fa fb fc fr : Nat → Int32} {ng : Int32} (M : md w0 ws tys ad cB rf tf bf fa fb fc fr ng) {tv : Nat → Int} (T : mt tf bf tv) (r : Int32) (v : Int64) {tu : Int32} (htu : tu = 0 ∨ tu = 1) : xM l yX2_sum (.code yX2_sum cX2_sum 5 (some .int) :: mdT) ({ frames := 2, cells := 0, slots := 0, locals := 50 }) D tys ws sz [.ref (ad 0), .int r, .long v, .int tu] (xQi D tys (fun a w => mdS w0 w tys ad cB (sp_sum (rf, tv) r v tu).2 ∧ a = (sp_sum (rf, tv) r v tu).1)) 0 0 := by
  refine xb_m (cc := cX2_sum) (maxL := 5) (ret := (some .int)) (by decide) rfl (Nat.le_of_ble_eq_true rfl) ?_
  intro p e s m below meth c A ls hx hb hr hml hown hts hlocks hnm hA hP hK hD hS hl
  have hl : lv_has ls 5 [(0, .ref (ad 0)), (1, .int r), (2, .long v), (4, .int tu)] := hl
  have hown : s.vm.findClass RX2 = some m.cls := hown
  refine lv_iload_n hx hb dX2_sum_0 rfl (lv_at hl 1 rfl) ?_
  refine xb_ri (va_runS (As := [.int r]) (rest := []) ⟨hx, hb, hml, hown, hts⟩ (cM_isR l D r) (va_cwS 1 hts (gM_S 33 yX2_isRegister (.code yX2_isRegister cX2_isRegister 1 (some .boolean)) (by decide +kernel) mw_52) rfl rfl rfl (by decide +kernel) ⟨Nat.le_of_ble_eq_true rfl, Nat.le_of_ble_eq_true rfl⟩) (xb_ps rfl hP hK hD) rfl rfl hl.1 rfl (lv_room (Nat.le_of_ble_eq_true rfl)) dX2_sum_1 ⟨Nat.le_of_ble_eq_true rfl, Nat.le_of_ble_eq_true rfl⟩) hD hS hA (fun r1 ws1 H locs hws1 hP hD hS => ?_)
  obtain ⟨hr1, rfl⟩ := hws1
  refine lv_if_ne (tgt := 9) hx hb dX2_sum_4 (by decide) (fun c4 => ?_) (fun c4 => ?_)
  · have c4 := bz_1 hr1 c4
    refine lv_aload_n hx hb dX2_sum_9 rfl (lv_at hl 0 rfl) ?_
    refine va_get (D := D) (ci := ciM) (v := .ref (ad 1)) (C := RX2) (T := TX2) (N := 8) hx hb hts inM hown hK hP 10 (md_a0 M) rfl 0 (by decide) (hts _ (inT mw_3)) (fun _ h9 => h9) rfl dX2_sum_10 ?_
    refine lv_iload_n hx hb dX2_sum_13 rfl (lv_at hl 1 rfl) ?_
    refine md_lld hx hb hK hP M c4 dX2_sum_14 ?_
    refine lv_aload_n hx hb dX2_sum_15 rfl (lv_at hl 0 rfl) ?_
    refine va_get (D := D) (ci := ciM) (v := .ref (ad 4)) (C := RX2) (T := TX2) (N := 8) hx hb hts inM hown hK hP 10 (md_a0 M) rfl 3 (by decide) (hts _ (inT mw_7)) (fun _ h9 => h9) rfl dX2_sum_16 ?_
    refine xb_rv (va_runS (As := [.long (rf r.toNatClampNeg), .ref (ad 4)]) (rest := []) ⟨hx, hb, hml, hown, hts⟩ (cM_write l D (md_a4 M) (md_t3 M) (rf r.toNatClampNeg)) (va_cwS 2 hts (gM_S 63 yX2_write (.code yX2_write cX2_write 7 none) (by decide +kernel) mw_56) rfl rfl rfl (by decide +kernel) ⟨Nat.le_of_ble_eq_true rfl, Nat.le_of_ble_eq_true rfl⟩) (xb_ps rfl hP hK hD) rfl rfl hl.1 rfl (lv_room (Nat.le_of_ble_eq_true rfl)) dX2_sum_19 ⟨Nat.le_of_ble_eq_true rfl, Nat.le_of_ble_eq_true rfl⟩) hD hS hA (fun ws2 H locs hws2 hP hD hS => ?_)
    obtain ⟨fa_19, hws2, hdfa_19⟩ := hws2
    have M := md_sfa M hws2
    have hdfa_19 : dg fa_19 ((rf r.toNatClampNeg).toInt.natAbs) := hdfa_19
    refine lv_aload_n hx hb dX2_sum_22 rfl (lv_at hl 0 rfl) ?_
    refine lv_aload_n hx hb dX2_sum_23 rfl (lv_at hl 0 rfl) ?_
    refine va_get (D := D) (ci := ciM) (v := .ref (ad 1)) (C := RX2) (T := TX2) (N := 8) hx hb hts inM hown hK hP 10 (md_a0 M) rfl 0 (by decide) (hts _ (inT mw_3)) (fun _ h9 => h9) rfl dX2_sum_24 ?_
    refine lv_iload_n hx hb dX2_sum_27 rfl (lv_at hl 1 rfl) ?_
    refine md_lld hx hb hK hP M c4 dX2_sum_28 ?_
    refine lv_lconst (v := 0) hx hb dX2_sum_29 (by decide) ?_
    refine W.lcmp hx hb dX2_sum_30 ?_
    refine lv_if_ge (tgt := 38) hx hb dX2_sum_31 (by decide) (fun c31 => ?_) (fun c31 => ?_)
    · rw [lg_cmp_ge] at c31
      refine lv_iconst (v := 0) hx hb dX2_sum_38 (by decide) ?_
      refine va_put (D := D) (ci := ciM) (v := .int 0) (ty := .boolean) (C := RX2) (T := TX2) (N := 8) hx hb hts inM tyX2 tyX2_ok nmX2 hown hK hP hD hS 10 (md_a0 M) rfl 7 (by decide) (hts _ (inT mw_10)) (fun _ h9 => h9) rfl (by decide +kernel) rfl rfl (Nat.le_of_ble_eq_true rfl) dX2_sum_39 (fun H locs hP hD hS => ?_)
      obtain ⟨ws3, hws3⟩ : ∃ q_, q_ = ws2.set 10 (ad 0, .inr (ciM, [.ref (ad 1), .ref (ad 2), .ref (ad 3), .ref (ad 4), .ref (ad 5), .ref (ad 6), .ref (ad 7), .int 0])) := ⟨_, rfl⟩
      have hP : va_P D vwCl ws3 H := by rw [hws3]; exact hP
      have hD : va_D A ws3 := by rw [hws3]; exact hD
      have M := md_sng M hws3
      refine lv_lload_n hx hb dX2_sum_42 rfl (lv_at hl 2 rfl) ?_
      refine lv_aload_n hx hb dX2_sum_43 rfl (lv_at hl 0 rfl) ?_
      refine va_get (D := D) (ci := ciM) (v := .ref (ad 6)) (C := RX2) (T := TX2) (N := 8) hx hb hts inM hown hK hP 10 (md_a0 M) rfl 5 (by decide) (hts _ (inT mw_11)) (fun _ h9 => h9) rfl dX2_sum_44 ?_
      refine xb_rv (va_runS (As := [.long v, .ref (ad 6)]) (rest := []) ⟨hx, hb, hml, hown, hts⟩ (cM_write l D (md_a6 M) (md_t5 M) v) (va_cwS 2 hts (gM_S 63 yX2_write (.code yX2_write cX2_write 7 none) (by decide +kernel) mw_56) rfl rfl rfl (by decide +kernel) ⟨Nat.le_of_ble_eq_true rfl, Nat.le_of_ble_eq_true rfl⟩) (xb_ps rfl hP hK hD) rfl rfl hl.1 rfl (lv_room (Nat.le_of_ble_eq_true rfl)) dX2_sum_47 ⟨Nat.le_of_ble_eq_true rfl, Nat.le_of_ble_eq_true rfl⟩) hD hS hA (fun ws4 H locs hws4 hP hD hS => ?_)
      obtain ⟨fc_47, hws4, hdfc_47⟩ := hws4
      have M := md_sfc M hws4
      have hdfc_47 : dg fc_47 (v.toInt.natAbs) := hdfc_47
      refine lv_aload_n hx hb dX2_sum_50 rfl (lv_at hl 0 rfl) ?_
      refine lv_lload_n hx hb dX2_sum_51 rfl (lv_at hl 2 rfl) ?_
      refine lv_lconst (v := 0) hx hb dX2_sum_52 (by decide) ?_
      refine W.lcmp hx hb dX2_sum_53 ?_
      refine lv_if_ge (tgt := 61) hx hb dX2_sum_54 (by decide) (fun c54 => ?_) (fun c54 => ?_)
      · rw [lg_cmp_ge] at c54
        refine lv_iconst (v := 0) hx hb dX2_sum_61 (by decide) ?_
        refine lv_iload hx hb dX2_sum_62 (lv_at hl 3 rfl) ?_
        refine lv_icmp_eq (tgt := 71) hx hb dX2_sum_64 (by decide) (fun c64 => ?_) (fun c64 => ?_)
        · refine lv_iconst (v := 0) hx hb dX2_sum_71 (by decide) ?_
          refine xb_rv (va_runV (As := [.int 0]) (rest := []) ⟨hx, hb, hml, hown, hts⟩ (cM_join l D M hdfa_19 hdfc_47 (a80 (abs40 _) (abs40 _)) (lw := 0) (Or.inl rfl) (Or.inl rfl)) (cwV 1 hts (gM_V 67 yX2_join (.code yX2_join cX2_join 2 none) (by decide +kernel) mw_57) rfl rfl rfl (by decide +kernel) ⟨Nat.le_of_ble_eq_true rfl, Nat.le_of_ble_eq_true rfl⟩) (xb_pv hP hK hD rfl rfl (md_a0 M)) rfl rfl hl.1 rfl (lv_room (Nat.le_of_ble_eq_true rfl)) dX2_sum_72 ⟨Nat.le_of_ble_eq_true rfl, Nat.le_of_ble_eq_true rfl⟩) hD hS hA (fun ws5 H locs hws5 hP hD hS => ?_)
          obtain ⟨fa_72, fr_72, ng_72, z_72, M, hng_72, hdfa_72, hz_72, hs_72⟩ := hws5
          refine lv_aload_n hx hb dX2_sum_75 rfl (lv_at hl 0 rfl) ?_
          refine lv_iload_n hx hb dX2_sum_76 rfl (lv_at hl 1 rfl) ?_
          refine xb_ri (va_runV (As := [.int r]) (rest := []) ⟨hx, hb, hml, hown, hts⟩ (cM_store l D M tv hdfa_72 (Nat.lt_of_le_of_lt hz_72 (a80 (abs40 _) (abs40 _))) hng_72 c4) (cwV 1 hts (gM_V 71 yX2_store (.code yX2_store cX2_store 5 (some .int)) (by decide +kernel) mw_62) rfl rfl rfl (by decide +kernel) ⟨Nat.le_of_ble_eq_true rfl, Nat.le_of_ble_eq_true rfl⟩) (xb_pv hP hK hD rfl rfl (md_a0 M)) rfl rfl hl.1 rfl (lv_room (Nat.le_of_ble_eq_true rfl)) dX2_sum_77 ⟨Nat.le_of_ble_eq_true rfl, Nat.le_of_ble_eq_true rfl⟩) hD hS hA (fun r77 ws6 H locs hws6 hP hD hS => ?_)
          exact xb_ir hx hb hr hlocks hP hK hD hS dX2_sum_80 (fin_kR T hws6 (sum_eq c4 (by have ht : tu = 0 := c64.symm; rw [hs_72, (svp c31).1, (svp c54).1, ht, if_neg (by decide)])))
        · refine lv_iconst (v := 1) hx hb dX2_sum_67 (by decide) ?_
          refine lv_goto (tgt := 72) hx hb dX2_sum_68 (by decide) ?_
          refine xb_rv (va_runV (As := [.int 1]) (rest := []) ⟨hx, hb, hml, hown, hts⟩ (cM_join l D M hdfa_19 hdfc_47 (a80 (abs40 _) (abs40 _)) (lw := 1) (Or.inr rfl) (Or.inl rfl)) (cwV 1 hts (gM_V 67 yX2_join (.code yX2_join cX2_join 2 none) (by decide +kernel) mw_57) rfl rfl rfl (by decide +kernel) ⟨Nat.le_of_ble_eq_true rfl, Nat.le_of_ble_eq_true rfl⟩) (xb_pv hP hK hD rfl rfl (md_a0 M)) rfl rfl hl.1 rfl (lv_room (Nat.le_of_ble_eq_true rfl)) dX2_sum_72 ⟨Nat.le_of_ble_eq_true rfl, Nat.le_of_ble_eq_true rfl⟩) hD hS hA (fun ws5 H locs hws5 hP hD hS => ?_)
          obtain ⟨fa_72, fr_72, ng_72, z_72, M, hng_72, hdfa_72, hz_72, hs_72⟩ := hws5
          refine lv_aload_n hx hb dX2_sum_75 rfl (lv_at hl 0 rfl) ?_
          refine lv_iload_n hx hb dX2_sum_76 rfl (lv_at hl 1 rfl) ?_
          refine xb_ri (va_runV (As := [.int r]) (rest := []) ⟨hx, hb, hml, hown, hts⟩ (cM_store l D M tv hdfa_72 (Nat.lt_of_le_of_lt hz_72 (a80 (abs40 _) (abs40 _))) hng_72 c4) (cwV 1 hts (gM_V 71 yX2_store (.code yX2_store cX2_store 5 (some .int)) (by decide +kernel) mw_62) rfl rfl rfl (by decide +kernel) ⟨Nat.le_of_ble_eq_true rfl, Nat.le_of_ble_eq_true rfl⟩) (xb_pv hP hK hD rfl rfl (md_a0 M)) rfl rfl hl.1 rfl (lv_room (Nat.le_of_ble_eq_true rfl)) dX2_sum_77 ⟨Nat.le_of_ble_eq_true rfl, Nat.le_of_ble_eq_true rfl⟩) hD hS hA (fun r77 ws6 H locs hws6 hP hD hS => ?_)
          exact xb_ir hx hb hr hlocks hP hK hD hS dX2_sum_80 (fin_kR T hws6 (sum_eq c4 (by have ht : tu = 1 := n01 htu (fun q => c64 q.symm); rw [hs_72, (svp c31).1, (svp c54).2, ht, if_pos rfl])))
      · rw [lg_cmp_ge] at c54
        refine lv_iconst (v := 1) hx hb dX2_sum_57 (by decide) ?_
        refine lv_goto (tgt := 62) hx hb dX2_sum_58 (by decide) ?_
        refine lv_iload hx hb dX2_sum_62 (lv_at hl 3 rfl) ?_
        refine lv_icmp_eq (tgt := 71) hx hb dX2_sum_64 (by decide) (fun c64 => ?_) (fun c64 => ?_)
        · refine lv_iconst (v := 0) hx hb dX2_sum_71 (by decide) ?_
          refine xb_rv (va_runV (As := [.int 0]) (rest := []) ⟨hx, hb, hml, hown, hts⟩ (cM_join l D M hdfa_19 hdfc_47 (a80 (abs40 _) (abs40 _)) (lw := 0) (Or.inl rfl) (Or.inl rfl)) (cwV 1 hts (gM_V 67 yX2_join (.code yX2_join cX2_join 2 none) (by decide +kernel) mw_57) rfl rfl rfl (by decide +kernel) ⟨Nat.le_of_ble_eq_true rfl, Nat.le_of_ble_eq_true rfl⟩) (xb_pv hP hK hD rfl rfl (md_a0 M)) rfl rfl hl.1 rfl (lv_room (Nat.le_of_ble_eq_true rfl)) dX2_sum_72 ⟨Nat.le_of_ble_eq_true rfl, Nat.le_of_ble_eq_true rfl⟩) hD hS hA (fun ws5 H locs hws5 hP hD hS => ?_)
          obtain ⟨fa_72, fr_72, ng_72, z_72, M, hng_72, hdfa_72, hz_72, hs_72⟩ := hws5
          refine lv_aload_n hx hb dX2_sum_75 rfl (lv_at hl 0 rfl) ?_
          refine lv_iload_n hx hb dX2_sum_76 rfl (lv_at hl 1 rfl) ?_
          refine xb_ri (va_runV (As := [.int r]) (rest := []) ⟨hx, hb, hml, hown, hts⟩ (cM_store l D M tv hdfa_72 (Nat.lt_of_le_of_lt hz_72 (a80 (abs40 _) (abs40 _))) hng_72 c4) (cwV 1 hts (gM_V 71 yX2_store (.code yX2_store cX2_store 5 (some .int)) (by decide +kernel) mw_62) rfl rfl rfl (by decide +kernel) ⟨Nat.le_of_ble_eq_true rfl, Nat.le_of_ble_eq_true rfl⟩) (xb_pv hP hK hD rfl rfl (md_a0 M)) rfl rfl hl.1 rfl (lv_room (Nat.le_of_ble_eq_true rfl)) dX2_sum_77 ⟨Nat.le_of_ble_eq_true rfl, Nat.le_of_ble_eq_true rfl⟩) hD hS hA (fun r77 ws6 H locs hws6 hP hD hS => ?_)
          exact xb_ir hx hb hr hlocks hP hK hD hS dX2_sum_80 (fin_kR T hws6 (sum_eq c4 (by have ht : tu = 1 := c64.symm; rw [hs_72, (svp c31).1, (svn c54).2, ht, if_pos rfl])))
        · refine lv_iconst (v := 1) hx hb dX2_sum_67 (by decide) ?_
          refine lv_goto (tgt := 72) hx hb dX2_sum_68 (by decide) ?_
          refine xb_rv (va_runV (As := [.int 1]) (rest := []) ⟨hx, hb, hml, hown, hts⟩ (cM_join l D M hdfa_19 hdfc_47 (a80 (abs40 _) (abs40 _)) (lw := 1) (Or.inr rfl) (Or.inl rfl)) (cwV 1 hts (gM_V 67 yX2_join (.code yX2_join cX2_join 2 none) (by decide +kernel) mw_57) rfl rfl rfl (by decide +kernel) ⟨Nat.le_of_ble_eq_true rfl, Nat.le_of_ble_eq_true rfl⟩) (xb_pv hP hK hD rfl rfl (md_a0 M)) rfl rfl hl.1 rfl (lv_room (Nat.le_of_ble_eq_true rfl)) dX2_sum_72 ⟨Nat.le_of_ble_eq_true rfl, Nat.le_of_ble_eq_true rfl⟩) hD hS hA (fun ws5 H locs hws5 hP hD hS => ?_)
          obtain ⟨fa_72, fr_72, ng_72, z_72, M, hng_72, hdfa_72, hz_72, hs_72⟩ := hws5
          refine lv_aload_n hx hb dX2_sum_75 rfl (lv_at hl 0 rfl) ?_
          refine lv_iload_n hx hb dX2_sum_76 rfl (lv_at hl 1 rfl) ?_
          refine xb_ri (va_runV (As := [.int r]) (rest := []) ⟨hx, hb, hml, hown, hts⟩ (cM_store l D M tv hdfa_72 (Nat.lt_of_le_of_lt hz_72 (a80 (abs40 _) (abs40 _))) hng_72 c4) (cwV 1 hts (gM_V 71 yX2_store (.code yX2_store cX2_store 5 (some .int)) (by decide +kernel) mw_62) rfl rfl rfl (by decide +kernel) ⟨Nat.le_of_ble_eq_true rfl, Nat.le_of_ble_eq_true rfl⟩) (xb_pv hP hK hD rfl rfl (md_a0 M)) rfl rfl hl.1 rfl (lv_room (Nat.le_of_ble_eq_true rfl)) dX2_sum_77 ⟨Nat.le_of_ble_eq_true rfl, Nat.le_of_ble_eq_true rfl⟩) hD hS hA (fun r77 ws6 H locs hws6 hP hD hS => ?_)
          exact xb_ir hx hb hr hlocks hP hK hD hS dX2_sum_80 (fin_kR T hws6 (sum_eq c4 (by have ht : tu = 0 := n10 htu (fun q => c64 q.symm); rw [hs_72, (svp c31).1, (svn c54).1, ht, if_neg (by decide)])))
    · rw [lg_cmp_ge] at c31
      refine lv_iconst (v := 1) hx hb dX2_sum_34 (by decide) ?_
      refine lv_goto (tgt := 39) hx hb dX2_sum_35 (by decide) ?_
      refine va_put (D := D) (ci := ciM) (v := .int 1) (ty := .boolean) (C := RX2) (T := TX2) (N := 8) hx hb hts inM tyX2 tyX2_ok nmX2 hown hK hP hD hS 10 (md_a0 M) rfl 7 (by decide) (hts _ (inT mw_10)) (fun _ h9 => h9) rfl (by decide +kernel) rfl rfl (Nat.le_of_ble_eq_true rfl) dX2_sum_39 (fun H locs hP hD hS => ?_)
      obtain ⟨ws3, hws3⟩ : ∃ q_, q_ = ws2.set 10 (ad 0, .inr (ciM, [.ref (ad 1), .ref (ad 2), .ref (ad 3), .ref (ad 4), .ref (ad 5), .ref (ad 6), .ref (ad 7), .int 1])) := ⟨_, rfl⟩
      have hP : va_P D vwCl ws3 H := by rw [hws3]; exact hP
      have hD : va_D A ws3 := by rw [hws3]; exact hD
      have M := md_sng M hws3
      refine lv_lload_n hx hb dX2_sum_42 rfl (lv_at hl 2 rfl) ?_
      refine lv_aload_n hx hb dX2_sum_43 rfl (lv_at hl 0 rfl) ?_
      refine va_get (D := D) (ci := ciM) (v := .ref (ad 6)) (C := RX2) (T := TX2) (N := 8) hx hb hts inM hown hK hP 10 (md_a0 M) rfl 5 (by decide) (hts _ (inT mw_11)) (fun _ h9 => h9) rfl dX2_sum_44 ?_
      refine xb_rv (va_runS (As := [.long v, .ref (ad 6)]) (rest := []) ⟨hx, hb, hml, hown, hts⟩ (cM_write l D (md_a6 M) (md_t5 M) v) (va_cwS 2 hts (gM_S 63 yX2_write (.code yX2_write cX2_write 7 none) (by decide +kernel) mw_56) rfl rfl rfl (by decide +kernel) ⟨Nat.le_of_ble_eq_true rfl, Nat.le_of_ble_eq_true rfl⟩) (xb_ps rfl hP hK hD) rfl rfl hl.1 rfl (lv_room (Nat.le_of_ble_eq_true rfl)) dX2_sum_47 ⟨Nat.le_of_ble_eq_true rfl, Nat.le_of_ble_eq_true rfl⟩) hD hS hA (fun ws4 H locs hws4 hP hD hS => ?_)
      obtain ⟨fc_47, hws4, hdfc_47⟩ := hws4
      have M := md_sfc M hws4
      have hdfc_47 : dg fc_47 (v.toInt.natAbs) := hdfc_47
      refine lv_aload_n hx hb dX2_sum_50 rfl (lv_at hl 0 rfl) ?_
      refine lv_lload_n hx hb dX2_sum_51 rfl (lv_at hl 2 rfl) ?_
      refine lv_lconst (v := 0) hx hb dX2_sum_52 (by decide) ?_
      refine W.lcmp hx hb dX2_sum_53 ?_
      refine lv_if_ge (tgt := 61) hx hb dX2_sum_54 (by decide) (fun c54 => ?_) (fun c54 => ?_)
      · rw [lg_cmp_ge] at c54
        refine lv_iconst (v := 0) hx hb dX2_sum_61 (by decide) ?_
        refine lv_iload hx hb dX2_sum_62 (lv_at hl 3 rfl) ?_
        refine lv_icmp_eq (tgt := 71) hx hb dX2_sum_64 (by decide) (fun c64 => ?_) (fun c64 => ?_)
        · refine lv_iconst (v := 0) hx hb dX2_sum_71 (by decide) ?_
          refine xb_rv (va_runV (As := [.int 0]) (rest := []) ⟨hx, hb, hml, hown, hts⟩ (cM_join l D M hdfa_19 hdfc_47 (a80 (abs40 _) (abs40 _)) (lw := 0) (Or.inl rfl) (Or.inr rfl)) (cwV 1 hts (gM_V 67 yX2_join (.code yX2_join cX2_join 2 none) (by decide +kernel) mw_57) rfl rfl rfl (by decide +kernel) ⟨Nat.le_of_ble_eq_true rfl, Nat.le_of_ble_eq_true rfl⟩) (xb_pv hP hK hD rfl rfl (md_a0 M)) rfl rfl hl.1 rfl (lv_room (Nat.le_of_ble_eq_true rfl)) dX2_sum_72 ⟨Nat.le_of_ble_eq_true rfl, Nat.le_of_ble_eq_true rfl⟩) hD hS hA (fun ws5 H locs hws5 hP hD hS => ?_)
          obtain ⟨fa_72, fr_72, ng_72, z_72, M, hng_72, hdfa_72, hz_72, hs_72⟩ := hws5
          refine lv_aload_n hx hb dX2_sum_75 rfl (lv_at hl 0 rfl) ?_
          refine lv_iload_n hx hb dX2_sum_76 rfl (lv_at hl 1 rfl) ?_
          refine xb_ri (va_runV (As := [.int r]) (rest := []) ⟨hx, hb, hml, hown, hts⟩ (cM_store l D M tv hdfa_72 (Nat.lt_of_le_of_lt hz_72 (a80 (abs40 _) (abs40 _))) hng_72 c4) (cwV 1 hts (gM_V 71 yX2_store (.code yX2_store cX2_store 5 (some .int)) (by decide +kernel) mw_62) rfl rfl rfl (by decide +kernel) ⟨Nat.le_of_ble_eq_true rfl, Nat.le_of_ble_eq_true rfl⟩) (xb_pv hP hK hD rfl rfl (md_a0 M)) rfl rfl hl.1 rfl (lv_room (Nat.le_of_ble_eq_true rfl)) dX2_sum_77 ⟨Nat.le_of_ble_eq_true rfl, Nat.le_of_ble_eq_true rfl⟩) hD hS hA (fun r77 ws6 H locs hws6 hP hD hS => ?_)
          exact xb_ir hx hb hr hlocks hP hK hD hS dX2_sum_80 (fin_kR T hws6 (sum_eq c4 (by have ht : tu = 0 := c64.symm; rw [hs_72, (svn c31).1, (svp c54).1, ht, if_neg (by decide)])))
        · refine lv_iconst (v := 1) hx hb dX2_sum_67 (by decide) ?_
          refine lv_goto (tgt := 72) hx hb dX2_sum_68 (by decide) ?_
          refine xb_rv (va_runV (As := [.int 1]) (rest := []) ⟨hx, hb, hml, hown, hts⟩ (cM_join l D M hdfa_19 hdfc_47 (a80 (abs40 _) (abs40 _)) (lw := 1) (Or.inr rfl) (Or.inr rfl)) (cwV 1 hts (gM_V 67 yX2_join (.code yX2_join cX2_join 2 none) (by decide +kernel) mw_57) rfl rfl rfl (by decide +kernel) ⟨Nat.le_of_ble_eq_true rfl, Nat.le_of_ble_eq_true rfl⟩) (xb_pv hP hK hD rfl rfl (md_a0 M)) rfl rfl hl.1 rfl (lv_room (Nat.le_of_ble_eq_true rfl)) dX2_sum_72 ⟨Nat.le_of_ble_eq_true rfl, Nat.le_of_ble_eq_true rfl⟩) hD hS hA (fun ws5 H locs hws5 hP hD hS => ?_)
          obtain ⟨fa_72, fr_72, ng_72, z_72, M, hng_72, hdfa_72, hz_72, hs_72⟩ := hws5
          refine lv_aload_n hx hb dX2_sum_75 rfl (lv_at hl 0 rfl) ?_
          refine lv_iload_n hx hb dX2_sum_76 rfl (lv_at hl 1 rfl) ?_
          refine xb_ri (va_runV (As := [.int r]) (rest := []) ⟨hx, hb, hml, hown, hts⟩ (cM_store l D M tv hdfa_72 (Nat.lt_of_le_of_lt hz_72 (a80 (abs40 _) (abs40 _))) hng_72 c4) (cwV 1 hts (gM_V 71 yX2_store (.code yX2_store cX2_store 5 (some .int)) (by decide +kernel) mw_62) rfl rfl rfl (by decide +kernel) ⟨Nat.le_of_ble_eq_true rfl, Nat.le_of_ble_eq_true rfl⟩) (xb_pv hP hK hD rfl rfl (md_a0 M)) rfl rfl hl.1 rfl (lv_room (Nat.le_of_ble_eq_true rfl)) dX2_sum_77 ⟨Nat.le_of_ble_eq_true rfl, Nat.le_of_ble_eq_true rfl⟩) hD hS hA (fun r77 ws6 H locs hws6 hP hD hS => ?_)
          exact xb_ir hx hb hr hlocks hP hK hD hS dX2_sum_80 (fin_kR T hws6 (sum_eq c4 (by have ht : tu = 1 := n01 htu (fun q => c64 q.symm); rw [hs_72, (svn c31).1, (svp c54).2, ht, if_pos rfl])))
      · rw [lg_cmp_ge] at c54
        refine lv_iconst (v := 1) hx hb dX2_sum_57 (by decide) ?_
        refine lv_goto (tgt := 62) hx hb dX2_sum_58 (by decide) ?_
        refine lv_iload hx hb dX2_sum_62 (lv_at hl 3 rfl) ?_
        refine lv_icmp_eq (tgt := 71) hx hb dX2_sum_64 (by decide) (fun c64 => ?_) (fun c64 => ?_)
        · refine lv_iconst (v := 0) hx hb dX2_sum_71 (by decide) ?_
          refine xb_rv (va_runV (As := [.int 0]) (rest := []) ⟨hx, hb, hml, hown, hts⟩ (cM_join l D M hdfa_19 hdfc_47 (a80 (abs40 _) (abs40 _)) (lw := 0) (Or.inl rfl) (Or.inr rfl)) (cwV 1 hts (gM_V 67 yX2_join (.code yX2_join cX2_join 2 none) (by decide +kernel) mw_57) rfl rfl rfl (by decide +kernel) ⟨Nat.le_of_ble_eq_true rfl, Nat.le_of_ble_eq_true rfl⟩) (xb_pv hP hK hD rfl rfl (md_a0 M)) rfl rfl hl.1 rfl (lv_room (Nat.le_of_ble_eq_true rfl)) dX2_sum_72 ⟨Nat.le_of_ble_eq_true rfl, Nat.le_of_ble_eq_true rfl⟩) hD hS hA (fun ws5 H locs hws5 hP hD hS => ?_)
          obtain ⟨fa_72, fr_72, ng_72, z_72, M, hng_72, hdfa_72, hz_72, hs_72⟩ := hws5
          refine lv_aload_n hx hb dX2_sum_75 rfl (lv_at hl 0 rfl) ?_
          refine lv_iload_n hx hb dX2_sum_76 rfl (lv_at hl 1 rfl) ?_
          refine xb_ri (va_runV (As := [.int r]) (rest := []) ⟨hx, hb, hml, hown, hts⟩ (cM_store l D M tv hdfa_72 (Nat.lt_of_le_of_lt hz_72 (a80 (abs40 _) (abs40 _))) hng_72 c4) (cwV 1 hts (gM_V 71 yX2_store (.code yX2_store cX2_store 5 (some .int)) (by decide +kernel) mw_62) rfl rfl rfl (by decide +kernel) ⟨Nat.le_of_ble_eq_true rfl, Nat.le_of_ble_eq_true rfl⟩) (xb_pv hP hK hD rfl rfl (md_a0 M)) rfl rfl hl.1 rfl (lv_room (Nat.le_of_ble_eq_true rfl)) dX2_sum_77 ⟨Nat.le_of_ble_eq_true rfl, Nat.le_of_ble_eq_true rfl⟩) hD hS hA (fun r77 ws6 H locs hws6 hP hD hS => ?_)
          exact xb_ir hx hb hr hlocks hP hK hD hS dX2_sum_80 (fin_kR T hws6 (sum_eq c4 (by have ht : tu = 1 := c64.symm; rw [hs_72, (svn c31).1, (svn c54).2, ht, if_pos rfl])))
        · refine lv_iconst (v := 1) hx hb dX2_sum_67 (by decide) ?_
          refine lv_goto (tgt := 72) hx hb dX2_sum_68 (by decide) ?_
          refine xb_rv (va_runV (As := [.int 1]) (rest := []) ⟨hx, hb, hml, hown, hts⟩ (cM_join l D M hdfa_19 hdfc_47 (a80 (abs40 _) (abs40 _)) (lw := 1) (Or.inr rfl) (Or.inr rfl)) (cwV 1 hts (gM_V 67 yX2_join (.code yX2_join cX2_join 2 none) (by decide +kernel) mw_57) rfl rfl rfl (by decide +kernel) ⟨Nat.le_of_ble_eq_true rfl, Nat.le_of_ble_eq_true rfl⟩) (xb_pv hP hK hD rfl rfl (md_a0 M)) rfl rfl hl.1 rfl (lv_room (Nat.le_of_ble_eq_true rfl)) dX2_sum_72 ⟨Nat.le_of_ble_eq_true rfl, Nat.le_of_ble_eq_true rfl⟩) hD hS hA (fun ws5 H locs hws5 hP hD hS => ?_)
          obtain ⟨fa_72, fr_72, ng_72, z_72, M, hng_72, hdfa_72, hz_72, hs_72⟩ := hws5
          refine lv_aload_n hx hb dX2_sum_75 rfl (lv_at hl 0 rfl) ?_
          refine lv_iload_n hx hb dX2_sum_76 rfl (lv_at hl 1 rfl) ?_
          refine xb_ri (va_runV (As := [.int r]) (rest := []) ⟨hx, hb, hml, hown, hts⟩ (cM_store l D M tv hdfa_72 (Nat.lt_of_le_of_lt hz_72 (a80 (abs40 _) (abs40 _))) hng_72 c4) (cwV 1 hts (gM_V 71 yX2_store (.code yX2_store cX2_store 5 (some .int)) (by decide +kernel) mw_62) rfl rfl rfl (by decide +kernel) ⟨Nat.le_of_ble_eq_true rfl, Nat.le_of_ble_eq_true rfl⟩) (xb_pv hP hK hD rfl rfl (md_a0 M)) rfl rfl hl.1 rfl (lv_room (Nat.le_of_ble_eq_true rfl)) dX2_sum_77 ⟨Nat.le_of_ble_eq_true rfl, Nat.le_of_ble_eq_true rfl⟩) hD hS hA (fun r77 ws6 H locs hws6 hP hD hS => ?_)
          exact xb_ir hx hb hr hlocks hP hK hD hS dX2_sum_80 (fin_kR T hws6 (sum_eq c4 (by have ht : tu = 0 := n10 htu (fun q => c64 q.symm); rw [hs_72, (svn c31).1, (svn c54).1, ht, if_neg (by decide)])))
  · have c4 := bz_0 hr1 c4
    refine lv_iconst (v := (-1)) hx hb dX2_sum_7 (by decide) ?_
    exact xb_ir hx hb hr hlocks hP hK hD hS dX2_sum_8 (fin_no M T (by rw [sp_sum, if_neg c4]))
set_option maxHeartbeats 4000000 in
set_option maxRecDepth 100000 in
theorem cM_add (l : Launch) (D : va_G) {tys : xT} {ws : va_W} {sz : Nat} {w0 : va_W} {ad : Nat → Nat} {cB : Nat → ClassId} {rf : Nat → Int64} {tf bf fa fb fc fr : Nat → Int32} {ng : Int32} (M : md w0 ws tys ad cB rf tf bf fa fb fc fr ng) {tv : Nat → Int} (T : mt tf bf tv) (r : Int32) (v : Int64) : xM l yX2_add (.code yX2_add cX2_add 4 (some .int) :: mdT) ({ frames := 3, cells := 0, slots := 0, locals := 74 }) D tys ws sz [.ref (ad 0), .int r, .long v] (xQi D tys (fun a w => mdS w0 w tys ad cB (sp_add (rf, tv) r v).2 ∧ a = (sp_add (rf, tv) r v).1)) 0 0 := by
  refine xb_m (cc := cX2_add) (maxL := 4) (ret := (some .int)) (by decide) rfl (Nat.le_of_ble_eq_true rfl) ?_
  intro p e s m below meth c A ls hx hb hr hml hown hts hlocks hnm hA hP hK hD hS hl
  have hl : lv_has ls 4 [(0, .ref (ad 0)), (1, .int r), (2, .long v)] := hl
  have hown : s.vm.findClass RX2 = some m.cls := hown
  refine lv_aload_n hx hb dX2_add_0 rfl (lv_at hl 0 rfl) ?_
  refine lv_iload_n hx hb dX2_add_1 rfl (lv_at hl 1 rfl) ?_
  refine lv_lload_n hx hb dX2_add_2 rfl (lv_at hl 2 rfl) ?_
  refine lv_iconst (v := 0) hx hb dX2_add_3 (by decide) ?_
  refine xb_ri (va_runV (As := [.int r, .long v, .int 0]) (rest := []) ⟨hx, hb, hml, hown, hts⟩ (cM_sum l D M T r v (tu := 0) (Or.inl rfl)) (cwV 3 hts (gM_V 75 yX2_sum (.code yX2_sum cX2_sum 5 (some .int)) (by decide +kernel) mw_55) rfl rfl rfl (by decide +kernel) ⟨Nat.le_of_ble_eq_true rfl, Nat.le_of_ble_eq_true rfl⟩) (xb_pv hP hK hD rfl rfl (md_a0 M)) rfl rfl hl.1 rfl (lv_room (Nat.le_of_ble_eq_true rfl)) dX2_add_4 ⟨Nat.le_of_ble_eq_true rfl, Nat.le_of_ble_eq_true rfl⟩) hD hS hA (fun r4 ws1 H locs hws1 hP hD hS => ?_)
  exact xb_ir hx hb hr hlocks hP hK hD hS dX2_add_7 ((by rw [sp_add, sp_sum, if_neg (show ¬ (0 : Int32) = 1 by decide)] : sp_add (rf, tv) r v = sp_sum (rf, tv) r v 0) ▸ hws1)
set_option maxHeartbeats 4000000 in
set_option maxRecDepth 100000 in
theorem cM_sub (l : Launch) (D : va_G) {tys : xT} {ws : va_W} {sz : Nat} {w0 : va_W} {ad : Nat → Nat} {cB : Nat → ClassId} {rf : Nat → Int64} {tf bf fa fb fc fr : Nat → Int32} {ng : Int32} (M : md w0 ws tys ad cB rf tf bf fa fb fc fr ng) {tv : Nat → Int} (T : mt tf bf tv) (r : Int32) (v : Int64) : xM l yX2_subtract (.code yX2_subtract cX2_subtract 4 (some .int) :: mdT) ({ frames := 3, cells := 0, slots := 0, locals := 74 }) D tys ws sz [.ref (ad 0), .int r, .long v] (xQi D tys (fun a w => mdS w0 w tys ad cB (sp_sub (rf, tv) r v).2 ∧ a = (sp_sub (rf, tv) r v).1)) 0 0 := by
  refine xb_m (cc := cX2_subtract) (maxL := 4) (ret := (some .int)) (by decide) rfl (Nat.le_of_ble_eq_true rfl) ?_
  intro p e s m below meth c A ls hx hb hr hml hown hts hlocks hnm hA hP hK hD hS hl
  have hl : lv_has ls 4 [(0, .ref (ad 0)), (1, .int r), (2, .long v)] := hl
  have hown : s.vm.findClass RX2 = some m.cls := hown
  refine lv_aload_n hx hb dX2_subtract_0 rfl (lv_at hl 0 rfl) ?_
  refine lv_iload_n hx hb dX2_subtract_1 rfl (lv_at hl 1 rfl) ?_
  refine lv_lload_n hx hb dX2_subtract_2 rfl (lv_at hl 2 rfl) ?_
  refine lv_iconst (v := 1) hx hb dX2_subtract_3 (by decide) ?_
  refine xb_ri (va_runV (As := [.int r, .long v, .int 1]) (rest := []) ⟨hx, hb, hml, hown, hts⟩ (cM_sum l D M T r v (tu := 1) (Or.inr rfl)) (cwV 3 hts (gM_V 75 yX2_sum (.code yX2_sum cX2_sum 5 (some .int)) (by decide +kernel) mw_55) rfl rfl rfl (by decide +kernel) ⟨Nat.le_of_ble_eq_true rfl, Nat.le_of_ble_eq_true rfl⟩) (xb_pv hP hK hD rfl rfl (md_a0 M)) rfl rfl hl.1 rfl (lv_room (Nat.le_of_ble_eq_true rfl)) dX2_subtract_4 ⟨Nat.le_of_ble_eq_true rfl, Nat.le_of_ble_eq_true rfl⟩) hD hS hA (fun r4 ws1 H locs hws1 hP hD hS => ?_)
  exact xb_ir hx hb hr hlocks hP hK hD hS dX2_subtract_7 ((by rw [sp_sub, sp_sum, if_pos (show (1 : Int32) = 1 from rfl), Int.sub_eq_add_neg] : sp_sub (rf, tv) r v = sp_sum (rf, tv) r v 1) ▸ hws1)
set_option maxHeartbeats 4000000 in
set_option maxRecDepth 100000 in
theorem cM_times (l : Launch) (D : va_G) {tys : xT} {ws : va_W} {sz : Nat} {w0 : va_W} {ad : Nat → Nat} {cB : Nat → ClassId} {rf : Nat → Int64} {tf bf fa fb fc fr : Nat → Int32} {ng : Int32} (M : md w0 ws tys ad cB rf tf bf fa fb fc fr ng) {tv : Nat → Int} (T : mt tf bf tv) (r : Int32) (v : Int64) : xM l yX2_times (.code yX2_times cX2_times 4 (some .int) :: mdT) ({ frames := 2, cells := 0, slots := 0, locals := 50 }) D tys ws sz [.ref (ad 0), .int r, .long v] (xQi D tys (fun a w => mdS w0 w tys ad cB (sp_times (rf, tv) r v).2 ∧ a = (sp_times (rf, tv) r v).1)) 0 0 := by
  refine xb_m (cc := cX2_times) (maxL := 4) (ret := (some .int)) (by decide) rfl (Nat.le_of_ble_eq_true rfl) ?_
  intro p e s m below meth c A ls hx hb hr hml hown hts hlocks hnm hA hP hK hD hS hl
  have hl : lv_has ls 4 [(0, .ref (ad 0)), (1, .int r), (2, .long v)] := hl
  have hown : s.vm.findClass RX2 = some m.cls := hown
  refine lv_iload_n hx hb dX2_times_0 rfl (lv_at hl 1 rfl) ?_
  refine xb_ri (va_runS (As := [.int r]) (rest := []) ⟨hx, hb, hml, hown, hts⟩ (cM_isR l D r) (va_cwS 1 hts (gM_S 33 yX2_isRegister (.code yX2_isRegister cX2_isRegister 1 (some .boolean)) (by decide +kernel) mw_52) rfl rfl rfl (by decide +kernel) ⟨Nat.le_of_ble_eq_true rfl, Nat.le_of_ble_eq_true rfl⟩) (xb_ps rfl hP hK hD) rfl rfl hl.1 rfl (lv_room (Nat.le_of_ble_eq_true rfl)) dX2_times_1 ⟨Nat.le_of_ble_eq_true rfl, Nat.le_of_ble_eq_true rfl⟩) hD hS hA (fun r1 ws1 H locs hws1 hP hD hS => ?_)
  obtain ⟨hr1, rfl⟩ := hws1
  refine lv_if_ne (tgt := 9) hx hb dX2_times_4 (by decide) (fun c4 => ?_) (fun c4 => ?_)
  · have c4 := bz_1 hr1 c4
    refine lv_aload_n hx hb dX2_times_9 rfl (lv_at hl 0 rfl) ?_
    refine va_get (D := D) (ci := ciM) (v := .ref (ad 1)) (C := RX2) (T := TX2) (N := 8) hx hb hts inM hown hK hP 10 (md_a0 M) rfl 0 (by decide) (hts _ (inT mw_3)) (fun _ h9 => h9) rfl dX2_times_10 ?_
    refine lv_iload_n hx hb dX2_times_13 rfl (lv_at hl 1 rfl) ?_
    refine md_lld hx hb hK hP M c4 dX2_times_14 ?_
    refine lv_aload_n hx hb dX2_times_15 rfl (lv_at hl 0 rfl) ?_
    refine va_get (D := D) (ci := ciM) (v := .ref (ad 4)) (C := RX2) (T := TX2) (N := 8) hx hb hts inM hown hK hP 10 (md_a0 M) rfl 3 (by decide) (hts _ (inT mw_7)) (fun _ h9 => h9) rfl dX2_times_16 ?_
    refine xb_rv (va_runS (As := [.long (rf r.toNatClampNeg), .ref (ad 4)]) (rest := []) ⟨hx, hb, hml, hown, hts⟩ (cM_write l D (md_a4 M) (md_t3 M) (rf r.toNatClampNeg)) (va_cwS 2 hts (gM_S 63 yX2_write (.code yX2_write cX2_write 7 none) (by decide +kernel) mw_56) rfl rfl rfl (by decide +kernel) ⟨Nat.le_of_ble_eq_true rfl, Nat.le_of_ble_eq_true rfl⟩) (xb_ps rfl hP hK hD) rfl rfl hl.1 rfl (lv_room (Nat.le_of_ble_eq_true rfl)) dX2_times_19 ⟨Nat.le_of_ble_eq_true rfl, Nat.le_of_ble_eq_true rfl⟩) hD hS hA (fun ws2 H locs hws2 hP hD hS => ?_)
    obtain ⟨fa_19, hws2, hdfa_19⟩ := hws2
    have M := md_sfa M hws2
    have hdfa_19 : dg fa_19 ((rf r.toNatClampNeg).toInt.natAbs) := hdfa_19
    refine lv_lload_n hx hb dX2_times_22 rfl (lv_at hl 2 rfl) ?_
    refine lv_aload_n hx hb dX2_times_23 rfl (lv_at hl 0 rfl) ?_
    refine va_get (D := D) (ci := ciM) (v := .ref (ad 5)) (C := RX2) (T := TX2) (N := 8) hx hb hts inM hown hK hP 10 (md_a0 M) rfl 4 (by decide) (hts _ (inT mw_29)) (fun _ h9 => h9) rfl dX2_times_24 ?_
    refine xb_rv (va_runS (As := [.long v, .ref (ad 5)]) (rest := []) ⟨hx, hb, hml, hown, hts⟩ (cM_write l D (md_a5 M) (md_t4 M) v) (va_cwS 2 hts (gM_S 63 yX2_write (.code yX2_write cX2_write 7 none) (by decide +kernel) mw_56) rfl rfl rfl (by decide +kernel) ⟨Nat.le_of_ble_eq_true rfl, Nat.le_of_ble_eq_true rfl⟩) (xb_ps rfl hP hK hD) rfl rfl hl.1 rfl (lv_room (Nat.le_of_ble_eq_true rfl)) dX2_times_27 ⟨Nat.le_of_ble_eq_true rfl, Nat.le_of_ble_eq_true rfl⟩) hD hS hA (fun ws3 H locs hws3 hP hD hS => ?_)
    obtain ⟨fb_27, hws3, hdfb_27⟩ := hws3
    have M := md_sfb M hws3
    have hdfb_27 : dg fb_27 (v.toInt.natAbs) := hdfb_27
    refine lv_aload_n hx hb dX2_times_30 rfl (lv_at hl 0 rfl) ?_
    refine xb_rv (va_runV (As := []) (rest := []) ⟨hx, hb, hml, hown, hts⟩ (cM_mul l D M hdfa_19 hdfb_27 (abs40 _) (abs40 _)) (cwV 0 hts (gM_V 79 yX2_multiply (.code yX2_multiply cX2_multiply 5 none) (by decide +kernel) mw_65) rfl rfl rfl (by decide +kernel) ⟨Nat.le_of_ble_eq_true rfl, Nat.le_of_ble_eq_true rfl⟩) (xb_pv hP hK hD rfl rfl (md_a0 M)) rfl rfl hl.1 rfl (lv_room (Nat.le_of_ble_eq_true rfl)) dX2_times_31 ⟨Nat.le_of_ble_eq_true rfl, Nat.le_of_ble_eq_true rfl⟩) hD hS hA (fun ws4 H locs hws4 hP hD hS => ?_)
    obtain ⟨fa_31, fc_31, M, hdfa_31⟩ := hws4
    refine lv_aload_n hx hb dX2_times_34 rfl (lv_at hl 0 rfl) ?_
    refine lv_aload_n hx hb dX2_times_35 rfl (lv_at hl 0 rfl) ?_
    refine va_get (D := D) (ci := ciM) (v := .ref (ad 1)) (C := RX2) (T := TX2) (N := 8) hx hb hts inM hown hK hP 10 (md_a0 M) rfl 0 (by decide) (hts _ (inT mw_3)) (fun _ h9 => h9) rfl dX2_times_36 ?_
    refine lv_iload_n hx hb dX2_times_39 rfl (lv_at hl 1 rfl) ?_
    refine md_lld hx hb hK hP M c4 dX2_times_40 ?_
    refine lv_lconst (v := 0) hx hb dX2_times_41 (by decide) ?_
    refine W.lcmp hx hb dX2_times_42 ?_
    refine lv_if_ge (tgt := 50) hx hb dX2_times_43 (by decide) (fun c43 => ?_) (fun c43 => ?_)
    · rw [lg_cmp_ge] at c43
      refine lv_iconst (v := 0) hx hb dX2_times_50 (by decide) ?_
      refine lv_lload_n hx hb dX2_times_51 rfl (lv_at hl 2 rfl) ?_
      refine lv_lconst (v := 0) hx hb dX2_times_52 (by decide) ?_
      refine W.lcmp hx hb dX2_times_53 ?_
      refine lv_if_ge (tgt := 61) hx hb dX2_times_54 (by decide) (fun c54 => ?_) (fun c54 => ?_)
      · rw [lg_cmp_ge] at c54
        refine lv_iconst (v := 0) hx hb dX2_times_61 (by decide) ?_
        refine lv_icmp_eq (tgt := 69) hx hb dX2_times_62 (by decide) (fun _ => ?_) (fun q => absurd rfl q)
        refine lv_iconst (v := 0) hx hb dX2_times_69 (by decide) ?_
        refine va_put (D := D) (ci := ciM) (v := .int 0) (ty := .boolean) (C := RX2) (T := TX2) (N := 8) hx hb hts inM tyX2 tyX2_ok nmX2 hown hK hP hD hS 10 (md_a0 M) rfl 7 (by decide) (hts _ (inT mw_10)) (fun _ h9 => h9) rfl (by decide +kernel) rfl rfl (Nat.le_of_ble_eq_true rfl) dX2_times_70 (fun H locs hP hD hS => ?_)
        obtain ⟨ws5, hws5⟩ : ∃ q_, q_ = ws4.set 10 (ad 0, .inr (ciM, [.ref (ad 1), .ref (ad 2), .ref (ad 3), .ref (ad 4), .ref (ad 5), .ref (ad 6), .ref (ad 7), .int 0])) := ⟨_, rfl⟩
        have hP : va_P D vwCl ws5 H := by rw [hws5]; exact hP
        have hD : va_D A ws5 := by rw [hws5]; exact hD
        have M := md_sng M hws5
        refine lv_aload_n hx hb dX2_times_73 rfl (lv_at hl 0 rfl) ?_
        refine lv_iload_n hx hb dX2_times_74 rfl (lv_at hl 1 rfl) ?_
        refine xb_ri (va_runV (As := [.int r]) (rest := []) ⟨hx, hb, hml, hown, hts⟩ (cM_store l D M tv hdfa_31 (m80 (abs40 _) (abs40 _)) (Or.inl rfl) c4) (cwV 1 hts (gM_V 71 yX2_store (.code yX2_store cX2_store 5 (some .int)) (by decide +kernel) mw_62) rfl rfl rfl (by decide +kernel) ⟨Nat.le_of_ble_eq_true rfl, Nat.le_of_ble_eq_true rfl⟩) (xb_pv hP hK hD rfl rfl (md_a0 M)) rfl rfl hl.1 rfl (lv_room (Nat.le_of_ble_eq_true rfl)) dX2_times_75 ⟨Nat.le_of_ble_eq_true rfl, Nat.le_of_ble_eq_true rfl⟩) hD hS hA (fun r75 ws6 H locs hws6 hP hD hS => ?_)
        exact xb_ir hx hb hr hlocks hP hK hD hS dX2_times_78 (fin_kR T hws6 (times_eq c4 (by rw [sv_mul (a := 0) (b := 0) (Or.inl rfl) (Or.inl rfl) (by decide), (svp c43).1, (svp c54).1])))
      · rw [lg_cmp_ge] at c54
        refine lv_iconst (v := 1) hx hb dX2_times_57 (by decide) ?_
        refine lv_goto (tgt := 62) hx hb dX2_times_58 (by decide) ?_
        refine lv_icmp_eq (tgt := 69) hx hb dX2_times_62 (by decide) (fun q => absurd q (by decide)) (fun _ => ?_)
        refine lv_iconst (v := 1) hx hb dX2_times_65 (by decide) ?_
        refine lv_goto (tgt := 70) hx hb dX2_times_66 (by decide) ?_
        refine va_put (D := D) (ci := ciM) (v := .int 1) (ty := .boolean) (C := RX2) (T := TX2) (N := 8) hx hb hts inM tyX2 tyX2_ok nmX2 hown hK hP hD hS 10 (md_a0 M) rfl 7 (by decide) (hts _ (inT mw_10)) (fun _ h9 => h9) rfl (by decide +kernel) rfl rfl (Nat.le_of_ble_eq_true rfl) dX2_times_70 (fun H locs hP hD hS => ?_)
        obtain ⟨ws5, hws5⟩ : ∃ q_, q_ = ws4.set 10 (ad 0, .inr (ciM, [.ref (ad 1), .ref (ad 2), .ref (ad 3), .ref (ad 4), .ref (ad 5), .ref (ad 6), .ref (ad 7), .int 1])) := ⟨_, rfl⟩
        have hP : va_P D vwCl ws5 H := by rw [hws5]; exact hP
        have hD : va_D A ws5 := by rw [hws5]; exact hD
        have M := md_sng M hws5
        refine lv_aload_n hx hb dX2_times_73 rfl (lv_at hl 0 rfl) ?_
        refine lv_iload_n hx hb dX2_times_74 rfl (lv_at hl 1 rfl) ?_
        refine xb_ri (va_runV (As := [.int r]) (rest := []) ⟨hx, hb, hml, hown, hts⟩ (cM_store l D M tv hdfa_31 (m80 (abs40 _) (abs40 _)) (Or.inr rfl) c4) (cwV 1 hts (gM_V 71 yX2_store (.code yX2_store cX2_store 5 (some .int)) (by decide +kernel) mw_62) rfl rfl rfl (by decide +kernel) ⟨Nat.le_of_ble_eq_true rfl, Nat.le_of_ble_eq_true rfl⟩) (xb_pv hP hK hD rfl rfl (md_a0 M)) rfl rfl hl.1 rfl (lv_room (Nat.le_of_ble_eq_true rfl)) dX2_times_75 ⟨Nat.le_of_ble_eq_true rfl, Nat.le_of_ble_eq_true rfl⟩) hD hS hA (fun r75 ws6 H locs hws6 hP hD hS => ?_)
        exact xb_ir hx hb hr hlocks hP hK hD hS dX2_times_78 (fin_kR T hws6 (times_eq c4 (by rw [sv_mul (a := 0) (b := 1) (Or.inl rfl) (Or.inr rfl) (by decide), (svp c43).1, (svn c54).1])))
    · rw [lg_cmp_ge] at c43
      refine lv_iconst (v := 1) hx hb dX2_times_46 (by decide) ?_
      refine lv_goto (tgt := 51) hx hb dX2_times_47 (by decide) ?_
      refine lv_lload_n hx hb dX2_times_51 rfl (lv_at hl 2 rfl) ?_
      refine lv_lconst (v := 0) hx hb dX2_times_52 (by decide) ?_
      refine W.lcmp hx hb dX2_times_53 ?_
      refine lv_if_ge (tgt := 61) hx hb dX2_times_54 (by decide) (fun c54 => ?_) (fun c54 => ?_)
      · rw [lg_cmp_ge] at c54
        refine lv_iconst (v := 0) hx hb dX2_times_61 (by decide) ?_
        refine lv_icmp_eq (tgt := 69) hx hb dX2_times_62 (by decide) (fun q => absurd q (by decide)) (fun _ => ?_)
        refine lv_iconst (v := 1) hx hb dX2_times_65 (by decide) ?_
        refine lv_goto (tgt := 70) hx hb dX2_times_66 (by decide) ?_
        refine va_put (D := D) (ci := ciM) (v := .int 1) (ty := .boolean) (C := RX2) (T := TX2) (N := 8) hx hb hts inM tyX2 tyX2_ok nmX2 hown hK hP hD hS 10 (md_a0 M) rfl 7 (by decide) (hts _ (inT mw_10)) (fun _ h9 => h9) rfl (by decide +kernel) rfl rfl (Nat.le_of_ble_eq_true rfl) dX2_times_70 (fun H locs hP hD hS => ?_)
        obtain ⟨ws5, hws5⟩ : ∃ q_, q_ = ws4.set 10 (ad 0, .inr (ciM, [.ref (ad 1), .ref (ad 2), .ref (ad 3), .ref (ad 4), .ref (ad 5), .ref (ad 6), .ref (ad 7), .int 1])) := ⟨_, rfl⟩
        have hP : va_P D vwCl ws5 H := by rw [hws5]; exact hP
        have hD : va_D A ws5 := by rw [hws5]; exact hD
        have M := md_sng M hws5
        refine lv_aload_n hx hb dX2_times_73 rfl (lv_at hl 0 rfl) ?_
        refine lv_iload_n hx hb dX2_times_74 rfl (lv_at hl 1 rfl) ?_
        refine xb_ri (va_runV (As := [.int r]) (rest := []) ⟨hx, hb, hml, hown, hts⟩ (cM_store l D M tv hdfa_31 (m80 (abs40 _) (abs40 _)) (Or.inr rfl) c4) (cwV 1 hts (gM_V 71 yX2_store (.code yX2_store cX2_store 5 (some .int)) (by decide +kernel) mw_62) rfl rfl rfl (by decide +kernel) ⟨Nat.le_of_ble_eq_true rfl, Nat.le_of_ble_eq_true rfl⟩) (xb_pv hP hK hD rfl rfl (md_a0 M)) rfl rfl hl.1 rfl (lv_room (Nat.le_of_ble_eq_true rfl)) dX2_times_75 ⟨Nat.le_of_ble_eq_true rfl, Nat.le_of_ble_eq_true rfl⟩) hD hS hA (fun r75 ws6 H locs hws6 hP hD hS => ?_)
        exact xb_ir hx hb hr hlocks hP hK hD hS dX2_times_78 (fin_kR T hws6 (times_eq c4 (by rw [sv_mul (a := 1) (b := 0) (Or.inr rfl) (Or.inl rfl) (by decide), (svn c43).1, (svp c54).1])))
      · rw [lg_cmp_ge] at c54
        refine lv_iconst (v := 1) hx hb dX2_times_57 (by decide) ?_
        refine lv_goto (tgt := 62) hx hb dX2_times_58 (by decide) ?_
        refine lv_icmp_eq (tgt := 69) hx hb dX2_times_62 (by decide) (fun _ => ?_) (fun q => absurd rfl q)
        refine lv_iconst (v := 0) hx hb dX2_times_69 (by decide) ?_
        refine va_put (D := D) (ci := ciM) (v := .int 0) (ty := .boolean) (C := RX2) (T := TX2) (N := 8) hx hb hts inM tyX2 tyX2_ok nmX2 hown hK hP hD hS 10 (md_a0 M) rfl 7 (by decide) (hts _ (inT mw_10)) (fun _ h9 => h9) rfl (by decide +kernel) rfl rfl (Nat.le_of_ble_eq_true rfl) dX2_times_70 (fun H locs hP hD hS => ?_)
        obtain ⟨ws5, hws5⟩ : ∃ q_, q_ = ws4.set 10 (ad 0, .inr (ciM, [.ref (ad 1), .ref (ad 2), .ref (ad 3), .ref (ad 4), .ref (ad 5), .ref (ad 6), .ref (ad 7), .int 0])) := ⟨_, rfl⟩
        have hP : va_P D vwCl ws5 H := by rw [hws5]; exact hP
        have hD : va_D A ws5 := by rw [hws5]; exact hD
        have M := md_sng M hws5
        refine lv_aload_n hx hb dX2_times_73 rfl (lv_at hl 0 rfl) ?_
        refine lv_iload_n hx hb dX2_times_74 rfl (lv_at hl 1 rfl) ?_
        refine xb_ri (va_runV (As := [.int r]) (rest := []) ⟨hx, hb, hml, hown, hts⟩ (cM_store l D M tv hdfa_31 (m80 (abs40 _) (abs40 _)) (Or.inl rfl) c4) (cwV 1 hts (gM_V 71 yX2_store (.code yX2_store cX2_store 5 (some .int)) (by decide +kernel) mw_62) rfl rfl rfl (by decide +kernel) ⟨Nat.le_of_ble_eq_true rfl, Nat.le_of_ble_eq_true rfl⟩) (xb_pv hP hK hD rfl rfl (md_a0 M)) rfl rfl hl.1 rfl (lv_room (Nat.le_of_ble_eq_true rfl)) dX2_times_75 ⟨Nat.le_of_ble_eq_true rfl, Nat.le_of_ble_eq_true rfl⟩) hD hS hA (fun r75 ws6 H locs hws6 hP hD hS => ?_)
        exact xb_ir hx hb hr hlocks hP hK hD hS dX2_times_78 (fin_kR T hws6 (times_eq c4 (by rw [sv_mul (a := 1) (b := 1) (Or.inr rfl) (Or.inr rfl) (by decide), (svn c43).1, (svn c54).1])))
  · have c4 := bz_0 hr1 c4
    refine lv_iconst (v := (-1)) hx hb dX2_times_7 (by decide) ?_
    exact xb_ir hx hb hr hlocks hP hK hD hS dX2_times_8 (fin_no M T (by rw [sp_times, if_neg c4]))
end
section
/-! the reference's tallies -/
theorem kT_rf (rf : Nat → Int64) (tv : Nat → Int) (t : Int32) (v : Int) : (sp_kT (rf, tv) t v).2.1 = rf := by
  unfold sp_kT; split
  · rfl
  · split <;> rfl
theorem fin_kT {w0 w : va_W} {tys : xT} {ad : Nat → Nat} {cB : Nat → ClassId} {rf : Nat → Int64} {tv : Nat → Int} {fa fb fc fr : Nat → Int32} {ng t a : Int32} {V : Int} {SP : Int32 × sS} (hw : (∃ tf1 bf1, md w0 w tys ad cB rf tf1 bf1 fa fb fc fr ng ∧ mt tf1 bf1 (sp_kT (rf, tv) t V).2.2) ∧ a = (sp_kT (rf, tv) t V).1) (e : SP = sp_kT (rf, tv) t V) : mdS w0 w tys ad cB SP.2 ∧ a = SP.1 := by
  obtain ⟨⟨tf1, bf1, M, T⟩, h⟩ := hw
  rw [e]
  exact ⟨⟨tf1, bf1, fa, fb, fc, fr, ng, by rw [kT_rf]; exact M, T⟩, h⟩
theorem ix40 {t xi : Int32} {i : Nat} (h : ¬ t < 0 ∧ t < 4) (e : xi = nI i) : 40 * t + xi = nI (40 * t.toNatClampNeg + i) := by
  have et := ix_n h.1
  have q : nI 40 * nI t.toNatClampNeg + nI i = nI (40 * t.toNatClampNeg + i) := by rw [pk_mul, nI_add]
  rw [← et] at q
  rw [e]
  exact q
theorem lt160 {t : Int32} {i : Nat} (h : ¬ t < 0 ∧ t < 4) (hi : i < 40) : 40 * t.toNatClampNeg + i < 160 := by
  have := j4 h
  omega
section MT
variable {tf bf : Nat → Int32} {tv : Nat → Int}
theorem mt_d (T : mt tf bf tv) {t : Int32} (h : ¬ t < 0 ∧ t < 4) {k : Nat} (hk : k < 36) : tf (40 * t.toNatClampNeg + k) = nI ((tv t.toNatClampNeg).natAbs / 10 ^ k % 10) := (T _ (j4 h)).1 k hk
theorem mt_b (T : mt tf bf tv) {t : Int32} (h : ¬ t < 0 ∧ t < 4) : bf t.toNatClampNeg = (if tv t.toNatClampNeg < 0 then 1 else 0) := (T _ (j4 h)).2.1
theorem mt_l (T : mt tf bf tv) {t : Int32} (h : ¬ t < 0 ∧ t < 4) : (tv t.toNatClampNeg).natAbs < 10 ^ 36 := (T _ (j4 h)).2.2
theorem mt_01 (T : mt tf bf tv) {t : Int32} (h : ¬ t < 0 ∧ t < 4) : bf t.toNatClampNeg = 0 ∨ bf t.toNatClampNeg = 1 := by
  rw [mt_b T h]; split
  · exact Or.inr rfl
  · exact Or.inl rfl
theorem mt_s (T : mt tf bf tv) {t : Int32} (h : ¬ t < 0 ∧ t < 4) : sv (bf t.toNatClampNeg) (tv t.toNatClampNeg).natAbs = tv t.toNatClampNeg := by
  have b := mt_b T h
  by_cases q : tv t.toNatClampNeg < 0
  · rw [if_pos q] at b; rw [sv_1 b]; omega
  · rw [if_neg q] at b; rw [sv_0 b]; omega
theorem mt_up (T : mt tf bf tv) {t n : Int32} (h : ¬ t < 0 ∧ t < 4) {x : Nat} (hx : x < 10 ^ 36) {tf1 : Nat → Int32} (h1 : ∀ k, k < 36 → tf1 (40 * t.toNatClampNeg + k) = nI (x / 10 ^ k % 10)) (h2 : ∀ q, (q < 40 * t.toNatClampNeg ∨ 40 * t.toNatClampNeg + 36 ≤ q) → tf1 q = tf q) {b : Int32} (hb : b = (if sv n x < 0 then 1 else 0)) : mt tf1 (upd bf t.toNatClampNeg b) (va_up tv t.toNatClampNeg (sv n x)) := by
  intro u hu
  have ab : (sv n x).natAbs = x := by unfold sv; split <;> omega
  by_cases e : u = t.toNatClampNeg
  · subst e
    rw [show va_up tv t.toNatClampNeg (sv n x) t.toNatClampNeg = sv n x from if_pos rfl, up_s, ab]
    exact ⟨h1, hb, hx⟩
  · rw [show va_up tv t.toNatClampNeg (sv n x) u = tv u from if_neg e, up_n e]
    refine ⟨fun k hk => ?_, (T u hu).2⟩
    rw [h2 _ (by omega)]
    exact (T u hu).1 k hk
end MT
theorem z36 {V i : Nat} (hV : V < 10 ^ 36) (hi : 36 ≤ i) : V / 10 ^ i % 10 = 0 := by
  have : 10 ^ 36 ≤ 10 ^ i := Nat.pow_le_pow_right (by decide) hi
  rw [Nat.div_eq_of_lt (by omega)]
theorem p36 : (10 : Nat) ^ 36 = 1000000000000000000000000000000000000 := by decide
theorem b80 {x : Nat} (h : x < 10 ^ 36) : x < 10 ^ 80 := Nat.lt_trans h (by decide)
theorem b40 {x : Nat} (h : x < 10 ^ 36) : x < 10 ^ 40 := Nat.lt_trans h (by decide)
/-- the flag 'wide' of keep, one place on -/
theorem wd_1 {x i : Nat} (hi : 36 ≤ i) (h : 10 ^ 36 ≤ x % 10 ^ i) : 10 ^ 36 ≤ x % 10 ^ (i + 1) := by
  rw [pd_mod]; omega
theorem wd_2 {x i : Nat} (hi : 36 ≤ i) (h : ¬ x / 10 ^ i % 10 = 0) : 10 ^ 36 ≤ x % 10 ^ (i + 1) := by
  have a : 10 ^ 36 ≤ 10 ^ i := Nat.pow_le_pow_right (by decide) hi
  have b : 10 ^ i * 1 ≤ 10 ^ i * (x / 10 ^ i % 10) := Nat.mul_le_mul_left _ (by omega)
  rw [pd_mod]; omega
theorem wd_3 {x i : Nat} (h : ¬ 10 ^ 36 ≤ x % 10 ^ i) (h2 : x / 10 ^ i % 10 = 0) : ¬ 10 ^ 36 ≤ x % 10 ^ (i + 1) := by
  rw [pd_mod, h2]; omega
theorem nI_le0 {a : Nat} (h : a < 10) : (nI a ≤ 0) ↔ a = 0 := by
  constructor
  · intro q
    have := (nI_leI (b := 0) (by omega) (by decide)).mp q
    omega
  · intro q; subst q; decide
theorem tJ1 {tf : Nat → Int32} {B x i : Nat} {v : Int32} (h : ∀ k, k < i → tf (B + k) = nI (x / 10 ^ k % 10)) (hv : v = nI (x / 10 ^ i % 10)) : ∀ k, k < i + 1 → upd tf (B + i) v (B + k) = nI (x / 10 ^ k % 10) := fun k hk => by
  by_cases e : k = i
  · subst e; rw [up_s]; exact hv
  · rw [up_n (by omega)]; exact h k (by omega)
theorem tJ2 {tf tg : Nat → Int32} {B i : Nat} {v : Int32} (h : ∀ q, (q < B ∨ B + i ≤ q) → tf q = tg q) : ∀ q, (q < B ∨ B + (i + 1) ≤ q) → upd tf (B + i) v q = tg q := fun q hq => by
  rw [up_n (by omega)]; exact h q (by omega)
theorem enter_eq {rf : Nat → Int64} {tv : Nat → Int} {t r : Int32} {v : Int64} {V : Int} (h : okT t ∧ okR r) (e : V = tv t.toNatClampNeg + (rf r.toNatClampNeg).toInt * v.toInt) : sp_enter (rf, tv) t r v = sp_kT (rf, tv) t V := by
  rw [e, Int.add_comm]; exact if_pos h
theorem merge_eq {rf : Nat → Int64} {tv : Nat → Int} {t u : Int32} {V : Int} (h : okT t ∧ okT u) (e : V = tv t.toNatClampNeg + tv u.toNatClampNeg) : sp_merge (rf, tv) t u = sp_kT (rf, tv) t V := by
  rw [e]; exact if_pos h
theorem take_eq {rf : Nat → Int64} {tv : Nat → Int} {t r : Int32} {V : Int} (h : okT t ∧ okR r) (e : V = tv t.toNatClampNeg) : sp_take (rf, tv) t r = sp_kR (rf, tv) r V := by
  rw [e]; exact if_pos h
theorem cmp_1 {a b : Int} {p q : Int32} (hp : p = if a < 0 then 1 else 0) (hq : q = if b < 0 then 1 else 0) (h : ¬ p = q) : (p = 0 → sp_ord a b = 1) ∧ (¬ p = 0 → sp_ord a b = -1) := by
  by_cases x : a < 0 <;> by_cases y : b < 0
  · rw [if_pos x] at hp; rw [if_pos y] at hq; exact absurd (hp.trans hq.symm) h
  · rw [if_pos x] at hp
    refine ⟨fun z => ?_, fun _ => ?_⟩
    · rw [hp] at z; exact absurd z (by decide)
    · unfold sp_ord; rw [if_pos (by omega)]
  · rw [if_neg x] at hp
    refine ⟨fun _ => ?_, fun z => absurd hp z⟩
    unfold sp_ord; rw [if_neg (by omega), if_neg (by omega)]
  · rw [if_neg x] at hp; rw [if_neg y] at hq; exact absurd (hp.trans hq.symm) h
theorem cmp_2 {a b : Int} {p q : Int32} (hp : p = if a < 0 then 1 else 0) (hq : q = if b < 0 then 1 else 0) (h : p = q) : (p = 0 → sp_ord a b = sp_ord (a.natAbs : Int) (b.natAbs : Int)) ∧ (¬ p = 0 → sp_ord a b = -sp_ord (a.natAbs : Int) (b.natAbs : Int)) := by
  have d0 : ¬ (0 : Int32) = 1 := by decide
  by_cases x : a < 0 <;> by_cases y : b < 0
  · refine ⟨fun z => ?_, fun _ => ?_⟩
    · rw [if_pos x] at hp; rw [hp] at z; exact absurd z.symm d0
    · unfold sp_ord
      rcases Int.lt_trichotomy a b with q | q | q
      · rw [if_pos q, if_neg (by omega), if_neg (by omega)]
      · rw [if_neg (by omega), if_pos q, if_neg (by omega), if_pos (by omega)]; rfl
      · rw [if_neg (by omega), if_neg (by omega), if_pos (by omega)]; rfl
  · rw [if_pos x] at hp; rw [if_neg y] at hq; rw [hp, hq] at h; exact absurd h.symm d0
  · rw [if_neg x] at hp; rw [if_pos y] at hq; rw [hp, hq] at h; exact absurd h d0
  · refine ⟨fun _ => ?_, fun z => ?_⟩
    · rw [show (a.natAbs : Int) = a by omega, show (b.natAbs : Int) = b by omega]
    · rw [if_neg x] at hp; exact absurd hp z
-- the reference: read, keep, take, merge, enter, compare (laid by wip/whole/gen_mo.py)
theorem abs_m (a b : Int64) : a.toInt.natAbs * b.toInt.natAbs < 10 ^ 79 := by
  have h := Nat.mul_lt_mul_of_lt_of_lt (show a.toInt.natAbs < 10 ^ 20 by have := l_abs a; have e : (10 : Nat) ^ 20 = 100000000000000000000 := (by decide); omega) (show b.toInt.natAbs < 10 ^ 20 by have := l_abs b; have e : (10 : Nat) ^ 20 = 100000000000000000000 := (by decide); omega)
  exact Nat.lt_trans h (by decide)
theorem e80 {x y : Nat} (hx : x < 10 ^ 36) (hy : y < 10 ^ 79) : x + y < 10 ^ 80 := by
  have a : (10 : Nat) ^ 36 ≤ 10 ^ 79 := by decide
  have b : (10 : Nat) ^ 80 = 10 * 10 ^ 79 := by decide
  omega
set_option maxHeartbeats 4000000 in
set_option maxRecDepth 100000 in
theorem cM_read (l : Launch) (D : va_G) {tys : xT} {ws : va_W} {sz : Nat} {w0 : va_W} {ad : Nat → Nat} {cB : Nat → ClassId} {rf : Nat → Int64} {tf bf fa fb fc fr : Nat → Int32} {ng : Int32} (M : md w0 ws tys ad cB rf tf bf fa fb fc fr ng) {tv : Nat → Int} (T : mt tf bf tv) {t : Int32} (h : okT t) : xM l yX2_read (.code yX2_read cX2_read 3 none :: mdT) ({ frames := 0, cells := 0, slots := 0, locals := 0 }) D tys ws sz [.ref (ad 0), .int t] (xQv D tys (fun w => ∃ f1, md w0 w tys ad cB rf tf bf f1 fb fc fr (bf t.toNatClampNeg) ∧ dg f1 (tv t.toNatClampNeg).natAbs)) 0 0 := by
  refine xb_m (cc := cX2_read) (maxL := 3) (ret := none) (by decide) rfl (Nat.le_of_ble_eq_true rfl) ?_
  intro p e s m below meth c A ls hx hb hr hml hown hts hlocks hnm hA hP hK hD hS hl
  have hl : lv_has ls 3 [(0, .ref (ad 0)), (1, .int t)] := hl
  have hown : s.vm.findClass RX2 = some m.cls := hown
  have loop : ∀ (n i : Nat) (xi : Int32) (fi : Nat → Int32) (ws1 : va_W) (H : Heap) (locs : List Loc) (ls : Array Slot), i ≤ 80 → 80 < i + n → xi = nI i → md w0 ws1 tys ad cB rf tf bf fi fb fc fr ng → (∀ j, j < i → fi j = nI ((tv t.toNatClampNeg).natAbs / 10 ^ j % 10)) → va_P D vwCl ws1 H → va_D A ws1 → va_S A s.heap H locs → lv_has ls 3 [(0, .ref (ad 0)), (1, .int t), (2, .int xi)] → W p l e ({ frames := 0, cells := 0, slots := 0, locals := 0 }) s m [.ref (ad 0), .int t].toArray below meth c H locs 0 0 (MQ below (xQv D tys (fun w => ∃ f1, md w0 w tys ad cB rf tf bf f1 fb fc fr (bf t.toNatClampNeg) ∧ dg f1 (tv t.toNatClampNeg).natAbs) A) [.ref (ad 0), .int t].toArray s 0 0 A) (F0 m 2 ls []) := by
    intro n
    induction n with
    | zero =>
      intro i xi fi ws1 H locs ls h1 h2
      omega
    | succ n ih =>
      intro i xi fi ws1 H locs ls h1 h2 exi M hA1 hP hD hS hl
      refine lv_iload_n hx hb dX2_read_2 rfl (lv_at hl 2 rfl) ?_
      refine lv_bipush (v := 80) hx hb dX2_read_3 (by decide) ?_
      refine lv_icmp_ge (tgt := 41) hx hb dX2_read_5 (by decide) (fun c5 => ?_) (fun c5 => ?_)
      · have q80 := nge (M := 80) rfl exi (by decide) c5 (by omega)
        refine lv_aload_n hx hb dX2_read_41 rfl (lv_at hl 0 rfl) ?_
        refine lv_aload_n hx hb dX2_read_42 rfl (lv_at hl 0 rfl) ?_
        refine va_get (D := D) (ci := ciM) (v := .ref (ad 3)) (C := RX2) (T := TX2) (N := 8) hx hb hts inM hown hK hP 10 (md_a0 M) rfl 2 (by decide) (hts _ (inT mw_49)) (fun _ h9 => h9) rfl dX2_read_43 ?_
        refine lv_iload_n hx hb dX2_read_46 rfl (lv_at hl 1 rfl) ?_
        refine md_zld hx hb hK hP M h dX2_read_47 ?_
        refine va_put (D := D) (ci := ciM) (v := .int (bf t.toNatClampNeg)) (ty := .boolean) (C := RX2) (T := TX2) (N := 8) hx hb hts inM tyX2 tyX2_ok nmX2 hown hK hP hD hS 10 (md_a0 M) rfl 7 (by decide) (hts _ (inT mw_10)) (fun _ h9 => h9) rfl (by decide +kernel) (by rcases mt_01 T h with q | q <;> rw [q] <;> rfl) (by rcases mt_01 T h with q | q <;> rw [q] <;> rfl) (Nat.le_of_ble_eq_true rfl) dX2_read_48 (fun H locs hP hD hS => ?_)
        obtain ⟨ws2, hws2⟩ : ∃ q_, q_ = ws1.set 10 (ad 0, .inr (ciM, [.ref (ad 1), .ref (ad 2), .ref (ad 3), .ref (ad 4), .ref (ad 5), .ref (ad 6), .ref (ad 7), .int (bf t.toNatClampNeg)])) := ⟨_, rfl⟩
        have hP : va_P D vwCl ws2 H := by rw [hws2]; exact hP
        have hD : va_D A ws2 := by rw [hws2]; exact hD
        have M := md_sng M hws2
        exact xb_vr hx hb hr hlocks hP hK hD hS dX2_read_51 (⟨fi, M, fun j hj => hA1 j (by omega)⟩)
      · have hi8 := nlt (M := 80) rfl exi (by decide) c5 (by omega)
        refine lv_aload_n hx hb dX2_read_8 rfl (lv_at hl 0 rfl) ?_
        refine va_get (D := D) (ci := ciM) (v := .ref (ad 4)) (C := RX2) (T := TX2) (N := 8) hx hb hts inM hown hK hP 10 (md_a0 M) rfl 3 (by decide) (hts _ (inT mw_7)) (fun _ h9 => h9) rfl dX2_read_9 ?_
        refine lv_iload_n hx hb dX2_read_12 rfl (lv_at hl 2 rfl) ?_
        refine lv_iload_n hx hb dX2_read_13 rfl (lv_at hl 2 rfl) ?_
        refine lv_bipush (v := 36) hx hb dX2_read_14 (by decide) ?_
        refine lv_icmp_ge (tgt := 33) hx hb dX2_read_16 (by decide) (fun c16 => ?_) (fun c16 => ?_)
        · refine lv_iconst (v := 0) hx hb dX2_read_33 (by decide) ?_
          refine ia_st (x := 0) hx hb hK hP hD hS (md_a4 M) (md_t3 M) exi hi8 (by decide) dX2_read_34 (fun ws2 H locs hws2 hP hD hS => ?_)
          have M := md_sfa M hws2
          refine lv_iinc (v := xi + 1) (lv' := [(2, .int (xi + 1)), (0, .ref (ad 0)), (1, .int t)]) hx hb dX2_read_35 hl (k := 2) rfl (by rfl) (by decide) rfl (fun ls hl => ?_)
          refine lv_goto (tgt := 2) hx hb dX2_read_38 (by decide) ?_
          exact ih (i + 1) (xi + 1) _ ws2 H locs ls (by omega) (by omega) (by rw [exi]; exact nI_1 i) M (inv_lo hA1 (by rw [z36 (mt_l T h) (nge (M := 36) rfl exi (by decide) c16 (by omega))]; rfl)) hP hD hS (lv_sub hl [1, 2, 0] rfl)
        · have q36 := nlt (M := 36) rfl exi (by decide) c16 (by omega)
          refine lv_aload_n hx hb dX2_read_19 rfl (lv_at hl 0 rfl) ?_
          refine va_get (D := D) (ci := ciM) (v := .ref (ad 2)) (C := RX2) (T := TX2) (N := 8) hx hb hts inM hown hK hP 10 (md_a0 M) rfl 1 (by decide) (hts _ (inT mw_48)) (fun _ h9 => h9) rfl dX2_read_20 ?_
          refine lv_bipush (v := 40) hx hb dX2_read_23 (by decide) ?_
          refine lv_iload_n hx hb dX2_read_25 rfl (lv_at hl 1 rfl) ?_
          refine lv_imul hx hb dX2_read_26 ?_
          refine lv_iload_n hx hb dX2_read_27 rfl (lv_at hl 2 rfl) ?_
          refine lv_iadd hx hb dX2_read_28 ?_
          refine ia_ld hx hb hK hP (md_a2 M) (md_t1 M) (ix40 h exi) (lt160 h (show i < 40 by omega)) (by decide) dX2_read_29 ?_
          refine lv_goto (tgt := 34) hx hb dX2_read_30 (by decide) ?_
          refine ia_st (x := tf (40 * t.toNatClampNeg + i)) hx hb hK hP hD hS (md_a4 M) (md_t3 M) exi hi8 (by decide) dX2_read_34 (fun ws2 H locs hws2 hP hD hS => ?_)
          have M := md_sfa M hws2
          refine lv_iinc (v := xi + 1) (lv' := [(2, .int (xi + 1)), (0, .ref (ad 0)), (1, .int t)]) hx hb dX2_read_35 hl (k := 2) rfl (by rfl) (by decide) rfl (fun ls hl => ?_)
          refine lv_goto (tgt := 2) hx hb dX2_read_38 (by decide) ?_
          exact ih (i + 1) (xi + 1) _ ws2 H locs ls (by omega) (by omega) (by rw [exi]; exact nI_1 i) M (inv_lo hA1 (mt_d T h q36)) hP hD hS (lv_sub hl [1, 2, 0] rfl)
  refine lv_iconst (v := 0) hx hb dX2_read_0 (by decide) ?_
  refine lv_istore_n (lv' := [(2, .int 0), (0, .ref (ad 0)), (1, .int t)]) hx hb dX2_read_1 rfl hl (by decide) rfl (fun ls hl => ?_)
  exact loop 81 0 0 fa ws s.heap [] ls (by omega) (by omega) nI_0.symm M (fun j hj => absurd hj (by omega)) hP hD hS (lv_sub hl [1, 2, 0] rfl)
set_option maxHeartbeats 4000000 in
set_option maxRecDepth 100000 in
theorem cM_keep (l : Launch) (D : va_G) {tys : xT} {ws : va_W} {sz : Nat} {w0 : va_W} {ad : Nat → Nat} {cB : Nat → ClassId} {rf : Nat → Int64} {tf bf fa fb fc fr : Nat → Int32} {ng : Int32} (M : md w0 ws tys ad cB rf tf bf fa fb fc fr ng) {tv : Nat → Int} (T : mt tf bf tv) {x : Nat} (hda : dg fa x) (hxl : x < 10 ^ 80) (hng : ng = 0 ∨ ng = 1) {t : Int32} (h : okT t) : xM l yX2_keep (.code yX2_keep cX2_keep 4 (some .int) :: mdT) ({ frames := 1, cells := 0, slots := 0, locals := 22 }) D tys ws sz [.ref (ad 0), .int t] (xQi D tys (fun a w => (∃ tf1 bf1, md w0 w tys ad cB rf tf1 bf1 fa fb fc fr ng ∧ mt tf1 bf1 (sp_kT (rf, tv) t (sv ng x)).2.2) ∧ a = (sp_kT (rf, tv) t (sv ng x)).1)) 0 0 := by
  refine xb_m (cc := cX2_keep) (maxL := 4) (ret := (some .int)) (by decide) rfl (Nat.le_of_ble_eq_true rfl) ?_
  intro p e s m below meth c A ls hx hb hr hml hown hts hlocks hnm hA hP hK hD hS hl
  have hl : lv_has ls 4 [(0, .ref (ad 0)), (1, .int t)] := hl
  have hown : s.vm.findClass RX2 = some m.cls := hown
  have loop2 : ∀ (n i : Nat) (xi : Int32) (ti : Nat → Int32) (ws1 : va_W) (H : Heap) (locs : List Loc) (ls : Array Slot), x < 10 ^ 36 → i ≤ 36 → 36 < i + n → xi = nI i → md w0 ws1 tys ad cB rf ti bf fa fb fc fr ng → (∀ k, k < i → ti (40 * t.toNatClampNeg + k) = nI (x / 10 ^ k % 10)) → (∀ q, (q < 40 * t.toNatClampNeg ∨ 40 * t.toNatClampNeg + i ≤ q) → ti q = tf q) → va_P D vwCl ws1 H → va_D A ws1 → va_S A s.heap H locs → lv_has ls 4 [(0, .ref (ad 0)), (1, .int t), (3, .int xi)] → W p l e ({ frames := 1, cells := 0, slots := 0, locals := 22 }) s m [.ref (ad 0), .int t].toArray below meth c H locs 0 0 (MQ below (xQi D tys (fun a w => (∃ tf1 bf1, md w0 w tys ad cB rf tf1 bf1 fa fb fc fr ng ∧ mt tf1 bf1 (sp_kT (rf, tv) t (sv ng x)).2.2) ∧ a = (sp_kT (rf, tv) t (sv ng x)).1) A) [.ref (ad 0), .int t].toArray s 0 0 A) (F0 m 55 ls []) := by
    intro n
    induction n with
    | zero =>
      intro i xi ti ws1 H locs ls hx36 h1 h2
      omega
    | succ n ih =>
      intro i xi ti ws1 H locs ls hx36 h1 h2 exi M hT1 hT2 hP hD hS hl
      refine lv_iload_n hx hb dX2_keep_55 rfl (lv_at hl 2 rfl) ?_
      refine lv_bipush (v := 36) hx hb dX2_keep_56 (by decide) ?_
      refine lv_icmp_ge (tgt := 84) hx hb dX2_keep_58 (by decide) (fun c58 => ?_) (fun c58 => ?_)
      · have q36 := nge (M := 36) rfl exi (by decide) c58 (by omega)
        have e36 : i = 36 := by omega
        subst e36
        have hp := p36
        refine lv_aload_n hx hb dX2_keep_84 rfl (lv_at hl 0 rfl) ?_
        refine va_get (D := D) (ci := ciM) (v := .ref (ad 3)) (C := RX2) (T := TX2) (N := 8) hx hb hts inM hown hK hP 10 (md_a0 M) rfl 2 (by decide) (hts _ (inT mw_49)) (fun _ h9 => h9) rfl dX2_keep_85 ?_
        refine lv_iload_n hx hb dX2_keep_88 rfl (lv_at hl 1 rfl) ?_
        refine lv_aload_n hx hb dX2_keep_89 rfl (lv_at hl 0 rfl) ?_
        refine va_get (D := D) (ci := ciM) (v := .int ng) (C := RX2) (T := TX2) (N := 8) hx hb hts inM hown hK hP 10 (md_a0 M) rfl 7 (by decide) (hts _ (inT mw_10)) (fun _ h9 => h9) rfl dX2_keep_90 ?_
        refine lv_if_eq (tgt := 110) hx hb dX2_keep_93 (by decide) (fun c93 => ?_) (fun c93 => ?_)
        · refine lv_iconst (v := 0) hx hb dX2_keep_110 (by decide) ?_
          refine md_zst hx hb hK hP hD hS M h (Or.inl rfl) dX2_keep_111 (fun ws2 H locs M hP hD hS => ?_)
          refine lv_iconst (v := 0) hx hb dX2_keep_112 (by decide) ?_
          exact xb_ir hx hb hr hlocks hP hK hD hS dX2_keep_113 (by have es := sv_0 (x := x) c93; refine ⟨⟨_, _, M, ?_⟩, ?_⟩; rw [sp_kT, if_neg (by omega), if_neg (by omega)]; exact mt_up T h hx36 hT1 hT2 (by rw [if_neg (by omega)]); rw [sp_kT, if_neg (by omega), if_neg (by omega)])
        · refine lv_aload_n hx hb dX2_keep_96 rfl (lv_at hl 0 rfl) ?_
          refine va_get (D := D) (ci := ciM) (v := .ref (ad 4)) (C := RX2) (T := TX2) (N := 8) hx hb hts inM hown hK hP 10 (md_a0 M) rfl 3 (by decide) (hts _ (inT mw_7)) (fun _ h9 => h9) rfl dX2_keep_97 ?_
          refine xb_ri (va_runS (As := [.ref (ad 4)]) (rest := [.int t, .ref (ad 3)]) ⟨hx, hb, hml, hown, hts⟩ (cM_isn l D (md_a4 M) (md_t3 M) hda hxl) (va_cwS 1 hts (gM_S 85 yX2_isNothing (.code yX2_isNothing cX2_isNothing 3 (some .boolean)) (by decide +kernel) mw_69) rfl rfl rfl (by decide +kernel) ⟨Nat.le_of_ble_eq_true rfl, Nat.le_of_ble_eq_true rfl⟩) (xb_ps rfl hP hK hD) rfl rfl hl.1 rfl (lv_room (Nat.le_of_ble_eq_true rfl)) dX2_keep_100 ⟨Nat.le_of_ble_eq_true rfl, Nat.le_of_ble_eq_true rfl⟩) hD hS hA (fun r100 ws2 H locs hws2 hP hD hS => ?_)
          obtain ⟨hr100, rfl⟩ := hws2
          refine lv_if_ne (tgt := 110) hx hb dX2_keep_103 (by decide) (fun c103 => ?_) (fun c103 => ?_)
          · have c103 := bz_1 hr100 c103
            refine lv_iconst (v := 0) hx hb dX2_keep_110 (by decide) ?_
            refine md_zst hx hb hK hP hD hS M h (Or.inl rfl) dX2_keep_111 (fun ws3 H locs M hP hD hS => ?_)
            refine lv_iconst (v := 0) hx hb dX2_keep_112 (by decide) ?_
            exact xb_ir hx hb hr hlocks hP hK hD hS dX2_keep_113 (by have es := sv_1 (x := x) (n01 hng c93); refine ⟨⟨_, _, M, ?_⟩, ?_⟩; rw [sp_kT, if_neg (by omega), if_neg (by omega)]; exact mt_up T h hx36 hT1 hT2 (by rw [if_neg (by omega)]); rw [sp_kT, if_neg (by omega), if_neg (by omega)])
          · have c103 := bz_0 hr100 c103
            refine lv_iconst (v := 1) hx hb dX2_keep_106 (by decide) ?_
            refine lv_goto (tgt := 111) hx hb dX2_keep_107 (by decide) ?_
            refine md_zst hx hb hK hP hD hS M h (Or.inr rfl) dX2_keep_111 (fun ws3 H locs M hP hD hS => ?_)
            refine lv_iconst (v := 0) hx hb dX2_keep_112 (by decide) ?_
            exact xb_ir hx hb hr hlocks hP hK hD hS dX2_keep_113 (by have es := sv_1 (x := x) (n01 hng c93); refine ⟨⟨_, _, M, ?_⟩, ?_⟩; rw [sp_kT, if_neg (by omega), if_neg (by omega)]; exact mt_up T h hx36 hT1 hT2 (by rw [if_pos (by omega)]); rw [sp_kT, if_neg (by omega), if_neg (by omega)])
      · have hi36 := nlt (M := 36) rfl exi (by decide) c58 (by omega)
        refine lv_aload_n hx hb dX2_keep_61 rfl (lv_at hl 0 rfl) ?_
        refine va_get (D := D) (ci := ciM) (v := .ref (ad 2)) (C := RX2) (T := TX2) (N := 8) hx hb hts inM hown hK hP 10 (md_a0 M) rfl 1 (by decide) (hts _ (inT mw_48)) (fun _ h9 => h9) rfl dX2_keep_62 ?_
        refine lv_bipush (v := 40) hx hb dX2_keep_65 (by decide) ?_
        refine lv_iload_n hx hb dX2_keep_67 rfl (lv_at hl 1 rfl) ?_
        refine lv_imul hx hb dX2_keep_68 ?_
        refine lv_iload_n hx hb dX2_keep_69 rfl (lv_at hl 2 rfl) ?_
        refine lv_iadd hx hb dX2_keep_70 ?_
        refine lv_aload_n hx hb dX2_keep_71 rfl (lv_at hl 0 rfl) ?_
        refine va_get (D := D) (ci := ciM) (v := .ref (ad 4)) (C := RX2) (T := TX2) (N := 8) hx hb hts inM hown hK hP 10 (md_a0 M) rfl 3 (by decide) (hts _ (inT mw_7)) (fun _ h9 => h9) rfl dX2_keep_72 ?_
        refine lv_iload_n hx hb dX2_keep_75 rfl (lv_at hl 2 rfl) ?_
        refine ia_ld hx hb hK hP (md_a4 M) (md_t3 M) exi (show i < 80 by omega) (by decide) dX2_keep_76 ?_
        refine ia_st (x := fa i) hx hb hK hP hD hS (md_a2 M) (md_t1 M) (ix40 h exi) (lt160 h (show i < 40 by omega)) (by decide) dX2_keep_77 (fun ws2 H locs hws2 hP hD hS => ?_)
        have M := md_stf M hws2
        refine lv_iinc (v := xi + 1) (lv' := [(3, .int (xi + 1)), (0, .ref (ad 0)), (1, .int t)]) hx hb dX2_keep_78 hl (k := 2) rfl (by rfl) (by decide) rfl (fun ls hl => ?_)
        refine lv_goto (tgt := 55) hx hb dX2_keep_81 (by decide) ?_
        exact ih (i + 1) (xi + 1) _ ws2 H locs ls hx36 (by omega) (by omega) (by rw [exi]; exact nI_1 i) M (tJ1 hT1 (hda i (by omega))) (tJ2 hT2) hP hD hS (lv_sub hl [1, 2, 0] rfl)
  have loop1 : ∀ (n i : Nat) (xi x2 : Int32) (ls : Array Slot), 36 ≤ i → i ≤ 80 → 80 < i + n → xi = nI i → x2 = (if 10 ^ 36 ≤ x % 10 ^ i then 1 else 0) → lv_has ls 4 [(0, .ref (ad 0)), (1, .int t), (2, .int x2), (3, .int xi)] → W p l e ({ frames := 1, cells := 0, slots := 0, locals := 22 }) s m [.ref (ad 0), .int t].toArray below meth c s.heap [] 0 0 (MQ below (xQi D tys (fun a w => (∃ tf1 bf1, md w0 w tys ad cB rf tf1 bf1 fa fb fc fr ng ∧ mt tf1 bf1 (sp_kT (rf, tv) t (sv ng x)).2.2) ∧ a = (sp_kT (rf, tv) t (sv ng x)).1) A) [.ref (ad 0), .int t].toArray s 0 0 A) (F0 m 5 ls []) := by
    intro n
    induction n with
    | zero =>
      intro i xi x2 ls h0 h1 h2
      omega
    | succ n ih =>
      intro i xi x2 ls h0 h1 h2 exi ex2 hl
      refine lv_iload_n hx hb dX2_keep_5 rfl (lv_at hl 3 rfl) ?_
      refine lv_bipush (v := 80) hx hb dX2_keep_6 (by decide) ?_
      refine lv_icmp_ge (tgt := 36) hx hb dX2_keep_8 (by decide) (fun c8 => ?_) (fun c8 => ?_)
      · have q80 := nge (M := 80) rfl exi (by decide) c8 (by omega)
        have e80 : i = 80 := by omega
        subst e80
        rw [Nat.mod_eq_of_lt hxl] at ex2
        have hp := p36
        refine lv_iload_n hx hb dX2_keep_36 rfl (lv_at hl 2 rfl) ?_
        refine lv_if_eq (tgt := 53) hx hb dX2_keep_37 (by decide) (fun c37 => ?_) (fun c37 => ?_)
        · have c37 := bz_0 ex2 c37
          refine lv_iconst (v := 0) hx hb dX2_keep_53 (by decide) ?_
          refine lv_istore_n (lv' := [(3, .int 0), (0, .ref (ad 0)), (1, .int t), (2, .int x2)]) hx hb dX2_keep_54 rfl hl (by decide) rfl (fun ls hl => ?_)
          exact loop2 37 0 0 tf ws s.heap [] ls (Nat.lt_of_not_le c37) (by omega) (by omega) nI_0.symm M (fun k hk => absurd hk (by omega)) (fun q _ => rfl) hP hD hS (lv_sub hl [1, 2, 0] rfl)
        · have c37 := bz_1 ex2 c37
          refine lv_aload_n hx hb dX2_keep_40 rfl (lv_at hl 0 rfl) ?_
          refine va_get (D := D) (ci := ciM) (v := .int ng) (C := RX2) (T := TX2) (N := 8) hx hb hts inM hown hK hP 10 (md_a0 M) rfl 7 (by decide) (hts _ (inT mw_10)) (fun _ h9 => h9) rfl dX2_keep_41 ?_
          refine lv_if_eq (tgt := 51) hx hb dX2_keep_44 (by decide) (fun c44 => ?_) (fun c44 => ?_)
          · refine lv_iconst (v := 1) hx hb dX2_keep_51 (by decide) ?_
            exact xb_ir hx hb hr hlocks hP hK hD hS dX2_keep_52 (by have es := sv_0 (x := x) c44; rw [sp_kT, if_pos (by omega)]; exact ⟨⟨_, _, M, T⟩, rfl⟩)
          · refine lv_iconst (v := 2) hx hb dX2_keep_47 (by decide) ?_
            refine lv_goto (tgt := 52) hx hb dX2_keep_48 (by decide) ?_
            exact xb_ir hx hb hr hlocks hP hK hD hS dX2_keep_52 (by have es := sv_1 (x := x) (n01 hng c44); rw [sp_kT, if_neg (by omega), if_pos (by omega)]; exact ⟨⟨_, _, M, T⟩, rfl⟩)
      · have hi8 := nlt (M := 80) rfl exi (by decide) c8 (by omega)
        refine lv_iload_n hx hb dX2_keep_11 rfl (lv_at hl 2 rfl) ?_
        refine lv_if_ne (tgt := 24) hx hb dX2_keep_12 (by decide) (fun c12 => ?_) (fun c12 => ?_)
        · have c12 := bz_1 ex2 c12
          refine lv_iconst (v := 1) hx hb dX2_keep_24 (by decide) ?_
          refine lv_goto (tgt := 29) hx hb dX2_keep_25 (by decide) ?_
          refine lv_istore_n (lv' := [(2, .int 1), (0, .ref (ad 0)), (1, .int t), (3, .int xi)]) hx hb dX2_keep_29 rfl hl (by decide) rfl (fun ls hl => ?_)
          refine lv_iinc (v := xi + 1) (lv' := [(3, .int (xi + 1)), (2, .int 1), (0, .ref (ad 0)), (1, .int t)]) hx hb dX2_keep_30 hl (k := 3) rfl (by rfl) (by decide) rfl (fun ls hl => ?_)
          refine lv_goto (tgt := 5) hx hb dX2_keep_33 (by decide) ?_
          exact ih (i + 1) (xi + 1) 1 ls (by omega) (by omega) (by omega) (by rw [exi]; exact nI_1 i) (by rw [if_pos (wd_1 h0 c12)]) (lv_sub hl [2, 3, 1, 0] rfl)
        · have c12 := bz_0 ex2 c12
          refine lv_aload_n hx hb dX2_keep_15 rfl (lv_at hl 0 rfl) ?_
          refine va_get (D := D) (ci := ciM) (v := .ref (ad 4)) (C := RX2) (T := TX2) (N := 8) hx hb hts inM hown hK hP 10 (md_a0 M) rfl 3 (by decide) (hts _ (inT mw_7)) (fun _ h9 => h9) rfl dX2_keep_16 ?_
          refine lv_iload_n hx hb dX2_keep_19 rfl (lv_at hl 3 rfl) ?_
          refine ia_ld hx hb hK hP (md_a4 M) (md_t3 M) exi hi8 (by decide) dX2_keep_20 ?_
          refine lv_if_le (tgt := 28) hx hb dX2_keep_21 (by decide) (fun c21 => ?_) (fun c21 => ?_)
          · refine lv_iconst (v := 0) hx hb dX2_keep_28 (by decide) ?_
            refine lv_istore_n (lv' := [(2, .int 0), (0, .ref (ad 0)), (1, .int t), (3, .int xi)]) hx hb dX2_keep_29 rfl hl (by decide) rfl (fun ls hl => ?_)
            refine lv_iinc (v := xi + 1) (lv' := [(3, .int (xi + 1)), (2, .int 0), (0, .ref (ad 0)), (1, .int t)]) hx hb dX2_keep_30 hl (k := 3) rfl (by rfl) (by decide) rfl (fun ls hl => ?_)
            refine lv_goto (tgt := 5) hx hb dX2_keep_33 (by decide) ?_
            exact ih (i + 1) (xi + 1) 0 ls (by omega) (by omega) (by omega) (by rw [exi]; exact nI_1 i) (by rw [hda i hi8, nI_le0 (d9 x i)] at c21; rw [if_neg (wd_3 c12 c21)]) (lv_sub hl [2, 3, 1, 0] rfl)
          · refine lv_iconst (v := 1) hx hb dX2_keep_24 (by decide) ?_
            refine lv_goto (tgt := 29) hx hb dX2_keep_25 (by decide) ?_
            refine lv_istore_n (lv' := [(2, .int 1), (0, .ref (ad 0)), (1, .int t), (3, .int xi)]) hx hb dX2_keep_29 rfl hl (by decide) rfl (fun ls hl => ?_)
            refine lv_iinc (v := xi + 1) (lv' := [(3, .int (xi + 1)), (2, .int 1), (0, .ref (ad 0)), (1, .int t)]) hx hb dX2_keep_30 hl (k := 3) rfl (by rfl) (by decide) rfl (fun ls hl => ?_)
            refine lv_goto (tgt := 5) hx hb dX2_keep_33 (by decide) ?_
            exact ih (i + 1) (xi + 1) 1 ls (by omega) (by omega) (by omega) (by rw [exi]; exact nI_1 i) (by rw [hda i hi8, nI_le0 (d9 x i)] at c21; rw [if_pos (wd_2 h0 c21)]) (lv_sub hl [2, 3, 1, 0] rfl)
  refine lv_iconst (v := 0) hx hb dX2_keep_0 (by decide) ?_
  refine lv_istore_n (lv' := [(2, .int 0), (0, .ref (ad 0)), (1, .int t)]) hx hb dX2_keep_1 rfl hl (by decide) rfl (fun ls hl => ?_)
  refine lv_bipush (v := 36) hx hb dX2_keep_2 (by decide) ?_
  refine lv_istore_n (lv' := [(3, .int 36), (2, .int 0), (0, .ref (ad 0)), (1, .int t)]) hx hb dX2_keep_4 rfl hl (by decide) rfl (fun ls hl => ?_)
  exact loop1 81 36 36 0 ls (by omega) (by omega) (by omega) rfl (by rw [if_neg (Nat.not_le.mpr (Nat.mod_lt _ (p10 36)))]) (lv_sub hl [2, 3, 1, 0] rfl)
set_option maxHeartbeats 4000000 in
set_option maxRecDepth 100000 in
theorem cM_take (l : Launch) (D : va_G) {tys : xT} {ws : va_W} {sz : Nat} {w0 : va_W} {ad : Nat → Nat} {cB : Nat → ClassId} {rf : Nat → Int64} {tf bf fa fb fc fr : Nat → Int32} {ng : Int32} (M : md w0 ws tys ad cB rf tf bf fa fb fc fr ng) {tv : Nat → Int} (T : mt tf bf tv) (t r : Int32) : xM l yX2_take (.code yX2_take cX2_take 3 (some .int) :: mdT) ({ frames := 2, cells := 0, slots := 0, locals := 50 }) D tys ws sz [.ref (ad 0), .int t, .int r] (xQi D tys (fun a w => mdS w0 w tys ad cB (sp_take (rf, tv) t r).2 ∧ a = (sp_take (rf, tv) t r).1)) 0 0 := by
  refine xb_m (cc := cX2_take) (maxL := 3) (ret := (some .int)) (by decide) rfl (Nat.le_of_ble_eq_true rfl) ?_
  intro p e s m below meth c A ls hx hb hr hml hown hts hlocks hnm hA hP hK hD hS hl
  have hl : lv_has ls 3 [(0, .ref (ad 0)), (1, .int t), (2, .int r)] := hl
  have hown : s.vm.findClass RX2 = some m.cls := hown
  refine lv_iload_n hx hb dX2_take_0 rfl (lv_at hl 1 rfl) ?_
  refine xb_ri (va_runS (As := [.int t]) (rest := []) ⟨hx, hb, hml, hown, hts⟩ (cM_isT l D t) (va_cwS 1 hts (gM_S 89 yX2_isTally (.code yX2_isTally cX2_isTally 1 (some .boolean)) (by decide +kernel) mw_71) rfl rfl rfl (by decide +kernel) ⟨Nat.le_of_ble_eq_true rfl, Nat.le_of_ble_eq_true rfl⟩) (xb_ps rfl hP hK hD) rfl rfl hl.1 rfl (lv_room (Nat.le_of_ble_eq_true rfl)) dX2_take_1 ⟨Nat.le_of_ble_eq_true rfl, Nat.le_of_ble_eq_true rfl⟩) hD hS hA (fun r1 ws1 H locs hws1 hP hD hS => ?_)
  obtain ⟨hr1, rfl⟩ := hws1
  refine lv_if_eq (tgt := 14) hx hb dX2_take_4 (by decide) (fun c4 => ?_) (fun c4 => ?_)
  · have c4 := bz_0 hr1 c4
    refine lv_iconst (v := (-1)) hx hb dX2_take_14 (by decide) ?_
    exact xb_ir hx hb hr hlocks hP hK hD hS dX2_take_15 (fin_no M T (by rw [sp_take, if_neg (fun q => c4 q.1)]))
  · have c4 := bz_1 hr1 c4
    refine lv_iload_n hx hb dX2_take_7 rfl (lv_at hl 2 rfl) ?_
    refine xb_ri (va_runS (As := [.int r]) (rest := []) ⟨hx, hb, hml, hown, hts⟩ (cM_isR l D r) (va_cwS 1 hts (gM_S 33 yX2_isRegister (.code yX2_isRegister cX2_isRegister 1 (some .boolean)) (by decide +kernel) mw_52) rfl rfl rfl (by decide +kernel) ⟨Nat.le_of_ble_eq_true rfl, Nat.le_of_ble_eq_true rfl⟩) (xb_ps rfl hP hK hD) rfl rfl hl.1 rfl (lv_room (Nat.le_of_ble_eq_true rfl)) dX2_take_8 ⟨Nat.le_of_ble_eq_true rfl, Nat.le_of_ble_eq_true rfl⟩) hD hS hA (fun r8 ws2 H locs hws2 hP hD hS => ?_)
    obtain ⟨hr8, rfl⟩ := hws2
    refine lv_if_ne (tgt := 16) hx hb dX2_take_11 (by decide) (fun c11 => ?_) (fun c11 => ?_)
    · have c11 := bz_1 hr8 c11
      refine lv_aload_n hx hb dX2_take_16 rfl (lv_at hl 0 rfl) ?_
      refine lv_iload_n hx hb dX2_take_17 rfl (lv_at hl 1 rfl) ?_
      refine xb_rv (va_runV (As := [.int t]) (rest := []) ⟨hx, hb, hml, hown, hts⟩ (cM_read l D M T c4) (cwV 1 hts (gM_V 92 yX2_read (.code yX2_read cX2_read 3 none) (by decide +kernel) mw_72) rfl rfl rfl (by decide +kernel) ⟨Nat.le_of_ble_eq_true rfl, Nat.le_of_ble_eq_true rfl⟩) (xb_pv hP hK hD rfl rfl (md_a0 M)) rfl rfl hl.1 rfl (lv_room (Nat.le_of_ble_eq_true rfl)) dX2_take_18 ⟨Nat.le_of_ble_eq_true rfl, Nat.le_of_ble_eq_true rfl⟩) hD hS hA (fun ws3 H locs hws3 hP hD hS => ?_)
      obtain ⟨fa_18, M, hdfa_18⟩ := hws3
      refine lv_aload_n hx hb dX2_take_21 rfl (lv_at hl 0 rfl) ?_
      refine lv_iload_n hx hb dX2_take_22 rfl (lv_at hl 2 rfl) ?_
      refine xb_ri (va_runV (As := [.int r]) (rest := []) ⟨hx, hb, hml, hown, hts⟩ (cM_store l D M tv hdfa_18 (b80 (mt_l T c4)) (mt_01 T c4) c11) (cwV 1 hts (gM_V 71 yX2_store (.code yX2_store cX2_store 5 (some .int)) (by decide +kernel) mw_62) rfl rfl rfl (by decide +kernel) ⟨Nat.le_of_ble_eq_true rfl, Nat.le_of_ble_eq_true rfl⟩) (xb_pv hP hK hD rfl rfl (md_a0 M)) rfl rfl hl.1 rfl (lv_room (Nat.le_of_ble_eq_true rfl)) dX2_take_23 ⟨Nat.le_of_ble_eq_true rfl, Nat.le_of_ble_eq_true rfl⟩) hD hS hA (fun r23 ws4 H locs hws4 hP hD hS => ?_)
      exact xb_ir hx hb hr hlocks hP hK hD hS dX2_take_26 (fin_kR T hws4 (take_eq ⟨c4, c11⟩ (mt_s T c4)))
    · have c11 := bz_0 hr8 c11
      refine lv_iconst (v := (-1)) hx hb dX2_take_14 (by decide) ?_
      exact xb_ir hx hb hr hlocks hP hK hD hS dX2_take_15 (fin_no M T (by rw [sp_take, if_neg (fun q => c11 q.2)]))
set_option maxHeartbeats 4000000 in
set_option maxRecDepth 100000 in
theorem cM_merge (l : Launch) (D : va_G) {tys : xT} {ws : va_W} {sz : Nat} {w0 : va_W} {ad : Nat → Nat} {cB : Nat → ClassId} {rf : Nat → Int64} {tf bf fa fb fc fr : Nat → Int32} {ng : Int32} (M : md w0 ws tys ad cB rf tf bf fa fb fc fr ng) {tv : Nat → Int} (T : mt tf bf tv) (t u : Int32) : xM l yX2_merge (.code yX2_merge cX2_merge 3 (some .int) :: mdT) ({ frames := 2, cells := 0, slots := 0, locals := 45 }) D tys ws sz [.ref (ad 0), .int t, .int u] (xQi D tys (fun a w => mdS w0 w tys ad cB (sp_merge (rf, tv) t u).2 ∧ a = (sp_merge (rf, tv) t u).1)) 0 0 := by
  refine xb_m (cc := cX2_merge) (maxL := 3) (ret := (some .int)) (by decide) rfl (Nat.le_of_ble_eq_true rfl) ?_
  intro p e s m below meth c A ls hx hb hr hml hown hts hlocks hnm hA hP hK hD hS hl
  have hl : lv_has ls 3 [(0, .ref (ad 0)), (1, .int t), (2, .int u)] := hl
  have hown : s.vm.findClass RX2 = some m.cls := hown
  refine lv_iload_n hx hb dX2_merge_0 rfl (lv_at hl 1 rfl) ?_
  refine xb_ri (va_runS (As := [.int t]) (rest := []) ⟨hx, hb, hml, hown, hts⟩ (cM_isT l D t) (va_cwS 1 hts (gM_S 89 yX2_isTally (.code yX2_isTally cX2_isTally 1 (some .boolean)) (by decide +kernel) mw_71) rfl rfl rfl (by decide +kernel) ⟨Nat.le_of_ble_eq_true rfl, Nat.le_of_ble_eq_true rfl⟩) (xb_ps rfl hP hK hD) rfl rfl hl.1 rfl (lv_room (Nat.le_of_ble_eq_true rfl)) dX2_merge_1 ⟨Nat.le_of_ble_eq_true rfl, Nat.le_of_ble_eq_true rfl⟩) hD hS hA (fun r1 ws1 H locs hws1 hP hD hS => ?_)
  obtain ⟨hr1, rfl⟩ := hws1
  refine lv_if_eq (tgt := 14) hx hb dX2_merge_4 (by decide) (fun c4 => ?_) (fun c4 => ?_)
  · have c4 := bz_0 hr1 c4
    refine lv_iconst (v := (-1)) hx hb dX2_merge_14 (by decide) ?_
    exact xb_ir hx hb hr hlocks hP hK hD hS dX2_merge_15 (fin_no M T (by rw [sp_merge, if_neg (fun q => c4 q.1)]))
  · have c4 := bz_1 hr1 c4
    refine lv_iload_n hx hb dX2_merge_7 rfl (lv_at hl 2 rfl) ?_
    refine xb_ri (va_runS (As := [.int u]) (rest := []) ⟨hx, hb, hml, hown, hts⟩ (cM_isT l D u) (va_cwS 1 hts (gM_S 89 yX2_isTally (.code yX2_isTally cX2_isTally 1 (some .boolean)) (by decide +kernel) mw_71) rfl rfl rfl (by decide +kernel) ⟨Nat.le_of_ble_eq_true rfl, Nat.le_of_ble_eq_true rfl⟩) (xb_ps rfl hP hK hD) rfl rfl hl.1 rfl (lv_room (Nat.le_of_ble_eq_true rfl)) dX2_merge_8 ⟨Nat.le_of_ble_eq_true rfl, Nat.le_of_ble_eq_true rfl⟩) hD hS hA (fun r8 ws2 H locs hws2 hP hD hS => ?_)
    obtain ⟨hr8, rfl⟩ := hws2
    refine lv_if_ne (tgt := 16) hx hb dX2_merge_11 (by decide) (fun c11 => ?_) (fun c11 => ?_)
    · have c11 := bz_1 hr8 c11
      refine lv_aload_n hx hb dX2_merge_16 rfl (lv_at hl 0 rfl) ?_
      refine lv_iload_n hx hb dX2_merge_17 rfl (lv_at hl 2 rfl) ?_
      refine xb_rv (va_runV (As := [.int u]) (rest := []) ⟨hx, hb, hml, hown, hts⟩ (cM_read l D M T c11) (cwV 1 hts (gM_V 92 yX2_read (.code yX2_read cX2_read 3 none) (by decide +kernel) mw_72) rfl rfl rfl (by decide +kernel) ⟨Nat.le_of_ble_eq_true rfl, Nat.le_of_ble_eq_true rfl⟩) (xb_pv hP hK hD rfl rfl (md_a0 M)) rfl rfl hl.1 rfl (lv_room (Nat.le_of_ble_eq_true rfl)) dX2_merge_18 ⟨Nat.le_of_ble_eq_true rfl, Nat.le_of_ble_eq_true rfl⟩) hD hS hA (fun ws3 H locs hws3 hP hD hS => ?_)
      obtain ⟨fa_18, M, hdfa_18⟩ := hws3
      refine lv_aload_n hx hb dX2_merge_21 rfl (lv_at hl 0 rfl) ?_
      refine va_get (D := D) (ci := ciM) (v := .ref (ad 4)) (C := RX2) (T := TX2) (N := 8) hx hb hts inM hown hK hP 10 (md_a0 M) rfl 3 (by decide) (hts _ (inT mw_7)) (fun _ h9 => h9) rfl dX2_merge_22 ?_
      refine lv_aload_n hx hb dX2_merge_25 rfl (lv_at hl 0 rfl) ?_
      refine va_get (D := D) (ci := ciM) (v := .ref (ad 6)) (C := RX2) (T := TX2) (N := 8) hx hb hts inM hown hK hP 10 (md_a0 M) rfl 5 (by decide) (hts _ (inT mw_11)) (fun _ h9 => h9) rfl dX2_merge_26 ?_
      refine xb_rv (va_runS (As := [.ref (ad 4), .ref (ad 6)]) (rest := []) ⟨hx, hb, hml, hown, hts⟩ (cM_copy l D (md_a6 M) (md_t5 M) (md_a4 M) (md_t3 M) (by decide)) (va_cwS 2 hts (gM_S 43 yX2_copy (.code yX2_copy cX2_copy 3 none) (by decide +kernel) mw_61) rfl rfl rfl (by decide +kernel) ⟨Nat.le_of_ble_eq_true rfl, Nat.le_of_ble_eq_true rfl⟩) (xb_ps rfl hP hK hD) rfl rfl hl.1 rfl (lv_room (Nat.le_of_ble_eq_true rfl)) dX2_merge_29 ⟨Nat.le_of_ble_eq_true rfl, Nat.le_of_ble_eq_true rfl⟩) hD hS hA (fun ws4 H locs hws4 hP hD hS => ?_)
      obtain ⟨fc_29, hws4, hdfc_29⟩ := hws4
      have M := md_sfc M hws4
      have hdfc_29 : dg fc_29 ((tv u.toNatClampNeg).natAbs) := fun j hj => (hdfc_29 j hj).trans (hdfa_18 j hj)
      refine lv_aload_n hx hb dX2_merge_32 rfl (lv_at hl 0 rfl) ?_
      refine lv_iload_n hx hb dX2_merge_33 rfl (lv_at hl 1 rfl) ?_
      refine xb_rv (va_runV (As := [.int t]) (rest := []) ⟨hx, hb, hml, hown, hts⟩ (cM_read l D M T c4) (cwV 1 hts (gM_V 92 yX2_read (.code yX2_read cX2_read 3 none) (by decide +kernel) mw_72) rfl rfl rfl (by decide +kernel) ⟨Nat.le_of_ble_eq_true rfl, Nat.le_of_ble_eq_true rfl⟩) (xb_pv hP hK hD rfl rfl (md_a0 M)) rfl rfl hl.1 rfl (lv_room (Nat.le_of_ble_eq_true rfl)) dX2_merge_34 ⟨Nat.le_of_ble_eq_true rfl, Nat.le_of_ble_eq_true rfl⟩) hD hS hA (fun ws5 H locs hws5 hP hD hS => ?_)
      obtain ⟨fa_34, M, hdfa_34⟩ := hws5
      refine lv_aload_n hx hb dX2_merge_37 rfl (lv_at hl 0 rfl) ?_
      refine lv_aload_n hx hb dX2_merge_38 rfl (lv_at hl 0 rfl) ?_
      refine va_get (D := D) (ci := ciM) (v := .ref (ad 3)) (C := RX2) (T := TX2) (N := 8) hx hb hts inM hown hK hP 10 (md_a0 M) rfl 2 (by decide) (hts _ (inT mw_49)) (fun _ h9 => h9) rfl dX2_merge_39 ?_
      refine lv_iload_n hx hb dX2_merge_42 rfl (lv_at hl 2 rfl) ?_
      refine md_zld hx hb hK hP M c11 dX2_merge_43 ?_
      refine xb_rv (va_runV (As := [.int (bf u.toNatClampNeg)]) (rest := []) ⟨hx, hb, hml, hown, hts⟩ (cM_join l D M hdfa_34 hdfc_29 (a80 (b40 (mt_l T c4)) (b40 (mt_l T c11))) (lw := bf u.toNatClampNeg) (mt_01 T c11) (mt_01 T c4)) (cwV 1 hts (gM_V 67 yX2_join (.code yX2_join cX2_join 2 none) (by decide +kernel) mw_57) rfl rfl rfl (by decide +kernel) ⟨Nat.le_of_ble_eq_true rfl, Nat.le_of_ble_eq_true rfl⟩) (xb_pv hP hK hD rfl rfl (md_a0 M)) rfl rfl hl.1 rfl (lv_room (Nat.le_of_ble_eq_true rfl)) dX2_merge_44 ⟨Nat.le_of_ble_eq_true rfl, Nat.le_of_ble_eq_true rfl⟩) hD hS hA (fun ws6 H locs hws6 hP hD hS => ?_)
      obtain ⟨fa_44, fr_44, ng_44, z_44, M, hng_44, hdfa_44, hz_44, hs_44⟩ := hws6
      refine lv_aload_n hx hb dX2_merge_47 rfl (lv_at hl 0 rfl) ?_
      refine lv_iload_n hx hb dX2_merge_48 rfl (lv_at hl 1 rfl) ?_
      refine xb_ri (va_runV (As := [.int t]) (rest := []) ⟨hx, hb, hml, hown, hts⟩ (cM_keep l D M T hdfa_44 (Nat.lt_of_le_of_lt hz_44 (a80 (b40 (mt_l T c4)) (b40 (mt_l T c11)))) hng_44 c4) (cwV 1 hts (gM_V 96 yX2_keep (.code yX2_keep cX2_keep 4 (some .int)) (by decide +kernel) mw_73) rfl rfl rfl (by decide +kernel) ⟨Nat.le_of_ble_eq_true rfl, Nat.le_of_ble_eq_true rfl⟩) (xb_pv hP hK hD rfl rfl (md_a0 M)) rfl rfl hl.1 rfl (lv_room (Nat.le_of_ble_eq_true rfl)) dX2_merge_49 ⟨Nat.le_of_ble_eq_true rfl, Nat.le_of_ble_eq_true rfl⟩) hD hS hA (fun r49 ws7 H locs hws7 hP hD hS => ?_)
      exact xb_ir hx hb hr hlocks hP hK hD hS dX2_merge_52 (fin_kT hws7 (merge_eq ⟨c4, c11⟩ (by rw [hs_44, mt_s T c4, mt_s T c11])))
    · have c11 := bz_0 hr8 c11
      refine lv_iconst (v := (-1)) hx hb dX2_merge_14 (by decide) ?_
      exact xb_ir hx hb hr hlocks hP hK hD hS dX2_merge_15 (fin_no M T (by rw [sp_merge, if_neg (fun q => c11 q.2)]))
set_option maxHeartbeats 4000000 in
set_option maxRecDepth 100000 in
theorem cM_enter (l : Launch) (D : va_G) {tys : xT} {ws : va_W} {sz : Nat} {w0 : va_W} {ad : Nat → Nat} {cB : Nat → ClassId} {rf : Nat → Int64} {tf bf fa fb fc fr : Nat → Int32} {ng : Int32} (M : md w0 ws tys ad cB rf tf bf fa fb fc fr ng) {tv : Nat → Int} (T : mt tf bf tv) (t r : Int32) (v : Int64) : xM l yX2_enter (.code yX2_enter cX2_enter 5 (some .int) :: mdT) ({ frames := 2, cells := 0, slots := 0, locals := 46 }) D tys ws sz [.ref (ad 0), .int t, .int r, .long v] (xQi D tys (fun a w => mdS w0 w tys ad cB (sp_enter (rf, tv) t r v).2 ∧ a = (sp_enter (rf, tv) t r v).1)) 0 0 := by
  refine xb_m (cc := cX2_enter) (maxL := 5) (ret := (some .int)) (by decide) rfl (Nat.le_of_ble_eq_true rfl) ?_
  intro p e s m below meth c A ls hx hb hr hml hown hts hlocks hnm hA hP hK hD hS hl
  have hl : lv_has ls 5 [(0, .ref (ad 0)), (1, .int t), (2, .int r), (3, .long v)] := hl
  have hown : s.vm.findClass RX2 = some m.cls := hown
  refine lv_iload_n hx hb dX2_enter_0 rfl (lv_at hl 1 rfl) ?_
  refine xb_ri (va_runS (As := [.int t]) (rest := []) ⟨hx, hb, hml, hown, hts⟩ (cM_isT l D t) (va_cwS 1 hts (gM_S 89 yX2_isTally (.code yX2_isTally cX2_isTally 1 (some .boolean)) (by decide +kernel) mw_71) rfl rfl rfl (by decide +kernel) ⟨Nat.le_of_ble_eq_true rfl, Nat.le_of_ble_eq_true rfl⟩) (xb_ps rfl hP hK hD) rfl rfl hl.1 rfl (lv_room (Nat.le_of_ble_eq_true rfl)) dX2_enter_1 ⟨Nat.le_of_ble_eq_true rfl, Nat.le_of_ble_eq_true rfl⟩) hD hS hA (fun r1 ws1 H locs hws1 hP hD hS => ?_)
  obtain ⟨hr1, rfl⟩ := hws1
  refine lv_if_eq (tgt := 14) hx hb dX2_enter_4 (by decide) (fun c4 => ?_) (fun c4 => ?_)
  · have c4 := bz_0 hr1 c4
    refine lv_iconst (v := (-1)) hx hb dX2_enter_14 (by decide) ?_
    exact xb_ir hx hb hr hlocks hP hK hD hS dX2_enter_15 (fin_no M T (by rw [sp_enter, if_neg (fun q => c4 q.1)]))
  · have c4 := bz_1 hr1 c4
    refine lv_iload_n hx hb dX2_enter_7 rfl (lv_at hl 2 rfl) ?_
    refine xb_ri (va_runS (As := [.int r]) (rest := []) ⟨hx, hb, hml, hown, hts⟩ (cM_isR l D r) (va_cwS 1 hts (gM_S 33 yX2_isRegister (.code yX2_isRegister cX2_isRegister 1 (some .boolean)) (by decide +kernel) mw_52) rfl rfl rfl (by decide +kernel) ⟨Nat.le_of_ble_eq_true rfl, Nat.le_of_ble_eq_true rfl⟩) (xb_ps rfl hP hK hD) rfl rfl hl.1 rfl (lv_room (Nat.le_of_ble_eq_true rfl)) dX2_enter_8 ⟨Nat.le_of_ble_eq_true rfl, Nat.le_of_ble_eq_true rfl⟩) hD hS hA (fun r8 ws2 H locs hws2 hP hD hS => ?_)
    obtain ⟨hr8, rfl⟩ := hws2
    refine lv_if_ne (tgt := 16) hx hb dX2_enter_11 (by decide) (fun c11 => ?_) (fun c11 => ?_)
    · have c11 := bz_1 hr8 c11
      refine lv_aload_n hx hb dX2_enter_16 rfl (lv_at hl 0 rfl) ?_
      refine va_get (D := D) (ci := ciM) (v := .ref (ad 1)) (C := RX2) (T := TX2) (N := 8) hx hb hts inM hown hK hP 10 (md_a0 M) rfl 0 (by decide) (hts _ (inT mw_3)) (fun _ h9 => h9) rfl dX2_enter_17 ?_
      refine lv_iload_n hx hb dX2_enter_20 rfl (lv_at hl 2 rfl) ?_
      refine md_lld hx hb hK hP M c11 dX2_enter_21 ?_
      refine lv_aload_n hx hb dX2_enter_22 rfl (lv_at hl 0 rfl) ?_
      refine va_get (D := D) (ci := ciM) (v := .ref (ad 4)) (C := RX2) (T := TX2) (N := 8) hx hb hts inM hown hK hP 10 (md_a0 M) rfl 3 (by decide) (hts _ (inT mw_7)) (fun _ h9 => h9) rfl dX2_enter_23 ?_
      refine xb_rv (va_runS (As := [.long (rf r.toNatClampNeg), .ref (ad 4)]) (rest := []) ⟨hx, hb, hml, hown, hts⟩ (cM_write l D (md_a4 M) (md_t3 M) (rf r.toNatClampNeg)) (va_cwS 2 hts (gM_S 63 yX2_write (.code yX2_write cX2_write 7 none) (by decide +kernel) mw_56) rfl rfl rfl (by decide +kernel) ⟨Nat.le_of_ble_eq_true rfl, Nat.le_of_ble_eq_true rfl⟩) (xb_ps rfl hP hK hD) rfl rfl hl.1 rfl (lv_room (Nat.le_of_ble_eq_true rfl)) dX2_enter_26 ⟨Nat.le_of_ble_eq_true rfl, Nat.le_of_ble_eq_true rfl⟩) hD hS hA (fun ws3 H locs hws3 hP hD hS => ?_)
      obtain ⟨fa_26, hws3, hdfa_26⟩ := hws3
      have M := md_sfa M hws3
      have hdfa_26 : dg fa_26 ((rf r.toNatClampNeg).toInt.natAbs) := hdfa_26
      refine lv_lload_n hx hb dX2_enter_29 rfl (lv_at hl 3 rfl) ?_
      refine lv_aload_n hx hb dX2_enter_30 rfl (lv_at hl 0 rfl) ?_
      refine va_get (D := D) (ci := ciM) (v := .ref (ad 5)) (C := RX2) (T := TX2) (N := 8) hx hb hts inM hown hK hP 10 (md_a0 M) rfl 4 (by decide) (hts _ (inT mw_29)) (fun _ h9 => h9) rfl dX2_enter_31 ?_
      refine xb_rv (va_runS (As := [.long v, .ref (ad 5)]) (rest := []) ⟨hx, hb, hml, hown, hts⟩ (cM_write l D (md_a5 M) (md_t4 M) v) (va_cwS 2 hts (gM_S 63 yX2_write (.code yX2_write cX2_write 7 none) (by decide +kernel) mw_56) rfl rfl rfl (by decide +kernel) ⟨Nat.le_of_ble_eq_true rfl, Nat.le_of_ble_eq_true rfl⟩) (xb_ps rfl hP hK hD) rfl rfl hl.1 rfl (lv_room (Nat.le_of_ble_eq_true rfl)) dX2_enter_34 ⟨Nat.le_of_ble_eq_true rfl, Nat.le_of_ble_eq_true rfl⟩) hD hS hA (fun ws4 H locs hws4 hP hD hS => ?_)
      obtain ⟨fb_34, hws4, hdfb_34⟩ := hws4
      have M := md_sfb M hws4
      have hdfb_34 : dg fb_34 (v.toInt.natAbs) := hdfb_34
      refine lv_aload_n hx hb dX2_enter_37 rfl (lv_at hl 0 rfl) ?_
      refine xb_rv (va_runV (As := []) (rest := []) ⟨hx, hb, hml, hown, hts⟩ (cM_mul l D M hdfa_26 hdfb_34 (abs40 _) (abs40 _)) (cwV 0 hts (gM_V 79 yX2_multiply (.code yX2_multiply cX2_multiply 5 none) (by decide +kernel) mw_65) rfl rfl rfl (by decide +kernel) ⟨Nat.le_of_ble_eq_true rfl, Nat.le_of_ble_eq_true rfl⟩) (xb_pv hP hK hD rfl rfl (md_a0 M)) rfl rfl hl.1 rfl (lv_room (Nat.le_of_ble_eq_true rfl)) dX2_enter_38 ⟨Nat.le_of_ble_eq_true rfl, Nat.le_of_ble_eq_true rfl⟩) hD hS hA (fun ws5 H locs hws5 hP hD hS => ?_)
      obtain ⟨fa_38, fc_38, M, hdfa_38⟩ := hws5
      refine lv_aload_n hx hb dX2_enter_41 rfl (lv_at hl 0 rfl) ?_
      refine va_get (D := D) (ci := ciM) (v := .ref (ad 4)) (C := RX2) (T := TX2) (N := 8) hx hb hts inM hown hK hP 10 (md_a0 M) rfl 3 (by decide) (hts _ (inT mw_7)) (fun _ h9 => h9) rfl dX2_enter_42 ?_
      refine lv_aload_n hx hb dX2_enter_45 rfl (lv_at hl 0 rfl) ?_
      refine va_get (D := D) (ci := ciM) (v := .ref (ad 6)) (C := RX2) (T := TX2) (N := 8) hx hb hts inM hown hK hP 10 (md_a0 M) rfl 5 (by decide) (hts _ (inT mw_11)) (fun _ h9 => h9) rfl dX2_enter_46 ?_
      refine xb_rv (va_runS (As := [.ref (ad 4), .ref (ad 6)]) (rest := []) ⟨hx, hb, hml, hown, hts⟩ (cM_copy l D (md_a6 M) (md_t5 M) (md_a4 M) (md_t3 M) (by decide)) (va_cwS 2 hts (gM_S 43 yX2_copy (.code yX2_copy cX2_copy 3 none) (by decide +kernel) mw_61) rfl rfl rfl (by decide +kernel) ⟨Nat.le_of_ble_eq_true rfl, Nat.le_of_ble_eq_true rfl⟩) (xb_ps rfl hP hK hD) rfl rfl hl.1 rfl (lv_room (Nat.le_of_ble_eq_true rfl)) dX2_enter_49 ⟨Nat.le_of_ble_eq_true rfl, Nat.le_of_ble_eq_true rfl⟩) hD hS hA (fun ws6 H locs hws6 hP hD hS => ?_)
      obtain ⟨fc_49, hws6, hdfc_49⟩ := hws6
      have M := md_sfc M hws6
      have hdfc_49 : dg fc_49 (((rf r.toNatClampNeg).toInt.natAbs) * v.toInt.natAbs) := fun j hj => (hdfc_49 j hj).trans (hdfa_38 j hj)
      refine lv_aload_n hx hb dX2_enter_52 rfl (lv_at hl 0 rfl) ?_
      refine lv_iload_n hx hb dX2_enter_53 rfl (lv_at hl 1 rfl) ?_
      refine xb_rv (va_runV (As := [.int t]) (rest := []) ⟨hx, hb, hml, hown, hts⟩ (cM_read l D M T c4) (cwV 1 hts (gM_V 92 yX2_read (.code yX2_read cX2_read 3 none) (by decide +kernel) mw_72) rfl rfl rfl (by decide +kernel) ⟨Nat.le_of_ble_eq_true rfl, Nat.le_of_ble_eq_true rfl⟩) (xb_pv hP hK hD rfl rfl (md_a0 M)) rfl rfl hl.1 rfl (lv_room (Nat.le_of_ble_eq_true rfl)) dX2_enter_54 ⟨Nat.le_of_ble_eq_true rfl, Nat.le_of_ble_eq_true rfl⟩) hD hS hA (fun ws7 H locs hws7 hP hD hS => ?_)
      obtain ⟨fa_54, M, hdfa_54⟩ := hws7
      refine lv_aload_n hx hb dX2_enter_57 rfl (lv_at hl 0 rfl) ?_
      refine lv_aload_n hx hb dX2_enter_58 rfl (lv_at hl 0 rfl) ?_
      refine va_get (D := D) (ci := ciM) (v := .ref (ad 1)) (C := RX2) (T := TX2) (N := 8) hx hb hts inM hown hK hP 10 (md_a0 M) rfl 0 (by decide) (hts _ (inT mw_3)) (fun _ h9 => h9) rfl dX2_enter_59 ?_
      refine lv_iload_n hx hb dX2_enter_62 rfl (lv_at hl 2 rfl) ?_
      refine md_lld hx hb hK hP M c11 dX2_enter_63 ?_
      refine lv_lconst (v := 0) hx hb dX2_enter_64 (by decide) ?_
      refine W.lcmp hx hb dX2_enter_65 ?_
      refine lv_if_ge (tgt := 73) hx hb dX2_enter_66 (by decide) (fun c66 => ?_) (fun c66 => ?_)
      · rw [lg_cmp_ge] at c66
        refine lv_iconst (v := 0) hx hb dX2_enter_73 (by decide) ?_
        refine lv_lload_n hx hb dX2_enter_74 rfl (lv_at hl 3 rfl) ?_
        refine lv_lconst (v := 0) hx hb dX2_enter_75 (by decide) ?_
        refine W.lcmp hx hb dX2_enter_76 ?_
        refine lv_if_ge (tgt := 84) hx hb dX2_enter_77 (by decide) (fun c77 => ?_) (fun c77 => ?_)
        · rw [lg_cmp_ge] at c77
          refine lv_iconst (v := 0) hx hb dX2_enter_84 (by decide) ?_
          refine lv_icmp_eq (tgt := 92) hx hb dX2_enter_85 (by decide) (fun _ => ?_) (fun q => absurd rfl q)
          refine lv_iconst (v := 0) hx hb dX2_enter_92 (by decide) ?_
          refine xb_rv (va_runV (As := [.int 0]) (rest := []) ⟨hx, hb, hml, hown, hts⟩ (cM_join l D M hdfa_54 hdfc_49 (e80 (mt_l T c4) (abs_m (rf r.toNatClampNeg) v)) (lw := 0) (Or.inl rfl) (mt_01 T c4)) (cwV 1 hts (gM_V 67 yX2_join (.code yX2_join cX2_join 2 none) (by decide +kernel) mw_57) rfl rfl rfl (by decide +kernel) ⟨Nat.le_of_ble_eq_true rfl, Nat.le_of_ble_eq_true rfl⟩) (xb_pv hP hK hD rfl rfl (md_a0 M)) rfl rfl hl.1 rfl (lv_room (Nat.le_of_ble_eq_true rfl)) dX2_enter_93 ⟨Nat.le_of_ble_eq_true rfl, Nat.le_of_ble_eq_true rfl⟩) hD hS hA (fun ws8 H locs hws8 hP hD hS => ?_)
          obtain ⟨fa_93, fr_93, ng_93, z_93, M, hng_93, hdfa_93, hz_93, hs_93⟩ := hws8
          refine lv_aload_n hx hb dX2_enter_96 rfl (lv_at hl 0 rfl) ?_
          refine lv_iload_n hx hb dX2_enter_97 rfl (lv_at hl 1 rfl) ?_
          refine xb_ri (va_runV (As := [.int t]) (rest := []) ⟨hx, hb, hml, hown, hts⟩ (cM_keep l D M T hdfa_93 (Nat.lt_of_le_of_lt hz_93 (e80 (mt_l T c4) (abs_m (rf r.toNatClampNeg) v))) hng_93 c4) (cwV 1 hts (gM_V 96 yX2_keep (.code yX2_keep cX2_keep 4 (some .int)) (by decide +kernel) mw_73) rfl rfl rfl (by decide +kernel) ⟨Nat.le_of_ble_eq_true rfl, Nat.le_of_ble_eq_true rfl⟩) (xb_pv hP hK hD rfl rfl (md_a0 M)) rfl rfl hl.1 rfl (lv_room (Nat.le_of_ble_eq_true rfl)) dX2_enter_98 ⟨Nat.le_of_ble_eq_true rfl, Nat.le_of_ble_eq_true rfl⟩) hD hS hA (fun r98 ws9 H locs hws9 hP hD hS => ?_)
          exact xb_ir hx hb hr hlocks hP hK hD hS dX2_enter_101 (fin_kT hws9 (enter_eq ⟨c4, c11⟩ (by rw [hs_93, mt_s T c4, sv_mul (a := 0) (b := 0) (Or.inl rfl) (Or.inl rfl) (by decide), (svp c66).1, (svp c77).1])))
        · rw [lg_cmp_ge] at c77
          refine lv_iconst (v := 1) hx hb dX2_enter_80 (by decide) ?_
          refine lv_goto (tgt := 85) hx hb dX2_enter_81 (by decide) ?_
          refine lv_icmp_eq (tgt := 92) hx hb dX2_enter_85 (by decide) (fun q => absurd q (by decide)) (fun _ => ?_)
          refine lv_iconst (v := 1) hx hb dX2_enter_88 (by decide) ?_
          refine lv_goto (tgt := 93) hx hb dX2_enter_89 (by decide) ?_
          refine xb_rv (va_runV (As := [.int 1]) (rest := []) ⟨hx, hb, hml, hown, hts⟩ (cM_join l D M hdfa_54 hdfc_49 (e80 (mt_l T c4) (abs_m (rf r.toNatClampNeg) v)) (lw := 1) (Or.inr rfl) (mt_01 T c4)) (cwV 1 hts (gM_V 67 yX2_join (.code yX2_join cX2_join 2 none) (by decide +kernel) mw_57) rfl rfl rfl (by decide +kernel) ⟨Nat.le_of_ble_eq_true rfl, Nat.le_of_ble_eq_true rfl⟩) (xb_pv hP hK hD rfl rfl (md_a0 M)) rfl rfl hl.1 rfl (lv_room (Nat.le_of_ble_eq_true rfl)) dX2_enter_93 ⟨Nat.le_of_ble_eq_true rfl, Nat.le_of_ble_eq_true rfl⟩) hD hS hA (fun ws8 H locs hws8 hP hD hS => ?_)
          obtain ⟨fa_93, fr_93, ng_93, z_93, M, hng_93, hdfa_93, hz_93, hs_93⟩ := hws8
          refine lv_aload_n hx hb dX2_enter_96 rfl (lv_at hl 0 rfl) ?_
          refine lv_iload_n hx hb dX2_enter_97 rfl (lv_at hl 1 rfl) ?_
          refine xb_ri (va_runV (As := [.int t]) (rest := []) ⟨hx, hb, hml, hown, hts⟩ (cM_keep l D M T hdfa_93 (Nat.lt_of_le_of_lt hz_93 (e80 (mt_l T c4) (abs_m (rf r.toNatClampNeg) v))) hng_93 c4) (cwV 1 hts (gM_V 96 yX2_keep (.code yX2_keep cX2_keep 4 (some .int)) (by decide +kernel) mw_73) rfl rfl rfl (by decide +kernel) ⟨Nat.le_of_ble_eq_true rfl, Nat.le_of_ble_eq_true rfl⟩) (xb_pv hP hK hD rfl rfl (md_a0 M)) rfl rfl hl.1 rfl (lv_room (Nat.le_of_ble_eq_true rfl)) dX2_enter_98 ⟨Nat.le_of_ble_eq_true rfl, Nat.le_of_ble_eq_true rfl⟩) hD hS hA (fun r98 ws9 H locs hws9 hP hD hS => ?_)
          exact xb_ir hx hb hr hlocks hP hK hD hS dX2_enter_101 (fin_kT hws9 (enter_eq ⟨c4, c11⟩ (by rw [hs_93, mt_s T c4, sv_mul (a := 0) (b := 1) (Or.inl rfl) (Or.inr rfl) (by decide), (svp c66).1, (svn c77).1])))
      · rw [lg_cmp_ge] at c66
        refine lv_iconst (v := 1) hx hb dX2_enter_69 (by decide) ?_
        refine lv_goto (tgt := 74) hx hb dX2_enter_70 (by decide) ?_
        refine lv_lload_n hx hb dX2_enter_74 rfl (lv_at hl 3 rfl) ?_
        refine lv_lconst (v := 0) hx hb dX2_enter_75 (by decide) ?_
        refine W.lcmp hx hb dX2_enter_76 ?_
        refine lv_if_ge (tgt := 84) hx hb dX2_enter_77 (by decide) (fun c77 => ?_) (fun c77 => ?_)
        · rw [lg_cmp_ge] at c77
          refine lv_iconst (v := 0) hx hb dX2_enter_84 (by decide) ?_
          refine lv_icmp_eq (tgt := 92) hx hb dX2_enter_85 (by decide) (fun q => absurd q (by decide)) (fun _ => ?_)
          refine lv_iconst (v := 1) hx hb dX2_enter_88 (by decide) ?_
          refine lv_goto (tgt := 93) hx hb dX2_enter_89 (by decide) ?_
          refine xb_rv (va_runV (As := [.int 1]) (rest := []) ⟨hx, hb, hml, hown, hts⟩ (cM_join l D M hdfa_54 hdfc_49 (e80 (mt_l T c4) (abs_m (rf r.toNatClampNeg) v)) (lw := 1) (Or.inr rfl) (mt_01 T c4)) (cwV 1 hts (gM_V 67 yX2_join (.code yX2_join cX2_join 2 none) (by decide +kernel) mw_57) rfl rfl rfl (by decide +kernel) ⟨Nat.le_of_ble_eq_true rfl, Nat.le_of_ble_eq_true rfl⟩) (xb_pv hP hK hD rfl rfl (md_a0 M)) rfl rfl hl.1 rfl (lv_room (Nat.le_of_ble_eq_true rfl)) dX2_enter_93 ⟨Nat.le_of_ble_eq_true rfl, Nat.le_of_ble_eq_true rfl⟩) hD hS hA (fun ws8 H locs hws8 hP hD hS => ?_)
          obtain ⟨fa_93, fr_93, ng_93, z_93, M, hng_93, hdfa_93, hz_93, hs_93⟩ := hws8
          refine lv_aload_n hx hb dX2_enter_96 rfl (lv_at hl 0 rfl) ?_
          refine lv_iload_n hx hb dX2_enter_97 rfl (lv_at hl 1 rfl) ?_
          refine xb_ri (va_runV (As := [.int t]) (rest := []) ⟨hx, hb, hml, hown, hts⟩ (cM_keep l D M T hdfa_93 (Nat.lt_of_le_of_lt hz_93 (e80 (mt_l T c4) (abs_m (rf r.toNatClampNeg) v))) hng_93 c4) (cwV 1 hts (gM_V 96 yX2_keep (.code yX2_keep cX2_keep 4 (some .int)) (by decide +kernel) mw_73) rfl rfl rfl (by decide +kernel) ⟨Nat.le_of_ble_eq_true rfl, Nat.le_of_ble_eq_true rfl⟩) (xb_pv hP hK hD rfl rfl (md_a0 M)) rfl rfl hl.1 rfl (lv_room (Nat.le_of_ble_eq_true rfl)) dX2_enter_98 ⟨Nat.le_of_ble_eq_true rfl, Nat.le_of_ble_eq_true rfl⟩) hD hS hA (fun r98 ws9 H locs hws9 hP hD hS => ?_)
          exact xb_ir hx hb hr hlocks hP hK hD hS dX2_enter_101 (fin_kT hws9 (enter_eq ⟨c4, c11⟩ (by rw [hs_93, mt_s T c4, sv_mul (a := 1) (b := 0) (Or.inr rfl) (Or.inl rfl) (by decide), (svn c66).1, (svp c77).1])))
        · rw [lg_cmp_ge] at c77
          refine lv_iconst (v := 1) hx hb dX2_enter_80 (by decide) ?_
          refine lv_goto (tgt := 85) hx hb dX2_enter_81 (by decide) ?_
          refine lv_icmp_eq (tgt := 92) hx hb dX2_enter_85 (by decide) (fun _ => ?_) (fun q => absurd rfl q)
          refine lv_iconst (v := 0) hx hb dX2_enter_92 (by decide) ?_
          refine xb_rv (va_runV (As := [.int 0]) (rest := []) ⟨hx, hb, hml, hown, hts⟩ (cM_join l D M hdfa_54 hdfc_49 (e80 (mt_l T c4) (abs_m (rf r.toNatClampNeg) v)) (lw := 0) (Or.inl rfl) (mt_01 T c4)) (cwV 1 hts (gM_V 67 yX2_join (.code yX2_join cX2_join 2 none) (by decide +kernel) mw_57) rfl rfl rfl (by decide +kernel) ⟨Nat.le_of_ble_eq_true rfl, Nat.le_of_ble_eq_true rfl⟩) (xb_pv hP hK hD rfl rfl (md_a0 M)) rfl rfl hl.1 rfl (lv_room (Nat.le_of_ble_eq_true rfl)) dX2_enter_93 ⟨Nat.le_of_ble_eq_true rfl, Nat.le_of_ble_eq_true rfl⟩) hD hS hA (fun ws8 H locs hws8 hP hD hS => ?_)
          obtain ⟨fa_93, fr_93, ng_93, z_93, M, hng_93, hdfa_93, hz_93, hs_93⟩ := hws8
          refine lv_aload_n hx hb dX2_enter_96 rfl (lv_at hl 0 rfl) ?_
          refine lv_iload_n hx hb dX2_enter_97 rfl (lv_at hl 1 rfl) ?_
          refine xb_ri (va_runV (As := [.int t]) (rest := []) ⟨hx, hb, hml, hown, hts⟩ (cM_keep l D M T hdfa_93 (Nat.lt_of_le_of_lt hz_93 (e80 (mt_l T c4) (abs_m (rf r.toNatClampNeg) v))) hng_93 c4) (cwV 1 hts (gM_V 96 yX2_keep (.code yX2_keep cX2_keep 4 (some .int)) (by decide +kernel) mw_73) rfl rfl rfl (by decide +kernel) ⟨Nat.le_of_ble_eq_true rfl, Nat.le_of_ble_eq_true rfl⟩) (xb_pv hP hK hD rfl rfl (md_a0 M)) rfl rfl hl.1 rfl (lv_room (Nat.le_of_ble_eq_true rfl)) dX2_enter_98 ⟨Nat.le_of_ble_eq_true rfl, Nat.le_of_ble_eq_true rfl⟩) hD hS hA (fun r98 ws9 H locs hws9 hP hD hS => ?_)
          exact xb_ir hx hb hr hlocks hP hK hD hS dX2_enter_101 (fin_kT hws9 (enter_eq ⟨c4, c11⟩ (by rw [hs_93, mt_s T c4, sv_mul (a := 1) (b := 1) (Or.inr rfl) (Or.inr rfl) (by decide), (svn c66).1, (svn c77).1])))
    · have c11 := bz_0 hr8 c11
      refine lv_iconst (v := (-1)) hx hb dX2_enter_14 (by decide) ?_
      exact xb_ir hx hb hr hlocks hP hK hD hS dX2_enter_15 (fin_no M T (by rw [sp_enter, if_neg (fun q => c11 q.2)]))
set_option maxHeartbeats 4000000 in
set_option maxRecDepth 100000 in
theorem cM_cmp (l : Launch) (D : va_G) {tys : xT} {ws : va_W} {sz : Nat} {w0 : va_W} {ad : Nat → Nat} {cB : Nat → ClassId} {rf : Nat → Int64} {tf bf fa fb fc fr : Nat → Int32} {ng : Int32} (M : md w0 ws tys ad cB rf tf bf fa fb fc fr ng) {tv : Nat → Int} (T : mt tf bf tv) (t u : Int32) : xM l yX2_compare (.code yX2_compare cX2_compare 4 (some .int) :: mdT) ({ frames := 1, cells := 0, slots := 0, locals := 23 }) D tys ws sz [.ref (ad 0), .int t, .int u] (xQi D tys (fun a w => mdS w0 w tys ad cB (rf, tv) ∧ a = sp_cmp (rf, tv) t u)) 0 0 := by
  refine xb_m (cc := cX2_compare) (maxL := 4) (ret := (some .int)) (by decide) rfl (Nat.le_of_ble_eq_true rfl) ?_
  intro p e s m below meth c A ls hx hb hr hml hown hts hlocks hnm hA hP hK hD hS hl
  have hl : lv_has ls 4 [(0, .ref (ad 0)), (1, .int t), (2, .int u)] := hl
  have hown : s.vm.findClass RX2 = some m.cls := hown
  refine lv_iload_n hx hb dX2_compare_0 rfl (lv_at hl 1 rfl) ?_
  refine xb_ri (va_runS (As := [.int t]) (rest := []) ⟨hx, hb, hml, hown, hts⟩ (cM_isT l D t) (va_cwS 1 hts (gM_S 89 yX2_isTally (.code yX2_isTally cX2_isTally 1 (some .boolean)) (by decide +kernel) mw_71) rfl rfl rfl (by decide +kernel) ⟨Nat.le_of_ble_eq_true rfl, Nat.le_of_ble_eq_true rfl⟩) (xb_ps rfl hP hK hD) rfl rfl hl.1 rfl (lv_room (Nat.le_of_ble_eq_true rfl)) dX2_compare_1 ⟨Nat.le_of_ble_eq_true rfl, Nat.le_of_ble_eq_true rfl⟩) hD hS hA (fun r1 ws1 H locs hws1 hP hD hS => ?_)
  obtain ⟨hr1, rfl⟩ := hws1
  refine lv_if_eq (tgt := 14) hx hb dX2_compare_4 (by decide) (fun c4 => ?_) (fun c4 => ?_)
  · have c4 := bz_0 hr1 c4
    refine lv_bipush (v := (-2)) hx hb dX2_compare_14 (by decide) ?_
    exact xb_ir hx hb hr hlocks hP hK hD hS dX2_compare_16 (⟨⟨tf, bf, _, _, _, _, _, M, T⟩, by rw [sp_cmp, if_neg (fun q => c4 q.1)]⟩)
  · have c4 := bz_1 hr1 c4
    refine lv_iload_n hx hb dX2_compare_7 rfl (lv_at hl 2 rfl) ?_
    refine xb_ri (va_runS (As := [.int u]) (rest := []) ⟨hx, hb, hml, hown, hts⟩ (cM_isT l D u) (va_cwS 1 hts (gM_S 89 yX2_isTally (.code yX2_isTally cX2_isTally 1 (some .boolean)) (by decide +kernel) mw_71) rfl rfl rfl (by decide +kernel) ⟨Nat.le_of_ble_eq_true rfl, Nat.le_of_ble_eq_true rfl⟩) (xb_ps rfl hP hK hD) rfl rfl hl.1 rfl (lv_room (Nat.le_of_ble_eq_true rfl)) dX2_compare_8 ⟨Nat.le_of_ble_eq_true rfl, Nat.le_of_ble_eq_true rfl⟩) hD hS hA (fun r8 ws2 H locs hws2 hP hD hS => ?_)
    obtain ⟨hr8, rfl⟩ := hws2
    refine lv_if_ne (tgt := 17) hx hb dX2_compare_11 (by decide) (fun c11 => ?_) (fun c11 => ?_)
    · have c11 := bz_1 hr8 c11
      refine lv_aload_n hx hb dX2_compare_17 rfl (lv_at hl 0 rfl) ?_
      refine lv_iload_n hx hb dX2_compare_18 rfl (lv_at hl 2 rfl) ?_
      refine xb_rv (va_runV (As := [.int u]) (rest := []) ⟨hx, hb, hml, hown, hts⟩ (cM_read l D M T c11) (cwV 1 hts (gM_V 92 yX2_read (.code yX2_read cX2_read 3 none) (by decide +kernel) mw_72) rfl rfl rfl (by decide +kernel) ⟨Nat.le_of_ble_eq_true rfl, Nat.le_of_ble_eq_true rfl⟩) (xb_pv hP hK hD rfl rfl (md_a0 M)) rfl rfl hl.1 rfl (lv_room (Nat.le_of_ble_eq_true rfl)) dX2_compare_19 ⟨Nat.le_of_ble_eq_true rfl, Nat.le_of_ble_eq_true rfl⟩) hD hS hA (fun ws3 H locs hws3 hP hD hS => ?_)
      obtain ⟨fa_19, M, hdfa_19⟩ := hws3
      refine lv_aload_n hx hb dX2_compare_22 rfl (lv_at hl 0 rfl) ?_
      refine va_get (D := D) (ci := ciM) (v := .ref (ad 4)) (C := RX2) (T := TX2) (N := 8) hx hb hts inM hown hK hP 10 (md_a0 M) rfl 3 (by decide) (hts _ (inT mw_7)) (fun _ h9 => h9) rfl dX2_compare_23 ?_
      refine lv_aload_n hx hb dX2_compare_26 rfl (lv_at hl 0 rfl) ?_
      refine va_get (D := D) (ci := ciM) (v := .ref (ad 6)) (C := RX2) (T := TX2) (N := 8) hx hb hts inM hown hK hP 10 (md_a0 M) rfl 5 (by decide) (hts _ (inT mw_11)) (fun _ h9 => h9) rfl dX2_compare_27 ?_
      refine xb_rv (va_runS (As := [.ref (ad 4), .ref (ad 6)]) (rest := []) ⟨hx, hb, hml, hown, hts⟩ (cM_copy l D (md_a6 M) (md_t5 M) (md_a4 M) (md_t3 M) (by decide)) (va_cwS 2 hts (gM_S 43 yX2_copy (.code yX2_copy cX2_copy 3 none) (by decide +kernel) mw_61) rfl rfl rfl (by decide +kernel) ⟨Nat.le_of_ble_eq_true rfl, Nat.le_of_ble_eq_true rfl⟩) (xb_ps rfl hP hK hD) rfl rfl hl.1 rfl (lv_room (Nat.le_of_ble_eq_true rfl)) dX2_compare_30 ⟨Nat.le_of_ble_eq_true rfl, Nat.le_of_ble_eq_true rfl⟩) hD hS hA (fun ws4 H locs hws4 hP hD hS => ?_)
      obtain ⟨fc_30, hws4, hdfc_30⟩ := hws4
      have M := md_sfc M hws4
      have hdfc_30 : dg fc_30 ((tv u.toNatClampNeg).natAbs) := fun j hj => (hdfc_30 j hj).trans (hdfa_19 j hj)
      refine lv_aload_n hx hb dX2_compare_33 rfl (lv_at hl 0 rfl) ?_
      refine lv_iload_n hx hb dX2_compare_34 rfl (lv_at hl 1 rfl) ?_
      refine xb_rv (va_runV (As := [.int t]) (rest := []) ⟨hx, hb, hml, hown, hts⟩ (cM_read l D M T c4) (cwV 1 hts (gM_V 92 yX2_read (.code yX2_read cX2_read 3 none) (by decide +kernel) mw_72) rfl rfl rfl (by decide +kernel) ⟨Nat.le_of_ble_eq_true rfl, Nat.le_of_ble_eq_true rfl⟩) (xb_pv hP hK hD rfl rfl (md_a0 M)) rfl rfl hl.1 rfl (lv_room (Nat.le_of_ble_eq_true rfl)) dX2_compare_35 ⟨Nat.le_of_ble_eq_true rfl, Nat.le_of_ble_eq_true rfl⟩) hD hS hA (fun ws5 H locs hws5 hP hD hS => ?_)
      obtain ⟨fa_35, M, hdfa_35⟩ := hws5
      refine lv_aload_n hx hb dX2_compare_38 rfl (lv_at hl 0 rfl) ?_
      refine va_get (D := D) (ci := ciM) (v := .ref (ad 4)) (C := RX2) (T := TX2) (N := 8) hx hb hts inM hown hK hP 10 (md_a0 M) rfl 3 (by decide) (hts _ (inT mw_7)) (fun _ h9 => h9) rfl dX2_compare_39 ?_
      refine lv_aload_n hx hb dX2_compare_42 rfl (lv_at hl 0 rfl) ?_
      refine va_get (D := D) (ci := ciM) (v := .ref (ad 6)) (C := RX2) (T := TX2) (N := 8) hx hb hts inM hown hK hP 10 (md_a0 M) rfl 5 (by decide) (hts _ (inT mw_11)) (fun _ h9 => h9) rfl dX2_compare_43 ?_
      refine xb_ri (va_runS (As := [.ref (ad 4), .ref (ad 6)]) (rest := []) ⟨hx, hb, hml, hown, hts⟩ (cM_cmps l D (md_a4 M) (md_t3 M) (md_a6 M) (md_t5 M) hdfa_35 hdfc_30 (b80 (mt_l T c4)) (b80 (mt_l T c11))) (va_cwS 2 hts (gM_S 47 yX2_compareSizes (.code yX2_compareSizes cX2_compareSizes 4 (some .int)) (by decide +kernel) mw_59) rfl rfl rfl (by decide +kernel) ⟨Nat.le_of_ble_eq_true rfl, Nat.le_of_ble_eq_true rfl⟩) (xb_ps rfl hP hK hD) rfl rfl hl.1 rfl (lv_room (Nat.le_of_ble_eq_true rfl)) dX2_compare_46 ⟨Nat.le_of_ble_eq_true rfl, Nat.le_of_ble_eq_true rfl⟩) hD hS hA (fun r46 ws6 H locs hws6 hP hD hS => ?_)
      obtain ⟨hr46, rfl⟩ := hws6
      refine lv_istore_n (lv' := [(3, .int r46), (0, .ref (ad 0)), (1, .int t), (2, .int u)]) hx hb dX2_compare_49 rfl hl (by decide) rfl (fun ls hl => ?_)
      refine lv_aload_n hx hb dX2_compare_50 rfl (lv_at hl 1 rfl) ?_
      refine va_get (D := D) (ci := ciM) (v := .ref (ad 3)) (C := RX2) (T := TX2) (N := 8) hx hb hts inM hown hK hP 10 (md_a0 M) rfl 2 (by decide) (hts _ (inT mw_49)) (fun _ h9 => h9) rfl dX2_compare_51 ?_
      refine lv_iload_n hx hb dX2_compare_54 rfl (lv_at hl 2 rfl) ?_
      refine md_zld hx hb hK hP M c4 dX2_compare_55 ?_
      refine lv_aload_n hx hb dX2_compare_56 rfl (lv_at hl 1 rfl) ?_
      refine va_get (D := D) (ci := ciM) (v := .ref (ad 3)) (C := RX2) (T := TX2) (N := 8) hx hb hts inM hown hK hP 10 (md_a0 M) rfl 2 (by decide) (hts _ (inT mw_49)) (fun _ h9 => h9) rfl dX2_compare_57 ?_
      refine lv_iload_n hx hb dX2_compare_60 rfl (lv_at hl 3 rfl) ?_
      refine md_zld hx hb hK hP M c11 dX2_compare_61 ?_
      refine lv_icmp_eq (tgt := 82) hx hb dX2_compare_62 (by decide) (fun c62 => ?_) (fun c62 => ?_)
      · refine lv_aload_n hx hb dX2_compare_82 rfl (lv_at hl 1 rfl) ?_
        refine va_get (D := D) (ci := ciM) (v := .ref (ad 3)) (C := RX2) (T := TX2) (N := 8) hx hb hts inM hown hK hP 10 (md_a0 M) rfl 2 (by decide) (hts _ (inT mw_49)) (fun _ h9 => h9) rfl dX2_compare_83 ?_
        refine lv_iload_n hx hb dX2_compare_86 rfl (lv_at hl 2 rfl) ?_
        refine md_zld hx hb hK hP M c4 dX2_compare_87 ?_
        refine lv_if_eq (tgt := 96) hx hb dX2_compare_88 (by decide) (fun c88 => ?_) (fun c88 => ?_)
        · refine lv_iload_n hx hb dX2_compare_96 rfl (lv_at hl 0 rfl) ?_
          exact xb_ir hx hb hr hlocks hP hK hD hS dX2_compare_97 (⟨⟨tf, bf, _, _, _, _, _, M, T⟩, by rw [sp_cmp, if_pos ⟨c4, c11⟩, hr46]; exact ((cmp_2 (mt_b T c4) (mt_b T c11) c62).1 c88).symm⟩)
        · refine lv_iload_n hx hb dX2_compare_91 rfl (lv_at hl 0 rfl) ?_
          refine lv_ineg hx hb dX2_compare_92 ?_
          refine lv_goto (tgt := 97) hx hb dX2_compare_93 (by decide) ?_
          exact xb_ir hx hb hr hlocks hP hK hD hS dX2_compare_97 (⟨⟨tf, bf, _, _, _, _, _, M, T⟩, by rw [sp_cmp, if_pos ⟨c4, c11⟩, hr46]; exact ((cmp_2 (mt_b T c4) (mt_b T c11) c62).2 c88).symm⟩)
      · refine lv_aload_n hx hb dX2_compare_65 rfl (lv_at hl 1 rfl) ?_
        refine va_get (D := D) (ci := ciM) (v := .ref (ad 3)) (C := RX2) (T := TX2) (N := 8) hx hb hts inM hown hK hP 10 (md_a0 M) rfl 2 (by decide) (hts _ (inT mw_49)) (fun _ h9 => h9) rfl dX2_compare_66 ?_
        refine lv_iload_n hx hb dX2_compare_69 rfl (lv_at hl 2 rfl) ?_
        refine md_zld hx hb hK hP M c4 dX2_compare_70 ?_
        refine lv_if_eq (tgt := 78) hx hb dX2_compare_71 (by decide) (fun c71 => ?_) (fun c71 => ?_)
        · refine lv_iconst (v := 1) hx hb dX2_compare_78 (by decide) ?_
          refine lv_goto (tgt := 97) hx hb dX2_compare_79 (by decide) ?_
          exact xb_ir hx hb hr hlocks hP hK hD hS dX2_compare_97 (⟨⟨tf, bf, _, _, _, _, _, M, T⟩, by rw [sp_cmp, if_pos ⟨c4, c11⟩]; exact ((cmp_1 (mt_b T c4) (mt_b T c11) c62).1 c71).symm⟩)
        · refine lv_iconst (v := (-1)) hx hb dX2_compare_74 (by decide) ?_
          refine lv_goto (tgt := 97) hx hb dX2_compare_75 (by decide) ?_
          exact xb_ir hx hb hr hlocks hP hK hD hS dX2_compare_97 (⟨⟨tf, bf, _, _, _, _, _, M, T⟩, by rw [sp_cmp, if_pos ⟨c4, c11⟩]; exact ((cmp_1 (mt_b T c4) (mt_b T c11) c62).2 c71).symm⟩)
    · have c11 := bz_0 hr8 c11
      refine lv_bipush (v := (-2)) hx hb dX2_compare_14 (by decide) ?_
      exact xb_ir hx hb hr hlocks hP hK hD hS dX2_compare_16 (⟨⟨tf, bf, _, _, _, _, _, M, T⟩, by rw [sp_cmp, if_neg (fun q => c11 q.2)]⟩)
end
section
/-! the reference: the rest of its tallies' operations -/
theorem cl_up {tf bf tf1 : Nat → Int32} {tv : Nat → Int} (T : mt tf bf tv) {t : Int32} (h : ¬ t < 0 ∧ t < 4) (h1 : ∀ k, k < 40 → tf1 (40 * t.toNatClampNeg + k) = 0) (h2 : ∀ q, (q < 40 * t.toNatClampNeg ∨ 40 * t.toNatClampNeg + 40 ≤ q) → tf1 q = tf q) : mt tf1 (upd bf t.toNatClampNeg 0) (va_up tv t.toNatClampNeg 0) := by
  intro u hu
  by_cases e : u = t.toNatClampNeg
  · subst e
    rw [show va_up tv t.toNatClampNeg 0 t.toNatClampNeg = 0 from if_pos rfl, up_s]
    refine ⟨fun k hk => ?_, by rw [if_neg (by decide)], by decide⟩
    rw [h1 k (by omega), show (0 : Int).natAbs = 0 from rfl, Nat.zero_div]
    rfl
  · rw [show va_up tv t.toNatClampNeg 0 u = tv u from if_neg e, up_n e]
    refine ⟨fun k hk => ?_, (T u hu).2⟩
    rw [h2 _ (by omega)]
    exact (T u hu).1 k hk
theorem cJ1 {tf : Nat → Int32} {B i : Nat} (h : ∀ k, k < i → tf (B + k) = 0) : ∀ k, k < i + 1 → upd tf (B + i) 0 (B + k) = 0 := fun k hk => by
  by_cases e : k = i
  · subst e; rw [up_s]
  · rw [up_n (by omega)]; exact h k (by omega)
theorem sL_0 (V : Nat) : sLen (V % 10 ^ 0) 1 := by rw [Nat.pow_zero, Nat.mod_one]; exact ⟨by omega, by decide, Or.inl rfl⟩
theorem sL_p {V i : Nat} (h : ¬ V / 10 ^ i % 10 = 0) : sLen (V % 10 ^ (i + 1)) (i + 1) := by
  refine ⟨by omega, Nat.mod_lt _ (p10 _), Or.inr ?_⟩
  have b : 10 ^ i * 1 ≤ 10 ^ i * (V / 10 ^ i % 10) := Nat.mul_le_mul_left _ (by omega)
  rw [Nat.add_sub_cancel, pd_mod]
  omega
theorem sL_z {V i L : Nat} (h : V / 10 ^ i % 10 = 0) (k : sLen (V % 10 ^ i) L) : sLen (V % 10 ^ (i + 1)) L := by
  rw [pd_mod, h, Nat.mul_zero, Nat.add_zero]; exact k
theorem sp_step {v : Int64} {x u : Nat} {f : Nat → Int32} (hx : x ≤ 1000000000000000000) (hv : v.toInt = ((x / 10 ^ (u + 1) : Nat) : Int)) (hf : f u = nI (x / 10 ^ u % 10)) : (10 * v + (f u).toInt64).toInt = ((x / 10 ^ u : Nat) : Int) := by
  have a : x / 10 ^ (u + 1) = x / 10 ^ u / 10 := by rw [Nat.pow_succ, Nat.div_div_eq_div_mul]
  have b : x / 10 ^ u ≤ x := Nat.div_le_self _ _
  have c := d9 x u
  rw [a] at hv
  rw [hf, nI_l (by omega)]
  generalize x / 10 ^ u = q at *
  have d := un_mul 10 v
  have e : (10 : Int64).toInt = 10 := by decide
  have g := un_add (10 * v) (lN (q % 10))
  have h := un_c (10 * v)
  have i : (lN (q % 10)).toInt = ((q % 10 : Nat) : Int) := pk_lT (by omega)
  rw [e, hv] at d
  rw [i] at g
  exact un_eq (by omega) (by omega) (by omega)
theorem sp_fin {v : Int64} {x : Nat} (hv : v.toInt = ((x / 10 ^ 0 : Nat) : Int)) : v = zl (x : Int) ∧ -v = zl (-(x : Int)) := by
  rw [Nat.pow_zero, Nat.div_one] at hv
  have a := un_c v
  have b := un_neg v
  have c := zl_un (-(x : Int))
  have d := zl_un (x : Int)
  rw [hv] at a b
  constructor <;> apply uN_inj <;> omega
theorem ab_td (z d : Int) : (z.natAbs / d.natAbs : Nat) = (z.tdiv d).natAbs := (Int.natAbs_tdiv z d).symm
theorem sv_td {n : Int32} {z d : Int} (hn : n = if z < 0 then 1 else 0) (hd : 0 < d) : sv n (z.natAbs / d.natAbs) = z.tdiv d ∧ sv n (z.natAbs % d.natAbs) = z.tmod d := by
  have ed : d = ((d.natAbs : Nat) : Int) := by omega
  by_cases q : z < 0
  · rw [if_pos q] at hn
    rw [sv_1 hn, sv_1 hn]
    have ez : z = -((z.natAbs : Nat) : Int) := by omega
    have r1 : (-((z.natAbs : Nat) : Int)).tdiv ((d.natAbs : Nat) : Int) = -((z.natAbs / d.natAbs : Nat) : Int) := by rw [Int.neg_tdiv, tdn]
    have r2 : (-((z.natAbs : Nat) : Int)).tmod ((d.natAbs : Nat) : Int) = -((z.natAbs % d.natAbs : Nat) : Int) := by rw [Int.neg_tmod, Int.tmod_eq_emod_of_nonneg (by omega)]; rfl
    rw [← ez, ← ed] at r1 r2
    exact ⟨r1.symm, r2.symm⟩
  · rw [if_neg q] at hn
    rw [sv_0 hn, sv_0 hn]
    have ez : z = ((z.natAbs : Nat) : Int) := by omega
    have r1 := tdn z.natAbs d.natAbs
    have r2 : ((z.natAbs : Nat) : Int).tmod ((d.natAbs : Nat) : Int) = ((z.natAbs % d.natAbs : Nat) : Int) := by rw [Int.tmod_eq_emod_of_nonneg (by omega)]; rfl
    rw [← ez, ← ed] at r1 r2
    exact ⟨r1.symm, r2.symm⟩
theorem split_eq {rf : Nat → Int64} {tv : Nat → Int} {t r : Int32} {d : Int64} {W : Int} {x : Int64} (h : okT t ∧ okR r ∧ ¬ d < 0 ∧ ¬ 1000000000000000000 < d) (h0 : ¬ d = 0) (hl : (tv t.toNatClampNeg).natAbs < 10 ^ 36) (eW : W = (tv t.toNatClampNeg).tdiv d.toInt) (ex : x = zl ((tv t.toNatClampNeg).tmod d.toInt)) : sp_split (rf, tv) t d r = sp_kT (vp_updL rf r.toNatClampNeg x, tv) t W := by
  have p := p36
  have q := Int.natAbs_tdiv_le_natAbs (tv t.toNatClampNeg) d.toInt
  rw [sp_kT, if_neg (by omega), if_neg (by omega), eW, ex, sp_split, if_pos h, if_neg h0]
theorem d_pos {d : Int64} (h : ¬ d < 0) (h0 : ¬ d = 0) : 0 < d.toInt := by
  rw [Int64.lt_iff_toInt_lt] at h
  have e : (0 : Int64).toInt = 0 := by decide
  have := l_ne h0
  omega
theorem d_18 {d : Int64} (h : d ≤ 1000000000000000000) (h1 : ¬ d < 0) : d.toInt.natAbs ≤ 1000000000000000000 := by
  rw [Int64.le_iff_toInt_le] at h
  rw [Int64.lt_iff_toInt_lt] at h1
  have e : (0 : Int64).toInt = 0 := by decide
  have f : (1000000000000000000 : Int64).toInt = 1000000000000000000 := by decide
  omega
-- the reference: clear, digits, digit, split (laid by wip/whole/gen_mp.py)
set_option maxHeartbeats 4000000 in
set_option maxRecDepth 100000 in
theorem cM_clear (l : Launch) (D : va_G) {tys : xT} {ws : va_W} {sz : Nat} {w0 : va_W} {ad : Nat → Nat} {cB : Nat → ClassId} {rf : Nat → Int64} {tf bf fa fb fc fr : Nat → Int32} {ng : Int32} (M : md w0 ws tys ad cB rf tf bf fa fb fc fr ng) {tv : Nat → Int} (T : mt tf bf tv) (t : Int32) : xM l yX2_clear (.code yX2_clear cX2_clear 3 (some .boolean) :: mdT) ({ frames := 1, cells := 0, slots := 0, locals := 20 }) D tys ws sz [.ref (ad 0), .int t] (xQi D tys (fun a w => mdS w0 w tys ad cB (sp_clear (rf, tv) t).2 ∧ a = (sp_clear (rf, tv) t).1)) 0 0 := by
  refine xb_m (cc := cX2_clear) (maxL := 3) (ret := (some .boolean)) (by decide) rfl (Nat.le_of_ble_eq_true rfl) ?_
  intro p e s m below meth c A ls hx hb hr hml hown hts hlocks hnm hA hP hK hD hS hl
  have hl : lv_has ls 3 [(0, .ref (ad 0)), (1, .int t)] := hl
  have hown : s.vm.findClass RX2 = some m.cls := hown
  by_cases hT : okT t
  · have loop : ∀ (n i : Nat) (xi : Int32) (ti : Nat → Int32) (ws1 : va_W) (H : Heap) (locs : List Loc) (ls : Array Slot), i ≤ 40 → 40 < i + n → xi = nI i → md w0 ws1 tys ad cB rf ti bf fa fb fc fr ng → (∀ k, k < i → ti (40 * t.toNatClampNeg + k) = 0) → (∀ q, (q < 40 * t.toNatClampNeg ∨ 40 * t.toNatClampNeg + i ≤ q) → ti q = tf q) → va_P D vwCl ws1 H → va_D A ws1 → va_S A s.heap H locs → lv_has ls 3 [(0, .ref (ad 0)), (1, .int t), (2, .int xi)] → W p l e ({ frames := 1, cells := 0, slots := 0, locals := 20 }) s m [.ref (ad 0), .int t].toArray below meth c H locs 0 0 (MQ below (xQi D tys (fun a w => mdS w0 w tys ad cB (sp_clear (rf, tv) t).2 ∧ a = (sp_clear (rf, tv) t).1) A) [.ref (ad 0), .int t].toArray s 0 0 A) (F0 m 2 ls []) := by
      intro n
      induction n with
      | zero =>
        intro i xi ti ws1 H locs ls h1 h2
        omega
      | succ n ih =>
        intro i xi ti ws1 H locs ls h1 h2 exi M hT1 hT2 hP hD hS hl
        refine lv_iload_n hx hb dX2_clear_2 rfl (lv_at hl 2 rfl) ?_
        refine lv_bipush (v := 40) hx hb dX2_clear_3 (by decide) ?_
        refine lv_icmp_ge (tgt := 33) hx hb dX2_clear_5 (by decide) (fun c5 => ?_) (fun c5 => ?_)
        · have q40 := nge (M := 40) rfl exi (by decide) c5 (by omega)
          have e40 : i = 40 := by omega
          subst e40
          refine lv_iload_n hx hb dX2_clear_33 rfl (lv_at hl 1 rfl) ?_
          refine xb_ri (va_runS (As := [.int t]) (rest := []) ⟨hx, hb, hml, hown, hts⟩ (cM_isT l D t) (va_cwS 1 hts (gM_S 89 yX2_isTally (.code yX2_isTally cX2_isTally 1 (some .boolean)) (by decide +kernel) mw_71) rfl rfl rfl (by decide +kernel) ⟨Nat.le_of_ble_eq_true rfl, Nat.le_of_ble_eq_true rfl⟩) (xb_ps rfl hP hK hD) rfl rfl hl.1 rfl (lv_room (Nat.le_of_ble_eq_true rfl)) dX2_clear_34 ⟨Nat.le_of_ble_eq_true rfl, Nat.le_of_ble_eq_true rfl⟩) hD hS hA (fun r34 ws2 H locs hws2 hP hD hS => ?_)
          obtain ⟨hr34, rfl⟩ := hws2
          refine lv_if_eq (tgt := 47) hx hb dX2_clear_37 (by decide) (fun c37 => ?_) (fun c37 => ?_)
          · have c37 := bz_0 hr34 c37
            exact absurd hT c37
          · have c37 := bz_1 hr34 c37
            refine lv_aload_n hx hb dX2_clear_40 rfl (lv_at hl 0 rfl) ?_
            refine va_get (D := D) (ci := ciM) (v := .ref (ad 3)) (C := RX2) (T := TX2) (N := 8) hx hb hts inM hown hK hP 10 (md_a0 M) rfl 2 (by decide) (hts _ (inT mw_49)) (fun _ h9 => h9) rfl dX2_clear_41 ?_
            refine lv_iload_n hx hb dX2_clear_44 rfl (lv_at hl 1 rfl) ?_
            refine lv_iconst (v := 0) hx hb dX2_clear_45 (by decide) ?_
            refine md_zst hx hb hK hP hD hS M hT (Or.inl rfl) dX2_clear_46 (fun ws3 H locs M hP hD hS => ?_)
            refine lv_iload_n hx hb dX2_clear_47 rfl (lv_at hl 1 rfl) ?_
            refine xb_ri (va_runS (As := [.int t]) (rest := []) ⟨hx, hb, hml, hown, hts⟩ (cM_isT l D t) (va_cwS 1 hts (gM_S 89 yX2_isTally (.code yX2_isTally cX2_isTally 1 (some .boolean)) (by decide +kernel) mw_71) rfl rfl rfl (by decide +kernel) ⟨Nat.le_of_ble_eq_true rfl, Nat.le_of_ble_eq_true rfl⟩) (xb_ps rfl hP hK hD) rfl rfl hl.1 rfl (lv_room (Nat.le_of_ble_eq_true rfl)) dX2_clear_48 ⟨Nat.le_of_ble_eq_true rfl, Nat.le_of_ble_eq_true rfl⟩) hD hS hA (fun r48 ws4 H locs hws4 hP hD hS => ?_)
            obtain ⟨hr48, rfl⟩ := hws4
            exact xb_zr hx hb hr hlocks hP hK hD hS dX2_clear_51 (by rw [hr48]; split <;> rfl) (by rw [sp_clear, if_pos hT]; rw [if_pos hT] at hr48; exact ⟨⟨_, _, _, _, _, _, _, M, cl_up T hT hT1 hT2⟩, hr48⟩)
        · refine lv_iload_n hx hb dX2_clear_8 rfl (lv_at hl 1 rfl) ?_
          refine xb_ri (va_runS (As := [.int t]) (rest := []) ⟨hx, hb, hml, hown, hts⟩ (cM_isT l D t) (va_cwS 1 hts (gM_S 89 yX2_isTally (.code yX2_isTally cX2_isTally 1 (some .boolean)) (by decide +kernel) mw_71) rfl rfl rfl (by decide +kernel) ⟨Nat.le_of_ble_eq_true rfl, Nat.le_of_ble_eq_true rfl⟩) (xb_ps rfl hP hK hD) rfl rfl hl.1 rfl (lv_room (Nat.le_of_ble_eq_true rfl)) dX2_clear_9 ⟨Nat.le_of_ble_eq_true rfl, Nat.le_of_ble_eq_true rfl⟩) hD hS hA (fun r9 ws2 H locs hws2 hP hD hS => ?_)
          obtain ⟨hr9, rfl⟩ := hws2
          refine lv_if_eq (tgt := 33) hx hb dX2_clear_12 (by decide) (fun c12 => ?_) (fun c12 => ?_)
          · have c12 := bz_0 hr9 c12
            exact absurd hT c12
          · have c12 := bz_1 hr9 c12
            have q40 := nlt (M := 40) rfl exi (by decide) c5 (by omega)
            refine lv_aload_n hx hb dX2_clear_15 rfl (lv_at hl 0 rfl) ?_
            refine va_get (D := D) (ci := ciM) (v := .ref (ad 2)) (C := RX2) (T := TX2) (N := 8) hx hb hts inM hown hK hP 10 (md_a0 M) rfl 1 (by decide) (hts _ (inT mw_48)) (fun _ h9 => h9) rfl dX2_clear_16 ?_
            refine lv_bipush (v := 40) hx hb dX2_clear_19 (by decide) ?_
            refine lv_iload_n hx hb dX2_clear_21 rfl (lv_at hl 1 rfl) ?_
            refine lv_imul hx hb dX2_clear_22 ?_
            refine lv_iload_n hx hb dX2_clear_23 rfl (lv_at hl 2 rfl) ?_
            refine lv_iadd hx hb dX2_clear_24 ?_
            refine lv_iconst (v := 0) hx hb dX2_clear_25 (by decide) ?_
            refine ia_st (x := 0) hx hb hK hP hD hS (md_a2 M) (md_t1 M) (ix40 hT exi) (lt160 hT q40) (by decide) dX2_clear_26 (fun ws3 H locs hws3 hP hD hS => ?_)
            have M := md_stf M hws3
            refine lv_iinc (v := xi + 1) (lv' := [(2, .int (xi + 1)), (0, .ref (ad 0)), (1, .int t)]) hx hb dX2_clear_27 hl (k := 2) rfl (by rfl) (by decide) rfl (fun ls hl => ?_)
            refine lv_goto (tgt := 2) hx hb dX2_clear_30 (by decide) ?_
            exact ih (i + 1) (xi + 1) _ ws3 H locs ls (by omega) (by omega) (by rw [exi]; exact nI_1 i) M (cJ1 hT1) (tJ2 hT2) hP hD hS (lv_sub hl [1, 2, 0] rfl)
    refine lv_iconst (v := 0) hx hb dX2_clear_0 (by decide) ?_
    refine lv_istore_n (lv' := [(2, .int 0), (0, .ref (ad 0)), (1, .int t)]) hx hb dX2_clear_1 rfl hl (by decide) rfl (fun ls hl => ?_)
    exact loop 41 0 0 tf ws s.heap [] ls (by omega) (by omega) nI_0.symm M (fun k hk => absurd hk (by omega)) (fun q _ => rfl) hP hD hS (lv_sub hl [1, 2, 0] rfl)
  · refine lv_iconst (v := 0) hx hb dX2_clear_0 (by decide) ?_
    refine lv_istore_n (lv' := [(2, .int 0), (0, .ref (ad 0)), (1, .int t)]) hx hb dX2_clear_1 rfl hl (by decide) rfl (fun ls hl => ?_)
    refine lv_iload_n hx hb dX2_clear_2 rfl (lv_at hl 0 rfl) ?_
    refine lv_bipush (v := 40) hx hb dX2_clear_3 (by decide) ?_
    refine lv_icmp_ge (tgt := 33) hx hb dX2_clear_5 (by decide) (fun c5 => ?_) (fun c5 => ?_)
    · exact absurd c5 (by decide)
    · refine lv_iload_n hx hb dX2_clear_8 rfl (lv_at hl 2 rfl) ?_
      refine xb_ri (va_runS (As := [.int t]) (rest := []) ⟨hx, hb, hml, hown, hts⟩ (cM_isT l D t) (va_cwS 1 hts (gM_S 89 yX2_isTally (.code yX2_isTally cX2_isTally 1 (some .boolean)) (by decide +kernel) mw_71) rfl rfl rfl (by decide +kernel) ⟨Nat.le_of_ble_eq_true rfl, Nat.le_of_ble_eq_true rfl⟩) (xb_ps rfl hP hK hD) rfl rfl hl.1 rfl (lv_room (Nat.le_of_ble_eq_true rfl)) dX2_clear_9 ⟨Nat.le_of_ble_eq_true rfl, Nat.le_of_ble_eq_true rfl⟩) hD hS hA (fun r9 ws1 H locs hws1 hP hD hS => ?_)
      obtain ⟨hr9, rfl⟩ := hws1
      refine lv_if_eq (tgt := 33) hx hb dX2_clear_12 (by decide) (fun c12 => ?_) (fun c12 => ?_)
      · have c12 := bz_0 hr9 c12
        refine lv_iload_n hx hb dX2_clear_33 rfl (lv_at hl 2 rfl) ?_
        refine xb_ri (va_runS (As := [.int t]) (rest := []) ⟨hx, hb, hml, hown, hts⟩ (cM_isT l D t) (va_cwS 1 hts (gM_S 89 yX2_isTally (.code yX2_isTally cX2_isTally 1 (some .boolean)) (by decide +kernel) mw_71) rfl rfl rfl (by decide +kernel) ⟨Nat.le_of_ble_eq_true rfl, Nat.le_of_ble_eq_true rfl⟩) (xb_ps rfl hP hK hD) rfl rfl hl.1 rfl (lv_room (Nat.le_of_ble_eq_true rfl)) dX2_clear_34 ⟨Nat.le_of_ble_eq_true rfl, Nat.le_of_ble_eq_true rfl⟩) hD hS hA (fun r34 ws2 H locs hws2 hP hD hS => ?_)
        obtain ⟨hr34, rfl⟩ := hws2
        refine lv_if_eq (tgt := 47) hx hb dX2_clear_37 (by decide) (fun c37 => ?_) (fun c37 => ?_)
        · have c37 := bz_0 hr34 c37
          refine lv_iload_n hx hb dX2_clear_47 rfl (lv_at hl 2 rfl) ?_
          refine xb_ri (va_runS (As := [.int t]) (rest := []) ⟨hx, hb, hml, hown, hts⟩ (cM_isT l D t) (va_cwS 1 hts (gM_S 89 yX2_isTally (.code yX2_isTally cX2_isTally 1 (some .boolean)) (by decide +kernel) mw_71) rfl rfl rfl (by decide +kernel) ⟨Nat.le_of_ble_eq_true rfl, Nat.le_of_ble_eq_true rfl⟩) (xb_ps rfl hP hK hD) rfl rfl hl.1 rfl (lv_room (Nat.le_of_ble_eq_true rfl)) dX2_clear_48 ⟨Nat.le_of_ble_eq_true rfl, Nat.le_of_ble_eq_true rfl⟩) hD hS hA (fun r48 ws3 H locs hws3 hP hD hS => ?_)
          obtain ⟨hr48, rfl⟩ := hws3
          exact xb_zr hx hb hr hlocks hP hK hD hS dX2_clear_51 (by rw [hr48]; split <;> rfl) (by rw [if_neg hT] at hr48; rw [sp_clear, if_neg hT]; exact ⟨⟨tf, bf, _, _, _, _, _, M, T⟩, hr48⟩)
        · have c37 := bz_1 hr34 c37
          exact absurd c37 hT
      · have c12 := bz_1 hr9 c12
        exact absurd c12 hT
set_option maxHeartbeats 4000000 in
set_option maxRecDepth 100000 in
theorem cM_digits (l : Launch) (D : va_G) {tys : xT} {ws : va_W} {sz : Nat} {w0 : va_W} {ad : Nat → Nat} {cB : Nat → ClassId} {rf : Nat → Int64} {tf bf fa fb fc fr : Nat → Int32} {ng : Int32} (M : md w0 ws tys ad cB rf tf bf fa fb fc fr ng) {tv : Nat → Int} (T : mt tf bf tv) (t : Int32) : xM l yX2_digits (.code yX2_digits cX2_digits 4 (some .int) :: mdT) ({ frames := 1, cells := 0, slots := 0, locals := 20 }) D tys ws sz [.ref (ad 0), .int t] (xQi D tys (fun a w => mdS w0 w tys ad cB (rf, tv) ∧ sp_digits (rf, tv) t a)) 0 0 := by
  refine xb_m (cc := cX2_digits) (maxL := 4) (ret := (some .int)) (by decide) rfl (Nat.le_of_ble_eq_true rfl) ?_
  intro p e s m below meth c A ls hx hb hr hml hown hts hlocks hnm hA hP hK hD hS hl
  have hl : lv_has ls 4 [(0, .ref (ad 0)), (1, .int t)] := hl
  have hown : s.vm.findClass RX2 = some m.cls := hown
  by_cases hT : okT t
  · have loop : ∀ (n i L : Nat) (xi x2 : Int32) (H : Heap) (locs : List Loc) (ls : Array Slot), i ≤ 36 → 36 < i + n → xi = nI i → x2 = nI L → sLen ((tv t.toNatClampNeg).natAbs % 10 ^ i) L → L ≤ 36 → va_P D vwCl ws H → va_S A s.heap H locs → lv_has ls 4 [(0, .ref (ad 0)), (1, .int t), (2, .int x2), (3, .int xi)] → W p l e ({ frames := 1, cells := 0, slots := 0, locals := 20 }) s m [.ref (ad 0), .int t].toArray below meth c H locs 0 0 (MQ below (xQi D tys (fun a w => mdS w0 w tys ad cB (rf, tv) ∧ sp_digits (rf, tv) t a) A) [.ref (ad 0), .int t].toArray s 0 0 A) (F0 m 4 ls []) := by
      intro n
      induction n with
      | zero =>
        intro i L xi x2 H locs ls h1 h2
        omega
      | succ n ih =>
        intro i L xi x2 H locs ls h1 h2 exi ex2 hL hL6 hP hS hl
        refine lv_iload_n hx hb dX2_digits_4 rfl (lv_at hl 3 rfl) ?_
        refine lv_bipush (v := 36) hx hb dX2_digits_5 (by decide) ?_
        refine lv_icmp_ge (tgt := 45) hx hb dX2_digits_7 (by decide) (fun c7 => ?_) (fun c7 => ?_)
        · have q36 := nge (M := 36) rfl exi (by decide) c7 (by omega)
          have e36 : i = 36 := by omega
          subst e36
          rw [Nat.mod_eq_of_lt (mt_l T hT)] at hL
          refine lv_iload_n hx hb dX2_digits_45 rfl (lv_at hl 1 rfl) ?_
          refine xb_ri (va_runS (As := [.int t]) (rest := []) ⟨hx, hb, hml, hown, hts⟩ (cM_isT l D t) (va_cwS 1 hts (gM_S 89 yX2_isTally (.code yX2_isTally cX2_isTally 1 (some .boolean)) (by decide +kernel) mw_71) rfl rfl rfl (by decide +kernel) ⟨Nat.le_of_ble_eq_true rfl, Nat.le_of_ble_eq_true rfl⟩) (xb_ps rfl hP hK hD) rfl rfl hl.1 rfl (lv_room (Nat.le_of_ble_eq_true rfl)) dX2_digits_46 ⟨Nat.le_of_ble_eq_true rfl, Nat.le_of_ble_eq_true rfl⟩) hD hS hA (fun r46 ws2 H locs hws2 hP hD hS => ?_)
          obtain ⟨hr46, rfl⟩ := hws2
          refine lv_if_ne (tgt := 56) hx hb dX2_digits_49 (by decide) (fun c49 => ?_) (fun c49 => ?_)
          · have c49 := bz_1 hr46 c49
            refine lv_aload_n hx hb dX2_digits_56 rfl (lv_at hl 0 rfl) ?_
            refine va_get (D := D) (ci := ciM) (v := .ref (ad 3)) (C := RX2) (T := TX2) (N := 8) hx hb hts inM hown hK hP 10 (md_a0 M) rfl 2 (by decide) (hts _ (inT mw_49)) (fun _ h9 => h9) rfl dX2_digits_57 ?_
            refine lv_iload_n hx hb dX2_digits_60 rfl (lv_at hl 1 rfl) ?_
            refine md_zld hx hb hK hP M hT dX2_digits_61 ?_
            refine lv_if_eq (tgt := 70) hx hb dX2_digits_62 (by decide) (fun c62 => ?_) (fun c62 => ?_)
            · refine lv_iload_n hx hb dX2_digits_70 rfl (lv_at hl 2 rfl) ?_
              exact xb_ir hx hb hr hlocks hP hK hD hS dX2_digits_71 (⟨⟨tf, bf, _, _, _, _, _, M, T⟩, by rw [sp_digits, if_pos hT]; exact ⟨L, hL, hL6, by rw [if_neg (bz_0 (mt_b T hT) c62)]; exact ex2⟩⟩)
            · refine lv_iload_n hx hb dX2_digits_65 rfl (lv_at hl 2 rfl) ?_
              refine lv_ineg hx hb dX2_digits_66 ?_
              refine lv_goto (tgt := 71) hx hb dX2_digits_67 (by decide) ?_
              exact xb_ir hx hb hr hlocks hP hK hD hS dX2_digits_71 (⟨⟨tf, bf, _, _, _, _, _, M, T⟩, by rw [sp_digits, if_pos hT]; exact ⟨L, hL, hL6, by rw [if_pos (bz_1 (mt_b T hT) c62), ex2]⟩⟩)
          · have c49 := bz_0 hr46 c49
            exact absurd hT c49
        · refine lv_iload_n hx hb dX2_digits_10 rfl (lv_at hl 1 rfl) ?_
          refine xb_ri (va_runS (As := [.int t]) (rest := []) ⟨hx, hb, hml, hown, hts⟩ (cM_isT l D t) (va_cwS 1 hts (gM_S 89 yX2_isTally (.code yX2_isTally cX2_isTally 1 (some .boolean)) (by decide +kernel) mw_71) rfl rfl rfl (by decide +kernel) ⟨Nat.le_of_ble_eq_true rfl, Nat.le_of_ble_eq_true rfl⟩) (xb_ps rfl hP hK hD) rfl rfl hl.1 rfl (lv_room (Nat.le_of_ble_eq_true rfl)) dX2_digits_11 ⟨Nat.le_of_ble_eq_true rfl, Nat.le_of_ble_eq_true rfl⟩) hD hS hA (fun r11 ws2 H locs hws2 hP hD hS => ?_)
          obtain ⟨hr11, rfl⟩ := hws2
          refine lv_if_eq (tgt := 45) hx hb dX2_digits_14 (by decide) (fun c14 => ?_) (fun c14 => ?_)
          · have c14 := bz_0 hr11 c14
            exact absurd hT c14
          · have c14 := bz_1 hr11 c14
            have q36 := nlt (M := 36) rfl exi (by decide) c7 (by omega)
            refine lv_aload_n hx hb dX2_digits_17 rfl (lv_at hl 0 rfl) ?_
            refine va_get (D := D) (ci := ciM) (v := .ref (ad 2)) (C := RX2) (T := TX2) (N := 8) hx hb hts inM hown hK hP 10 (md_a0 M) rfl 1 (by decide) (hts _ (inT mw_48)) (fun _ h9 => h9) rfl dX2_digits_18 ?_
            refine lv_bipush (v := 40) hx hb dX2_digits_21 (by decide) ?_
            refine lv_iload_n hx hb dX2_digits_23 rfl (lv_at hl 1 rfl) ?_
            refine lv_imul hx hb dX2_digits_24 ?_
            refine lv_iload_n hx hb dX2_digits_25 rfl (lv_at hl 3 rfl) ?_
            refine lv_iadd hx hb dX2_digits_26 ?_
            refine ia_ld hx hb hK hP (md_a2 M) (md_t1 M) (ix40 hT exi) (lt160 hT (show i < 40 by omega)) (by decide) dX2_digits_27 ?_
            refine lv_if_le (tgt := 37) hx hb dX2_digits_28 (by decide) (fun c28 => ?_) (fun c28 => ?_)
            · refine lv_iload_n hx hb dX2_digits_37 rfl (lv_at hl 2 rfl) ?_
              refine lv_istore_n (lv' := [(2, .int x2), (0, .ref (ad 0)), (1, .int t), (3, .int xi)]) hx hb dX2_digits_38 rfl hl (by decide) rfl (fun ls hl => ?_)
              refine lv_iinc (v := xi + 1) (lv' := [(3, .int (xi + 1)), (2, .int x2), (0, .ref (ad 0)), (1, .int t)]) hx hb dX2_digits_39 hl (k := 3) rfl (by rfl) (by decide) rfl (fun ls hl => ?_)
              refine lv_goto (tgt := 4) hx hb dX2_digits_42 (by decide) ?_
              exact ih (i + 1) L (xi + 1) x2 H locs ls (by omega) (by omega) (by rw [exi]; exact nI_1 i) ex2 (by rw [mt_d T hT q36, nI_le0 (d9 _ i)] at c28; exact sL_z c28 hL) hL6 hP hS (lv_sub hl [2, 3, 1, 0] rfl)
            · refine lv_iload_n hx hb dX2_digits_31 rfl (lv_at hl 3 rfl) ?_
              refine lv_iconst (v := 1) hx hb dX2_digits_32 (by decide) ?_
              refine lv_iadd hx hb dX2_digits_33 ?_
              refine lv_goto (tgt := 38) hx hb dX2_digits_34 (by decide) ?_
              refine lv_istore_n (lv' := [(2, .int (xi + 1)), (0, .ref (ad 0)), (1, .int t), (3, .int xi)]) hx hb dX2_digits_38 rfl hl (by decide) rfl (fun ls hl => ?_)
              refine lv_iinc (v := xi + 1) (lv' := [(3, .int (xi + 1)), (2, .int (xi + 1)), (0, .ref (ad 0)), (1, .int t)]) hx hb dX2_digits_39 hl (k := 3) rfl (by rfl) (by decide) rfl (fun ls hl => ?_)
              refine lv_goto (tgt := 4) hx hb dX2_digits_42 (by decide) ?_
              exact ih (i + 1) (i + 1) (xi + 1) (xi + 1) H locs ls (by omega) (by omega) (by rw [exi]; exact nI_1 i) (by rw [exi]; exact nI_1 i) (by rw [mt_d T hT q36, nI_le0 (d9 _ i)] at c28; exact sL_p c28) (by omega) hP hS (lv_sub hl [2, 3, 1, 0] rfl)
    refine lv_iconst (v := 1) hx hb dX2_digits_0 (by decide) ?_
    refine lv_istore_n (lv' := [(2, .int 1), (0, .ref (ad 0)), (1, .int t)]) hx hb dX2_digits_1 rfl hl (by decide) rfl (fun ls hl => ?_)
    refine lv_iconst (v := 0) hx hb dX2_digits_2 (by decide) ?_
    refine lv_istore_n (lv' := [(3, .int 0), (2, .int 1), (0, .ref (ad 0)), (1, .int t)]) hx hb dX2_digits_3 rfl hl (by decide) rfl (fun ls hl => ?_)
    exact loop 37 0 1 0 1 s.heap [] ls (by omega) (by omega) nI_0.symm rfl (sL_0 _) (by omega) hP hS (lv_sub hl [2, 3, 1, 0] rfl)
  · refine lv_iconst (v := 1) hx hb dX2_digits_0 (by decide) ?_
    refine lv_istore_n (lv' := [(2, .int 1), (0, .ref (ad 0)), (1, .int t)]) hx hb dX2_digits_1 rfl hl (by decide) rfl (fun ls hl => ?_)
    refine lv_iconst (v := 0) hx hb dX2_digits_2 (by decide) ?_
    refine lv_istore_n (lv' := [(3, .int 0), (2, .int 1), (0, .ref (ad 0)), (1, .int t)]) hx hb dX2_digits_3 rfl hl (by decide) rfl (fun ls hl => ?_)
    refine lv_iload_n hx hb dX2_digits_4 rfl (lv_at hl 0 rfl) ?_
    refine lv_bipush (v := 36) hx hb dX2_digits_5 (by decide) ?_
    refine lv_icmp_ge (tgt := 45) hx hb dX2_digits_7 (by decide) (fun c7 => ?_) (fun c7 => ?_)
    · exact absurd c7 (by decide)
    · refine lv_iload_n hx hb dX2_digits_10 rfl (lv_at hl 3 rfl) ?_
      refine xb_ri (va_runS (As := [.int t]) (rest := []) ⟨hx, hb, hml, hown, hts⟩ (cM_isT l D t) (va_cwS 1 hts (gM_S 89 yX2_isTally (.code yX2_isTally cX2_isTally 1 (some .boolean)) (by decide +kernel) mw_71) rfl rfl rfl (by decide +kernel) ⟨Nat.le_of_ble_eq_true rfl, Nat.le_of_ble_eq_true rfl⟩) (xb_ps rfl hP hK hD) rfl rfl hl.1 rfl (lv_room (Nat.le_of_ble_eq_true rfl)) dX2_digits_11 ⟨Nat.le_of_ble_eq_true rfl, Nat.le_of_ble_eq_true rfl⟩) hD hS hA (fun r11 ws1 H locs hws1 hP hD hS => ?_)
      obtain ⟨hr11, rfl⟩ := hws1
      refine lv_if_eq (tgt := 45) hx hb dX2_digits_14 (by decide) (fun c14 => ?_) (fun c14 => ?_)
      · have c14 := bz_0 hr11 c14
        refine lv_iload_n hx hb dX2_digits_45 rfl (lv_at hl 3 rfl) ?_
        refine xb_ri (va_runS (As := [.int t]) (rest := []) ⟨hx, hb, hml, hown, hts⟩ (cM_isT l D t) (va_cwS 1 hts (gM_S 89 yX2_isTally (.code yX2_isTally cX2_isTally 1 (some .boolean)) (by decide +kernel) mw_71) rfl rfl rfl (by decide +kernel) ⟨Nat.le_of_ble_eq_true rfl, Nat.le_of_ble_eq_true rfl⟩) (xb_ps rfl hP hK hD) rfl rfl hl.1 rfl (lv_room (Nat.le_of_ble_eq_true rfl)) dX2_digits_46 ⟨Nat.le_of_ble_eq_true rfl, Nat.le_of_ble_eq_true rfl⟩) hD hS hA (fun r46 ws2 H locs hws2 hP hD hS => ?_)
        obtain ⟨hr46, rfl⟩ := hws2
        refine lv_if_ne (tgt := 56) hx hb dX2_digits_49 (by decide) (fun c49 => ?_) (fun c49 => ?_)
        · have c49 := bz_1 hr46 c49
          exact absurd c49 hT
        · have c49 := bz_0 hr46 c49
          refine lv_iconst (v := 0) hx hb dX2_digits_52 (by decide) ?_
          refine lv_goto (tgt := 71) hx hb dX2_digits_53 (by decide) ?_
          exact xb_ir hx hb hr hlocks hP hK hD hS dX2_digits_71 (⟨⟨tf, bf, _, _, _, _, _, M, T⟩, by rw [sp_digits, if_neg hT]⟩)
      · have c14 := bz_1 hr11 c14
        exact absurd c14 hT
set_option maxHeartbeats 4000000 in
set_option maxRecDepth 100000 in
theorem cM_digit (l : Launch) (D : va_G) {tys : xT} {ws : va_W} {sz : Nat} {w0 : va_W} {ad : Nat → Nat} {cB : Nat → ClassId} {rf : Nat → Int64} {tf bf fa fb fc fr : Nat → Int32} {ng : Int32} (M : md w0 ws tys ad cB rf tf bf fa fb fc fr ng) {tv : Nat → Int} (T : mt tf bf tv) (t k : Int32) : xM l yX2_digit (.code yX2_digit cX2_digit 3 (some .int) :: mdT) ({ frames := 1, cells := 0, slots := 0, locals := 20 }) D tys ws sz [.ref (ad 0), .int t, .int k] (xQi D tys (fun a w => mdS w0 w tys ad cB (rf, tv) ∧ a = sp_digit (rf, tv) t k)) 0 0 := by
  refine xb_m (cc := cX2_digit) (maxL := 3) (ret := (some .int)) (by decide) rfl (Nat.le_of_ble_eq_true rfl) ?_
  intro p e s m below meth c A ls hx hb hr hml hown hts hlocks hnm hA hP hK hD hS hl
  have hl : lv_has ls 3 [(0, .ref (ad 0)), (1, .int t), (2, .int k)] := hl
  have hown : s.vm.findClass RX2 = some m.cls := hown
  refine lv_iload_n hx hb dX2_digit_0 rfl (lv_at hl 1 rfl) ?_
  refine xb_ri (va_runS (As := [.int t]) (rest := []) ⟨hx, hb, hml, hown, hts⟩ (cM_isT l D t) (va_cwS 1 hts (gM_S 89 yX2_isTally (.code yX2_isTally cX2_isTally 1 (some .boolean)) (by decide +kernel) mw_71) rfl rfl rfl (by decide +kernel) ⟨Nat.le_of_ble_eq_true rfl, Nat.le_of_ble_eq_true rfl⟩) (xb_ps rfl hP hK hD) rfl rfl hl.1 rfl (lv_room (Nat.le_of_ble_eq_true rfl)) dX2_digit_1 ⟨Nat.le_of_ble_eq_true rfl, Nat.le_of_ble_eq_true rfl⟩) hD hS hA (fun r1 ws1 H locs hws1 hP hD hS => ?_)
  obtain ⟨hr1, rfl⟩ := hws1
  refine lv_if_eq (tgt := 31) hx hb dX2_digit_4 (by decide) (fun c4 => ?_) (fun c4 => ?_)
  · have c4 := bz_0 hr1 c4
    refine lv_iconst (v := (-1)) hx hb dX2_digit_31 (by decide) ?_
    exact xb_ir hx hb hr hlocks hP hK hD hS dX2_digit_32 (⟨⟨tf, bf, _, _, _, _, _, M, T⟩, by rw [sp_digit, if_neg (fun q => c4 q.1)]⟩)
  · have c4 := bz_1 hr1 c4
    refine lv_iload_n hx hb dX2_digit_7 rfl (lv_at hl 2 rfl) ?_
    refine lv_if_lt (tgt := 31) hx hb dX2_digit_8 (by decide) (fun c8 => ?_) (fun c8 => ?_)
    · refine lv_iconst (v := (-1)) hx hb dX2_digit_31 (by decide) ?_
      exact xb_ir hx hb hr hlocks hP hK hD hS dX2_digit_32 (⟨⟨tf, bf, _, _, _, _, _, M, T⟩, by rw [sp_digit, if_neg (fun q => q.2.1 c8)]⟩)
    · refine lv_iload_n hx hb dX2_digit_11 rfl (lv_at hl 2 rfl) ?_
      refine lv_bipush (v := 36) hx hb dX2_digit_12 (by decide) ?_
      refine lv_icmp_ge (tgt := 31) hx hb dX2_digit_14 (by decide) (fun c14 => ?_) (fun c14 => ?_)
      · refine lv_iconst (v := (-1)) hx hb dX2_digit_31 (by decide) ?_
        exact xb_ir hx hb hr hlocks hP hK hD hS dX2_digit_32 (⟨⟨tf, bf, _, _, _, _, _, M, T⟩, by rw [sp_digit, if_neg (fun q => Int32.not_lt.mpr c14 q.2.2)]⟩)
      · have hk36 := lt36 c8 (Int32.not_le.mp c14)
        refine lv_aload_n hx hb dX2_digit_17 rfl (lv_at hl 0 rfl) ?_
        refine va_get (D := D) (ci := ciM) (v := .ref (ad 2)) (C := RX2) (T := TX2) (N := 8) hx hb hts inM hown hK hP 10 (md_a0 M) rfl 1 (by decide) (hts _ (inT mw_48)) (fun _ h9 => h9) rfl dX2_digit_18 ?_
        refine lv_bipush (v := 40) hx hb dX2_digit_21 (by decide) ?_
        refine lv_iload_n hx hb dX2_digit_23 rfl (lv_at hl 1 rfl) ?_
        refine lv_imul hx hb dX2_digit_24 ?_
        refine lv_iload_n hx hb dX2_digit_25 rfl (lv_at hl 2 rfl) ?_
        refine lv_iadd hx hb dX2_digit_26 ?_
        refine ia_ld hx hb hK hP (md_a2 M) (md_t1 M) (ix40 c4 (ix_n c8)) (lt160 c4 (show k.toNatClampNeg < 40 by omega)) (by decide) dX2_digit_27 ?_
        refine lv_goto (tgt := 32) hx hb dX2_digit_28 (by decide) ?_
        exact xb_ir hx hb hr hlocks hP hK hD hS dX2_digit_32 (⟨⟨tf, bf, _, _, _, _, _, M, T⟩, by rw [sp_digit, if_pos ⟨c4, c8, Int32.not_le.mp c14⟩]; exact mt_d T c4 hk36⟩)
set_option maxHeartbeats 4000000 in
set_option maxRecDepth 100000 in
theorem cM_split (l : Launch) (D : va_G) {tys : xT} {ws : va_W} {sz : Nat} {w0 : va_W} {ad : Nat → Nat} {cB : Nat → ClassId} {rf : Nat → Int64} {tf bf fa fb fc fr : Nat → Int32} {ng : Int32} (M : md w0 ws tys ad cB rf tf bf fa fb fc fr ng) {tv : Nat → Int} (T : mt tf bf tv) (t : Int32) (d : Int64) (r : Int32) : xM l yX2_split (.code yX2_split cX2_split 8 (some .int) :: mdT) ({ frames := 2, cells := 0, slots := 0, locals := 47 }) D tys ws sz [.ref (ad 0), .int t, .long d, .int r] (xQi D tys (fun a w => mdS w0 w tys ad cB (sp_split (rf, tv) t d r).2 ∧ a = (sp_split (rf, tv) t d r).1)) 0 0 := by
  refine xb_m (cc := cX2_split) (maxL := 8) (ret := (some .int)) (by decide) rfl (Nat.le_of_ble_eq_true rfl) ?_
  intro p e s m below meth c A ls hx hb hr hml hown hts hlocks hnm hA hP hK hD hS hl
  have hl : lv_has ls 8 [(0, .ref (ad 0)), (1, .int t), (2, .long d), (4, .int r)] := hl
  have hown : s.vm.findClass RX2 = some m.cls := hown
  have loop : okT t → okR r → ¬ d < 0 → d ≤ 1000000000000000000 → ¬ d = 0 → ∀ (k : Nat) (x5 : Int64) (x7 : Int32) (fx fy fz : Nat → Int32) (ws1 : va_W) (H : Heap) (locs : List Loc) (ls : Array Slot), k ≤ 20 → x7 = nI k + (-1) → x5.toInt = ((((tv t.toNatClampNeg).natAbs % d.toInt.natAbs) / 10 ^ k : Nat) : Int) → md w0 ws1 tys ad cB rf tf bf fz fy fc fx (bf t.toNatClampNeg) → dg fx ((tv t.toNatClampNeg).natAbs % d.toInt.natAbs) → dg fz ((tv t.toNatClampNeg).natAbs / d.toInt.natAbs) → va_P D vwCl ws1 H → va_D A ws1 → va_S A s.heap H locs → lv_has ls 8 [(0, .ref (ad 0)), (1, .int t), (4, .int r), (5, .long x5), (7, .int x7)] → W p l e ({ frames := 2, cells := 0, slots := 0, locals := 47 }) s m [.ref (ad 0), .int t, .long d, .int r].toArray below meth c H locs 0 0 (MQ below (xQi D tys (fun a w => mdS w0 w tys ad cB (sp_split (rf, tv) t d r).2 ∧ a = (sp_split (rf, tv) t d r).1) A) [.ref (ad 0), .int t, .long d, .int r].toArray s 0 0 A) (F0 m 63 ls []) := by
    intro c4 c12 c18 c26 c34 k
    have hdp := d_pos c18 c34
    have hd18 := d_18 c26 c18
    have hrl : ((tv t.toNatClampNeg).natAbs % d.toInt.natAbs) < 1000000000000000000 := Nat.lt_of_lt_of_le (Nat.mod_lt _ (by omega)) hd18
    induction k with
    | zero =>
      intro x5 x7 fx fy fz ws1 H locs ls h1 ex7 ex5 M hdx hdz hP hD hS hl
      obtain ⟨z1, z2⟩ := sp_fin ex5
      obtain ⟨s1, s2⟩ := sv_td (mt_b T c4) hdp
      refine lv_iload hx hb dX2_split_63 (lv_at hl 4 rfl) ?_
      refine lv_if_lt (tgt := 91) hx hb dX2_split_65 (by decide) (fun c65 => ?_) (fun c65 => ?_)
      · refine lv_aload_n hx hb dX2_split_91 rfl (lv_at hl 0 rfl) ?_
        refine va_get (D := D) (ci := ciM) (v := .ref (ad 1)) (C := RX2) (T := TX2) (N := 8) hx hb hts inM hown hK hP 10 (md_a0 M) rfl 0 (by decide) (hts _ (inT mw_3)) (fun _ h9 => h9) rfl dX2_split_92 ?_
        refine lv_iload hx hb dX2_split_95 (lv_at hl 2 rfl) ?_
        refine lv_aload_n hx hb dX2_split_97 rfl (lv_at hl 0 rfl) ?_
        refine va_get (D := D) (ci := ciM) (v := .int (bf t.toNatClampNeg)) (C := RX2) (T := TX2) (N := 8) hx hb hts inM hown hK hP 10 (md_a0 M) rfl 7 (by decide) (hts _ (inT mw_10)) (fun _ h9 => h9) rfl dX2_split_98 ?_
        refine lv_if_eq (tgt := 110) hx hb dX2_split_101 (by decide) (fun c101 => ?_) (fun c101 => ?_)
        · refine lv_lload hx hb dX2_split_110 (lv_at hl 3 rfl) ?_
          refine md_lst hx hb hK hP hD hS M c12 dX2_split_112 (fun ws2 H locs M hP hD hS => ?_)
          refine lv_aload_n hx hb dX2_split_113 rfl (lv_at hl 0 rfl) ?_
          refine lv_iload_n hx hb dX2_split_114 rfl (lv_at hl 1 rfl) ?_
          refine xb_ri (va_runV (As := [.int t]) (rest := []) ⟨hx, hb, hml, hown, hts⟩ (cM_keep l D M T hdz (Nat.lt_of_le_of_lt (Nat.div_le_self _ _) (b80 (mt_l T c4))) (mt_01 T c4) c4) (cwV 1 hts (gM_V 96 yX2_keep (.code yX2_keep cX2_keep 4 (some .int)) (by decide +kernel) mw_73) rfl rfl rfl (by decide +kernel) ⟨Nat.le_of_ble_eq_true rfl, Nat.le_of_ble_eq_true rfl⟩) (xb_pv hP hK hD rfl rfl (md_a0 M)) rfl rfl hl.1 rfl (lv_room (Nat.le_of_ble_eq_true rfl)) dX2_split_115 ⟨Nat.le_of_ble_eq_true rfl, Nat.le_of_ble_eq_true rfl⟩) hD hS hA (fun r115 ws3 H locs hws3 hP hD hS => ?_)
          exact xb_ir hx hb hr hlocks hP hK hD hS dX2_split_118 (fin_kT hws3 (split_eq ⟨c4, c12, c18, Int64.not_lt.mpr c26⟩ c34 (mt_l T c4) s1 (by rw [z1, ← sv_0 (x := ((tv t.toNatClampNeg).natAbs % d.toInt.natAbs)) c101, s2])))
        · refine lv_lload hx hb dX2_split_104 (lv_at hl 3 rfl) ?_
          refine lv_lneg hx hb dX2_split_106 ?_
          refine lv_goto (tgt := 112) hx hb dX2_split_107 (by decide) ?_
          refine md_lst hx hb hK hP hD hS M c12 dX2_split_112 (fun ws2 H locs M hP hD hS => ?_)
          refine lv_aload_n hx hb dX2_split_113 rfl (lv_at hl 0 rfl) ?_
          refine lv_iload_n hx hb dX2_split_114 rfl (lv_at hl 1 rfl) ?_
          refine xb_ri (va_runV (As := [.int t]) (rest := []) ⟨hx, hb, hml, hown, hts⟩ (cM_keep l D M T hdz (Nat.lt_of_le_of_lt (Nat.div_le_self _ _) (b80 (mt_l T c4))) (mt_01 T c4) c4) (cwV 1 hts (gM_V 96 yX2_keep (.code yX2_keep cX2_keep 4 (some .int)) (by decide +kernel) mw_73) rfl rfl rfl (by decide +kernel) ⟨Nat.le_of_ble_eq_true rfl, Nat.le_of_ble_eq_true rfl⟩) (xb_pv hP hK hD rfl rfl (md_a0 M)) rfl rfl hl.1 rfl (lv_room (Nat.le_of_ble_eq_true rfl)) dX2_split_115 ⟨Nat.le_of_ble_eq_true rfl, Nat.le_of_ble_eq_true rfl⟩) hD hS hA (fun r115 ws3 H locs hws3 hP hD hS => ?_)
          exact xb_ir hx hb hr hlocks hP hK hD hS dX2_split_118 (fin_kT hws3 (split_eq ⟨c4, c12, c18, Int64.not_lt.mpr c26⟩ c34 (mt_l T c4) s1 (by rw [z2, ← sv_1 (x := ((tv t.toNatClampNeg).natAbs % d.toInt.natAbs)) (n01 (mt_01 T c4) c101), s2])))
      · exact absurd (by rw [ex7]; decide) c65
    | succ u ih =>
      intro x5 x7 fx fy fz ws1 H locs ls h1 ex7 ex5 M hdx hdz hP hD hS hl
      rw [pk_m1] at ex7
      refine lv_iload hx hb dX2_split_63 (lv_at hl 4 rfl) ?_
      refine lv_if_lt (tgt := 91) hx hb dX2_split_65 (by decide) (fun c65 => ?_) (fun c65 => ?_)
      · exact absurd c65 (by rw [ex7]; exact nI_pos (by omega))
      · refine lv_ldc2 (v := 10) hx hb hown (hts _ (inT mw_18)) dX2_split_68 ?_
        refine lv_lload hx hb dX2_split_71 (lv_at hl 3 rfl) ?_
        refine lv_lmul hx hb dX2_split_73 ?_
        refine lv_aload_n hx hb dX2_split_74 rfl (lv_at hl 0 rfl) ?_
        refine va_get (D := D) (ci := ciM) (v := .ref (ad 7)) (C := RX2) (T := TX2) (N := 8) hx hb hts inM hown hK hP 10 (md_a0 M) rfl 6 (by decide) (hts _ (inT mw_25)) (fun _ h9 => h9) rfl dX2_split_75 ?_
        refine lv_iload hx hb dX2_split_78 (lv_at hl 4 rfl) ?_
        refine ia_ld hx hb hK hP (md_a7 M) (md_t6 M) ex7 (show u < 80 by omega) (by decide) dX2_split_80 ?_
        refine lv_i2l hx hb dX2_split_81 rfl ?_
        refine lv_ladd hx hb dX2_split_82 ?_
        refine lv_lstore (lv' := [(5, .long ((10 * x5) + ((fx u).toInt64))), (0, .ref (ad 0)), (1, .int t), (4, .int r), (7, .int x7)]) hx hb dX2_split_83 hl (by decide) rfl (fun ls hl => ?_)
        refine lv_iinc (v := x7 + (-1)) (lv' := [(7, .int (x7 + (-1))), (5, .long ((10 * x5) + ((fx u).toInt64))), (0, .ref (ad 0)), (1, .int t), (4, .int r)]) hx hb dX2_split_85 hl (k := 4) rfl (by rfl) (by decide) rfl (fun ls hl => ?_)
        refine lv_goto (tgt := 63) hx hb dX2_split_88 (by decide) ?_
        exact ih ((10 * x5) + ((fx u).toInt64)) (x7 + (-1)) fx fy fz ws1 H locs ls (by omega) (by rw [ex7]) (sp_step (by omega) ex5 (hdx u (by omega))) M hdx hdz hP hD hS (lv_sub hl [2, 3, 4, 1, 0] rfl)
  refine lv_iload_n hx hb dX2_split_0 rfl (lv_at hl 1 rfl) ?_
  refine xb_ri (va_runS (As := [.int t]) (rest := []) ⟨hx, hb, hml, hown, hts⟩ (cM_isT l D t) (va_cwS 1 hts (gM_S 89 yX2_isTally (.code yX2_isTally cX2_isTally 1 (some .boolean)) (by decide +kernel) mw_71) rfl rfl rfl (by decide +kernel) ⟨Nat.le_of_ble_eq_true rfl, Nat.le_of_ble_eq_true rfl⟩) (xb_ps rfl hP hK hD) rfl rfl hl.1 rfl (lv_room (Nat.le_of_ble_eq_true rfl)) dX2_split_1 ⟨Nat.le_of_ble_eq_true rfl, Nat.le_of_ble_eq_true rfl⟩) hD hS hA (fun r1 ws1 H locs hws1 hP hD hS => ?_)
  obtain ⟨hr1, rfl⟩ := hws1
  refine lv_if_eq (tgt := 29) hx hb dX2_split_4 (by decide) (fun c4 => ?_) (fun c4 => ?_)
  · have c4 := bz_0 hr1 c4
    refine lv_iconst (v := (-1)) hx hb dX2_split_29 (by decide) ?_
    exact xb_ir hx hb hr hlocks hP hK hD hS dX2_split_30 (fin_no M T (by rw [sp_split, if_neg (fun q => c4 q.1)]))
  · have c4 := bz_1 hr1 c4
    refine lv_iload hx hb dX2_split_7 (lv_at hl 3 rfl) ?_
    refine xb_ri (va_runS (As := [.int r]) (rest := []) ⟨hx, hb, hml, hown, hts⟩ (cM_isR l D r) (va_cwS 1 hts (gM_S 33 yX2_isRegister (.code yX2_isRegister cX2_isRegister 1 (some .boolean)) (by decide +kernel) mw_52) rfl rfl rfl (by decide +kernel) ⟨Nat.le_of_ble_eq_true rfl, Nat.le_of_ble_eq_true rfl⟩) (xb_ps rfl hP hK hD) rfl rfl hl.1 rfl (lv_room (Nat.le_of_ble_eq_true rfl)) dX2_split_9 ⟨Nat.le_of_ble_eq_true rfl, Nat.le_of_ble_eq_true rfl⟩) hD hS hA (fun r9 ws2 H locs hws2 hP hD hS => ?_)
    obtain ⟨hr9, rfl⟩ := hws2
    refine lv_if_eq (tgt := 29) hx hb dX2_split_12 (by decide) (fun c12 => ?_) (fun c12 => ?_)
    · have c12 := bz_0 hr9 c12
      refine lv_iconst (v := (-1)) hx hb dX2_split_29 (by decide) ?_
      exact xb_ir hx hb hr hlocks hP hK hD hS dX2_split_30 (fin_no M T (by rw [sp_split, if_neg (fun q => c12 q.2.1)]))
    · have c12 := bz_1 hr9 c12
      refine lv_lload_n hx hb dX2_split_15 rfl (lv_at hl 2 rfl) ?_
      refine lv_lconst (v := 0) hx hb dX2_split_16 (by decide) ?_
      refine W.lcmp hx hb dX2_split_17 ?_
      refine lv_if_lt (tgt := 29) hx hb dX2_split_18 (by decide) (fun c18 => ?_) (fun c18 => ?_)
      · rw [lg_cmp_lt] at c18
        refine lv_iconst (v := (-1)) hx hb dX2_split_29 (by decide) ?_
        exact xb_ir hx hb hr hlocks hP hK hD hS dX2_split_30 (fin_no M T (by rw [sp_split, if_neg (fun q => q.2.2.1 c18)]))
      · rw [lg_cmp_lt] at c18
        refine lv_lload_n hx hb dX2_split_21 rfl (lv_at hl 2 rfl) ?_
        refine lv_ldc2 (v := 1000000000000000000) hx hb hown (hts _ (inT mw_50)) dX2_split_22 ?_
        refine W.lcmp hx hb dX2_split_25 ?_
        refine lv_if_le (tgt := 31) hx hb dX2_split_26 (by decide) (fun c26 => ?_) (fun c26 => ?_)
        · rw [lg_cmp_le] at c26
          refine lv_lload_n hx hb dX2_split_31 rfl (lv_at hl 2 rfl) ?_
          refine lv_lconst (v := 0) hx hb dX2_split_32 (by decide) ?_
          refine W.lcmp hx hb dX2_split_33 ?_
          refine lv_if_ne (tgt := 39) hx hb dX2_split_34 (by decide) (fun c34 => ?_) (fun c34 => ?_)
          · rw [lg_cmp_eq] at c34
            refine lv_aload_n hx hb dX2_split_39 rfl (lv_at hl 0 rfl) ?_
            refine lv_iload_n hx hb dX2_split_40 rfl (lv_at hl 1 rfl) ?_
            refine xb_rv (va_runV (As := [.int t]) (rest := []) ⟨hx, hb, hml, hown, hts⟩ (cM_read l D M T c4) (cwV 1 hts (gM_V 92 yX2_read (.code yX2_read cX2_read 3 none) (by decide +kernel) mw_72) rfl rfl rfl (by decide +kernel) ⟨Nat.le_of_ble_eq_true rfl, Nat.le_of_ble_eq_true rfl⟩) (xb_pv hP hK hD rfl rfl (md_a0 M)) rfl rfl hl.1 rfl (lv_room (Nat.le_of_ble_eq_true rfl)) dX2_split_41 ⟨Nat.le_of_ble_eq_true rfl, Nat.le_of_ble_eq_true rfl⟩) hD hS hA (fun ws3 H locs hws3 hP hD hS => ?_)
            obtain ⟨fa_41, M, hdfa_41⟩ := hws3
            refine lv_lload_n hx hb dX2_split_44 rfl (lv_at hl 2 rfl) ?_
            refine lv_aload_n hx hb dX2_split_45 rfl (lv_at hl 0 rfl) ?_
            refine va_get (D := D) (ci := ciM) (v := .ref (ad 5)) (C := RX2) (T := TX2) (N := 8) hx hb hts inM hown hK hP 10 (md_a0 M) rfl 4 (by decide) (hts _ (inT mw_29)) (fun _ h9 => h9) rfl dX2_split_46 ?_
            refine xb_rv (va_runS (As := [.long d, .ref (ad 5)]) (rest := []) ⟨hx, hb, hml, hown, hts⟩ (cM_write l D (md_a5 M) (md_t4 M) d) (va_cwS 2 hts (gM_S 63 yX2_write (.code yX2_write cX2_write 7 none) (by decide +kernel) mw_56) rfl rfl rfl (by decide +kernel) ⟨Nat.le_of_ble_eq_true rfl, Nat.le_of_ble_eq_true rfl⟩) (xb_ps rfl hP hK hD) rfl rfl hl.1 rfl (lv_room (Nat.le_of_ble_eq_true rfl)) dX2_split_49 ⟨Nat.le_of_ble_eq_true rfl, Nat.le_of_ble_eq_true rfl⟩) hD hS hA (fun ws4 H locs hws4 hP hD hS => ?_)
            obtain ⟨fb_49, hws4, hdfb_49⟩ := hws4
            have M := md_sfb M hws4
            have hdfb_49 : dg fb_49 (d.toInt.natAbs) := hdfb_49
            refine lv_aload_n hx hb dX2_split_52 rfl (lv_at hl 0 rfl) ?_
            refine xb_rv (va_runV (As := []) (rest := []) ⟨hx, hb, hml, hown, hts⟩ (cM_div l D M hdfa_41 hdfb_49 (l_ne c34) (b80 (mt_l T c4)) (Nat.lt_of_le_of_lt (l_abs d) (by decide))) (cwV 0 hts (gM_V 82 yX2_divide (.code yX2_divide cX2_divide 4 none) (by decide +kernel) mw_68) rfl rfl rfl (by decide +kernel) ⟨Nat.le_of_ble_eq_true rfl, Nat.le_of_ble_eq_true rfl⟩) (xb_pv hP hK hD rfl rfl (md_a0 M)) rfl rfl hl.1 rfl (lv_room (Nat.le_of_ble_eq_true rfl)) dX2_split_53 ⟨Nat.le_of_ble_eq_true rfl, Nat.le_of_ble_eq_true rfl⟩) hD hS hA (fun ws5 H locs hws5 hP hD hS => ?_)
            obtain ⟨fa_53, fr_53, M, hdfa_53, hdfr_53⟩ := hws5
            refine lv_lconst (v := 0) hx hb dX2_split_56 (by decide) ?_
            refine lv_lstore (lv' := [(5, .long 0), (0, .ref (ad 0)), (1, .int t), (2, .long d), (4, .int r)]) hx hb dX2_split_57 hl (by decide) rfl (fun ls hl => ?_)
            refine lv_bipush (v := 19) hx hb dX2_split_59 (by decide) ?_
            refine lv_istore (lv' := [(7, .int 19), (5, .long 0), (0, .ref (ad 0)), (1, .int t), (2, .long d), (4, .int r)]) hx hb dX2_split_61 hl (by decide) rfl (fun ls hl => ?_)
            have hd18 := d_18 c26 c18
            exact loop c4 c12 c18 c26 c34 20 0 19 _ _ _ ws5 H locs ls (by omega) rfl (by rw [Nat.div_eq_of_lt (Nat.lt_trans (Nat.lt_of_lt_of_le (Nat.mod_lt _ (l_ne c34)) hd18) (by decide))]; rfl) M hdfr_53 hdfa_53 hP hD hS (lv_sub hl [2, 3, 5, 1, 0] rfl)
          · rw [lg_cmp_eq] at c34
            refine lv_iconst (v := 3) hx hb dX2_split_37 (by decide) ?_
            exact xb_ir hx hb hr hlocks hP hK hD hS dX2_split_38 (fin_no M T (by rw [sp_split, if_pos ⟨c4, c12, c18, Int64.not_lt.mpr c26⟩, if_pos c34]))
        · rw [lg_cmp_le] at c26
          refine lv_iconst (v := (-1)) hx hb dX2_split_29 (by decide) ?_
          exact xb_ir hx hb hr hlocks hP hK hD hS dX2_split_30 (fin_no M T (by rw [sp_split, if_neg (fun q => q.2.2.2 (Int64.not_le.mp c26))]))
end
section
/-! the reference: share -/
theorem dg_one {f : Nat → Int32} (h : dg f 0) : dg (upd f 0 1) 1 := by
  intro j hj
  rcases Nat.eq_zero_or_pos j with q | q
  · subst q; rw [up_s]; decide
  · rw [up_n (by omega), h j hj, Nat.zero_div]
    obtain ⟨i, rfl⟩ : ∃ i, j = i + 1 := ⟨j - 1, by omega⟩
    rw [Nat.div_eq_of_lt (Nat.one_lt_pow (by omega) (by decide))]
theorem sg_mul {a b : Int} (ha : a ≠ 0) (hb : b ≠ 0) : (a * b < 0) ↔ ¬ ((a < 0) ↔ (b < 0)) := by
  rcases Int.lt_or_gt_of_ne ha with x | x <;> rcases Int.lt_or_gt_of_ne hb with y | y
  · have := Int.mul_pos_of_neg_of_neg x y
    omega
  · have := Int.mul_neg_of_neg_of_pos x y
    omega
  · have := Int.mul_neg_of_pos_of_neg x y
    omega
  · have := Int.mul_pos x y
    omega
theorem nn_ok {a b d : Int64} {nn : Int32} (h : nn = 1 ↔ ¬ (¬ (a.toInt < 0 ↔ b.toInt < 0) ↔ d.toInt < 0)) : a.toInt.natAbs * b.toInt.natAbs ≠ 0 → (nn = 1 ↔ rq_ng (a.toInt * b.toInt) d.toInt) := by
  intro h0
  have ha : a.toInt ≠ 0 := fun q => h0 (by rw [q]; exact Nat.zero_mul _)
  have hb : b.toInt ≠ 0 := fun q => h0 (by rw [q]; exact Nat.mul_zero _)
  rw [h]
  unfold rq_ng
  rw [sg_mul ha hb]
theorem share_fin {a b d : Int} {nn wy : Int32} {z : Nat} (hd : 0 < d.natAbs) (h01 : nn = 0 ∨ nn = 1) (hn : a.natAbs * b.natAbs ≠ 0 → (nn = 1 ↔ rq_ng (a * b) d)) (hz : z = a.natAbs * b.natAbs / d.natAbs + (if rq_up (a.natAbs * b.natAbs % d.natAbs) d.natAbs (nn = 1) wy then 1 else 0)) : sv nn z = rq (a * b) d wy := by
  have hm : (a * b).natAbs = a.natAbs * b.natAbs := Int.natAbs_mul a b
  unfold rq rq_sz
  rw [hm]
  generalize a.natAbs * b.natAbs = X at *
  by_cases h0 : X = 0
  · subst h0
    have u1 : ∀ P : Prop, ¬ rq_up (0 % d.natAbs) d.natAbs P wy := by
      intro P q
      rw [Nat.zero_mod] at q
      rcases q with q | q | q
      · exact q.2.2 rfl
      · exact q.2.2 rfl
      · have := q.2; omega
    rw [if_neg (u1 _), Nat.zero_div] at hz
    rw [if_neg (u1 _), Nat.zero_div, hz]
    unfold sv
    split <;> split <;> rfl
  · have hn := hn h0
    have e : rq_up (X % d.natAbs) d.natAbs (nn = 1) wy ↔ rq_up (X % d.natAbs) d.natAbs (rq_ng (a * b) d) wy := by
      unfold rq_up; rw [hn]
    have hz2 : (z : Int) = ((X / d.natAbs : Nat) : Int) + (if rq_up (X % d.natAbs) d.natAbs (rq_ng (a * b) d) wy then 1 else 0) := by
      rw [hz]
      by_cases q : rq_up (X % d.natAbs) d.natAbs (nn = 1) wy
      · rw [if_pos q, if_pos (e.mp q)]; rfl
      · rw [if_neg q, if_neg (fun z => q (e.mpr z))]; rfl
    rw [← hz2]
    by_cases q : nn = 1
    · rw [sv_1 q, if_pos (hn.mp q)]
    · rw [sv_0 (n10 h01 q), if_neg (fun z => q (hn.mpr z))]
theorem share_eq {rf : Nat → Int64} {tv : Nat → Int} {r wy : Int32} {v d : Int64} {V : Int} (h : okR r ∧ okW wy) (h0 : ¬ d = 0) (e : V = rq ((rf r.toNatClampNeg).toInt * v.toInt) d.toInt wy) : sp_share (rf, tv) r v d wy = sp_kR (rf, tv) r V := by
  rw [e]
  exact (if_pos h).trans (if_neg h0)
-- the reference: share (laid by wip/whole/gen_mq.py)
set_option maxHeartbeats 4000000 in
set_option maxRecDepth 100000 in
theorem cM_share (l : Launch) (D : va_G) {tys : xT} {ws : va_W} {sz : Nat} {w0 : va_W} {ad : Nat → Nat} {cB : Nat → ClassId} {rf : Nat → Int64} {tf bf fa fb fc fr : Nat → Int32} {ng : Int32} (M : md w0 ws tys ad cB rf tf bf fa fb fc fr ng) {tv : Nat → Int} (T : mt tf bf tv) (r : Int32) (v d : Int64) (wy : Int32) : xM l yX2_share (.code yX2_share cX2_share 9 (some .int) :: mdT) ({ frames := 2, cells := 0, slots := 0, locals := 50 }) D tys ws sz [.ref (ad 0), .int r, .long v, .long d, .int wy] (xQi D tys (fun a w => mdS w0 w tys ad cB (sp_share (rf, tv) r v d wy).2 ∧ a = (sp_share (rf, tv) r v d wy).1)) 0 0 := by
  refine xb_m (cc := cX2_share) (maxL := 9) (ret := (some .int)) (by decide) rfl (Nat.le_of_ble_eq_true rfl) ?_
  intro p e s m below meth c A ls hx hb hr hml hown hts hlocks hnm hA hP hK hD hS hl
  have hl : lv_has ls 9 [(0, .ref (ad 0)), (1, .int r), (2, .long v), (4, .long d), (6, .int wy)] := hl
  have hown : s.vm.findClass RX2 = some m.cls := hown
  have t233 : okR r → okW wy → ¬ d = 0 → ∀ (nn fx : Int32) (f1 f2 f3 f4 : Nat → Int32) (ws1 : va_W) (H : Heap) (locs : List Loc) (ls : Array Slot), (nn = 0 ∨ nn = 1) → (((rf r.toNatClampNeg).toInt.natAbs * v.toInt.natAbs) ≠ 0 → (nn = 1 ↔ rq_ng ((rf r.toNatClampNeg).toInt * v.toInt) d.toInt)) → fx = (if rq_up (((rf r.toNatClampNeg).toInt.natAbs * v.toInt.natAbs) % d.toInt.natAbs) d.toInt.natAbs (nn = 1) wy then 1 else 0) → md w0 ws1 tys ad cB rf tf bf f1 f2 f3 f4 nn → dg f1 (((rf r.toNatClampNeg).toInt.natAbs * v.toInt.natAbs) / d.toInt.natAbs) → va_P D vwCl ws1 H → va_D A ws1 → va_S A s.heap H locs → lv_has ls 9 [(0, .ref (ad 0)), (1, .int r), (6, .int wy)] → W p l e ({ frames := 2, cells := 0, slots := 0, locals := 50 }) s m [.ref (ad 0), .int r, .long v, .long d, .int wy].toArray below meth c H locs 0 0 (MQ below (xQi D tys (fun a w => mdS w0 w tys ad cB (sp_share (rf, tv) r v d wy).2 ∧ a = (sp_share (rf, tv) r v d wy).1) A) [.ref (ad 0), .int r, .long v, .long d, .int wy].toArray s 0 0 A) (F0 m 233 ls [.int fx]) := by
    intro c4 cw c24 nn fx f1 f2 f3 f4 ws1 H locs ls h01 hnn hfx M hd1 hP hD hS hl
    have hxx : ((rf r.toNatClampNeg).toInt.natAbs * v.toInt.natAbs) < 10 ^ 79 := abs_m _ _
    have hq : ((rf r.toNatClampNeg).toInt.natAbs * v.toInt.natAbs) / d.toInt.natAbs ≤ ((rf r.toNatClampNeg).toInt.natAbs * v.toInt.natAbs) := Nat.div_le_self _ _
    have h10 : 10 * 10 ^ 79 = 10 ^ 80 := by decide
    refine lv_istore (lv' := [(8, .int fx), (0, .ref (ad 0)), (1, .int r), (6, .int wy)]) hx hb dX2_share_233 hl (by decide) rfl (fun ls hl => ?_)
    refine lv_iload hx hb dX2_share_235 (lv_at hl 0 rfl) ?_
    refine lv_if_eq (tgt := 265) hx hb dX2_share_237 (by decide) (fun c237 => ?_) (fun c237 => ?_)
    · have c237 := bz_0 hfx c237
      refine lv_aload_n hx hb dX2_share_265 rfl (lv_at hl 1 rfl) ?_
      refine lv_iload_n hx hb dX2_share_266 rfl (lv_at hl 2 rfl) ?_
      refine xb_ri (va_runV (As := [.int r]) (rest := []) ⟨hx, hb, hml, hown, hts⟩ (cM_store l D M tv hd1 (by omega) h01 c4) (cwV 1 hts (gM_V 71 yX2_store (.code yX2_store cX2_store 5 (some .int)) (by decide +kernel) mw_62) rfl rfl rfl (by decide +kernel) ⟨Nat.le_of_ble_eq_true rfl, Nat.le_of_ble_eq_true rfl⟩) (xb_pv hP hK hD rfl rfl (md_a0 M)) rfl rfl hl.1 rfl (lv_room (Nat.le_of_ble_eq_true rfl)) dX2_share_267 ⟨Nat.le_of_ble_eq_true rfl, Nat.le_of_ble_eq_true rfl⟩) hD hS hA (fun r267 ws2 H locs hws2 hP hD hS => ?_)
      exact xb_ir hx hb hr hlocks hP hK hD hS dX2_share_270 (fin_kR T hws2 (share_eq ⟨c4, cw⟩ c24 (share_fin (l_ne c24) h01 hnn (by rw [if_neg c237, Nat.add_zero]))))
    · have c237 := bz_1 hfx c237
      refine lv_aload_n hx hb dX2_share_240 rfl (lv_at hl 1 rfl) ?_
      refine va_get (D := D) (ci := ciM) (v := .ref (ad 6)) (C := RX2) (T := TX2) (N := 8) hx hb hts inM hown hK hP 10 (md_a0 M) rfl 5 (by decide) (hts _ (inT mw_11)) (fun _ h9 => h9) rfl dX2_share_241 ?_
      refine xb_rv (va_runS (As := [.ref (ad 6)]) (rest := []) ⟨hx, hb, hml, hown, hts⟩ (cM_nothing l D (md_a6 M) (md_t5 M)) (va_cwS 1 hts (gM_S 39 yX2_nothing (.code yX2_nothing cX2_nothing 2 none) (by decide +kernel) mw_66) rfl rfl rfl (by decide +kernel) ⟨Nat.le_of_ble_eq_true rfl, Nat.le_of_ble_eq_true rfl⟩) (xb_ps rfl hP hK hD) rfl rfl hl.1 rfl (lv_room (Nat.le_of_ble_eq_true rfl)) dX2_share_244 ⟨Nat.le_of_ble_eq_true rfl, Nat.le_of_ble_eq_true rfl⟩) hD hS hA (fun ws2 H locs hws2 hP hD hS => ?_)
      obtain ⟨fc_244, hws2, hdfc_244⟩ := hws2
      have M := md_sfc M hws2
      have hdfc_244 : dg fc_244 0 := fun j hj => by rw [hdfc_244 j hj, Nat.zero_div]; rfl
      refine lv_aload_n hx hb dX2_share_247 rfl (lv_at hl 1 rfl) ?_
      refine va_get (D := D) (ci := ciM) (v := .ref (ad 6)) (C := RX2) (T := TX2) (N := 8) hx hb hts inM hown hK hP 10 (md_a0 M) rfl 5 (by decide) (hts _ (inT mw_11)) (fun _ h9 => h9) rfl dX2_share_248 ?_
      refine lv_iconst (v := 0) hx hb dX2_share_251 (by decide) ?_
      refine lv_iconst (v := 1) hx hb dX2_share_252 (by decide) ?_
      refine ia_st (x := 1) hx hb hK hP hD hS (md_a6 M) (md_t5 M) nI_0.symm (by decide) (by decide) dX2_share_253 (fun ws3 H locs hws3 hP hD hS => ?_)
      have M := md_sfc M hws3
      have hdo : dg (upd fc_244 0 1) 1 := dg_one hdfc_244
      refine lv_aload_n hx hb dX2_share_254 rfl (lv_at hl 1 rfl) ?_
      refine va_get (D := D) (ci := ciM) (v := .ref (ad 4)) (C := RX2) (T := TX2) (N := 8) hx hb hts inM hown hK hP 10 (md_a0 M) rfl 3 (by decide) (hts _ (inT mw_7)) (fun _ h9 => h9) rfl dX2_share_255 ?_
      refine lv_aload_n hx hb dX2_share_258 rfl (lv_at hl 1 rfl) ?_
      refine va_get (D := D) (ci := ciM) (v := .ref (ad 6)) (C := RX2) (T := TX2) (N := 8) hx hb hts inM hown hK hP 10 (md_a0 M) rfl 5 (by decide) (hts _ (inT mw_11)) (fun _ h9 => h9) rfl dX2_share_259 ?_
      refine xb_rv (va_runS (As := [.ref (ad 4), .ref (ad 6)]) (rest := []) ⟨hx, hb, hml, hown, hts⟩ (cM_plus l D (md_a4 M) (md_t3 M) (md_a6 M) (md_t5 M) hd1 hdo (by decide)) (va_cwS 2 hts (gM_S 58 yX2_plus (.code yX2_plus cX2_plus 5 none) (by decide +kernel) mw_58) rfl rfl rfl (by decide +kernel) ⟨Nat.le_of_ble_eq_true rfl, Nat.le_of_ble_eq_true rfl⟩) (xb_ps rfl hP hK hD) rfl rfl hl.1 rfl (lv_room (Nat.le_of_ble_eq_true rfl)) dX2_share_262 ⟨Nat.le_of_ble_eq_true rfl, Nat.le_of_ble_eq_true rfl⟩) hD hS hA (fun ws4 H locs hws4 hP hD hS => ?_)
      obtain ⟨fa_262, hws4, hdfa_262⟩ := hws4
      have M := md_sfa M hws4
      have hdfa_262 : dg fa_262 ((((rf r.toNatClampNeg).toInt.natAbs * v.toInt.natAbs) / d.toInt.natAbs) + 1) := hdfa_262
      refine lv_aload_n hx hb dX2_share_265 rfl (lv_at hl 1 rfl) ?_
      refine lv_iload_n hx hb dX2_share_266 rfl (lv_at hl 2 rfl) ?_
      refine xb_ri (va_runV (As := [.int r]) (rest := []) ⟨hx, hb, hml, hown, hts⟩ (cM_store l D M tv hdfa_262 (by omega) h01 c4) (cwV 1 hts (gM_V 71 yX2_store (.code yX2_store cX2_store 5 (some .int)) (by decide +kernel) mw_62) rfl rfl rfl (by decide +kernel) ⟨Nat.le_of_ble_eq_true rfl, Nat.le_of_ble_eq_true rfl⟩) (xb_pv hP hK hD rfl rfl (md_a0 M)) rfl rfl hl.1 rfl (lv_room (Nat.le_of_ble_eq_true rfl)) dX2_share_267 ⟨Nat.le_of_ble_eq_true rfl, Nat.le_of_ble_eq_true rfl⟩) hD hS hA (fun r267 ws5 H locs hws5 hP hD hS => ?_)
      exact xb_ir hx hb hr hlocks hP hK hD hS dX2_share_270 (fin_kR T hws5 (share_eq ⟨c4, cw⟩ c24 (share_fin (l_ne c24) h01 hnn (by rw [if_pos c237]))))
  have t119 : okR r → okW wy → ¬ d = 0 → ∀ (nn : Int32) (f1 f2 f3 : Nat → Int32) (ws1 : va_W) (H : Heap) (locs : List Loc) (ls : Array Slot), (nn = 0 ∨ nn = 1) → (((rf r.toNatClampNeg).toInt.natAbs * v.toInt.natAbs) ≠ 0 → (nn = 1 ↔ rq_ng ((rf r.toNatClampNeg).toInt * v.toInt) d.toInt)) → md w0 ws1 tys ad cB rf tf bf f1 f2 f3 fr ng → dg f1 ((rf r.toNatClampNeg).toInt.natAbs * v.toInt.natAbs) → dg f2 d.toInt.natAbs → va_P D vwCl ws1 H → va_D A ws1 → va_S A s.heap H locs → lv_has ls 9 [(0, .ref (ad 0)), (1, .int r), (6, .int wy)] → W p l e ({ frames := 2, cells := 0, slots := 0, locals := 50 }) s m [.ref (ad 0), .int r, .long v, .long d, .int wy].toArray below meth c H locs 0 0 (MQ below (xQi D tys (fun a w => mdS w0 w tys ad cB (sp_share (rf, tv) r v d wy).2 ∧ a = (sp_share (rf, tv) r v d wy).1) A) [.ref (ad 0), .int r, .long v, .long d, .int wy].toArray s 0 0 A) (F0 m 119 ls [.int nn, .ref (ad 0)]) := by
    intro c4 cw c24 nn f1 f2 f3 ws1 H locs ls h01 hnn M hd1 hd2 hP hD hS hl
    have hxx : ((rf r.toNatClampNeg).toInt.natAbs * v.toInt.natAbs) < 10 ^ 79 := abs_m _ _
    have h10 : 10 * 10 ^ 79 = 10 ^ 80 := by decide
    have hdl : d.toInt.natAbs < 10 ^ 79 := Nat.lt_of_le_of_lt (l_abs d) (by decide)
    have hmlt : ((rf r.toNatClampNeg).toInt.natAbs * v.toInt.natAbs) % d.toInt.natAbs < d.toInt.natAbs := Nat.mod_lt _ (l_ne c24)
    refine va_put (D := D) (ci := ciM) (v := .int nn) (ty := .boolean) (C := RX2) (T := TX2) (N := 8) hx hb hts inM tyX2 tyX2_ok nmX2 hown hK hP hD hS 10 (md_a0 M) rfl 7 (by decide) (hts _ (inT mw_10)) (fun _ h9 => h9) rfl (by decide +kernel) (by rcases h01 with rfl | rfl <;> rfl) (by rcases h01 with rfl | rfl <;> rfl) (Nat.le_of_ble_eq_true rfl) dX2_share_119 (fun H locs hP hD hS => ?_)
    obtain ⟨ws2, hws2⟩ : ∃ q_, q_ = ws1.set 10 (ad 0, .inr (ciM, [.ref (ad 1), .ref (ad 2), .ref (ad 3), .ref (ad 4), .ref (ad 5), .ref (ad 6), .ref (ad 7), .int nn])) := ⟨_, rfl⟩
    have hP : va_P D vwCl ws2 H := by rw [hws2]; exact hP
    have hD : va_D A ws2 := by rw [hws2]; exact hD
    have M := md_sng M hws2
    refine lv_aload_n hx hb dX2_share_122 rfl (lv_at hl 0 rfl) ?_
    refine xb_rv (va_runV (As := []) (rest := []) ⟨hx, hb, hml, hown, hts⟩ (cM_div l D M hd1 hd2 (l_ne c24) (by omega) hdl) (cwV 0 hts (gM_V 82 yX2_divide (.code yX2_divide cX2_divide 4 none) (by decide +kernel) mw_68) rfl rfl rfl (by decide +kernel) ⟨Nat.le_of_ble_eq_true rfl, Nat.le_of_ble_eq_true rfl⟩) (xb_pv hP hK hD rfl rfl (md_a0 M)) rfl rfl hl.1 rfl (lv_room (Nat.le_of_ble_eq_true rfl)) dX2_share_123 ⟨Nat.le_of_ble_eq_true rfl, Nat.le_of_ble_eq_true rfl⟩) hD hS hA (fun ws3 H locs hws3 hP hD hS => ?_)
    obtain ⟨fa_123, fr_123, M, hdfa_123, hdfr_123⟩ := hws3
    refine lv_aload_n hx hb dX2_share_126 rfl (lv_at hl 0 rfl) ?_
    refine va_get (D := D) (ci := ciM) (v := .ref (ad 7)) (C := RX2) (T := TX2) (N := 8) hx hb hts inM hown hK hP 10 (md_a0 M) rfl 6 (by decide) (hts _ (inT mw_25)) (fun _ h9 => h9) rfl dX2_share_127 ?_
    refine xb_ri (va_runS (As := [.ref (ad 7)]) (rest := []) ⟨hx, hb, hml, hown, hts⟩ (cM_isn l D (md_a7 M) (md_t6 M) hdfr_123 (show ((rf r.toNatClampNeg).toInt.natAbs * v.toInt.natAbs) % d.toInt.natAbs < 10 ^ 80 by omega)) (va_cwS 1 hts (gM_S 85 yX2_isNothing (.code yX2_isNothing cX2_isNothing 3 (some .boolean)) (by decide +kernel) mw_69) rfl rfl rfl (by decide +kernel) ⟨Nat.le_of_ble_eq_true rfl, Nat.le_of_ble_eq_true rfl⟩) (xb_ps rfl hP hK hD) rfl rfl hl.1 rfl (lv_room (Nat.le_of_ble_eq_true rfl)) dX2_share_130 ⟨Nat.le_of_ble_eq_true rfl, Nat.le_of_ble_eq_true rfl⟩) hD hS hA (fun r130 ws4 H locs hws4 hP hD hS => ?_)
    obtain ⟨hr130, rfl⟩ := hws4
    refine lv_istore (lv' := [(7, .int r130), (0, .ref (ad 0)), (1, .int r), (6, .int wy)]) hx hb dX2_share_133 hl (by decide) rfl (fun ls hl => ?_)
    refine lv_aload_n hx hb dX2_share_135 rfl (lv_at hl 1 rfl) ?_
    refine va_get (D := D) (ci := ciM) (v := .ref (ad 7)) (C := RX2) (T := TX2) (N := 8) hx hb hts inM hown hK hP 10 (md_a0 M) rfl 6 (by decide) (hts _ (inT mw_25)) (fun _ h9 => h9) rfl dX2_share_136 ?_
    refine lv_aload_n hx hb dX2_share_139 rfl (lv_at hl 1 rfl) ?_
    refine va_get (D := D) (ci := ciM) (v := .ref (ad 6)) (C := RX2) (T := TX2) (N := 8) hx hb hts inM hown hK hP 10 (md_a0 M) rfl 5 (by decide) (hts _ (inT mw_11)) (fun _ h9 => h9) rfl dX2_share_140 ?_
    refine xb_rv (va_runS (As := [.ref (ad 7), .ref (ad 6)]) (rest := []) ⟨hx, hb, hml, hown, hts⟩ (cM_copy l D (md_a6 M) (md_t5 M) (md_a7 M) (md_t6 M) (by decide)) (va_cwS 2 hts (gM_S 43 yX2_copy (.code yX2_copy cX2_copy 3 none) (by decide +kernel) mw_61) rfl rfl rfl (by decide +kernel) ⟨Nat.le_of_ble_eq_true rfl, Nat.le_of_ble_eq_true rfl⟩) (xb_ps rfl hP hK hD) rfl rfl hl.1 rfl (lv_room (Nat.le_of_ble_eq_true rfl)) dX2_share_143 ⟨Nat.le_of_ble_eq_true rfl, Nat.le_of_ble_eq_true rfl⟩) hD hS hA (fun ws5 H locs hws5 hP hD hS => ?_)
    obtain ⟨fc_143, hws5, hdfc_143⟩ := hws5
    have M := md_sfc M hws5
    have hdfc_143 : dg fc_143 (((rf r.toNatClampNeg).toInt.natAbs * v.toInt.natAbs) % d.toInt.natAbs) := fun j hj => (hdfc_143 j hj).trans (hdfr_123 j hj)
    refine lv_aload_n hx hb dX2_share_146 rfl (lv_at hl 1 rfl) ?_
    refine va_get (D := D) (ci := ciM) (v := .ref (ad 6)) (C := RX2) (T := TX2) (N := 8) hx hb hts inM hown hK hP 10 (md_a0 M) rfl 5 (by decide) (hts _ (inT mw_11)) (fun _ h9 => h9) rfl dX2_share_147 ?_
    refine lv_aload_n hx hb dX2_share_150 rfl (lv_at hl 1 rfl) ?_
    refine va_get (D := D) (ci := ciM) (v := .ref (ad 7)) (C := RX2) (T := TX2) (N := 8) hx hb hts inM hown hK hP 10 (md_a0 M) rfl 6 (by decide) (hts _ (inT mw_25)) (fun _ h9 => h9) rfl dX2_share_151 ?_
    refine xb_rv (va_runS (As := [.ref (ad 6), .ref (ad 7)]) (rest := []) ⟨hx, hb, hml, hown, hts⟩ (cM_plus l D (md_a6 M) (md_t5 M) (md_a7 M) (md_t6 M) hdfc_143 hdfr_123 (by decide)) (va_cwS 2 hts (gM_S 58 yX2_plus (.code yX2_plus cX2_plus 5 none) (by decide +kernel) mw_58) rfl rfl rfl (by decide +kernel) ⟨Nat.le_of_ble_eq_true rfl, Nat.le_of_ble_eq_true rfl⟩) (xb_ps rfl hP hK hD) rfl rfl hl.1 rfl (lv_room (Nat.le_of_ble_eq_true rfl)) dX2_share_154 ⟨Nat.le_of_ble_eq_true rfl, Nat.le_of_ble_eq_true rfl⟩) hD hS hA (fun ws6 H locs hws6 hP hD hS => ?_)
    obtain ⟨fc_154, hws6, hdfc_154⟩ := hws6
    have M := md_sfc M hws6
    have hdfc_154 : dg fc_154 ((((rf r.toNatClampNeg).toInt.natAbs * v.toInt.natAbs) % d.toInt.natAbs) + (((rf r.toNatClampNeg).toInt.natAbs * v.toInt.natAbs) % d.toInt.natAbs)) := hdfc_154
    refine lv_iload hx hb dX2_share_157 (lv_at hl 3 rfl) ?_
    refine lv_if_ne (tgt := 182) hx hb dX2_share_159 (by decide) (fun c159 => ?_) (fun c159 => ?_)
    · refine lv_iload hx hb dX2_share_182 (lv_at hl 3 rfl) ?_
      refine lv_iconst (v := 1) hx hb dX2_share_184 (by decide) ?_
      refine lv_icmp_ne (tgt := 208) hx hb dX2_share_185 (by decide) (fun c185 => ?_) (fun c185 => ?_)
      · refine lv_iload hx hb dX2_share_208 (lv_at hl 3 rfl) ?_
        refine lv_iconst (v := 3) hx hb dX2_share_210 (by decide) ?_
        refine lv_icmp_ne (tgt := 232) hx hb dX2_share_211 (by decide) (fun c211 => ?_) (fun c211 => ?_)
        · refine lv_iconst (v := 0) hx hb dX2_share_232 (by decide) ?_
          exact t233 c4 cw c24 nn 0 _ _ _ _ ws6 H locs ls h01 hnn (by rw [if_neg (fun q => by rcases q with q | q | q; exact c159 q.1; exact c185 q.1; exact c211 q.1)]) M hdfa_123 hP hD hS (lv_sub hl [1, 2, 3] rfl)
        · refine lv_aload_n hx hb dX2_share_214 rfl (lv_at hl 1 rfl) ?_
          refine va_get (D := D) (ci := ciM) (v := .ref (ad 6)) (C := RX2) (T := TX2) (N := 8) hx hb hts inM hown hK hP 10 (md_a0 M) rfl 5 (by decide) (hts _ (inT mw_11)) (fun _ h9 => h9) rfl dX2_share_215 ?_
          refine lv_aload_n hx hb dX2_share_218 rfl (lv_at hl 1 rfl) ?_
          refine va_get (D := D) (ci := ciM) (v := .ref (ad 5)) (C := RX2) (T := TX2) (N := 8) hx hb hts inM hown hK hP 10 (md_a0 M) rfl 4 (by decide) (hts _ (inT mw_29)) (fun _ h9 => h9) rfl dX2_share_219 ?_
          refine xb_ri (va_runS (As := [.ref (ad 6), .ref (ad 5)]) (rest := []) ⟨hx, hb, hml, hown, hts⟩ (cM_cmps l D (md_a6 M) (md_t5 M) (md_a5 M) (md_t4 M) hdfc_154 hd2 (by omega) (by omega)) (va_cwS 2 hts (gM_S 47 yX2_compareSizes (.code yX2_compareSizes cX2_compareSizes 4 (some .int)) (by decide +kernel) mw_59) rfl rfl rfl (by decide +kernel) ⟨Nat.le_of_ble_eq_true rfl, Nat.le_of_ble_eq_true rfl⟩) (xb_ps rfl hP hK hD) rfl rfl hl.1 rfl (lv_room (Nat.le_of_ble_eq_true rfl)) dX2_share_222 ⟨Nat.le_of_ble_eq_true rfl, Nat.le_of_ble_eq_true rfl⟩) hD hS hA (fun r222 ws7 H locs hws7 hP hD hS => ?_)
          obtain ⟨hr222, rfl⟩ := hws7
          refine lv_if_lt (tgt := 232) hx hb dX2_share_225 (by decide) (fun c225 => ?_) (fun c225 => ?_)
          · refine lv_iconst (v := 0) hx hb dX2_share_232 (by decide) ?_
            rw [hr222, ord_lt] at c225
            exact t233 c4 cw c24 nn 0 _ _ _ _ ws6 H locs ls h01 hnn (by rw [c211, if_neg (by rw [rq3]; omega)]) M hdfa_123 hP hD hS (lv_sub hl [1, 2, 3] rfl)
          · refine lv_iconst (v := 1) hx hb dX2_share_228 (by decide) ?_
            refine lv_goto (tgt := 233) hx hb dX2_share_229 (by decide) ?_
            rw [hr222, ord_lt] at c225
            exact t233 c4 cw c24 nn 1 _ _ _ _ ws6 H locs ls h01 hnn (by rw [c211, if_pos (by rw [rq3]; omega)]) M hdfa_123 hP hD hS (lv_sub hl [1, 2, 3] rfl)
      · refine lv_aload_n hx hb dX2_share_188 rfl (lv_at hl 1 rfl) ?_
        refine va_get (D := D) (ci := ciM) (v := .int nn) (C := RX2) (T := TX2) (N := 8) hx hb hts inM hown hK hP 10 (md_a0 M) rfl 7 (by decide) (hts _ (inT mw_10)) (fun _ h9 => h9) rfl dX2_share_189 ?_
        refine lv_if_ne (tgt := 204) hx hb dX2_share_192 (by decide) (fun c192 => ?_) (fun c192 => ?_)
        · refine lv_iconst (v := 0) hx hb dX2_share_204 (by decide) ?_
          refine lv_goto (tgt := 233) hx hb dX2_share_205 (by decide) ?_
          exact t233 c4 cw c24 nn 0 _ _ _ _ ws6 H locs ls h01 hnn (by rw [c185, if_neg (fun q => ((rq1 _ _ _).mp q).1 (n01 h01 c192))]) M hdfa_123 hP hD hS (lv_sub hl [1, 2, 3] rfl)
        · refine lv_iload hx hb dX2_share_195 (lv_at hl 0 rfl) ?_
          refine lv_if_ne (tgt := 204) hx hb dX2_share_197 (by decide) (fun c197 => ?_) (fun c197 => ?_)
          · have c197 := bz_1 hr130 c197
            refine lv_iconst (v := 0) hx hb dX2_share_204 (by decide) ?_
            refine lv_goto (tgt := 233) hx hb dX2_share_205 (by decide) ?_
            exact t233 c4 cw c24 nn 0 _ _ _ _ ws6 H locs ls h01 hnn (by rw [c185, if_neg (fun q => ((rq1 _ _ _).mp q).2 c197)]) M hdfa_123 hP hD hS (lv_sub hl [1, 2, 3] rfl)
          · have c197 := bz_0 hr130 c197
            refine lv_iconst (v := 1) hx hb dX2_share_200 (by decide) ?_
            refine lv_goto (tgt := 233) hx hb dX2_share_201 (by decide) ?_
            exact t233 c4 cw c24 nn 1 _ _ _ _ ws6 H locs ls h01 hnn (by rw [c185, if_pos ((rq1 _ _ _).mpr ⟨fun q => absurd (c192.symm.trans q) (by decide), c197⟩)]) M hdfa_123 hP hD hS (lv_sub hl [1, 2, 3] rfl)
    · refine lv_aload_n hx hb dX2_share_162 rfl (lv_at hl 1 rfl) ?_
      refine va_get (D := D) (ci := ciM) (v := .int nn) (C := RX2) (T := TX2) (N := 8) hx hb hts inM hown hK hP 10 (md_a0 M) rfl 7 (by decide) (hts _ (inT mw_10)) (fun _ h9 => h9) rfl dX2_share_163 ?_
      refine lv_if_eq (tgt := 178) hx hb dX2_share_166 (by decide) (fun c166 => ?_) (fun c166 => ?_)
      · refine lv_iconst (v := 0) hx hb dX2_share_178 (by decide) ?_
        refine lv_goto (tgt := 233) hx hb dX2_share_179 (by decide) ?_
        exact t233 c4 cw c24 nn 0 _ _ _ _ ws6 H locs ls h01 hnn (by rw [c159, if_neg (fun q => absurd (c166.symm.trans ((rq0 _ _ _).mp q).1) (by decide))]) M hdfa_123 hP hD hS (lv_sub hl [1, 2, 3] rfl)
      · refine lv_iload hx hb dX2_share_169 (lv_at hl 0 rfl) ?_
        refine lv_if_ne (tgt := 178) hx hb dX2_share_171 (by decide) (fun c171 => ?_) (fun c171 => ?_)
        · have c171 := bz_1 hr130 c171
          refine lv_iconst (v := 0) hx hb dX2_share_178 (by decide) ?_
          refine lv_goto (tgt := 233) hx hb dX2_share_179 (by decide) ?_
          exact t233 c4 cw c24 nn 0 _ _ _ _ ws6 H locs ls h01 hnn (by rw [c159, if_neg (fun q => ((rq0 _ _ _).mp q).2 c171)]) M hdfa_123 hP hD hS (lv_sub hl [1, 2, 3] rfl)
        · have c171 := bz_0 hr130 c171
          refine lv_iconst (v := 1) hx hb dX2_share_174 (by decide) ?_
          refine lv_goto (tgt := 233) hx hb dX2_share_175 (by decide) ?_
          exact t233 c4 cw c24 nn 1 _ _ _ _ ws6 H locs ls h01 hnn (by rw [c159, if_pos ((rq0 _ _ _).mpr ⟨n01 h01 c166, c171⟩)]) M hdfa_123 hP hD hS (lv_sub hl [1, 2, 3] rfl)
  refine lv_iload_n hx hb dX2_share_0 rfl (lv_at hl 1 rfl) ?_
  refine xb_ri (va_runS (As := [.int r]) (rest := []) ⟨hx, hb, hml, hown, hts⟩ (cM_isR l D r) (va_cwS 1 hts (gM_S 33 yX2_isRegister (.code yX2_isRegister cX2_isRegister 1 (some .boolean)) (by decide +kernel) mw_52) rfl rfl rfl (by decide +kernel) ⟨Nat.le_of_ble_eq_true rfl, Nat.le_of_ble_eq_true rfl⟩) (xb_ps rfl hP hK hD) rfl rfl hl.1 rfl (lv_room (Nat.le_of_ble_eq_true rfl)) dX2_share_1 ⟨Nat.le_of_ble_eq_true rfl, Nat.le_of_ble_eq_true rfl⟩) hD hS hA (fun r1 ws1 H locs hws1 hP hD hS => ?_)
  obtain ⟨hr1, rfl⟩ := hws1
  refine lv_if_eq (tgt := 18) hx hb dX2_share_4 (by decide) (fun c4 => ?_) (fun c4 => ?_)
  · have c4 := bz_0 hr1 c4
    refine lv_iconst (v := (-1)) hx hb dX2_share_18 (by decide) ?_
    exact xb_ir hx hb hr hlocks hP hK hD hS dX2_share_19 (fin_no M T (by rw [sp_share, if_neg (fun q => c4 q.1)]))
  · have c4 := bz_1 hr1 c4
    refine lv_iload hx hb dX2_share_7 (lv_at hl 4 rfl) ?_
    refine lv_if_lt (tgt := 18) hx hb dX2_share_9 (by decide) (fun c9 => ?_) (fun c9 => ?_)
    · refine lv_iconst (v := (-1)) hx hb dX2_share_18 (by decide) ?_
      exact xb_ir hx hb hr hlocks hP hK hD hS dX2_share_19 (fin_no M T (by rw [sp_share, if_neg (fun q => q.2.1 c9)]))
    · refine lv_iload hx hb dX2_share_12 (lv_at hl 4 rfl) ?_
      refine lv_iconst (v := 3) hx hb dX2_share_14 (by decide) ?_
      refine lv_icmp_le (tgt := 20) hx hb dX2_share_15 (by decide) (fun c15 => ?_) (fun c15 => ?_)
      · refine lv_lload hx hb dX2_share_20 (lv_at hl 3 rfl) ?_
        refine lv_lconst (v := 0) hx hb dX2_share_22 (by decide) ?_
        refine W.lcmp hx hb dX2_share_23 ?_
        refine lv_if_ne (tgt := 29) hx hb dX2_share_24 (by decide) (fun c24 => ?_) (fun c24 => ?_)
        · rw [lg_cmp_eq] at c24
          refine lv_aload_n hx hb dX2_share_29 rfl (lv_at hl 0 rfl) ?_
          refine va_get (D := D) (ci := ciM) (v := .ref (ad 1)) (C := RX2) (T := TX2) (N := 8) hx hb hts inM hown hK hP 10 (md_a0 M) rfl 0 (by decide) (hts _ (inT mw_3)) (fun _ h9 => h9) rfl dX2_share_30 ?_
          refine lv_iload_n hx hb dX2_share_33 rfl (lv_at hl 1 rfl) ?_
          refine md_lld hx hb hK hP M c4 dX2_share_34 ?_
          refine lv_aload_n hx hb dX2_share_35 rfl (lv_at hl 0 rfl) ?_
          refine va_get (D := D) (ci := ciM) (v := .ref (ad 4)) (C := RX2) (T := TX2) (N := 8) hx hb hts inM hown hK hP 10 (md_a0 M) rfl 3 (by decide) (hts _ (inT mw_7)) (fun _ h9 => h9) rfl dX2_share_36 ?_
          refine xb_rv (va_runS (As := [.long (rf r.toNatClampNeg), .ref (ad 4)]) (rest := []) ⟨hx, hb, hml, hown, hts⟩ (cM_write l D (md_a4 M) (md_t3 M) (rf r.toNatClampNeg)) (va_cwS 2 hts (gM_S 63 yX2_write (.code yX2_write cX2_write 7 none) (by decide +kernel) mw_56) rfl rfl rfl (by decide +kernel) ⟨Nat.le_of_ble_eq_true rfl, Nat.le_of_ble_eq_true rfl⟩) (xb_ps rfl hP hK hD) rfl rfl hl.1 rfl (lv_room (Nat.le_of_ble_eq_true rfl)) dX2_share_39 ⟨Nat.le_of_ble_eq_true rfl, Nat.le_of_ble_eq_true rfl⟩) hD hS hA (fun ws2 H locs hws2 hP hD hS => ?_)
          obtain ⟨fa_39, hws2, hdfa_39⟩ := hws2
          have M := md_sfa M hws2
          have hdfa_39 : dg fa_39 ((rf r.toNatClampNeg).toInt.natAbs) := hdfa_39
          refine lv_lload_n hx hb dX2_share_42 rfl (lv_at hl 2 rfl) ?_
          refine lv_aload_n hx hb dX2_share_43 rfl (lv_at hl 0 rfl) ?_
          refine va_get (D := D) (ci := ciM) (v := .ref (ad 5)) (C := RX2) (T := TX2) (N := 8) hx hb hts inM hown hK hP 10 (md_a0 M) rfl 4 (by decide) (hts _ (inT mw_29)) (fun _ h9 => h9) rfl dX2_share_44 ?_
          refine xb_rv (va_runS (As := [.long v, .ref (ad 5)]) (rest := []) ⟨hx, hb, hml, hown, hts⟩ (cM_write l D (md_a5 M) (md_t4 M) v) (va_cwS 2 hts (gM_S 63 yX2_write (.code yX2_write cX2_write 7 none) (by decide +kernel) mw_56) rfl rfl rfl (by decide +kernel) ⟨Nat.le_of_ble_eq_true rfl, Nat.le_of_ble_eq_true rfl⟩) (xb_ps rfl hP hK hD) rfl rfl hl.1 rfl (lv_room (Nat.le_of_ble_eq_true rfl)) dX2_share_47 ⟨Nat.le_of_ble_eq_true rfl, Nat.le_of_ble_eq_true rfl⟩) hD hS hA (fun ws3 H locs hws3 hP hD hS => ?_)
          obtain ⟨fb_47, hws3, hdfb_47⟩ := hws3
          have M := md_sfb M hws3
          have hdfb_47 : dg fb_47 (v.toInt.natAbs) := hdfb_47
          refine lv_aload_n hx hb dX2_share_50 rfl (lv_at hl 0 rfl) ?_
          refine xb_rv (va_runV (As := []) (rest := []) ⟨hx, hb, hml, hown, hts⟩ (cM_mul l D M hdfa_39 hdfb_47 (abs40 _) (abs40 _)) (cwV 0 hts (gM_V 79 yX2_multiply (.code yX2_multiply cX2_multiply 5 none) (by decide +kernel) mw_65) rfl rfl rfl (by decide +kernel) ⟨Nat.le_of_ble_eq_true rfl, Nat.le_of_ble_eq_true rfl⟩) (xb_pv hP hK hD rfl rfl (md_a0 M)) rfl rfl hl.1 rfl (lv_room (Nat.le_of_ble_eq_true rfl)) dX2_share_51 ⟨Nat.le_of_ble_eq_true rfl, Nat.le_of_ble_eq_true rfl⟩) hD hS hA (fun ws4 H locs hws4 hP hD hS => ?_)
          obtain ⟨fa_51, fc_51, M, hdfa_51⟩ := hws4
          refine lv_lload hx hb dX2_share_54 (lv_at hl 3 rfl) ?_
          refine lv_aload_n hx hb dX2_share_56 rfl (lv_at hl 0 rfl) ?_
          refine va_get (D := D) (ci := ciM) (v := .ref (ad 5)) (C := RX2) (T := TX2) (N := 8) hx hb hts inM hown hK hP 10 (md_a0 M) rfl 4 (by decide) (hts _ (inT mw_29)) (fun _ h9 => h9) rfl dX2_share_57 ?_
          refine xb_rv (va_runS (As := [.long d, .ref (ad 5)]) (rest := []) ⟨hx, hb, hml, hown, hts⟩ (cM_write l D (md_a5 M) (md_t4 M) d) (va_cwS 2 hts (gM_S 63 yX2_write (.code yX2_write cX2_write 7 none) (by decide +kernel) mw_56) rfl rfl rfl (by decide +kernel) ⟨Nat.le_of_ble_eq_true rfl, Nat.le_of_ble_eq_true rfl⟩) (xb_ps rfl hP hK hD) rfl rfl hl.1 rfl (lv_room (Nat.le_of_ble_eq_true rfl)) dX2_share_60 ⟨Nat.le_of_ble_eq_true rfl, Nat.le_of_ble_eq_true rfl⟩) hD hS hA (fun ws5 H locs hws5 hP hD hS => ?_)
          obtain ⟨fb_60, hws5, hdfb_60⟩ := hws5
          have M := md_sfb M hws5
          have hdfb_60 : dg fb_60 (d.toInt.natAbs) := hdfb_60
          refine lv_aload_n hx hb dX2_share_63 rfl (lv_at hl 0 rfl) ?_
          refine lv_aload_n hx hb dX2_share_64 rfl (lv_at hl 0 rfl) ?_
          refine va_get (D := D) (ci := ciM) (v := .ref (ad 1)) (C := RX2) (T := TX2) (N := 8) hx hb hts inM hown hK hP 10 (md_a0 M) rfl 0 (by decide) (hts _ (inT mw_3)) (fun _ h9 => h9) rfl dX2_share_65 ?_
          refine lv_iload_n hx hb dX2_share_68 rfl (lv_at hl 1 rfl) ?_
          refine md_lld hx hb hK hP M c4 dX2_share_69 ?_
          refine lv_lconst (v := 0) hx hb dX2_share_70 (by decide) ?_
          refine W.lcmp hx hb dX2_share_71 ?_
          refine lv_if_ge (tgt := 79) hx hb dX2_share_72 (by decide) (fun c72 => ?_) (fun c72 => ?_)
          · rw [lg_cmp_ge] at c72
            refine lv_iconst (v := 0) hx hb dX2_share_79 (by decide) ?_
            refine lv_lload_n hx hb dX2_share_80 rfl (lv_at hl 2 rfl) ?_
            refine lv_lconst (v := 0) hx hb dX2_share_81 (by decide) ?_
            refine W.lcmp hx hb dX2_share_82 ?_
            refine lv_if_ge (tgt := 90) hx hb dX2_share_83 (by decide) (fun c83 => ?_) (fun c83 => ?_)
            · rw [lg_cmp_ge] at c83
              refine lv_iconst (v := 0) hx hb dX2_share_90 (by decide) ?_
              refine lv_icmp_eq (tgt := 98) hx hb dX2_share_91 (by decide) (fun _ => ?_) (fun q => absurd rfl q)
              refine lv_iconst (v := 0) hx hb dX2_share_98 (by decide) ?_
              refine lv_lload hx hb dX2_share_99 (lv_at hl 3 rfl) ?_
              refine lv_lconst (v := 0) hx hb dX2_share_101 (by decide) ?_
              refine W.lcmp hx hb dX2_share_102 ?_
              refine lv_if_ge (tgt := 110) hx hb dX2_share_103 (by decide) (fun c103 => ?_) (fun c103 => ?_)
              · rw [lg_cmp_ge] at c103
                refine lv_iconst (v := 0) hx hb dX2_share_110 (by decide) ?_
                refine lv_icmp_eq (tgt := 118) hx hb dX2_share_111 (by decide) (fun _ => ?_) (fun q => absurd rfl q)
                refine lv_iconst (v := 0) hx hb dX2_share_118 (by decide) ?_
                exact t119 c4 ⟨c9, Int32.not_lt.mpr c15⟩ c24 0 _ _ _ ws5 H locs ls (Or.inl rfl) (nn_ok (by rw [l_neg] at c72 c83 c103; exact ⟨fun q => absurd q (by decide), fun q => absurd q (by omega)⟩)) M hdfa_51 hdfb_60 hP hD hS (lv_sub hl [0, 1, 4] rfl)
              · rw [lg_cmp_ge] at c103
                refine lv_iconst (v := 1) hx hb dX2_share_106 (by decide) ?_
                refine lv_goto (tgt := 111) hx hb dX2_share_107 (by decide) ?_
                refine lv_icmp_eq (tgt := 118) hx hb dX2_share_111 (by decide) (fun q => absurd q (by decide)) (fun _ => ?_)
                refine lv_iconst (v := 1) hx hb dX2_share_114 (by decide) ?_
                refine lv_goto (tgt := 119) hx hb dX2_share_115 (by decide) ?_
                exact t119 c4 ⟨c9, Int32.not_lt.mpr c15⟩ c24 1 _ _ _ ws5 H locs ls (Or.inr rfl) (nn_ok (by rw [l_neg] at c72 c83 c103; exact ⟨fun _ => by omega, fun _ => rfl⟩)) M hdfa_51 hdfb_60 hP hD hS (lv_sub hl [0, 1, 4] rfl)
            · rw [lg_cmp_ge] at c83
              refine lv_iconst (v := 1) hx hb dX2_share_86 (by decide) ?_
              refine lv_goto (tgt := 91) hx hb dX2_share_87 (by decide) ?_
              refine lv_icmp_eq (tgt := 98) hx hb dX2_share_91 (by decide) (fun q => absurd q (by decide)) (fun _ => ?_)
              refine lv_iconst (v := 1) hx hb dX2_share_94 (by decide) ?_
              refine lv_goto (tgt := 99) hx hb dX2_share_95 (by decide) ?_
              refine lv_lload hx hb dX2_share_99 (lv_at hl 3 rfl) ?_
              refine lv_lconst (v := 0) hx hb dX2_share_101 (by decide) ?_
              refine W.lcmp hx hb dX2_share_102 ?_
              refine lv_if_ge (tgt := 110) hx hb dX2_share_103 (by decide) (fun c103 => ?_) (fun c103 => ?_)
              · rw [lg_cmp_ge] at c103
                refine lv_iconst (v := 0) hx hb dX2_share_110 (by decide) ?_
                refine lv_icmp_eq (tgt := 118) hx hb dX2_share_111 (by decide) (fun q => absurd q (by decide)) (fun _ => ?_)
                refine lv_iconst (v := 1) hx hb dX2_share_114 (by decide) ?_
                refine lv_goto (tgt := 119) hx hb dX2_share_115 (by decide) ?_
                exact t119 c4 ⟨c9, Int32.not_lt.mpr c15⟩ c24 1 _ _ _ ws5 H locs ls (Or.inr rfl) (nn_ok (by rw [l_neg] at c72 c83 c103; exact ⟨fun _ => by omega, fun _ => rfl⟩)) M hdfa_51 hdfb_60 hP hD hS (lv_sub hl [0, 1, 4] rfl)
              · rw [lg_cmp_ge] at c103
                refine lv_iconst (v := 1) hx hb dX2_share_106 (by decide) ?_
                refine lv_goto (tgt := 111) hx hb dX2_share_107 (by decide) ?_
                refine lv_icmp_eq (tgt := 118) hx hb dX2_share_111 (by decide) (fun _ => ?_) (fun q => absurd rfl q)
                refine lv_iconst (v := 0) hx hb dX2_share_118 (by decide) ?_
                exact t119 c4 ⟨c9, Int32.not_lt.mpr c15⟩ c24 0 _ _ _ ws5 H locs ls (Or.inl rfl) (nn_ok (by rw [l_neg] at c72 c83 c103; exact ⟨fun q => absurd q (by decide), fun q => absurd q (by omega)⟩)) M hdfa_51 hdfb_60 hP hD hS (lv_sub hl [0, 1, 4] rfl)
          · rw [lg_cmp_ge] at c72
            refine lv_iconst (v := 1) hx hb dX2_share_75 (by decide) ?_
            refine lv_goto (tgt := 80) hx hb dX2_share_76 (by decide) ?_
            refine lv_lload_n hx hb dX2_share_80 rfl (lv_at hl 2 rfl) ?_
            refine lv_lconst (v := 0) hx hb dX2_share_81 (by decide) ?_
            refine W.lcmp hx hb dX2_share_82 ?_
            refine lv_if_ge (tgt := 90) hx hb dX2_share_83 (by decide) (fun c83 => ?_) (fun c83 => ?_)
            · rw [lg_cmp_ge] at c83
              refine lv_iconst (v := 0) hx hb dX2_share_90 (by decide) ?_
              refine lv_icmp_eq (tgt := 98) hx hb dX2_share_91 (by decide) (fun q => absurd q (by decide)) (fun _ => ?_)
              refine lv_iconst (v := 1) hx hb dX2_share_94 (by decide) ?_
              refine lv_goto (tgt := 99) hx hb dX2_share_95 (by decide) ?_
              refine lv_lload hx hb dX2_share_99 (lv_at hl 3 rfl) ?_
              refine lv_lconst (v := 0) hx hb dX2_share_101 (by decide) ?_
              refine W.lcmp hx hb dX2_share_102 ?_
              refine lv_if_ge (tgt := 110) hx hb dX2_share_103 (by decide) (fun c103 => ?_) (fun c103 => ?_)
              · rw [lg_cmp_ge] at c103
                refine lv_iconst (v := 0) hx hb dX2_share_110 (by decide) ?_
                refine lv_icmp_eq (tgt := 118) hx hb dX2_share_111 (by decide) (fun q => absurd q (by decide)) (fun _ => ?_)
                refine lv_iconst (v := 1) hx hb dX2_share_114 (by decide) ?_
                refine lv_goto (tgt := 119) hx hb dX2_share_115 (by decide) ?_
                exact t119 c4 ⟨c9, Int32.not_lt.mpr c15⟩ c24 1 _ _ _ ws5 H locs ls (Or.inr rfl) (nn_ok (by rw [l_neg] at c72 c83 c103; exact ⟨fun _ => by omega, fun _ => rfl⟩)) M hdfa_51 hdfb_60 hP hD hS (lv_sub hl [0, 1, 4] rfl)
              · rw [lg_cmp_ge] at c103
                refine lv_iconst (v := 1) hx hb dX2_share_106 (by decide) ?_
                refine lv_goto (tgt := 111) hx hb dX2_share_107 (by decide) ?_
                refine lv_icmp_eq (tgt := 118) hx hb dX2_share_111 (by decide) (fun _ => ?_) (fun q => absurd rfl q)
                refine lv_iconst (v := 0) hx hb dX2_share_118 (by decide) ?_
                exact t119 c4 ⟨c9, Int32.not_lt.mpr c15⟩ c24 0 _ _ _ ws5 H locs ls (Or.inl rfl) (nn_ok (by rw [l_neg] at c72 c83 c103; exact ⟨fun q => absurd q (by decide), fun q => absurd q (by omega)⟩)) M hdfa_51 hdfb_60 hP hD hS (lv_sub hl [0, 1, 4] rfl)
            · rw [lg_cmp_ge] at c83
              refine lv_iconst (v := 1) hx hb dX2_share_86 (by decide) ?_
              refine lv_goto (tgt := 91) hx hb dX2_share_87 (by decide) ?_
              refine lv_icmp_eq (tgt := 98) hx hb dX2_share_91 (by decide) (fun _ => ?_) (fun q => absurd rfl q)
              refine lv_iconst (v := 0) hx hb dX2_share_98 (by decide) ?_
              refine lv_lload hx hb dX2_share_99 (lv_at hl 3 rfl) ?_
              refine lv_lconst (v := 0) hx hb dX2_share_101 (by decide) ?_
              refine W.lcmp hx hb dX2_share_102 ?_
              refine lv_if_ge (tgt := 110) hx hb dX2_share_103 (by decide) (fun c103 => ?_) (fun c103 => ?_)
              · rw [lg_cmp_ge] at c103
                refine lv_iconst (v := 0) hx hb dX2_share_110 (by decide) ?_
                refine lv_icmp_eq (tgt := 118) hx hb dX2_share_111 (by decide) (fun _ => ?_) (fun q => absurd rfl q)
                refine lv_iconst (v := 0) hx hb dX2_share_118 (by decide) ?_
                exact t119 c4 ⟨c9, Int32.not_lt.mpr c15⟩ c24 0 _ _ _ ws5 H locs ls (Or.inl rfl) (nn_ok (by rw [l_neg] at c72 c83 c103; exact ⟨fun q => absurd q (by decide), fun q => absurd q (by omega)⟩)) M hdfa_51 hdfb_60 hP hD hS (lv_sub hl [0, 1, 4] rfl)
              · rw [lg_cmp_ge] at c103
                refine lv_iconst (v := 1) hx hb dX2_share_106 (by decide) ?_
                refine lv_goto (tgt := 111) hx hb dX2_share_107 (by decide) ?_
                refine lv_icmp_eq (tgt := 118) hx hb dX2_share_111 (by decide) (fun q => absurd q (by decide)) (fun _ => ?_)
                refine lv_iconst (v := 1) hx hb dX2_share_114 (by decide) ?_
                refine lv_goto (tgt := 119) hx hb dX2_share_115 (by decide) ?_
                exact t119 c4 ⟨c9, Int32.not_lt.mpr c15⟩ c24 1 _ _ _ ws5 H locs ls (Or.inr rfl) (nn_ok (by rw [l_neg] at c72 c83 c103; exact ⟨fun _ => by omega, fun _ => rfl⟩)) M hdfa_51 hdfb_60 hP hD hS (lv_sub hl [0, 1, 4] rfl)
        · rw [lg_cmp_eq] at c24
          refine lv_iconst (v := 3) hx hb dX2_share_27 (by decide) ?_
          exact xb_ir hx hb hr hlocks hP hK hD hS dX2_share_28 (fin_no M T (by rw [sp_share, if_pos ⟨c4, c9, Int32.not_lt.mpr c15⟩, if_pos c24]))
      · refine lv_iconst (v := (-1)) hx hb dX2_share_18 (by decide) ?_
        exact xb_ir hx hb hr hlocks hP hK hD hS dX2_share_19 (fin_no M T (by rw [sp_share, if_neg (fun q => q.2.2 (Int32.not_le.mp c15))]))
end
section
-- the reference's constructor (laid by wip/whole/gen_minit.py)
set_option maxHeartbeats 4000000 in
set_option maxRecDepth 100000 in
theorem cM_init (l : Launch) (D : va_G) (h0 sz : Nat) : Met l yX2_init wsX2_init ({ frames := 1, cells := 7, slots := 492, locals := 12 }) (va_Pc [.ref h0] (xb_P D [] [(h0, .inr (ciM, [.null, .null, .null, .null, .null, .null, .null, .int 0]))] sz)) (va_Qv (fun u : va_W × xT => ∃ (ad : Nat → Nat) (cB : Nat → ClassId), ad 0 = h0 ∧ u.1 = [(ad 0, .inr (ciM, [.ref (ad 1), .ref (ad 2), .ref (ad 3), .ref (ad 4), .ref (ad 5), .ref (ad 6), .ref (ad 7), .int 0])), (ad 1, .inl (cB 0, 8, .inr (.inl (fun _ => 0)))), (ad 2, .inl (cB 1, 160, .inl (fun _ => 0))), (ad 3, .inl (cB 2, 4, .inl (fun _ => 0))), (ad 4, .inl (cB 3, 80, .inl (fun _ => 0))), (ad 5, .inl (cB 4, 80, .inl (fun _ => 0))), (ad 6, .inl (cB 5, 80, .inl (fun _ => 0))), (ad 7, .inl (cB 6, 80, .inl (fun _ => 0)))] ∧ u.2 = [(cB 0, .long), (cB 1, .int), (cB 2, .boolean), (cB 3, .int), (cB 4, .int), (cB 5, .int), (cB 6, .int)]) (fun u t => xb_B D u.2 (va_A [(h0, .inr (ciM, [.null, .null, .null, .null, .null, .null, .null, .int 0]))] sz) u.1 t) (va_A [(h0, .inr (ciM, [.null, .null, .null, .null, .null, .null, .null, .int 0]))] sz)) 7 492 (va_A [(h0, .inr (ciM, [.null, .null, .null, .null, .null, .null, .null, .int 0]))] sz) := by
  refine Met.ofW (cc := cX2_init) (maxL := 1) (ret := none) (by decide) rfl ?_
  intro p e s m args below meth c s₁ B hml hv
  obtain ⟨rfl, hsz, hP, hK, hD0⟩ := hv
  have hx := B.exec
  have hb := B.bytes
  have hr := B.returns
  have hts := atoms_spec (ws := wsX2_init) B.pre
  have hown : s.vm.findClass RX2 = some m.cls := findClass_of_methodNamed B.named
  have hlocks := B.notSynchronized
  have hnm : meth.name = "<init>" := (name_of_methodNamed B.named B.method).1
  subst hsz
  have hD := hD0.self (sz := s.heap.size)
  generalize hAe : va_A [(h0, .inr (ciM, [.null, .null, .null, .null, .null, .null, .null, .int 0]))] s.heap.size = A at hD ⊢
  have hA : ∀ q : Nat, s.heap.size ≤ q → A q := fun q h => by rw [← hAe]; exact Or.inr h
  have hS : va_S A s.heap s.heap [] := va_S.rf
  have hl := lv_entry ([.ref h0]) (n := 1) (Nat.le_of_ble_eq_true rfl)
  rw [lg_entry_eq]
  generalize (lg_sl ([.ref h0]) ++ List.replicate (1 - (lg_sl ([.ref h0])).length) Slot.unset).toArray = ls at hl ⊢
  have hl : lv_has ls 1 [(0, .ref h0)] := hl
  refine lv_aload_n hx hb dX2_init_0 rfl (lv_at hl 0 rfl) ?_
  refine W.objInit hx hb hown (hts (.methodLink RX2 1 objectInit) (by decide +kernel)) (hts (.instanceMethod objectInit) (by decide +kernel)) (hts _ (List.mem_cons_of_mem _ (List.mem_of_getElem? (i := 2) rfl))) rfl (by rw [hml]; exact hl.1) rfl dX2_init_1 (Nat.le_of_ble_eq_true rfl) (Nat.le_of_ble_eq_true rfl) ?_
  refine W.eq (g2 := F0 m 4 ls []) rfl ?_
  refine lv_aload_n hx hb dX2_init_4 rfl (lv_at hl 0 rfl) ?_
  refine lv_bipush (v := 8) hx hb dX2_init_5 (by decide) ?_
  refine va_newa (atype := .long) (ty := .long) (N' := 8) (a0 := (8, .inr (.inl (fun _ => 0)))) hx hb (hts (.arrayClass .long) (by decide +kernel)) rfl hK hP hD hS hA (fun _ => rfl) (by decide) (by decide) (by decide) (Nat.le_of_ble_eq_true rfl) (Nat.le_of_ble_eq_true rfl) dX2_init_7 (fun q1 k1 H hK hP hD hS => ?_)
  have hP : va_P D vwCl [(h0, .inr (ciM, [.null, .null, .null, .null, .null, .null, .null, .int 0])), (q1, .inl (k1, 8, .inr (.inl (fun _ => 0))))] H := hP
  have hD : va_D A [(h0, .inr (ciM, [.null, .null, .null, .null, .null, .null, .null, .int 0])), (q1, .inl (k1, 8, .inr (.inl (fun _ => 0))))] := hD
  have hK : va_K D vwCl [(k1, .long)] s := hK
  refine va_putF (D := D) (ci := ciM) (v := .ref q1) (ty := .array .long) (C := RX2) (T := TX2) (N := 8) hx hb hts (by decide +kernel) tyX2 tyX2_ok nmX2 hown hK hP hD hS 0 rfl rfl 0 (by decide) (hts (.fieldLink RX2 7 "ExactDeskModel" "registers" "[J") (by decide +kernel)) (fun _ h9 => h9) rfl hnm rfl (by decide +kernel) rfl rfl (Nat.le_of_ble_eq_true rfl) dX2_init_9 (fun H locs hP hD hS => ?_)
  have hP : va_P D vwCl [(h0, .inr (ciM, [.ref q1, .null, .null, .null, .null, .null, .null, .int 0])), (q1, .inl (k1, 8, .inr (.inl (fun _ => 0))))] H := hP
  have hD : va_D A [(h0, .inr (ciM, [.ref q1, .null, .null, .null, .null, .null, .null, .int 0])), (q1, .inl (k1, 8, .inr (.inl (fun _ => 0))))] := hD
  refine lv_aload_n hx hb dX2_init_12 rfl (lv_at hl 0 rfl) ?_
  refine lv_sipush (v := 160) hx hb dX2_init_13 (by decide) ?_
  refine va_newa (atype := .int) (ty := .int) (N' := 160) (a0 := (160, .inl (fun _ => 0))) hx hb (hts (.arrayClass .int) (by decide +kernel)) rfl hK hP hD hS hA (fun _ => rfl) (by decide) (by decide) (by decide) (Nat.le_of_ble_eq_true rfl) (Nat.le_of_ble_eq_true rfl) dX2_init_16 (fun q2 k2 H hK hP hD hS => ?_)
  have hP : va_P D vwCl [(h0, .inr (ciM, [.ref q1, .null, .null, .null, .null, .null, .null, .int 0])), (q1, .inl (k1, 8, .inr (.inl (fun _ => 0)))), (q2, .inl (k2, 160, .inl (fun _ => 0)))] H := hP
  have hD : va_D A [(h0, .inr (ciM, [.ref q1, .null, .null, .null, .null, .null, .null, .int 0])), (q1, .inl (k1, 8, .inr (.inl (fun _ => 0)))), (q2, .inl (k2, 160, .inl (fun _ => 0)))] := hD
  have hK : va_K D vwCl [(k1, .long), (k2, .int)] s := hK
  refine va_putF (D := D) (ci := ciM) (v := .ref q2) (ty := .array .int) (C := RX2) (T := TX2) (N := 8) hx hb hts (by decide +kernel) tyX2 tyX2_ok nmX2 hown hK hP hD hS 0 rfl rfl 1 (by decide) (hts (.fieldLink RX2 13 "ExactDeskModel" "tallies" "[I") (by decide +kernel)) (fun _ h9 => h9) rfl hnm rfl (by decide +kernel) rfl rfl (Nat.le_of_ble_eq_true rfl) dX2_init_18 (fun H locs hP hD hS => ?_)
  have hP : va_P D vwCl [(h0, .inr (ciM, [.ref q1, .ref q2, .null, .null, .null, .null, .null, .int 0])), (q1, .inl (k1, 8, .inr (.inl (fun _ => 0)))), (q2, .inl (k2, 160, .inl (fun _ => 0)))] H := hP
  have hD : va_D A [(h0, .inr (ciM, [.ref q1, .ref q2, .null, .null, .null, .null, .null, .int 0])), (q1, .inl (k1, 8, .inr (.inl (fun _ => 0)))), (q2, .inl (k2, 160, .inl (fun _ => 0)))] := hD
  refine lv_aload_n hx hb dX2_init_21 rfl (lv_at hl 0 rfl) ?_
  refine lv_iconst (v := 4) hx hb dX2_init_22 (by decide) ?_
  refine va_newa (atype := .boolean) (ty := .boolean) (N' := 4) (a0 := (4, .inl (fun _ => 0))) hx hb (hts (.arrayClass .boolean) (by decide +kernel)) rfl hK hP hD hS hA (fun _ => rfl) (by decide) (by decide) (by decide) (Nat.le_of_ble_eq_true rfl) (Nat.le_of_ble_eq_true rfl) dX2_init_23 (fun q3 k3 H hK hP hD hS => ?_)
  have hP : va_P D vwCl [(h0, .inr (ciM, [.ref q1, .ref q2, .null, .null, .null, .null, .null, .int 0])), (q1, .inl (k1, 8, .inr (.inl (fun _ => 0)))), (q2, .inl (k2, 160, .inl (fun _ => 0))), (q3, .inl (k3, 4, .inl (fun _ => 0)))] H := hP
  have hD : va_D A [(h0, .inr (ciM, [.ref q1, .ref q2, .null, .null, .null, .null, .null, .int 0])), (q1, .inl (k1, 8, .inr (.inl (fun _ => 0)))), (q2, .inl (k2, 160, .inl (fun _ => 0))), (q3, .inl (k3, 4, .inl (fun _ => 0)))] := hD
  have hK : va_K D vwCl [(k1, .long), (k2, .int), (k3, .boolean)] s := hK
  refine va_putF (D := D) (ci := ciM) (v := .ref q3) (ty := .array .boolean) (C := RX2) (T := TX2) (N := 8) hx hb hts (by decide +kernel) tyX2 tyX2_ok nmX2 hown hK hP hD hS 0 rfl rfl 2 (by decide) (hts (.fieldLink RX2 17 "ExactDeskModel" "below" "[Z") (by decide +kernel)) (fun _ h9 => h9) rfl hnm rfl (by decide +kernel) rfl rfl (Nat.le_of_ble_eq_true rfl) dX2_init_25 (fun H locs hP hD hS => ?_)
  have hP : va_P D vwCl [(h0, .inr (ciM, [.ref q1, .ref q2, .ref q3, .null, .null, .null, .null, .int 0])), (q1, .inl (k1, 8, .inr (.inl (fun _ => 0)))), (q2, .inl (k2, 160, .inl (fun _ => 0))), (q3, .inl (k3, 4, .inl (fun _ => 0)))] H := hP
  have hD : va_D A [(h0, .inr (ciM, [.ref q1, .ref q2, .ref q3, .null, .null, .null, .null, .int 0])), (q1, .inl (k1, 8, .inr (.inl (fun _ => 0)))), (q2, .inl (k2, 160, .inl (fun _ => 0))), (q3, .inl (k3, 4, .inl (fun _ => 0)))] := hD
  refine lv_aload_n hx hb dX2_init_28 rfl (lv_at hl 0 rfl) ?_
  refine lv_bipush (v := 80) hx hb dX2_init_29 (by decide) ?_
  refine va_newa (atype := .int) (ty := .int) (N' := 80) (a0 := (80, .inl (fun _ => 0))) hx hb (hts (.arrayClass .int) (by decide +kernel)) rfl hK hP hD hS hA (fun _ => rfl) (by decide) (by decide) (by decide) (Nat.le_of_ble_eq_true rfl) (Nat.le_of_ble_eq_true rfl) dX2_init_31 (fun q4 k4 H hK hP hD hS => ?_)
  have hP : va_P D vwCl [(h0, .inr (ciM, [.ref q1, .ref q2, .ref q3, .null, .null, .null, .null, .int 0])), (q1, .inl (k1, 8, .inr (.inl (fun _ => 0)))), (q2, .inl (k2, 160, .inl (fun _ => 0))), (q3, .inl (k3, 4, .inl (fun _ => 0))), (q4, .inl (k4, 80, .inl (fun _ => 0)))] H := hP
  have hD : va_D A [(h0, .inr (ciM, [.ref q1, .ref q2, .ref q3, .null, .null, .null, .null, .int 0])), (q1, .inl (k1, 8, .inr (.inl (fun _ => 0)))), (q2, .inl (k2, 160, .inl (fun _ => 0))), (q3, .inl (k3, 4, .inl (fun _ => 0))), (q4, .inl (k4, 80, .inl (fun _ => 0)))] := hD
  have hK : va_K D vwCl [(k1, .long), (k2, .int), (k3, .boolean), (k4, .int)] s := hK
  refine va_putF (D := D) (ci := ciM) (v := .ref q4) (ty := .array .int) (C := RX2) (T := TX2) (N := 8) hx hb hts (by decide +kernel) tyX2 tyX2_ok nmX2 hown hK hP hD hS 0 rfl rfl 3 (by decide) (hts (.fieldLink RX2 21 "ExactDeskModel" "a" "[I") (by decide +kernel)) (fun _ h9 => h9) rfl hnm rfl (by decide +kernel) rfl rfl (Nat.le_of_ble_eq_true rfl) dX2_init_33 (fun H locs hP hD hS => ?_)
  have hP : va_P D vwCl [(h0, .inr (ciM, [.ref q1, .ref q2, .ref q3, .ref q4, .null, .null, .null, .int 0])), (q1, .inl (k1, 8, .inr (.inl (fun _ => 0)))), (q2, .inl (k2, 160, .inl (fun _ => 0))), (q3, .inl (k3, 4, .inl (fun _ => 0))), (q4, .inl (k4, 80, .inl (fun _ => 0)))] H := hP
  have hD : va_D A [(h0, .inr (ciM, [.ref q1, .ref q2, .ref q3, .ref q4, .null, .null, .null, .int 0])), (q1, .inl (k1, 8, .inr (.inl (fun _ => 0)))), (q2, .inl (k2, 160, .inl (fun _ => 0))), (q3, .inl (k3, 4, .inl (fun _ => 0))), (q4, .inl (k4, 80, .inl (fun _ => 0)))] := hD
  refine lv_aload_n hx hb dX2_init_36 rfl (lv_at hl 0 rfl) ?_
  refine lv_bipush (v := 80) hx hb dX2_init_37 (by decide) ?_
  refine va_newa (atype := .int) (ty := .int) (N' := 80) (a0 := (80, .inl (fun _ => 0))) hx hb (hts (.arrayClass .int) (by decide +kernel)) rfl hK hP hD hS hA (fun _ => rfl) (by decide) (by decide) (by decide) (Nat.le_of_ble_eq_true rfl) (Nat.le_of_ble_eq_true rfl) dX2_init_39 (fun q5 k5 H hK hP hD hS => ?_)
  have hP : va_P D vwCl [(h0, .inr (ciM, [.ref q1, .ref q2, .ref q3, .ref q4, .null, .null, .null, .int 0])), (q1, .inl (k1, 8, .inr (.inl (fun _ => 0)))), (q2, .inl (k2, 160, .inl (fun _ => 0))), (q3, .inl (k3, 4, .inl (fun _ => 0))), (q4, .inl (k4, 80, .inl (fun _ => 0))), (q5, .inl (k5, 80, .inl (fun _ => 0)))] H := hP
  have hD : va_D A [(h0, .inr (ciM, [.ref q1, .ref q2, .ref q3, .ref q4, .null, .null, .null, .int 0])), (q1, .inl (k1, 8, .inr (.inl (fun _ => 0)))), (q2, .inl (k2, 160, .inl (fun _ => 0))), (q3, .inl (k3, 4, .inl (fun _ => 0))), (q4, .inl (k4, 80, .inl (fun _ => 0))), (q5, .inl (k5, 80, .inl (fun _ => 0)))] := hD
  have hK : va_K D vwCl [(k1, .long), (k2, .int), (k3, .boolean), (k4, .int), (k5, .int)] s := hK
  refine va_putF (D := D) (ci := ciM) (v := .ref q5) (ty := .array .int) (C := RX2) (T := TX2) (N := 8) hx hb hts (by decide +kernel) tyX2 tyX2_ok nmX2 hown hK hP hD hS 0 rfl rfl 4 (by decide) (hts (.fieldLink RX2 24 "ExactDeskModel" "b" "[I") (by decide +kernel)) (fun _ h9 => h9) rfl hnm rfl (by decide +kernel) rfl rfl (Nat.le_of_ble_eq_true rfl) dX2_init_41 (fun H locs hP hD hS => ?_)
  have hP : va_P D vwCl [(h0, .inr (ciM, [.ref q1, .ref q2, .ref q3, .ref q4, .ref q5, .null, .null, .int 0])), (q1, .inl (k1, 8, .inr (.inl (fun _ => 0)))), (q2, .inl (k2, 160, .inl (fun _ => 0))), (q3, .inl (k3, 4, .inl (fun _ => 0))), (q4, .inl (k4, 80, .inl (fun _ => 0))), (q5, .inl (k5, 80, .inl (fun _ => 0)))] H := hP
  have hD : va_D A [(h0, .inr (ciM, [.ref q1, .ref q2, .ref q3, .ref q4, .ref q5, .null, .null, .int 0])), (q1, .inl (k1, 8, .inr (.inl (fun _ => 0)))), (q2, .inl (k2, 160, .inl (fun _ => 0))), (q3, .inl (k3, 4, .inl (fun _ => 0))), (q4, .inl (k4, 80, .inl (fun _ => 0))), (q5, .inl (k5, 80, .inl (fun _ => 0)))] := hD
  refine lv_aload_n hx hb dX2_init_44 rfl (lv_at hl 0 rfl) ?_
  refine lv_bipush (v := 80) hx hb dX2_init_45 (by decide) ?_
  refine va_newa (atype := .int) (ty := .int) (N' := 80) (a0 := (80, .inl (fun _ => 0))) hx hb (hts (.arrayClass .int) (by decide +kernel)) rfl hK hP hD hS hA (fun _ => rfl) (by decide) (by decide) (by decide) (Nat.le_of_ble_eq_true rfl) (Nat.le_of_ble_eq_true rfl) dX2_init_47 (fun q6 k6 H hK hP hD hS => ?_)
  have hP : va_P D vwCl [(h0, .inr (ciM, [.ref q1, .ref q2, .ref q3, .ref q4, .ref q5, .null, .null, .int 0])), (q1, .inl (k1, 8, .inr (.inl (fun _ => 0)))), (q2, .inl (k2, 160, .inl (fun _ => 0))), (q3, .inl (k3, 4, .inl (fun _ => 0))), (q4, .inl (k4, 80, .inl (fun _ => 0))), (q5, .inl (k5, 80, .inl (fun _ => 0))), (q6, .inl (k6, 80, .inl (fun _ => 0)))] H := hP
  have hD : va_D A [(h0, .inr (ciM, [.ref q1, .ref q2, .ref q3, .ref q4, .ref q5, .null, .null, .int 0])), (q1, .inl (k1, 8, .inr (.inl (fun _ => 0)))), (q2, .inl (k2, 160, .inl (fun _ => 0))), (q3, .inl (k3, 4, .inl (fun _ => 0))), (q4, .inl (k4, 80, .inl (fun _ => 0))), (q5, .inl (k5, 80, .inl (fun _ => 0))), (q6, .inl (k6, 80, .inl (fun _ => 0)))] := hD
  have hK : va_K D vwCl [(k1, .long), (k2, .int), (k3, .boolean), (k4, .int), (k5, .int), (k6, .int)] s := hK
  refine va_putF (D := D) (ci := ciM) (v := .ref q6) (ty := .array .int) (C := RX2) (T := TX2) (N := 8) hx hb hts (by decide +kernel) tyX2 tyX2_ok nmX2 hown hK hP hD hS 0 rfl rfl 5 (by decide) (hts (.fieldLink RX2 27 "ExactDeskModel" "c" "[I") (by decide +kernel)) (fun _ h9 => h9) rfl hnm rfl (by decide +kernel) rfl rfl (Nat.le_of_ble_eq_true rfl) dX2_init_49 (fun H locs hP hD hS => ?_)
  have hP : va_P D vwCl [(h0, .inr (ciM, [.ref q1, .ref q2, .ref q3, .ref q4, .ref q5, .ref q6, .null, .int 0])), (q1, .inl (k1, 8, .inr (.inl (fun _ => 0)))), (q2, .inl (k2, 160, .inl (fun _ => 0))), (q3, .inl (k3, 4, .inl (fun _ => 0))), (q4, .inl (k4, 80, .inl (fun _ => 0))), (q5, .inl (k5, 80, .inl (fun _ => 0))), (q6, .inl (k6, 80, .inl (fun _ => 0)))] H := hP
  have hD : va_D A [(h0, .inr (ciM, [.ref q1, .ref q2, .ref q3, .ref q4, .ref q5, .ref q6, .null, .int 0])), (q1, .inl (k1, 8, .inr (.inl (fun _ => 0)))), (q2, .inl (k2, 160, .inl (fun _ => 0))), (q3, .inl (k3, 4, .inl (fun _ => 0))), (q4, .inl (k4, 80, .inl (fun _ => 0))), (q5, .inl (k5, 80, .inl (fun _ => 0))), (q6, .inl (k6, 80, .inl (fun _ => 0)))] := hD
  refine lv_aload_n hx hb dX2_init_52 rfl (lv_at hl 0 rfl) ?_
  refine lv_bipush (v := 80) hx hb dX2_init_53 (by decide) ?_
  refine va_newa (atype := .int) (ty := .int) (N' := 80) (a0 := (80, .inl (fun _ => 0))) hx hb (hts (.arrayClass .int) (by decide +kernel)) rfl hK hP hD hS hA (fun _ => rfl) (by decide) (by decide) (by decide) (Nat.le_of_ble_eq_true rfl) (Nat.le_of_ble_eq_true rfl) dX2_init_55 (fun q7 k7 H hK hP hD hS => ?_)
  have hP : va_P D vwCl [(h0, .inr (ciM, [.ref q1, .ref q2, .ref q3, .ref q4, .ref q5, .ref q6, .null, .int 0])), (q1, .inl (k1, 8, .inr (.inl (fun _ => 0)))), (q2, .inl (k2, 160, .inl (fun _ => 0))), (q3, .inl (k3, 4, .inl (fun _ => 0))), (q4, .inl (k4, 80, .inl (fun _ => 0))), (q5, .inl (k5, 80, .inl (fun _ => 0))), (q6, .inl (k6, 80, .inl (fun _ => 0))), (q7, .inl (k7, 80, .inl (fun _ => 0)))] H := hP
  have hD : va_D A [(h0, .inr (ciM, [.ref q1, .ref q2, .ref q3, .ref q4, .ref q5, .ref q6, .null, .int 0])), (q1, .inl (k1, 8, .inr (.inl (fun _ => 0)))), (q2, .inl (k2, 160, .inl (fun _ => 0))), (q3, .inl (k3, 4, .inl (fun _ => 0))), (q4, .inl (k4, 80, .inl (fun _ => 0))), (q5, .inl (k5, 80, .inl (fun _ => 0))), (q6, .inl (k6, 80, .inl (fun _ => 0))), (q7, .inl (k7, 80, .inl (fun _ => 0)))] := hD
  have hK : va_K D vwCl [(k1, .long), (k2, .int), (k3, .boolean), (k4, .int), (k5, .int), (k6, .int), (k7, .int)] s := hK
  refine va_putF (D := D) (ci := ciM) (v := .ref q7) (ty := .array .int) (C := RX2) (T := TX2) (N := 8) hx hb hts (by decide +kernel) tyX2 tyX2_ok nmX2 hown hK hP hD hS 0 rfl rfl 6 (by decide) (hts (.fieldLink RX2 30 "ExactDeskModel" "rest" "[I") (by decide +kernel)) (fun _ h9 => h9) rfl hnm rfl (by decide +kernel) rfl rfl (Nat.le_of_ble_eq_true rfl) dX2_init_57 (fun H locs hP hD hS => ?_)
  have hP : va_P D vwCl [(h0, .inr (ciM, [.ref q1, .ref q2, .ref q3, .ref q4, .ref q5, .ref q6, .ref q7, .int 0])), (q1, .inl (k1, 8, .inr (.inl (fun _ => 0)))), (q2, .inl (k2, 160, .inl (fun _ => 0))), (q3, .inl (k3, 4, .inl (fun _ => 0))), (q4, .inl (k4, 80, .inl (fun _ => 0))), (q5, .inl (k5, 80, .inl (fun _ => 0))), (q6, .inl (k6, 80, .inl (fun _ => 0))), (q7, .inl (k7, 80, .inl (fun _ => 0)))] H := hP
  have hD : va_D A [(h0, .inr (ciM, [.ref q1, .ref q2, .ref q3, .ref q4, .ref q5, .ref q6, .ref q7, .int 0])), (q1, .inl (k1, 8, .inr (.inl (fun _ => 0)))), (q2, .inl (k2, 160, .inl (fun _ => 0))), (q3, .inl (k3, 4, .inl (fun _ => 0))), (q4, .inl (k4, 80, .inl (fun _ => 0))), (q5, .inl (k5, 80, .inl (fun _ => 0))), (q6, .inl (k6, 80, .inl (fun _ => 0))), (q7, .inl (k7, 80, .inl (fun _ => 0)))] := hD
  refine W.widen (k := 7) (n := 492) (Nat.le_of_ble_eq_true rfl) (Nat.le_of_ble_eq_true rfl) ?_
  exact W.vret hx hb hr (fun t ht hW => ⟨⟨([(h0, .inr (ciM, [.ref q1, .ref q2, .ref q3, .ref q4, .ref q5, .ref q6, .ref q7, .int 0])), (q1, .inl (k1, 8, .inr (.inl (fun _ => 0)))), (q2, .inl (k2, 160, .inl (fun _ => 0))), (q3, .inl (k3, 4, .inl (fun _ => 0))), (q4, .inl (k4, 80, .inl (fun _ => 0))), (q5, .inl (k5, 80, .inl (fun _ => 0))), (q6, .inl (k6, 80, .inl (fun _ => 0))), (q7, .inl (k7, 80, .inl (fun _ => 0)))], [(k1, .long), (k2, .int), (k3, .boolean), (k4, .int), (k5, .int), (k6, .int), (k7, .int)]), rfl, ⟨fun j => [h0, q1, q2, q3, q4, q5, q6, q7].getD j 0, fun j => [k1, k2, k3, k4, k5, k6, k7].getD j k1, rfl, rfl, rfl⟩, by rw [ht]; exact hP, va_K.moved hW.alike hK, hD⟩, hS.F ht⟩) hS.2.2 dX2_init_60 hlocks
end
