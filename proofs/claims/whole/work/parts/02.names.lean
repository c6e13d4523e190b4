/-! ===== BEGIN words of one list among another's, by their places ===== -/
theorem goodIn_r {big : List Cond} (ws : List Cond) (ps : List Nat) (hp : ws = ps.filterMap (fun i => big[i]?)) (h : ws.all goodWord = true) : GoodIn big ws := by
  intro w hw
  have h1 := List.all_eq_true.mp h w hw
  rw [hp] at hw
  obtain ⟨i, -, hi⟩ := List.mem_filterMap.mp hw
  have hm : w ∈ big := by first | exact List.mem_of_getElem? hi | exact List.getElem?_mem hi
  exact ⟨hm, good_of_word h1⟩
theorem goodIn_app {big a b : List Cond} (ha : GoodIn big a) (hb : GoodIn big b) : GoodIn big (a ++ b) := fun w h => (List.mem_append.mp h).elim (ha w) (hb w)
theorem goodIn_ca {big a b : List Cond} {c : Cond} (ha : GoodIn big (c :: a)) (hb : GoodIn big b) : GoodIn big (c :: (a ++ b)) := fun w h => (List.mem_cons.mp h).elim (fun e => ha w (List.mem_cons.mpr (Or.inl e))) (fun h => (List.mem_append.mp h).elim (fun h => ha w (List.mem_cons.mpr (Or.inr h))) (hb w))
theorem goodIn_sub {big ws : List Cond} (hm : ∀ w ∈ ws, w ∈ big) (h : ws.all goodWord = true) : GoodIn big ws := fun w hw => ⟨hm w hw, good_of_word (List.all_eq_true.mp h w hw)⟩
/-! ===== END ===== -/

/-! ===== BEGIN printed: names, fields, word lists, decode rows ===== -/
def RX0 : String := "StrideHeap"
def TX0 : u_T := fun k => match k with
  | 0 => ("StrideHeap", "cap", "I", true)
  | 1 => ("StrideHeap", "big", "I", true)
  | 2 => ("StrideHeap", "ticketsOf", "[I", true)
  | 3 => ("StrideHeap", "strides", "[I", true)
  | 4 => ("StrideHeap", "passes", "[I", true)
  | 5 => ("StrideHeap", "ran", "[I", true)
  | 6 => ("StrideHeap", "line", "[I", true)
  | 7 => ("StrideHeap", "inLine", "I", false)
  | _ => ("StrideHeap", "latestLeftPass", "I", false)
def tyX0 : Nat → FieldType := fun k => match k with
  | 0 => .int
  | 1 => .int
  | 2 => .array .int
  | 3 => .array .int
  | 4 => .array .int
  | 5 => .array .int
  | 6 => .array .int
  | 7 => .int
  | _ => .int
abbrev wsX00 : List Cond := u_ws RX0 TX0 9
theorem nmX0 : ∀ a, a < 9 → ∀ b, b < 9 → a ≠ b → (TX0 a).2.1 ≠ (TX0 b).2.1 := by decide +kernel
theorem tyX0_ok : ∀ k, k < 9 → parseFieldDescriptor (TX0 k).2.2.1 = some (tyX0 k) := by decide +kernel
abbrev cX0_init : ByteArray := prog_1_method_1_code
def yX0_init : MethodName := ⟨RX0, "<init>", "(II)V"⟩
abbrev cX0_join : ByteArray := prog_1_method_2_code
def yX0_join : MethodName := ⟨RX0, "join", "(II)I"⟩
abbrev cX0_leave : ByteArray := prog_1_method_3_code
def yX0_leave : MethodName := ⟨RX0, "leave", "(I)I"⟩
abbrev cX0_next : ByteArray := prog_1_method_4_code
def yX0_next : MethodName := ⟨RX0, "next", "()I"⟩
abbrev cX0_turns : ByteArray := prog_1_method_5_code
def yX0_turns : MethodName := ⟨RX0, "turns", "(I)I"⟩
abbrev cX0_change : ByteArray := prog_1_method_6_code
def yX0_change : MethodName := ⟨RX0, "change", "(II)I"⟩
abbrev cX0_ranOf : ByteArray := prog_1_method_7_code
def yX0_ranOf : MethodName := ⟨RX0, "ranOf", "(I)I"⟩
abbrev cX0_passOf : ByteArray := prog_1_method_8_code
def yX0_passOf : MethodName := ⟨RX0, "passOf", "(I)I"⟩
abbrev cX0_strideOf : ByteArray := prog_1_method_9_code
def yX0_strideOf : MethodName := ⟨RX0, "strideOf", "(I)I"⟩
abbrev cX0_clients : ByteArray := prog_1_method_10_code
def yX0_clients : MethodName := ⟨RX0, "clients", "()I"⟩
abbrev cX0_spread : ByteArray := prog_1_method_11_code
def yX0_spread : MethodName := ⟨RX0, "spread", "()I"⟩
abbrev cX0_order : ByteArray := prog_1_method_12_code
def yX0_order : MethodName := ⟨RX0, "order", "(I)I"⟩
abbrev cX0_isClient : ByteArray := prog_1_method_13_code
def yX0_isClient : MethodName := ⟨RX0, "isClient", "(I)Z"⟩
abbrev cX0_isIn : ByteArray := prog_1_method_14_code
def yX0_isIn : MethodName := ⟨RX0, "isIn", "(I)Z"⟩
abbrev cX0_areTickets : ByteArray := prog_1_method_15_code
def yX0_areTickets : MethodName := ⟨RX0, "areTickets", "(I)Z"⟩
abbrev cX0_joiningPass : ByteArray := prog_1_method_16_code
def yX0_joiningPass : MethodName := ⟨RX0, "joiningPass", "()I"⟩
abbrev cX0_giveTickets : ByteArray := prog_1_method_17_code
def yX0_giveTickets : MethodName := ⟨RX0, "giveTickets", "(II)V"⟩
abbrev cX0_giveTurn : ByteArray := prog_1_method_18_code
def yX0_giveTurn : MethodName := ⟨RX0, "giveTurn", "()I"⟩
abbrev cX0_enterLine : ByteArray := prog_1_method_19_code
def yX0_enterLine : MethodName := ⟨RX0, "enterLine", "(I)V"⟩
abbrev cX0_quitLine : ByteArray := prog_1_method_20_code
def yX0_quitLine : MethodName := ⟨RX0, "quitLine", "(I)V"⟩
abbrev cX0_placeOf : ByteArray := prog_1_method_21_code
def yX0_placeOf : MethodName := ⟨RX0, "placeOf", "(I)I"⟩
abbrev cX0_settleFirst : ByteArray := prog_1_method_22_code
def yX0_settleFirst : MethodName := ⟨RX0, "settleFirst", "()V"⟩
abbrev cX0_isBefore : ByteArray := prog_1_method_23_code
def yX0_isBefore : MethodName := ⟨RX0, "isBefore", "(II)Z"⟩
def RX1 : String := "StrideHeapModel"
def TX1 : u_T := fun k => match k with
  | 0 => ("StrideHeapModel", "cap", "I", true)
  | 1 => ("StrideHeapModel", "big", "I", true)
  | 2 => ("StrideHeapModel", "in", "[Z", true)
  | 3 => ("StrideHeapModel", "tickets", "[I", true)
  | 4 => ("StrideHeapModel", "pass", "[J", true)
  | 5 => ("StrideHeapModel", "ran", "[I", true)
  | 6 => ("StrideHeapModel", "many", "I", false)
  | _ => ("StrideHeapModel", "latest", "J", false)
def tyX1 : Nat → FieldType := fun k => match k with
  | 0 => .int
  | 1 => .int
  | 2 => .array .boolean
  | 3 => .array .int
  | 4 => .array .long
  | 5 => .array .int
  | 6 => .int
  | _ => .long
abbrev wsX10 : List Cond := u_ws RX1 TX1 8
theorem nmX1 : ∀ a, a < 8 → ∀ b, b < 8 → a ≠ b → (TX1 a).2.1 ≠ (TX1 b).2.1 := by decide +kernel
theorem tyX1_ok : ∀ k, k < 8 → parseFieldDescriptor (TX1 k).2.2.1 = some (tyX1 k) := by decide +kernel
abbrev cX1_init : ByteArray := prog_3_method_1_code
def yX1_init : MethodName := ⟨RX1, "<init>", "(II)V"⟩
abbrev cX1_isClient : ByteArray := prog_3_method_2_code
def yX1_isClient : MethodName := ⟨RX1, "isClient", "(I)Z"⟩
abbrev cX1_isIn : ByteArray := prog_3_method_3_code
def yX1_isIn : MethodName := ⟨RX1, "isIn", "(I)Z"⟩
abbrev cX1_areTickets : ByteArray := prog_3_method_4_code
def yX1_areTickets : MethodName := ⟨RX1, "areTickets", "(I)Z"⟩
abbrev cX1_isBefore : ByteArray := prog_3_method_5_code
def yX1_isBefore : MethodName := ⟨RX1, "isBefore", "(II)Z"⟩
abbrev cX1_first : ByteArray := prog_3_method_6_code
def yX1_first : MethodName := ⟨RX1, "first", "()I"⟩
abbrev cX1_join : ByteArray := prog_3_method_7_code
def yX1_join : MethodName := ⟨RX1, "join", "(II)I"⟩
abbrev cX1_leave : ByteArray := prog_3_method_8_code
def yX1_leave : MethodName := ⟨RX1, "leave", "(I)I"⟩
abbrev cX1_next : ByteArray := prog_3_method_9_code
def yX1_next : MethodName := ⟨RX1, "next", "()I"⟩
abbrev cX1_turns : ByteArray := prog_3_method_10_code
def yX1_turns : MethodName := ⟨RX1, "turns", "(I)I"⟩
abbrev cX1_change : ByteArray := prog_3_method_11_code
def yX1_change : MethodName := ⟨RX1, "change", "(II)I"⟩
abbrev cX1_ranOf : ByteArray := prog_3_method_12_code
def yX1_ranOf : MethodName := ⟨RX1, "ranOf", "(I)I"⟩
abbrev cX1_passOf : ByteArray := prog_3_method_13_code
def yX1_passOf : MethodName := ⟨RX1, "passOf", "(I)I"⟩
abbrev cX1_strideOf : ByteArray := prog_3_method_14_code
def yX1_strideOf : MethodName := ⟨RX1, "strideOf", "(I)I"⟩
abbrev cX1_clients : ByteArray := prog_3_method_15_code
def yX1_clients : MethodName := ⟨RX1, "clients", "()I"⟩
abbrev cX1_spread : ByteArray := prog_3_method_16_code
def yX1_spread : MethodName := ⟨RX1, "spread", "()I"⟩
abbrev cX1_order : ByteArray := prog_3_method_17_code
def yX1_order : MethodName := ⟨RX1, "order", "(I)I"⟩
def RJ9 : String := "java/lang/Math"
def TJ9 : u_T := fun k => match k with
  | _ => ("", "", "", false)
def tyJ9 : Nat → FieldType := fun k => match k with
  | _ => .int
abbrev wsJ90 : List Cond := u_ws RJ9 TJ9 0
theorem nmJ9 : ∀ a, a < 0 → ∀ b, b < 0 → a ≠ b → (TJ9 a).2.1 ≠ (TJ9 b).2.1 := by decide +kernel
theorem tyJ9_ok : ∀ k, k < 0 → parseFieldDescriptor (TJ9 k).2.2.1 = some (tyJ9 k) := by decide +kernel
abbrev cJ9_floorMod_7cf53 : ByteArray := prog_4_method_50_code
def yJ9_floorMod_7cf53 : MethodName := ⟨RJ9, "floorMod", "(II)I"⟩
def RJ10 : String := "java/lang/System"
def TJ10 : u_T := fun k => match k with
  | _ => ("", "", "", false)
def tyJ10 : Nat → FieldType := fun k => match k with
  | _ => .int
abbrev wsJ100 : List Cond := u_ws RJ10 TJ10 0
theorem nmJ10 : ∀ a, a < 0 → ∀ b, b < 0 → a ≠ b → (TJ10 a).2.1 ≠ (TJ10 b).2.1 := by decide +kernel
theorem tyJ10_ok : ∀ k, k < 0 → parseFieldDescriptor (TJ10 k).2.2.1 = some (tyJ10 k) := by decide +kernel
def RL : String := "StrideHeapLaw"
abbrev cL_cell : ByteArray := method_2_code
def yL_cell : MethodName := ⟨RL, "cell", "([II)I"⟩
abbrev cL_law : ByteArray := code
def yL_law : MethodName := ⟨RL, "law", "([I)Z"⟩
def wsJ9_floorMod_7cf53 : List Cond := .code yJ9_floorMod_7cf53 cJ9_floorMod_7cf53 3 (some .int) :: ([])
def wsX0_init : List Cond := .code yX0_init cX0_init 3 none :: ([.methodLink RX0 1 objectInit, .instanceMethod objectInit, .code objectInit ⟨#[0xb1]⟩ 1 none, .fieldLink RX0 15 "StrideHeap" "cap" "I", .fieldLink RX0 19 "StrideHeap" "big" "I", .arrayClass .int, .fieldLink RX0 22 "StrideHeap" "ticketsOf" "[I", .fieldLink RX0 26 "StrideHeap" "strides" "[I", .fieldLink RX0 29 "StrideHeap" "passes" "[I", .fieldLink RX0 32 "StrideHeap" "ran" "[I", .fieldLink RX0 35 "StrideHeap" "line" "[I", .fieldLink RX0 38 "StrideHeap" "inLine" "I", .fieldLink RX0 41 "StrideHeap" "latestLeftPass" "I", .methodLink RX0 9 yJ9_floorMod_7cf53, .static yJ9_floorMod_7cf53, .initialized RJ9, .code yJ9_floorMod_7cf53 cJ9_floorMod_7cf53 3 (some .int)] ++ wsX00)
def wsX0_isClient : List Cond := .code yX0_isClient cX0_isClient 2 (some .boolean) :: ([.fieldLink RX0 15 "StrideHeap" "cap" "I"] ++ wsX00)
def wsX0_isIn : List Cond := .code yX0_isIn cX0_isIn 2 (some .boolean) :: ([.fieldLink RX0 22 "StrideHeap" "ticketsOf" "[I"] ++ wsX00)
def wsX0_areTickets : List Cond := .code yX0_areTickets cX0_areTickets 2 (some .boolean) :: ([.fieldLink RX0 19 "StrideHeap" "big" "I"] ++ wsX00)
def wsX0_joiningPass : List Cond := .code yX0_joiningPass cX0_joiningPass 1 (some .int) :: ([.fieldLink RX0 38 "StrideHeap" "inLine" "I", .fieldLink RX0 41 "StrideHeap" "latestLeftPass" "I", .fieldLink RX0 29 "StrideHeap" "passes" "[I", .fieldLink RX0 35 "StrideHeap" "line" "[I"] ++ wsX00)
def wsX0_giveTickets : List Cond := .code yX0_giveTickets cX0_giveTickets 3 none :: ([.fieldLink RX0 22 "StrideHeap" "ticketsOf" "[I", .fieldLink RX0 26 "StrideHeap" "strides" "[I", .fieldLink RX0 19 "StrideHeap" "big" "I"] ++ wsX00)
def wsX0_isBefore : List Cond := .code yX0_isBefore cX0_isBefore 3 (some .boolean) :: ([.fieldLink RX0 29 "StrideHeap" "passes" "[I"] ++ wsX00)
def wsX0_settleFirst : List Cond := .code yX0_settleFirst cX0_settleFirst 3 none :: ([.fieldLink RX0 35 "StrideHeap" "line" "[I", .fieldLink RX0 38 "StrideHeap" "inLine" "I", .methodLink RX0 87 yX0_isBefore, .instanceMethod yX0_isBefore, .selects RX0 yX0_isBefore yX0_isBefore, .initialized RX0, .code yX0_isBefore cX0_isBefore 3 (some .boolean), .fieldLink RX0 29 "StrideHeap" "passes" "[I"] ++ wsX00)
def wsX0_enterLine : List Cond := .code yX0_enterLine cX0_enterLine 2 none :: ([.fieldLink RX0 35 "StrideHeap" "line" "[I", .fieldLink RX0 38 "StrideHeap" "inLine" "I", .methodLink RX0 77 arraycopyName, .native arraycopyName, .static arraycopyName, .initialized "java/lang/System", .methodLink RX0 74 yX0_settleFirst, .instanceMethod yX0_settleFirst, .selects RX0 yX0_settleFirst yX0_settleFirst, .initialized RX0, .code yX0_settleFirst cX0_settleFirst 3 none, .methodLink RX0 87 yX0_isBefore, .instanceMethod yX0_isBefore, .selects RX0 yX0_isBefore yX0_isBefore, .code yX0_isBefore cX0_isBefore 3 (some .boolean), .fieldLink RX0 29 "StrideHeap" "passes" "[I"] ++ wsX00)
def wsX0_join_r1 : List Cond := [Cond.fieldLink RX0 29 "StrideHeap" "passes" "[I", Cond.methodLink RX0 44 yX0_isClient, Cond.instanceMethod yX0_isClient, Cond.selects RX0 yX0_isClient yX0_isClient, Cond.initialized RX0, Cond.code yX0_isClient cX0_isClient 2 (some .boolean), Cond.fieldLink RX0 15 "StrideHeap" "cap" "I", Cond.methodLink RX0 48 yX0_isIn, Cond.instanceMethod yX0_isIn, Cond.selects RX0 yX0_isIn yX0_isIn, Cond.code yX0_isIn cX0_isIn 2 (some .boolean), Cond.fieldLink RX0 22 "StrideHeap" "ticketsOf" "[I", Cond.methodLink RX0 51 yX0_areTickets, Cond.instanceMethod yX0_areTickets, Cond.selects RX0 yX0_areTickets yX0_areTickets, Cond.code yX0_areTickets cX0_areTickets 2 (some .boolean), Cond.fieldLink RX0 19 "StrideHeap" "big" "I", Cond.methodLink RX0 54 yX0_joiningPass, Cond.instanceMethod yX0_joiningPass, Cond.selects RX0 yX0_joiningPass yX0_joiningPass, Cond.code yX0_joiningPass cX0_joiningPass 1 (some .int), Cond.fieldLink RX0 38 "StrideHeap" "inLine" "I", Cond.fieldLink RX0 41 "StrideHeap" "latestLeftPass" "I", Cond.fieldLink RX0 35 "StrideHeap" "line" "[I"]
def wsX0_join_r2 : List Cond := [Cond.methodLink RX0 58 yX0_giveTickets, Cond.instanceMethod yX0_giveTickets, Cond.selects RX0 yX0_giveTickets yX0_giveTickets, Cond.code yX0_giveTickets cX0_giveTickets 3 none, Cond.fieldLink RX0 26 "StrideHeap" "strides" "[I", Cond.methodLink RX0 62 yX0_enterLine, Cond.instanceMethod yX0_enterLine, Cond.selects RX0 yX0_enterLine yX0_enterLine, Cond.code yX0_enterLine cX0_enterLine 2 none, Cond.methodLink RX0 77 arraycopyName, Cond.native arraycopyName, Cond.static arraycopyName, Cond.initialized "java/lang/System", Cond.methodLink RX0 74 yX0_settleFirst, Cond.instanceMethod yX0_settleFirst, Cond.selects RX0 yX0_settleFirst yX0_settleFirst, Cond.code yX0_settleFirst cX0_settleFirst 3 none, Cond.methodLink RX0 87 yX0_isBefore, Cond.instanceMethod yX0_isBefore, Cond.selects RX0 yX0_isBefore yX0_isBefore, Cond.code yX0_isBefore cX0_isBefore 3 (some .boolean)]
def wsX0_join : List Cond := .code yX0_join cX0_join 3 (some .int) :: ((wsX0_join_r1 ++ wsX0_join_r2) ++ wsX00)
def wsX0_placeOf : List Cond := .code yX0_placeOf cX0_placeOf 3 (some .int) :: ([.fieldLink RX0 38 "StrideHeap" "inLine" "I", .fieldLink RX0 35 "StrideHeap" "line" "[I"] ++ wsX00)
def wsX0_quitLine : List Cond := .code yX0_quitLine cX0_quitLine 3 none :: ([.fieldLink RX0 35 "StrideHeap" "line" "[I", .fieldLink RX0 38 "StrideHeap" "inLine" "I", .methodLink RX0 77 arraycopyName, .native arraycopyName, .static arraycopyName, .initialized "java/lang/System", .methodLink RX0 83 yX0_placeOf, .instanceMethod yX0_placeOf, .selects RX0 yX0_placeOf yX0_placeOf, .initialized RX0, .code yX0_placeOf cX0_placeOf 3 (some .int)] ++ wsX00)
def wsX0_leave_r1 : List Cond := [Cond.fieldLink RX0 29 "StrideHeap" "passes" "[I", Cond.fieldLink RX0 41 "StrideHeap" "latestLeftPass" "I", Cond.fieldLink RX0 22 "StrideHeap" "ticketsOf" "[I", Cond.methodLink RX0 44 yX0_isClient, Cond.instanceMethod yX0_isClient, Cond.selects RX0 yX0_isClient yX0_isClient, Cond.initialized RX0, Cond.code yX0_isClient cX0_isClient 2 (some .boolean), Cond.fieldLink RX0 15 "StrideHeap" "cap" "I", Cond.methodLink RX0 48 yX0_isIn, Cond.instanceMethod yX0_isIn, Cond.selects RX0 yX0_isIn yX0_isIn, Cond.code yX0_isIn cX0_isIn 2 (some .boolean), Cond.methodLink RX0 66 yX0_quitLine, Cond.instanceMethod yX0_quitLine, Cond.selects RX0 yX0_quitLine yX0_quitLine, Cond.code yX0_quitLine cX0_quitLine 3 none, Cond.fieldLink RX0 35 "StrideHeap" "line" "[I", Cond.fieldLink RX0 38 "StrideHeap" "inLine" "I", Cond.methodLink RX0 77 arraycopyName, Cond.native arraycopyName, Cond.static arraycopyName, Cond.initialized "java/lang/System", Cond.methodLink RX0 83 yX0_placeOf]
def wsX0_leave_r2 : List Cond := [Cond.instanceMethod yX0_placeOf, Cond.selects RX0 yX0_placeOf yX0_placeOf, Cond.code yX0_placeOf cX0_placeOf 3 (some .int)]
def wsX0_leave : List Cond := .code yX0_leave cX0_leave 2 (some .int) :: ((wsX0_leave_r1 ++ wsX0_leave_r2) ++ wsX00)
def wsX0_giveTurn : List Cond := .code yX0_giveTurn cX0_giveTurn 4 (some .int) :: ([.fieldLink RX0 38 "StrideHeap" "inLine" "I", .fieldLink RX0 35 "StrideHeap" "line" "[I", .fieldLink RX0 29 "StrideHeap" "passes" "[I", .fieldLink RX0 26 "StrideHeap" "strides" "[I", .constantLong RX0 72 (2147483647), .fieldLink RX0 32 "StrideHeap" "ran" "[I", .methodLink RX0 74 yX0_settleFirst, .instanceMethod yX0_settleFirst, .selects RX0 yX0_settleFirst yX0_settleFirst, .initialized RX0, .code yX0_settleFirst cX0_settleFirst 3 none, .methodLink RX0 87 yX0_isBefore, .instanceMethod yX0_isBefore, .selects RX0 yX0_isBefore yX0_isBefore, .code yX0_isBefore cX0_isBefore 3 (some .boolean)] ++ wsX00)
def wsX0_next : List Cond := .code yX0_next cX0_next 1 (some .int) :: ([.methodLink RX0 69 yX0_giveTurn, .instanceMethod yX0_giveTurn, .selects RX0 yX0_giveTurn yX0_giveTurn, .initialized RX0, .code yX0_giveTurn cX0_giveTurn 4 (some .int), .fieldLink RX0 38 "StrideHeap" "inLine" "I", .fieldLink RX0 35 "StrideHeap" "line" "[I", .fieldLink RX0 29 "StrideHeap" "passes" "[I", .fieldLink RX0 26 "StrideHeap" "strides" "[I", .constantLong RX0 72 (2147483647), .fieldLink RX0 32 "StrideHeap" "ran" "[I", .methodLink RX0 74 yX0_settleFirst, .instanceMethod yX0_settleFirst, .selects RX0 yX0_settleFirst yX0_settleFirst, .code yX0_settleFirst cX0_settleFirst 3 none, .methodLink RX0 87 yX0_isBefore, .instanceMethod yX0_isBefore, .selects RX0 yX0_isBefore yX0_isBefore, .code yX0_isBefore cX0_isBefore 3 (some .boolean)] ++ wsX00)
def wsX0_turns : List Cond := .code yX0_turns cX0_turns 3 (some .int) :: ([.methodLink RX0 69 yX0_giveTurn, .instanceMethod yX0_giveTurn, .selects RX0 yX0_giveTurn yX0_giveTurn, .initialized RX0, .code yX0_giveTurn cX0_giveTurn 4 (some .int), .fieldLink RX0 38 "StrideHeap" "inLine" "I", .fieldLink RX0 35 "StrideHeap" "line" "[I", .fieldLink RX0 29 "StrideHeap" "passes" "[I", .fieldLink RX0 26 "StrideHeap" "strides" "[I", .constantLong RX0 72 (2147483647), .fieldLink RX0 32 "StrideHeap" "ran" "[I", .methodLink RX0 74 yX0_settleFirst, .instanceMethod yX0_settleFirst, .selects RX0 yX0_settleFirst yX0_settleFirst, .code yX0_settleFirst cX0_settleFirst 3 none, .methodLink RX0 87 yX0_isBefore, .instanceMethod yX0_isBefore, .selects RX0 yX0_isBefore yX0_isBefore, .code yX0_isBefore cX0_isBefore 3 (some .boolean)] ++ wsX00)
def wsX0_change : List Cond := .code yX0_change cX0_change 4 (some .int) :: ([.fieldLink RX0 22 "StrideHeap" "ticketsOf" "[I", .methodLink RX0 44 yX0_isClient, .instanceMethod yX0_isClient, .selects RX0 yX0_isClient yX0_isClient, .initialized RX0, .code yX0_isClient cX0_isClient 2 (some .boolean), .fieldLink RX0 15 "StrideHeap" "cap" "I", .methodLink RX0 48 yX0_isIn, .instanceMethod yX0_isIn, .selects RX0 yX0_isIn yX0_isIn, .code yX0_isIn cX0_isIn 2 (some .boolean), .methodLink RX0 51 yX0_areTickets, .instanceMethod yX0_areTickets, .selects RX0 yX0_areTickets yX0_areTickets, .code yX0_areTickets cX0_areTickets 2 (some .boolean), .fieldLink RX0 19 "StrideHeap" "big" "I", .methodLink RX0 58 yX0_giveTickets, .instanceMethod yX0_giveTickets, .selects RX0 yX0_giveTickets yX0_giveTickets, .code yX0_giveTickets cX0_giveTickets 3 none, .fieldLink RX0 26 "StrideHeap" "strides" "[I"] ++ wsX00)
def wsX0_ranOf : List Cond := .code yX0_ranOf cX0_ranOf 2 (some .int) :: ([.fieldLink RX0 32 "StrideHeap" "ran" "[I", .methodLink RX0 44 yX0_isClient, .instanceMethod yX0_isClient, .selects RX0 yX0_isClient yX0_isClient, .initialized RX0, .code yX0_isClient cX0_isClient 2 (some .boolean), .fieldLink RX0 15 "StrideHeap" "cap" "I"] ++ wsX00)
def wsX0_passOf : List Cond := .code yX0_passOf cX0_passOf 2 (some .int) :: ([.fieldLink RX0 29 "StrideHeap" "passes" "[I", .methodLink RX0 44 yX0_isClient, .instanceMethod yX0_isClient, .selects RX0 yX0_isClient yX0_isClient, .initialized RX0, .code yX0_isClient cX0_isClient 2 (some .boolean), .fieldLink RX0 15 "StrideHeap" "cap" "I", .methodLink RX0 48 yX0_isIn, .instanceMethod yX0_isIn, .selects RX0 yX0_isIn yX0_isIn, .code yX0_isIn cX0_isIn 2 (some .boolean), .fieldLink RX0 22 "StrideHeap" "ticketsOf" "[I"] ++ wsX00)
def wsX0_strideOf : List Cond := .code yX0_strideOf cX0_strideOf 2 (some .int) :: ([.fieldLink RX0 26 "StrideHeap" "strides" "[I", .methodLink RX0 44 yX0_isClient, .instanceMethod yX0_isClient, .selects RX0 yX0_isClient yX0_isClient, .initialized RX0, .code yX0_isClient cX0_isClient 2 (some .boolean), .fieldLink RX0 15 "StrideHeap" "cap" "I", .methodLink RX0 48 yX0_isIn, .instanceMethod yX0_isIn, .selects RX0 yX0_isIn yX0_isIn, .code yX0_isIn cX0_isIn 2 (some .boolean), .fieldLink RX0 22 "StrideHeap" "ticketsOf" "[I"] ++ wsX00)
def wsX0_clients : List Cond := .code yX0_clients cX0_clients 1 (some .int) :: ([.fieldLink RX0 38 "StrideHeap" "inLine" "I"] ++ wsX00)
def wsX0_spread : List Cond := .code yX0_spread cX0_spread 1 (some .int) :: ([.fieldLink RX0 38 "StrideHeap" "inLine" "I", .fieldLink RX0 29 "StrideHeap" "passes" "[I", .fieldLink RX0 35 "StrideHeap" "line" "[I"] ++ wsX00)
def wsX0_order : List Cond := .code yX0_order cX0_order 2 (some .int) :: ([.fieldLink RX0 38 "StrideHeap" "inLine" "I", .fieldLink RX0 35 "StrideHeap" "line" "[I"] ++ wsX00)
def wsX1_init : List Cond := .code yX1_init cX1_init 4 none :: ([.methodLink RX1 1 objectInit, .instanceMethod objectInit, .code objectInit ⟨#[0xb1]⟩ 1 none, .arrayClass .boolean, .fieldLink RX1 7 "StrideHeapModel" "in" "[Z", .arrayClass .int, .fieldLink RX1 13 "StrideHeapModel" "tickets" "[I", .arrayClass .long, .fieldLink RX1 17 "StrideHeapModel" "pass" "[J", .fieldLink RX1 21 "StrideHeapModel" "ran" "[I", .fieldLink RX1 24 "StrideHeapModel" "cap" "I", .fieldLink RX1 28 "StrideHeapModel" "big" "I"] ++ wsX10)
def wsX1_isClient : List Cond := .code yX1_isClient cX1_isClient 2 (some .boolean) :: ([.fieldLink RX1 24 "StrideHeapModel" "cap" "I"] ++ wsX10)
def wsX1_isIn : List Cond := .code yX1_isIn cX1_isIn 2 (some .boolean) :: ([.fieldLink RX1 7 "StrideHeapModel" "in" "[Z", .methodLink RX1 31 yX1_isClient, .instanceMethod yX1_isClient, .selects RX1 yX1_isClient yX1_isClient, .initialized RX1, .code yX1_isClient cX1_isClient 2 (some .boolean), .fieldLink RX1 24 "StrideHeapModel" "cap" "I"] ++ wsX10)
def wsX1_areTickets : List Cond := .code yX1_areTickets cX1_areTickets 2 (some .boolean) :: ([.fieldLink RX1 28 "StrideHeapModel" "big" "I"] ++ wsX10)
def wsX1_isBefore : List Cond := .code yX1_isBefore cX1_isBefore 3 (some .boolean) :: ([.fieldLink RX1 17 "StrideHeapModel" "pass" "[J"] ++ wsX10)
def wsX1_first : List Cond := .code yX1_first cX1_first 3 (some .int) :: ([.fieldLink RX1 24 "StrideHeapModel" "cap" "I", .fieldLink RX1 7 "StrideHeapModel" "in" "[Z", .methodLink RX1 35 yX1_isBefore, .instanceMethod yX1_isBefore, .selects RX1 yX1_isBefore yX1_isBefore, .initialized RX1, .code yX1_isBefore cX1_isBefore 3 (some .boolean), .fieldLink RX1 17 "StrideHeapModel" "pass" "[J"] ++ wsX10)
def wsX1_join : List Cond := .code yX1_join cX1_join 4 (some .int) :: ([.fieldLink RX1 7 "StrideHeapModel" "in" "[Z", .fieldLink RX1 17 "StrideHeapModel" "pass" "[J", .fieldLink RX1 46 "StrideHeapModel" "latest" "J", .fieldLink RX1 13 "StrideHeapModel" "tickets" "[I", .fieldLink RX1 50 "StrideHeapModel" "many" "I", .methodLink RX1 31 yX1_isClient, .instanceMethod yX1_isClient, .selects RX1 yX1_isClient yX1_isClient, .initialized RX1, .code yX1_isClient cX1_isClient 2 (some .boolean), .fieldLink RX1 24 "StrideHeapModel" "cap" "I", .methodLink RX1 39 yX1_areTickets, .instanceMethod yX1_areTickets, .selects RX1 yX1_areTickets yX1_areTickets, .code yX1_areTickets cX1_areTickets 2 (some .boolean), .fieldLink RX1 28 "StrideHeapModel" "big" "I", .methodLink RX1 42 yX1_first, .instanceMethod yX1_first, .selects RX1 yX1_first yX1_first, .code yX1_first cX1_first 3 (some .int), .methodLink RX1 35 yX1_isBefore, .instanceMethod yX1_isBefore, .selects RX1 yX1_isBefore yX1_isBefore, .code yX1_isBefore cX1_isBefore 3 (some .boolean)] ++ wsX10)
def wsX1_leave : List Cond := .code yX1_leave cX1_leave 2 (some .int) :: ([.fieldLink RX1 7 "StrideHeapModel" "in" "[Z", .fieldLink RX1 17 "StrideHeapModel" "pass" "[J", .fieldLink RX1 46 "StrideHeapModel" "latest" "J", .fieldLink RX1 50 "StrideHeapModel" "many" "I", .methodLink RX1 31 yX1_isClient, .instanceMethod yX1_isClient, .selects RX1 yX1_isClient yX1_isClient, .initialized RX1, .code yX1_isClient cX1_isClient 2 (some .boolean), .fieldLink RX1 24 "StrideHeapModel" "cap" "I"] ++ wsX10)
def wsX1_next : List Cond := .code yX1_next cX1_next 4 (some .int) :: ([.fieldLink RX1 17 "StrideHeapModel" "pass" "[J", .fieldLink RX1 28 "StrideHeapModel" "big" "I", .fieldLink RX1 13 "StrideHeapModel" "tickets" "[I", .constantLong RX1 53 (2147483647), .fieldLink RX1 21 "StrideHeapModel" "ran" "[I", .methodLink RX1 42 yX1_first, .instanceMethod yX1_first, .selects RX1 yX1_first yX1_first, .initialized RX1, .code yX1_first cX1_first 3 (some .int), .fieldLink RX1 24 "StrideHeapModel" "cap" "I", .fieldLink RX1 7 "StrideHeapModel" "in" "[Z", .methodLink RX1 35 yX1_isBefore, .instanceMethod yX1_isBefore, .selects RX1 yX1_isBefore yX1_isBefore, .code yX1_isBefore cX1_isBefore 3 (some .boolean)] ++ wsX10)
def wsX1_turns : List Cond := .code yX1_turns cX1_turns 4 (some .int) :: ([.methodLink RX1 55 yX1_next, .instanceMethod yX1_next, .selects RX1 yX1_next yX1_next, .initialized RX1, .code yX1_next cX1_next 4 (some .int), .fieldLink RX1 17 "StrideHeapModel" "pass" "[J", .fieldLink RX1 28 "StrideHeapModel" "big" "I", .fieldLink RX1 13 "StrideHeapModel" "tickets" "[I", .constantLong RX1 53 (2147483647), .fieldLink RX1 21 "StrideHeapModel" "ran" "[I", .methodLink RX1 42 yX1_first, .instanceMethod yX1_first, .selects RX1 yX1_first yX1_first, .code yX1_first cX1_first 3 (some .int), .fieldLink RX1 24 "StrideHeapModel" "cap" "I", .fieldLink RX1 7 "StrideHeapModel" "in" "[Z", .methodLink RX1 35 yX1_isBefore, .instanceMethod yX1_isBefore, .selects RX1 yX1_isBefore yX1_isBefore, .code yX1_isBefore cX1_isBefore 3 (some .boolean)] ++ wsX10)
def wsX1_change : List Cond := .code yX1_change cX1_change 4 (some .int) :: ([.fieldLink RX1 7 "StrideHeapModel" "in" "[Z", .fieldLink RX1 13 "StrideHeapModel" "tickets" "[I", .methodLink RX1 31 yX1_isClient, .instanceMethod yX1_isClient, .selects RX1 yX1_isClient yX1_isClient, .initialized RX1, .code yX1_isClient cX1_isClient 2 (some .boolean), .fieldLink RX1 24 "StrideHeapModel" "cap" "I", .methodLink RX1 39 yX1_areTickets, .instanceMethod yX1_areTickets, .selects RX1 yX1_areTickets yX1_areTickets, .code yX1_areTickets cX1_areTickets 2 (some .boolean), .fieldLink RX1 28 "StrideHeapModel" "big" "I"] ++ wsX10)
def wsX1_ranOf : List Cond := .code yX1_ranOf cX1_ranOf 2 (some .int) :: ([.fieldLink RX1 21 "StrideHeapModel" "ran" "[I", .methodLink RX1 31 yX1_isClient, .instanceMethod yX1_isClient, .selects RX1 yX1_isClient yX1_isClient, .initialized RX1, .code yX1_isClient cX1_isClient 2 (some .boolean), .fieldLink RX1 24 "StrideHeapModel" "cap" "I"] ++ wsX10)
def wsX1_passOf : List Cond := .code yX1_passOf cX1_passOf 2 (some .int) :: ([.fieldLink RX1 17 "StrideHeapModel" "pass" "[J", .methodLink RX1 58 yX1_isIn, .instanceMethod yX1_isIn, .selects RX1 yX1_isIn yX1_isIn, .initialized RX1, .code yX1_isIn cX1_isIn 2 (some .boolean), .fieldLink RX1 7 "StrideHeapModel" "in" "[Z", .methodLink RX1 31 yX1_isClient, .instanceMethod yX1_isClient, .selects RX1 yX1_isClient yX1_isClient, .code yX1_isClient cX1_isClient 2 (some .boolean), .fieldLink RX1 24 "StrideHeapModel" "cap" "I"] ++ wsX10)
def wsX1_strideOf : List Cond := .code yX1_strideOf cX1_strideOf 2 (some .int) :: ([.fieldLink RX1 28 "StrideHeapModel" "big" "I", .fieldLink RX1 13 "StrideHeapModel" "tickets" "[I", .methodLink RX1 58 yX1_isIn, .instanceMethod yX1_isIn, .selects RX1 yX1_isIn yX1_isIn, .initialized RX1, .code yX1_isIn cX1_isIn 2 (some .boolean), .fieldLink RX1 7 "StrideHeapModel" "in" "[Z", .methodLink RX1 31 yX1_isClient, .instanceMethod yX1_isClient, .selects RX1 yX1_isClient yX1_isClient, .code yX1_isClient cX1_isClient 2 (some .boolean), .fieldLink RX1 24 "StrideHeapModel" "cap" "I"] ++ wsX10)
def wsX1_clients : List Cond := .code yX1_clients cX1_clients 1 (some .int) :: ([.fieldLink RX1 50 "StrideHeapModel" "many" "I"] ++ wsX10)
def wsX1_spread : List Cond := .code yX1_spread cX1_spread 5 (some .int) :: ([.fieldLink RX1 24 "StrideHeapModel" "cap" "I", .fieldLink RX1 7 "StrideHeapModel" "in" "[Z", .fieldLink RX1 17 "StrideHeapModel" "pass" "[J", .methodLink RX1 42 yX1_first, .instanceMethod yX1_first, .selects RX1 yX1_first yX1_first, .initialized RX1, .code yX1_first cX1_first 3 (some .int), .methodLink RX1 35 yX1_isBefore, .instanceMethod yX1_isBefore, .selects RX1 yX1_isBefore yX1_isBefore, .code yX1_isBefore cX1_isBefore 3 (some .boolean)] ++ wsX10)
def wsX1_order : List Cond := .code yX1_order cX1_order 5 (some .int) :: ([.fieldLink RX1 50 "StrideHeapModel" "many" "I", .fieldLink RX1 24 "StrideHeapModel" "cap" "I", .fieldLink RX1 7 "StrideHeapModel" "in" "[Z", .methodLink RX1 35 yX1_isBefore, .instanceMethod yX1_isBefore, .selects RX1 yX1_isBefore yX1_isBefore, .initialized RX1, .code yX1_isBefore cX1_isBefore 3 (some .boolean), .fieldLink RX1 17 "StrideHeapModel" "pass" "[J"] ++ wsX10)
def wsL_cell : List Cond := .code yL_cell cL_cell 2 (some .int) :: ([])
def wsL_law_r1 : List Cond := [Cond.classLink RL 7 RX0, Cond.instantiable RX0 9, Cond.initialized RX0, Cond.classLink RL 18 RX1, Cond.instantiable RX1 8, Cond.initialized RX1, Cond.methodLink RL 9 yL_cell, Cond.static yL_cell, Cond.initialized RL, Cond.code yL_cell cL_cell 2 (some .int), Cond.methodLink RL 15 yX0_init, Cond.instanceMethod yX0_init, Cond.code yX0_init cX0_init 3 none, Cond.methodLink RX0 1 objectInit, Cond.instanceMethod objectInit, Cond.code objectInit ⟨#[0xb1]⟩ 1 none, Cond.fieldLink RX0 15 "StrideHeap" "cap" "I", Cond.fieldLink RX0 19 "StrideHeap" "big" "I", Cond.arrayClass .int, Cond.fieldLink RX0 22 "StrideHeap" "ticketsOf" "[I", Cond.fieldLink RX0 26 "StrideHeap" "strides" "[I", Cond.fieldLink RX0 29 "StrideHeap" "passes" "[I", Cond.fieldLink RX0 32 "StrideHeap" "ran" "[I", Cond.fieldLink RX0 35 "StrideHeap" "line" "[I"]
def wsL_law_r2 : List Cond := [Cond.fieldLink RX0 38 "StrideHeap" "inLine" "I", Cond.fieldLink RX0 41 "StrideHeap" "latestLeftPass" "I", Cond.methodLink RX0 9 yJ9_floorMod_7cf53, Cond.static yJ9_floorMod_7cf53, Cond.initialized RJ9, Cond.code yJ9_floorMod_7cf53 cJ9_floorMod_7cf53 3 (some .int), Cond.methodLink RL 20 yX1_init, Cond.instanceMethod yX1_init, Cond.code yX1_init cX1_init 4 none, Cond.methodLink RX1 1 objectInit, Cond.arrayClass .boolean, Cond.fieldLink RX1 7 "StrideHeapModel" "in" "[Z", Cond.fieldLink RX1 13 "StrideHeapModel" "tickets" "[I", Cond.arrayClass .long, Cond.fieldLink RX1 17 "StrideHeapModel" "pass" "[J", Cond.fieldLink RX1 21 "StrideHeapModel" "ran" "[I", Cond.fieldLink RX1 24 "StrideHeapModel" "cap" "I", Cond.fieldLink RX1 28 "StrideHeapModel" "big" "I", Cond.methodLink RL 21 yX0_join, Cond.instanceMethod yX0_join, Cond.selects RX0 yX0_join yX0_join, Cond.code yX0_join cX0_join 3 (some .int), Cond.methodLink RX0 44 yX0_isClient, Cond.instanceMethod yX0_isClient]
def wsL_law_r3 : List Cond := [Cond.selects RX0 yX0_isClient yX0_isClient, Cond.code yX0_isClient cX0_isClient 2 (some .boolean), Cond.methodLink RX0 48 yX0_isIn, Cond.instanceMethod yX0_isIn, Cond.selects RX0 yX0_isIn yX0_isIn, Cond.code yX0_isIn cX0_isIn 2 (some .boolean), Cond.methodLink RX0 51 yX0_areTickets, Cond.instanceMethod yX0_areTickets, Cond.selects RX0 yX0_areTickets yX0_areTickets, Cond.code yX0_areTickets cX0_areTickets 2 (some .boolean), Cond.methodLink RX0 54 yX0_joiningPass, Cond.instanceMethod yX0_joiningPass, Cond.selects RX0 yX0_joiningPass yX0_joiningPass, Cond.code yX0_joiningPass cX0_joiningPass 1 (some .int), Cond.methodLink RX0 58 yX0_giveTickets, Cond.instanceMethod yX0_giveTickets, Cond.selects RX0 yX0_giveTickets yX0_giveTickets, Cond.code yX0_giveTickets cX0_giveTickets 3 none, Cond.methodLink RX0 62 yX0_enterLine, Cond.instanceMethod yX0_enterLine, Cond.selects RX0 yX0_enterLine yX0_enterLine, Cond.code yX0_enterLine cX0_enterLine 2 none, Cond.methodLink RX0 77 arraycopyName, Cond.native arraycopyName]
def wsL_law_r4 : List Cond := [Cond.static arraycopyName, Cond.initialized "java/lang/System", Cond.methodLink RX0 74 yX0_settleFirst, Cond.instanceMethod yX0_settleFirst, Cond.selects RX0 yX0_settleFirst yX0_settleFirst, Cond.code yX0_settleFirst cX0_settleFirst 3 none, Cond.methodLink RX0 87 yX0_isBefore, Cond.instanceMethod yX0_isBefore, Cond.selects RX0 yX0_isBefore yX0_isBefore, Cond.code yX0_isBefore cX0_isBefore 3 (some .boolean), Cond.methodLink RL 25 yX1_join, Cond.instanceMethod yX1_join, Cond.selects RX1 yX1_join yX1_join, Cond.code yX1_join cX1_join 4 (some .int), Cond.fieldLink RX1 46 "StrideHeapModel" "latest" "J", Cond.fieldLink RX1 50 "StrideHeapModel" "many" "I", Cond.methodLink RX1 31 yX1_isClient, Cond.instanceMethod yX1_isClient, Cond.selects RX1 yX1_isClient yX1_isClient, Cond.code yX1_isClient cX1_isClient 2 (some .boolean), Cond.methodLink RX1 39 yX1_areTickets, Cond.instanceMethod yX1_areTickets, Cond.selects RX1 yX1_areTickets yX1_areTickets, Cond.code yX1_areTickets cX1_areTickets 2 (some .boolean)]
def wsL_law_r5 : List Cond := [Cond.methodLink RX1 42 yX1_first, Cond.instanceMethod yX1_first, Cond.selects RX1 yX1_first yX1_first, Cond.code yX1_first cX1_first 3 (some .int), Cond.methodLink RX1 35 yX1_isBefore, Cond.instanceMethod yX1_isBefore, Cond.selects RX1 yX1_isBefore yX1_isBefore, Cond.code yX1_isBefore cX1_isBefore 3 (some .boolean), Cond.methodLink RL 26 yX0_leave, Cond.instanceMethod yX0_leave, Cond.selects RX0 yX0_leave yX0_leave, Cond.code yX0_leave cX0_leave 2 (some .int), Cond.methodLink RX0 66 yX0_quitLine, Cond.instanceMethod yX0_quitLine, Cond.selects RX0 yX0_quitLine yX0_quitLine, Cond.code yX0_quitLine cX0_quitLine 3 none, Cond.methodLink RX0 83 yX0_placeOf, Cond.instanceMethod yX0_placeOf, Cond.selects RX0 yX0_placeOf yX0_placeOf, Cond.code yX0_placeOf cX0_placeOf 3 (some .int), Cond.methodLink RL 30 yX1_leave, Cond.instanceMethod yX1_leave, Cond.selects RX1 yX1_leave yX1_leave, Cond.code yX1_leave cX1_leave 2 (some .int)]
def wsL_law_r6 : List Cond := [Cond.methodLink RL 31 yX0_next, Cond.instanceMethod yX0_next, Cond.selects RX0 yX0_next yX0_next, Cond.code yX0_next cX0_next 1 (some .int), Cond.methodLink RX0 69 yX0_giveTurn, Cond.instanceMethod yX0_giveTurn, Cond.selects RX0 yX0_giveTurn yX0_giveTurn, Cond.code yX0_giveTurn cX0_giveTurn 4 (some .int), Cond.constantLong RX0 72 (2147483647), Cond.methodLink RL 35 yX1_next, Cond.instanceMethod yX1_next, Cond.selects RX1 yX1_next yX1_next, Cond.code yX1_next cX1_next 4 (some .int), Cond.constantLong RX1 53 (2147483647), Cond.methodLink RL 36 yX0_turns, Cond.instanceMethod yX0_turns, Cond.selects RX0 yX0_turns yX0_turns, Cond.code yX0_turns cX0_turns 3 (some .int), Cond.methodLink RL 39 yX1_turns, Cond.instanceMethod yX1_turns, Cond.selects RX1 yX1_turns yX1_turns, Cond.code yX1_turns cX1_turns 4 (some .int), Cond.methodLink RX1 55 yX1_next, Cond.methodLink RL 40 yX0_change]
def wsL_law_r7 : List Cond := [Cond.instanceMethod yX0_change, Cond.selects RX0 yX0_change yX0_change, Cond.code yX0_change cX0_change 4 (some .int), Cond.methodLink RL 43 yX1_change, Cond.instanceMethod yX1_change, Cond.selects RX1 yX1_change yX1_change, Cond.code yX1_change cX1_change 4 (some .int), Cond.methodLink RL 44 yX0_ranOf, Cond.instanceMethod yX0_ranOf, Cond.selects RX0 yX0_ranOf yX0_ranOf, Cond.code yX0_ranOf cX0_ranOf 2 (some .int), Cond.methodLink RL 47 yX1_ranOf, Cond.instanceMethod yX1_ranOf, Cond.selects RX1 yX1_ranOf yX1_ranOf, Cond.code yX1_ranOf cX1_ranOf 2 (some .int), Cond.methodLink RL 48 yX0_passOf, Cond.instanceMethod yX0_passOf, Cond.selects RX0 yX0_passOf yX0_passOf, Cond.code yX0_passOf cX0_passOf 2 (some .int), Cond.methodLink RL 51 yX1_passOf, Cond.instanceMethod yX1_passOf, Cond.selects RX1 yX1_passOf yX1_passOf, Cond.code yX1_passOf cX1_passOf 2 (some .int), Cond.methodLink RX1 58 yX1_isIn]
def wsL_law_r8 : List Cond := [Cond.instanceMethod yX1_isIn, Cond.selects RX1 yX1_isIn yX1_isIn, Cond.code yX1_isIn cX1_isIn 2 (some .boolean), Cond.methodLink RL 52 yX0_strideOf, Cond.instanceMethod yX0_strideOf, Cond.selects RX0 yX0_strideOf yX0_strideOf, Cond.code yX0_strideOf cX0_strideOf 2 (some .int), Cond.methodLink RL 55 yX1_strideOf, Cond.instanceMethod yX1_strideOf, Cond.selects RX1 yX1_strideOf yX1_strideOf, Cond.code yX1_strideOf cX1_strideOf 2 (some .int), Cond.methodLink RL 56 yX0_clients, Cond.instanceMethod yX0_clients, Cond.selects RX0 yX0_clients yX0_clients, Cond.code yX0_clients cX0_clients 1 (some .int), Cond.methodLink RL 59 yX1_clients, Cond.instanceMethod yX1_clients, Cond.selects RX1 yX1_clients yX1_clients, Cond.code yX1_clients cX1_clients 1 (some .int), Cond.methodLink RL 60 yX0_spread, Cond.instanceMethod yX0_spread, Cond.selects RX0 yX0_spread yX0_spread, Cond.code yX0_spread cX0_spread 1 (some .int), Cond.methodLink RL 63 yX1_spread]
def wsL_law_r9 : List Cond := [Cond.instanceMethod yX1_spread, Cond.selects RX1 yX1_spread yX1_spread, Cond.code yX1_spread cX1_spread 5 (some .int), Cond.methodLink RL 64 yX0_order, Cond.instanceMethod yX0_order, Cond.selects RX0 yX0_order yX0_order, Cond.code yX0_order cX0_order 2 (some .int), Cond.methodLink RL 67 yX1_order, Cond.instanceMethod yX1_order, Cond.selects RX1 yX1_order yX1_order, Cond.code yX1_order cX1_order 5 (some .int)]
def wsL_law : List Cond := (wsL_law_r1 ++ (wsL_law_r2 ++ (wsL_law_r3 ++ (wsL_law_r4 ++ (wsL_law_r5 ++ (wsL_law_r6 ++ (wsL_law_r7 ++ (wsL_law_r8 ++ wsL_law_r9)))))))) ++ wsX00 ++ wsX10 ++ ([] : List Cond)
set_option maxRecDepth 20000 in
theorem wsL_law_in : ∀ w ∈ wsL_law, w ∈ lw_tbl := fun w h => (goodIn_p wsL_law [155, 25, 28, 31, 160, 64, 68, 72, 76, 80, 84, 88, 95, 99, 192, 196, 200, 204, 208, 103, 107, 111, 212, 115, 119, 216, 124, 221, 128, 226, 132, 230, 136, 234, 238, 140, 242, 144, 246, 148, 250, 152, 254] (by decide +kernel) (by decide +kernel) w h).1
theorem inlX0 : ∀ w ∈ wsX00, w ∈ wsL_law := fun _ h => List.mem_append_left _ (List.mem_append_left _ (List.mem_append_right _ h))
theorem inX0 : ∀ w ∈ wsX00, w ∈ lw_tbl := fun w h => wsL_law_in w (inlX0 w h)
theorem inlX1 : ∀ w ∈ wsX10, w ∈ wsL_law := fun _ h => List.mem_append_left _ (List.mem_append_right _ h)
theorem inX1 : ∀ w ∈ wsX10, w ∈ lw_tbl := fun w h => wsL_law_in w (inlX1 w h)
theorem inJ9 : ∀ w ∈ wsJ90, w ∈ lw_tbl := by decide +kernel
theorem inJ10 : ∀ w ∈ wsJ100, w ∈ lw_tbl := by decide +kernel
set_option maxRecDepth 20000 in
theorem ggX0_init_J9_floorMod_7cf53 : GoodIn wsX0_init wsJ9_floorMod_7cf53 := goodIn_r _ [17] (by decide +kernel) (by decide +kernel)
set_option maxRecDepth 20000 in
theorem gX0_init_J9_floorMod_7cf53 : GoodIn wsX0_init (va_wsS RX0 9 yJ9_floorMod_7cf53 wsJ9_floorMod_7cf53) := goodIn_app (goodIn_of _ (by decide +kernel)) ggX0_init_J9_floorMod_7cf53
theorem dX0_init_0 : decode cX0_init 0 = .ok (.aload_n 0, 1) := by decide +kernel
theorem dX0_init_1 : decode cX0_init 1 = .ok (.invokespecial 1, 3) := by decide +kernel
theorem dX0_init_4 : decode cX0_init 4 = .ok (.aload_n 0, 1) := by decide +kernel
theorem dX0_init_5 : decode cX0_init 5 = .ok (.iconst 1, 1) := by decide +kernel
theorem dX0_init_6 : decode cX0_init 6 = .ok (.iload_n 1, 1) := by decide +kernel
theorem dX0_init_7 : decode cX0_init 7 = .ok (.bipush 64, 2) := by decide +kernel
theorem dX0_init_9 : decode cX0_init 9 = .ok (.invokestatic 9, 3) := by decide +kernel
theorem dX0_init_12 : decode cX0_init 12 = .ok (.iadd, 1) := by decide +kernel
theorem dX0_init_13 : decode cX0_init 13 = .ok (.putfield 15, 3) := by decide +kernel
theorem dX0_init_16 : decode cX0_init 16 = .ok (.aload_n 0, 1) := by decide +kernel
theorem dX0_init_17 : decode cX0_init 17 = .ok (.iconst 2, 1) := by decide +kernel
theorem dX0_init_18 : decode cX0_init 18 = .ok (.iload_n 2, 1) := by decide +kernel
theorem dX0_init_19 : decode cX0_init 19 = .ok (.sipush 32767, 3) := by decide +kernel
theorem dX0_init_22 : decode cX0_init 22 = .ok (.invokestatic 9, 3) := by decide +kernel
theorem dX0_init_25 : decode cX0_init 25 = .ok (.iadd, 1) := by decide +kernel
theorem dX0_init_26 : decode cX0_init 26 = .ok (.putfield 19, 3) := by decide +kernel
theorem dX0_init_29 : decode cX0_init 29 = .ok (.aload_n 0, 1) := by decide +kernel
theorem dX0_init_30 : decode cX0_init 30 = .ok (.aload_n 0, 1) := by decide +kernel
theorem dX0_init_31 : decode cX0_init 31 = .ok (.getfield 15, 3) := by decide +kernel
theorem dX0_init_34 : decode cX0_init 34 = .ok (.newarray .int, 2) := by decide +kernel
theorem dX0_init_36 : decode cX0_init 36 = .ok (.putfield 22, 3) := by decide +kernel
theorem dX0_init_39 : decode cX0_init 39 = .ok (.aload_n 0, 1) := by decide +kernel
theorem dX0_init_40 : decode cX0_init 40 = .ok (.aload_n 0, 1) := by decide +kernel
theorem dX0_init_41 : decode cX0_init 41 = .ok (.getfield 15, 3) := by decide +kernel
theorem dX0_init_44 : decode cX0_init 44 = .ok (.newarray .int, 2) := by decide +kernel
theorem dX0_init_46 : decode cX0_init 46 = .ok (.putfield 26, 3) := by decide +kernel
theorem dX0_init_49 : decode cX0_init 49 = .ok (.aload_n 0, 1) := by decide +kernel
theorem dX0_init_50 : decode cX0_init 50 = .ok (.aload_n 0, 1) := by decide +kernel
theorem dX0_init_51 : decode cX0_init 51 = .ok (.getfield 15, 3) := by decide +kernel
theorem dX0_init_54 : decode cX0_init 54 = .ok (.newarray .int, 2) := by decide +kernel
theorem dX0_init_56 : decode cX0_init 56 = .ok (.putfield 29, 3) := by decide +kernel
theorem dX0_init_59 : decode cX0_init 59 = .ok (.aload_n 0, 1) := by decide +kernel
theorem dX0_init_60 : decode cX0_init 60 = .ok (.aload_n 0, 1) := by decide +kernel
theorem dX0_init_61 : decode cX0_init 61 = .ok (.getfield 15, 3) := by decide +kernel
theorem dX0_init_64 : decode cX0_init 64 = .ok (.newarray .int, 2) := by decide +kernel
theorem dX0_init_66 : decode cX0_init 66 = .ok (.putfield 32, 3) := by decide +kernel
theorem dX0_init_69 : decode cX0_init 69 = .ok (.aload_n 0, 1) := by decide +kernel
theorem dX0_init_70 : decode cX0_init 70 = .ok (.aload_n 0, 1) := by decide +kernel
theorem dX0_init_71 : decode cX0_init 71 = .ok (.getfield 15, 3) := by decide +kernel
theorem dX0_init_74 : decode cX0_init 74 = .ok (.newarray .int, 2) := by decide +kernel
theorem dX0_init_76 : decode cX0_init 76 = .ok (.putfield 35, 3) := by decide +kernel
theorem dX0_init_79 : decode cX0_init 79 = .ok (.aload_n 0, 1) := by decide +kernel
theorem dX0_init_80 : decode cX0_init 80 = .ok (.iconst 0, 1) := by decide +kernel
theorem dX0_init_81 : decode cX0_init 81 = .ok (.putfield 38, 3) := by decide +kernel
theorem dX0_init_84 : decode cX0_init 84 = .ok (.aload_n 0, 1) := by decide +kernel
theorem dX0_init_85 : decode cX0_init 85 = .ok (.iconst 0, 1) := by decide +kernel
theorem dX0_init_86 : decode cX0_init 86 = .ok (.putfield 41, 3) := by decide +kernel
theorem dX0_init_89 : decode cX0_init 89 = .ok (.return_, 1) := by decide +kernel
set_option maxRecDepth 20000 in
theorem ggX0_join_X0_isClient : GoodIn wsX0_join wsX0_isClient := goodIn_r _ [6, 7, 46, 47, 48, 49, 50, 51, 52, 53, 54] (by decide +kernel) (by decide +kernel)
set_option maxRecDepth 20000 in
theorem gX0_join_X0_isClient : GoodIn wsX0_join (wsV RX0 44 RX0 yX0_isClient wsX0_isClient) := goodIn_app (goodIn_of _ (by decide +kernel)) ggX0_join_X0_isClient
set_option maxRecDepth 20000 in
theorem ggX0_join_X0_isIn : GoodIn wsX0_join wsX0_isIn := goodIn_r _ [11, 12, 46, 47, 48, 49, 50, 51, 52, 53, 54] (by decide +kernel) (by decide +kernel)
set_option maxRecDepth 20000 in
theorem gX0_join_X0_isIn : GoodIn wsX0_join (wsV RX0 48 RX0 yX0_isIn wsX0_isIn) := goodIn_app (goodIn_of _ (by decide +kernel)) ggX0_join_X0_isIn
set_option maxRecDepth 20000 in
theorem ggX0_join_X0_areTickets : GoodIn wsX0_join wsX0_areTickets := goodIn_r _ [16, 17, 46, 47, 48, 49, 50, 51, 52, 53, 54] (by decide +kernel) (by decide +kernel)
set_option maxRecDepth 20000 in
theorem gX0_join_X0_areTickets : GoodIn wsX0_join (wsV RX0 51 RX0 yX0_areTickets wsX0_areTickets) := goodIn_app (goodIn_of _ (by decide +kernel)) ggX0_join_X0_areTickets
set_option maxRecDepth 20000 in
theorem ggX0_join_X0_joiningPass : GoodIn wsX0_join wsX0_joiningPass := goodIn_r _ [21, 22, 23, 1, 24, 46, 47, 48, 49, 50, 51, 52, 53, 54] (by decide +kernel) (by decide +kernel)
set_option maxRecDepth 20000 in
theorem gX0_join_X0_joiningPass : GoodIn wsX0_join (wsV RX0 54 RX0 yX0_joiningPass wsX0_joiningPass) := goodIn_app (goodIn_of _ (by decide +kernel)) ggX0_join_X0_joiningPass
set_option maxRecDepth 20000 in
theorem ggX0_join_X0_giveTickets : GoodIn wsX0_join wsX0_giveTickets := goodIn_r _ [28, 12, 29, 17, 46, 47, 48, 49, 50, 51, 52, 53, 54] (by decide +kernel) (by decide +kernel)
set_option maxRecDepth 20000 in
theorem gX0_join_X0_giveTickets : GoodIn wsX0_join (wsV RX0 58 RX0 yX0_giveTickets wsX0_giveTickets) := goodIn_app (goodIn_of _ (by decide +kernel)) ggX0_join_X0_giveTickets
set_option maxRecDepth 20000 in
theorem ggX0_join_X0_enterLine : GoodIn wsX0_join wsX0_enterLine := goodIn_r _ [33, 24, 22, 34, 35, 36, 37, 38, 39, 40, 5, 41, 42, 43, 44, 45, 1, 46, 47, 48, 49, 50, 51, 52, 53, 54] (by decide +kernel) (by decide +kernel)
set_option maxRecDepth 20000 in
theorem gX0_join_X0_enterLine : GoodIn wsX0_join (wsV RX0 62 RX0 yX0_enterLine wsX0_enterLine) := goodIn_app (goodIn_of _ (by decide +kernel)) ggX0_join_X0_enterLine
theorem dX0_join_0 : decode cX0_join 0 = .ok (.aload_n 0, 1) := by decide +kernel
theorem dX0_join_1 : decode cX0_join 1 = .ok (.iload_n 1, 1) := by decide +kernel
theorem dX0_join_2 : decode cX0_join 2 = .ok (.invokevirtual 44, 3) := by decide +kernel
theorem dX0_join_5 : decode cX0_join 5 = .ok (.ifCond .ne 5, 3) := by decide +kernel
theorem dX0_join_8 : decode cX0_join 8 = .ok (.iconst (-1), 1) := by decide +kernel
theorem dX0_join_9 : decode cX0_join 9 = .ok (.ireturn, 1) := by decide +kernel
theorem dX0_join_10 : decode cX0_join 10 = .ok (.aload_n 0, 1) := by decide +kernel
theorem dX0_join_11 : decode cX0_join 11 = .ok (.iload_n 1, 1) := by decide +kernel
theorem dX0_join_12 : decode cX0_join 12 = .ok (.invokevirtual 48, 3) := by decide +kernel
theorem dX0_join_15 : decode cX0_join 15 = .ok (.ifCond .eq 6, 3) := by decide +kernel
theorem dX0_join_18 : decode cX0_join 18 = .ok (.bipush (-2), 2) := by decide +kernel
theorem dX0_join_20 : decode cX0_join 20 = .ok (.ireturn, 1) := by decide +kernel
theorem dX0_join_21 : decode cX0_join 21 = .ok (.aload_n 0, 1) := by decide +kernel
theorem dX0_join_22 : decode cX0_join 22 = .ok (.iload_n 2, 1) := by decide +kernel
theorem dX0_join_23 : decode cX0_join 23 = .ok (.invokevirtual 51, 3) := by decide +kernel
theorem dX0_join_26 : decode cX0_join 26 = .ok (.ifCond .ne 6, 3) := by decide +kernel
theorem dX0_join_29 : decode cX0_join 29 = .ok (.bipush (-3), 2) := by decide +kernel
theorem dX0_join_31 : decode cX0_join 31 = .ok (.ireturn, 1) := by decide +kernel
theorem dX0_join_32 : decode cX0_join 32 = .ok (.aload_n 0, 1) := by decide +kernel
theorem dX0_join_33 : decode cX0_join 33 = .ok (.getfield 29, 3) := by decide +kernel
theorem dX0_join_36 : decode cX0_join 36 = .ok (.iload_n 1, 1) := by decide +kernel
theorem dX0_join_37 : decode cX0_join 37 = .ok (.aload_n 0, 1) := by decide +kernel
theorem dX0_join_38 : decode cX0_join 38 = .ok (.invokevirtual 54, 3) := by decide +kernel
theorem dX0_join_41 : decode cX0_join 41 = .ok (.iastore, 1) := by decide +kernel
theorem dX0_join_42 : decode cX0_join 42 = .ok (.aload_n 0, 1) := by decide +kernel
theorem dX0_join_43 : decode cX0_join 43 = .ok (.iload_n 1, 1) := by decide +kernel
theorem dX0_join_44 : decode cX0_join 44 = .ok (.iload_n 2, 1) := by decide +kernel
theorem dX0_join_45 : decode cX0_join 45 = .ok (.invokevirtual 58, 3) := by decide +kernel
theorem dX0_join_48 : decode cX0_join 48 = .ok (.aload_n 0, 1) := by decide +kernel
theorem dX0_join_49 : decode cX0_join 49 = .ok (.iload_n 1, 1) := by decide +kernel
theorem dX0_join_50 : decode cX0_join 50 = .ok (.invokevirtual 62, 3) := by decide +kernel
theorem dX0_join_53 : decode cX0_join 53 = .ok (.iconst 1, 1) := by decide +kernel
theorem dX0_join_54 : decode cX0_join 54 = .ok (.ireturn, 1) := by decide +kernel
set_option maxRecDepth 20000 in
theorem ggX0_leave_X0_isClient : GoodIn wsX0_leave wsX0_isClient := goodIn_r _ [8, 9, 28, 29, 30, 31, 32, 33, 34, 35, 36] (by decide +kernel) (by decide +kernel)
set_option maxRecDepth 20000 in
theorem gX0_leave_X0_isClient : GoodIn wsX0_leave (wsV RX0 44 RX0 yX0_isClient wsX0_isClient) := goodIn_app (goodIn_of _ (by decide +kernel)) ggX0_leave_X0_isClient
set_option maxRecDepth 20000 in
theorem ggX0_leave_X0_isIn : GoodIn wsX0_leave wsX0_isIn := goodIn_r _ [13, 3, 28, 29, 30, 31, 32, 33, 34, 35, 36] (by decide +kernel) (by decide +kernel)
set_option maxRecDepth 20000 in
theorem gX0_leave_X0_isIn : GoodIn wsX0_leave (wsV RX0 48 RX0 yX0_isIn wsX0_isIn) := goodIn_app (goodIn_of _ (by decide +kernel)) ggX0_leave_X0_isIn
set_option maxRecDepth 20000 in
theorem ggX0_leave_X0_quitLine : GoodIn wsX0_leave wsX0_quitLine := goodIn_r _ [17, 18, 19, 20, 21, 22, 23, 24, 25, 26, 7, 27, 28, 29, 30, 31, 32, 33, 34, 35, 36] (by decide +kernel) (by decide +kernel)
set_option maxRecDepth 20000 in
theorem gX0_leave_X0_quitLine : GoodIn wsX0_leave (wsV RX0 66 RX0 yX0_quitLine wsX0_quitLine) := goodIn_app (goodIn_of _ (by decide +kernel)) ggX0_leave_X0_quitLine
theorem dX0_leave_0 : decode cX0_leave 0 = .ok (.aload_n 0, 1) := by decide +kernel
theorem dX0_leave_1 : decode cX0_leave 1 = .ok (.iload_n 1, 1) := by decide +kernel
theorem dX0_leave_2 : decode cX0_leave 2 = .ok (.invokevirtual 44, 3) := by decide +kernel
theorem dX0_leave_5 : decode cX0_leave 5 = .ok (.ifCond .ne 5, 3) := by decide +kernel
theorem dX0_leave_8 : decode cX0_leave 8 = .ok (.iconst (-1), 1) := by decide +kernel
theorem dX0_leave_9 : decode cX0_leave 9 = .ok (.ireturn, 1) := by decide +kernel
theorem dX0_leave_10 : decode cX0_leave 10 = .ok (.aload_n 0, 1) := by decide +kernel
theorem dX0_leave_11 : decode cX0_leave 11 = .ok (.iload_n 1, 1) := by decide +kernel
theorem dX0_leave_12 : decode cX0_leave 12 = .ok (.invokevirtual 48, 3) := by decide +kernel
theorem dX0_leave_15 : decode cX0_leave 15 = .ok (.ifCond .ne 6, 3) := by decide +kernel
theorem dX0_leave_18 : decode cX0_leave 18 = .ok (.bipush (-2), 2) := by decide +kernel
theorem dX0_leave_20 : decode cX0_leave 20 = .ok (.ireturn, 1) := by decide +kernel
theorem dX0_leave_21 : decode cX0_leave 21 = .ok (.aload_n 0, 1) := by decide +kernel
theorem dX0_leave_22 : decode cX0_leave 22 = .ok (.aload_n 0, 1) := by decide +kernel
theorem dX0_leave_23 : decode cX0_leave 23 = .ok (.getfield 29, 3) := by decide +kernel
theorem dX0_leave_26 : decode cX0_leave 26 = .ok (.iload_n 1, 1) := by decide +kernel
theorem dX0_leave_27 : decode cX0_leave 27 = .ok (.iaload, 1) := by decide +kernel
theorem dX0_leave_28 : decode cX0_leave 28 = .ok (.putfield 41, 3) := by decide +kernel
theorem dX0_leave_31 : decode cX0_leave 31 = .ok (.aload_n 0, 1) := by decide +kernel
theorem dX0_leave_32 : decode cX0_leave 32 = .ok (.getfield 22, 3) := by decide +kernel
theorem dX0_leave_35 : decode cX0_leave 35 = .ok (.iload_n 1, 1) := by decide +kernel
theorem dX0_leave_36 : decode cX0_leave 36 = .ok (.iconst 0, 1) := by decide +kernel
theorem dX0_leave_37 : decode cX0_leave 37 = .ok (.iastore, 1) := by decide +kernel
theorem dX0_leave_38 : decode cX0_leave 38 = .ok (.aload_n 0, 1) := by decide +kernel
theorem dX0_leave_39 : decode cX0_leave 39 = .ok (.iload_n 1, 1) := by decide +kernel
theorem dX0_leave_40 : decode cX0_leave 40 = .ok (.invokevirtual 66, 3) := by decide +kernel
theorem dX0_leave_43 : decode cX0_leave 43 = .ok (.iconst 1, 1) := by decide +kernel
theorem dX0_leave_44 : decode cX0_leave 44 = .ok (.ireturn, 1) := by decide +kernel
set_option maxRecDepth 20000 in
theorem ggX0_next_X0_giveTurn : GoodIn wsX0_next wsX0_giveTurn := goodIn_r _ [5, 6, 7, 8, 9, 10, 11, 12, 13, 14, 4, 15, 16, 17, 18, 19, 20, 21, 22, 23, 24, 25, 26, 27, 28] (by decide +kernel) (by decide +kernel)
set_option maxRecDepth 20000 in
theorem gX0_next_X0_giveTurn : GoodIn wsX0_next (wsV RX0 69 RX0 yX0_giveTurn wsX0_giveTurn) := goodIn_app (goodIn_of _ (by decide +kernel)) ggX0_next_X0_giveTurn
theorem dX0_next_0 : decode cX0_next 0 = .ok (.aload_n 0, 1) := by decide +kernel
theorem dX0_next_1 : decode cX0_next 1 = .ok (.invokevirtual 69, 3) := by decide +kernel
theorem dX0_next_4 : decode cX0_next 4 = .ok (.ireturn, 1) := by decide +kernel
set_option maxRecDepth 20000 in
theorem ggX0_turns_X0_giveTurn : GoodIn wsX0_turns wsX0_giveTurn := goodIn_r _ [5, 6, 7, 8, 9, 10, 11, 12, 13, 14, 4, 15, 16, 17, 18, 19, 20, 21, 22, 23, 24, 25, 26, 27, 28] (by decide +kernel) (by decide +kernel)
set_option maxRecDepth 20000 in
theorem gX0_turns_X0_giveTurn : GoodIn wsX0_turns (wsV RX0 69 RX0 yX0_giveTurn wsX0_giveTurn) := goodIn_app (goodIn_of _ (by decide +kernel)) ggX0_turns_X0_giveTurn
theorem dX0_turns_0 : decode cX0_turns 0 = .ok (.iload_n 1, 1) := by decide +kernel
theorem dX0_turns_1 : decode cX0_turns 1 = .ok (.iconst 1, 1) := by decide +kernel
theorem dX0_turns_2 : decode cX0_turns 2 = .ok (.if_icmp .lt 10, 3) := by decide +kernel
theorem dX0_turns_5 : decode cX0_turns 5 = .ok (.iload_n 1, 1) := by decide +kernel
theorem dX0_turns_6 : decode cX0_turns 6 = .ok (.sipush 1000, 3) := by decide +kernel
theorem dX0_turns_9 : decode cX0_turns 9 = .ok (.if_icmp .le 5, 3) := by decide +kernel
theorem dX0_turns_12 : decode cX0_turns 12 = .ok (.iconst (-1), 1) := by decide +kernel
theorem dX0_turns_13 : decode cX0_turns 13 = .ok (.ireturn, 1) := by decide +kernel
theorem dX0_turns_14 : decode cX0_turns 14 = .ok (.iconst 0, 1) := by decide +kernel
theorem dX0_turns_15 : decode cX0_turns 15 = .ok (.istore_n 2, 1) := by decide +kernel
theorem dX0_turns_16 : decode cX0_turns 16 = .ok (.iload_n 2, 1) := by decide +kernel
theorem dX0_turns_17 : decode cX0_turns 17 = .ok (.iload_n 1, 1) := by decide +kernel
theorem dX0_turns_18 : decode cX0_turns 18 = .ok (.if_icmp .ge 16, 3) := by decide +kernel
theorem dX0_turns_21 : decode cX0_turns 21 = .ok (.aload_n 0, 1) := by decide +kernel
theorem dX0_turns_22 : decode cX0_turns 22 = .ok (.invokevirtual 69, 3) := by decide +kernel
theorem dX0_turns_25 : decode cX0_turns 25 = .ok (.ifCond .lt 9, 3) := by decide +kernel
theorem dX0_turns_28 : decode cX0_turns 28 = .ok (.iinc 2 1, 3) := by decide +kernel
theorem dX0_turns_31 : decode cX0_turns 31 = .ok (.goto (-15), 3) := by decide +kernel
theorem dX0_turns_34 : decode cX0_turns 34 = .ok (.iload_n 2, 1) := by decide +kernel
theorem dX0_turns_35 : decode cX0_turns 35 = .ok (.ireturn, 1) := by decide +kernel
set_option maxRecDepth 20000 in
theorem ggX0_change_X0_isClient : GoodIn wsX0_change wsX0_isClient := goodIn_r _ [6, 7, 22, 23, 24, 25, 26, 27, 28, 29, 30] (by decide +kernel) (by decide +kernel)
set_option maxRecDepth 20000 in
theorem gX0_change_X0_isClient : GoodIn wsX0_change (wsV RX0 44 RX0 yX0_isClient wsX0_isClient) := goodIn_app (goodIn_of _ (by decide +kernel)) ggX0_change_X0_isClient
set_option maxRecDepth 20000 in
theorem ggX0_change_X0_isIn : GoodIn wsX0_change wsX0_isIn := goodIn_r _ [11, 1, 22, 23, 24, 25, 26, 27, 28, 29, 30] (by decide +kernel) (by decide +kernel)
set_option maxRecDepth 20000 in
theorem gX0_change_X0_isIn : GoodIn wsX0_change (wsV RX0 48 RX0 yX0_isIn wsX0_isIn) := goodIn_app (goodIn_of _ (by decide +kernel)) ggX0_change_X0_isIn
set_option maxRecDepth 20000 in
theorem ggX0_change_X0_areTickets : GoodIn wsX0_change wsX0_areTickets := goodIn_r _ [15, 16, 22, 23, 24, 25, 26, 27, 28, 29, 30] (by decide +kernel) (by decide +kernel)
set_option maxRecDepth 20000 in
theorem gX0_change_X0_areTickets : GoodIn wsX0_change (wsV RX0 51 RX0 yX0_areTickets wsX0_areTickets) := goodIn_app (goodIn_of _ (by decide +kernel)) ggX0_change_X0_areTickets
set_option maxRecDepth 20000 in
theorem ggX0_change_X0_giveTickets : GoodIn wsX0_change wsX0_giveTickets := goodIn_r _ [20, 1, 21, 16, 22, 23, 24, 25, 26, 27, 28, 29, 30] (by decide +kernel) (by decide +kernel)
set_option maxRecDepth 20000 in
theorem gX0_change_X0_giveTickets : GoodIn wsX0_change (wsV RX0 58 RX0 yX0_giveTickets wsX0_giveTickets) := goodIn_app (goodIn_of _ (by decide +kernel)) ggX0_change_X0_giveTickets
theorem dX0_change_0 : decode cX0_change 0 = .ok (.aload_n 0, 1) := by decide +kernel
theorem dX0_change_1 : decode cX0_change 1 = .ok (.iload_n 1, 1) := by decide +kernel
theorem dX0_change_2 : decode cX0_change 2 = .ok (.invokevirtual 44, 3) := by decide +kernel
theorem dX0_change_5 : decode cX0_change 5 = .ok (.ifCond .ne 5, 3) := by decide +kernel
theorem dX0_change_8 : decode cX0_change 8 = .ok (.iconst (-1), 1) := by decide +kernel
theorem dX0_change_9 : decode cX0_change 9 = .ok (.ireturn, 1) := by decide +kernel
theorem dX0_change_10 : decode cX0_change 10 = .ok (.aload_n 0, 1) := by decide +kernel
theorem dX0_change_11 : decode cX0_change 11 = .ok (.iload_n 1, 1) := by decide +kernel
theorem dX0_change_12 : decode cX0_change 12 = .ok (.invokevirtual 48, 3) := by decide +kernel
theorem dX0_change_15 : decode cX0_change 15 = .ok (.ifCond .ne 6, 3) := by decide +kernel
theorem dX0_change_18 : decode cX0_change 18 = .ok (.bipush (-2), 2) := by decide +kernel
theorem dX0_change_20 : decode cX0_change 20 = .ok (.ireturn, 1) := by decide +kernel
theorem dX0_change_21 : decode cX0_change 21 = .ok (.aload_n 0, 1) := by decide +kernel
theorem dX0_change_22 : decode cX0_change 22 = .ok (.iload_n 2, 1) := by decide +kernel
theorem dX0_change_23 : decode cX0_change 23 = .ok (.invokevirtual 51, 3) := by decide +kernel
theorem dX0_change_26 : decode cX0_change 26 = .ok (.ifCond .ne 6, 3) := by decide +kernel
theorem dX0_change_29 : decode cX0_change 29 = .ok (.bipush (-3), 2) := by decide +kernel
theorem dX0_change_31 : decode cX0_change 31 = .ok (.ireturn, 1) := by decide +kernel
theorem dX0_change_32 : decode cX0_change 32 = .ok (.aload_n 0, 1) := by decide +kernel
theorem dX0_change_33 : decode cX0_change 33 = .ok (.getfield 22, 3) := by decide +kernel
theorem dX0_change_36 : decode cX0_change 36 = .ok (.iload_n 1, 1) := by decide +kernel
theorem dX0_change_37 : decode cX0_change 37 = .ok (.iaload, 1) := by decide +kernel
theorem dX0_change_38 : decode cX0_change 38 = .ok (.istore_n 3, 1) := by decide +kernel
theorem dX0_change_39 : decode cX0_change 39 = .ok (.aload_n 0, 1) := by decide +kernel
theorem dX0_change_40 : decode cX0_change 40 = .ok (.iload_n 1, 1) := by decide +kernel
theorem dX0_change_41 : decode cX0_change 41 = .ok (.iload_n 2, 1) := by decide +kernel
theorem dX0_change_42 : decode cX0_change 42 = .ok (.invokevirtual 58, 3) := by decide +kernel
theorem dX0_change_45 : decode cX0_change 45 = .ok (.iload_n 3, 1) := by decide +kernel
theorem dX0_change_46 : decode cX0_change 46 = .ok (.ireturn, 1) := by decide +kernel
set_option maxRecDepth 20000 in
theorem ggX0_ranOf_X0_isClient : GoodIn wsX0_ranOf wsX0_isClient := goodIn_r _ [6, 7, 8, 9, 10, 11, 12, 13, 14, 15, 16] (by decide +kernel) (by decide +kernel)
set_option maxRecDepth 20000 in
theorem gX0_ranOf_X0_isClient : GoodIn wsX0_ranOf (wsV RX0 44 RX0 yX0_isClient wsX0_isClient) := goodIn_app (goodIn_of _ (by decide +kernel)) ggX0_ranOf_X0_isClient
theorem dX0_ranOf_0 : decode cX0_ranOf 0 = .ok (.aload_n 0, 1) := by decide +kernel
theorem dX0_ranOf_1 : decode cX0_ranOf 1 = .ok (.iload_n 1, 1) := by decide +kernel
theorem dX0_ranOf_2 : decode cX0_ranOf 2 = .ok (.invokevirtual 44, 3) := by decide +kernel
theorem dX0_ranOf_5 : decode cX0_ranOf 5 = .ok (.ifCond .eq 12, 3) := by decide +kernel
theorem dX0_ranOf_8 : decode cX0_ranOf 8 = .ok (.aload_n 0, 1) := by decide +kernel
theorem dX0_ranOf_9 : decode cX0_ranOf 9 = .ok (.getfield 32, 3) := by decide +kernel
theorem dX0_ranOf_12 : decode cX0_ranOf 12 = .ok (.iload_n 1, 1) := by decide +kernel
theorem dX0_ranOf_13 : decode cX0_ranOf 13 = .ok (.iaload, 1) := by decide +kernel
theorem dX0_ranOf_14 : decode cX0_ranOf 14 = .ok (.goto 4, 3) := by decide +kernel
theorem dX0_ranOf_17 : decode cX0_ranOf 17 = .ok (.iconst (-1), 1) := by decide +kernel
theorem dX0_ranOf_18 : decode cX0_ranOf 18 = .ok (.ireturn, 1) := by decide +kernel
set_option maxRecDepth 20000 in
theorem ggX0_passOf_X0_isClient : GoodIn wsX0_passOf wsX0_isClient := goodIn_r _ [6, 7, 13, 14, 15, 16, 17, 18, 19, 20, 21] (by decide +kernel) (by decide +kernel)
set_option maxRecDepth 20000 in
theorem gX0_passOf_X0_isClient : GoodIn wsX0_passOf (wsV RX0 44 RX0 yX0_isClient wsX0_isClient) := goodIn_app (goodIn_of _ (by decide +kernel)) ggX0_passOf_X0_isClient
set_option maxRecDepth 20000 in
theorem ggX0_passOf_X0_isIn : GoodIn wsX0_passOf wsX0_isIn := goodIn_r _ [11, 12, 13, 14, 15, 16, 17, 18, 19, 20, 21] (by decide +kernel) (by decide +kernel)
set_option maxRecDepth 20000 in
theorem gX0_passOf_X0_isIn : GoodIn wsX0_passOf (wsV RX0 48 RX0 yX0_isIn wsX0_isIn) := goodIn_app (goodIn_of _ (by decide +kernel)) ggX0_passOf_X0_isIn
theorem dX0_passOf_0 : decode cX0_passOf 0 = .ok (.aload_n 0, 1) := by decide +kernel
theorem dX0_passOf_1 : decode cX0_passOf 1 = .ok (.iload_n 1, 1) := by decide +kernel
theorem dX0_passOf_2 : decode cX0_passOf 2 = .ok (.invokevirtual 44, 3) := by decide +kernel
theorem dX0_passOf_5 : decode cX0_passOf 5 = .ok (.ifCond .eq 20, 3) := by decide +kernel
theorem dX0_passOf_8 : decode cX0_passOf 8 = .ok (.aload_n 0, 1) := by decide +kernel
theorem dX0_passOf_9 : decode cX0_passOf 9 = .ok (.iload_n 1, 1) := by decide +kernel
theorem dX0_passOf_10 : decode cX0_passOf 10 = .ok (.invokevirtual 48, 3) := by decide +kernel
theorem dX0_passOf_13 : decode cX0_passOf 13 = .ok (.ifCond .eq 12, 3) := by decide +kernel
theorem dX0_passOf_16 : decode cX0_passOf 16 = .ok (.aload_n 0, 1) := by decide +kernel
theorem dX0_passOf_17 : decode cX0_passOf 17 = .ok (.getfield 29, 3) := by decide +kernel
theorem dX0_passOf_20 : decode cX0_passOf 20 = .ok (.iload_n 1, 1) := by decide +kernel
theorem dX0_passOf_21 : decode cX0_passOf 21 = .ok (.iaload, 1) := by decide +kernel
theorem dX0_passOf_22 : decode cX0_passOf 22 = .ok (.goto 4, 3) := by decide +kernel
theorem dX0_passOf_25 : decode cX0_passOf 25 = .ok (.iconst (-1), 1) := by decide +kernel
theorem dX0_passOf_26 : decode cX0_passOf 26 = .ok (.ireturn, 1) := by decide +kernel
set_option maxRecDepth 20000 in
theorem ggX0_strideOf_X0_isClient : GoodIn wsX0_strideOf wsX0_isClient := goodIn_r _ [6, 7, 13, 14, 15, 16, 17, 18, 19, 20, 21] (by decide +kernel) (by decide +kernel)
set_option maxRecDepth 20000 in
theorem gX0_strideOf_X0_isClient : GoodIn wsX0_strideOf (wsV RX0 44 RX0 yX0_isClient wsX0_isClient) := goodIn_app (goodIn_of _ (by decide +kernel)) ggX0_strideOf_X0_isClient
set_option maxRecDepth 20000 in
theorem ggX0_strideOf_X0_isIn : GoodIn wsX0_strideOf wsX0_isIn := goodIn_r _ [11, 12, 13, 14, 15, 16, 17, 18, 19, 20, 21] (by decide +kernel) (by decide +kernel)
set_option maxRecDepth 20000 in
theorem gX0_strideOf_X0_isIn : GoodIn wsX0_strideOf (wsV RX0 48 RX0 yX0_isIn wsX0_isIn) := goodIn_app (goodIn_of _ (by decide +kernel)) ggX0_strideOf_X0_isIn
theorem dX0_strideOf_0 : decode cX0_strideOf 0 = .ok (.aload_n 0, 1) := by decide +kernel
theorem dX0_strideOf_1 : decode cX0_strideOf 1 = .ok (.iload_n 1, 1) := by decide +kernel
theorem dX0_strideOf_2 : decode cX0_strideOf 2 = .ok (.invokevirtual 44, 3) := by decide +kernel
theorem dX0_strideOf_5 : decode cX0_strideOf 5 = .ok (.ifCond .eq 20, 3) := by decide +kernel
theorem dX0_strideOf_8 : decode cX0_strideOf 8 = .ok (.aload_n 0, 1) := by decide +kernel
theorem dX0_strideOf_9 : decode cX0_strideOf 9 = .ok (.iload_n 1, 1) := by decide +kernel
theorem dX0_strideOf_10 : decode cX0_strideOf 10 = .ok (.invokevirtual 48, 3) := by decide +kernel
theorem dX0_strideOf_13 : decode cX0_strideOf 13 = .ok (.ifCond .eq 12, 3) := by decide +kernel
theorem dX0_strideOf_16 : decode cX0_strideOf 16 = .ok (.aload_n 0, 1) := by decide +kernel
theorem dX0_strideOf_17 : decode cX0_strideOf 17 = .ok (.getfield 26, 3) := by decide +kernel
theorem dX0_strideOf_20 : decode cX0_strideOf 20 = .ok (.iload_n 1, 1) := by decide +kernel
theorem dX0_strideOf_21 : decode cX0_strideOf 21 = .ok (.iaload, 1) := by decide +kernel
theorem dX0_strideOf_22 : decode cX0_strideOf 22 = .ok (.goto 4, 3) := by decide +kernel
theorem dX0_strideOf_25 : decode cX0_strideOf 25 = .ok (.iconst (-1), 1) := by decide +kernel
theorem dX0_strideOf_26 : decode cX0_strideOf 26 = .ok (.ireturn, 1) := by decide +kernel
theorem dX0_clients_0 : decode cX0_clients 0 = .ok (.aload_n 0, 1) := by decide +kernel
theorem dX0_clients_1 : decode cX0_clients 1 = .ok (.getfield 38, 3) := by decide +kernel
theorem dX0_clients_4 : decode cX0_clients 4 = .ok (.ireturn, 1) := by decide +kernel
theorem dX0_spread_0 : decode cX0_spread 0 = .ok (.aload_n 0, 1) := by decide +kernel
theorem dX0_spread_1 : decode cX0_spread 1 = .ok (.getfield 38, 3) := by decide +kernel
theorem dX0_spread_4 : decode cX0_spread 4 = .ok (.ifCond .ne 5, 3) := by decide +kernel
theorem dX0_spread_7 : decode cX0_spread 7 = .ok (.iconst (-1), 1) := by decide +kernel
theorem dX0_spread_8 : decode cX0_spread 8 = .ok (.ireturn, 1) := by decide +kernel
theorem dX0_spread_9 : decode cX0_spread 9 = .ok (.aload_n 0, 1) := by decide +kernel
theorem dX0_spread_10 : decode cX0_spread 10 = .ok (.getfield 29, 3) := by decide +kernel
theorem dX0_spread_13 : decode cX0_spread 13 = .ok (.aload_n 0, 1) := by decide +kernel
theorem dX0_spread_14 : decode cX0_spread 14 = .ok (.getfield 35, 3) := by decide +kernel
theorem dX0_spread_17 : decode cX0_spread 17 = .ok (.aload_n 0, 1) := by decide +kernel
theorem dX0_spread_18 : decode cX0_spread 18 = .ok (.getfield 38, 3) := by decide +kernel
theorem dX0_spread_21 : decode cX0_spread 21 = .ok (.iconst 1, 1) := by decide +kernel
theorem dX0_spread_22 : decode cX0_spread 22 = .ok (.isub, 1) := by decide +kernel
theorem dX0_spread_23 : decode cX0_spread 23 = .ok (.iaload, 1) := by decide +kernel
theorem dX0_spread_24 : decode cX0_spread 24 = .ok (.iaload, 1) := by decide +kernel
theorem dX0_spread_25 : decode cX0_spread 25 = .ok (.aload_n 0, 1) := by decide +kernel
theorem dX0_spread_26 : decode cX0_spread 26 = .ok (.getfield 29, 3) := by decide +kernel
theorem dX0_spread_29 : decode cX0_spread 29 = .ok (.aload_n 0, 1) := by decide +kernel
theorem dX0_spread_30 : decode cX0_spread 30 = .ok (.getfield 35, 3) := by decide +kernel
theorem dX0_spread_33 : decode cX0_spread 33 = .ok (.iconst 0, 1) := by decide +kernel
theorem dX0_spread_34 : decode cX0_spread 34 = .ok (.iaload, 1) := by decide +kernel
theorem dX0_spread_35 : decode cX0_spread 35 = .ok (.iaload, 1) := by decide +kernel
theorem dX0_spread_36 : decode cX0_spread 36 = .ok (.isub, 1) := by decide +kernel
theorem dX0_spread_37 : decode cX0_spread 37 = .ok (.ireturn, 1) := by decide +kernel
theorem dX0_order_0 : decode cX0_order 0 = .ok (.iload_n 1, 1) := by decide +kernel
theorem dX0_order_1 : decode cX0_order 1 = .ok (.ifCond .lt 20, 3) := by decide +kernel
theorem dX0_order_4 : decode cX0_order 4 = .ok (.iload_n 1, 1) := by decide +kernel
theorem dX0_order_5 : decode cX0_order 5 = .ok (.aload_n 0, 1) := by decide +kernel
theorem dX0_order_6 : decode cX0_order 6 = .ok (.getfield 38, 3) := by decide +kernel
theorem dX0_order_9 : decode cX0_order 9 = .ok (.if_icmp .ge 12, 3) := by decide +kernel
theorem dX0_order_12 : decode cX0_order 12 = .ok (.aload_n 0, 1) := by decide +kernel
theorem dX0_order_13 : decode cX0_order 13 = .ok (.getfield 35, 3) := by decide +kernel
theorem dX0_order_16 : decode cX0_order 16 = .ok (.iload_n 1, 1) := by decide +kernel
theorem dX0_order_17 : decode cX0_order 17 = .ok (.iaload, 1) := by decide +kernel
theorem dX0_order_18 : decode cX0_order 18 = .ok (.goto 4, 3) := by decide +kernel
theorem dX0_order_21 : decode cX0_order 21 = .ok (.iconst (-1), 1) := by decide +kernel
theorem dX0_order_22 : decode cX0_order 22 = .ok (.ireturn, 1) := by decide +kernel
theorem dX0_isClient_0 : decode cX0_isClient 0 = .ok (.iload_n 1, 1) := by decide +kernel
theorem dX0_isClient_1 : decode cX0_isClient 1 = .ok (.ifCond .lt 15, 3) := by decide +kernel
theorem dX0_isClient_4 : decode cX0_isClient 4 = .ok (.iload_n 1, 1) := by decide +kernel
theorem dX0_isClient_5 : decode cX0_isClient 5 = .ok (.aload_n 0, 1) := by decide +kernel
theorem dX0_isClient_6 : decode cX0_isClient 6 = .ok (.getfield 15, 3) := by decide +kernel
theorem dX0_isClient_9 : decode cX0_isClient 9 = .ok (.if_icmp .ge 7, 3) := by decide +kernel
theorem dX0_isClient_12 : decode cX0_isClient 12 = .ok (.iconst 1, 1) := by decide +kernel
theorem dX0_isClient_13 : decode cX0_isClient 13 = .ok (.goto 4, 3) := by decide +kernel
theorem dX0_isClient_16 : decode cX0_isClient 16 = .ok (.iconst 0, 1) := by decide +kernel
theorem dX0_isClient_17 : decode cX0_isClient 17 = .ok (.ireturn, 1) := by decide +kernel
theorem dX0_isIn_0 : decode cX0_isIn 0 = .ok (.aload_n 0, 1) := by decide +kernel
theorem dX0_isIn_1 : decode cX0_isIn 1 = .ok (.getfield 22, 3) := by decide +kernel
theorem dX0_isIn_4 : decode cX0_isIn 4 = .ok (.iload_n 1, 1) := by decide +kernel
theorem dX0_isIn_5 : decode cX0_isIn 5 = .ok (.iaload, 1) := by decide +kernel
theorem dX0_isIn_6 : decode cX0_isIn 6 = .ok (.ifCond .le 7, 3) := by decide +kernel
theorem dX0_isIn_9 : decode cX0_isIn 9 = .ok (.iconst 1, 1) := by decide +kernel
theorem dX0_isIn_10 : decode cX0_isIn 10 = .ok (.goto 4, 3) := by decide +kernel
theorem dX0_isIn_13 : decode cX0_isIn 13 = .ok (.iconst 0, 1) := by decide +kernel
theorem dX0_isIn_14 : decode cX0_isIn 14 = .ok (.ireturn, 1) := by decide +kernel
theorem dX0_areTickets_0 : decode cX0_areTickets 0 = .ok (.iload_n 1, 1) := by decide +kernel
theorem dX0_areTickets_1 : decode cX0_areTickets 1 = .ok (.iconst 1, 1) := by decide +kernel
theorem dX0_areTickets_2 : decode cX0_areTickets 2 = .ok (.if_icmp .lt 15, 3) := by decide +kernel
theorem dX0_areTickets_5 : decode cX0_areTickets 5 = .ok (.iload_n 1, 1) := by decide +kernel
theorem dX0_areTickets_6 : decode cX0_areTickets 6 = .ok (.aload_n 0, 1) := by decide +kernel
theorem dX0_areTickets_7 : decode cX0_areTickets 7 = .ok (.getfield 19, 3) := by decide +kernel
theorem dX0_areTickets_10 : decode cX0_areTickets 10 = .ok (.if_icmp .ge 7, 3) := by decide +kernel
theorem dX0_areTickets_13 : decode cX0_areTickets 13 = .ok (.iconst 1, 1) := by decide +kernel
theorem dX0_areTickets_14 : decode cX0_areTickets 14 = .ok (.goto 4, 3) := by decide +kernel
theorem dX0_areTickets_17 : decode cX0_areTickets 17 = .ok (.iconst 0, 1) := by decide +kernel
theorem dX0_areTickets_18 : decode cX0_areTickets 18 = .ok (.ireturn, 1) := by decide +kernel
theorem dX0_joiningPass_0 : decode cX0_joiningPass 0 = .ok (.aload_n 0, 1) := by decide +kernel
theorem dX0_joiningPass_1 : decode cX0_joiningPass 1 = .ok (.getfield 38, 3) := by decide +kernel
theorem dX0_joiningPass_4 : decode cX0_joiningPass 4 = .ok (.ifCond .ne 10, 3) := by decide +kernel
theorem dX0_joiningPass_7 : decode cX0_joiningPass 7 = .ok (.aload_n 0, 1) := by decide +kernel
theorem dX0_joiningPass_8 : decode cX0_joiningPass 8 = .ok (.getfield 41, 3) := by decide +kernel
theorem dX0_joiningPass_11 : decode cX0_joiningPass 11 = .ok (.goto 14, 3) := by decide +kernel
theorem dX0_joiningPass_14 : decode cX0_joiningPass 14 = .ok (.aload_n 0, 1) := by decide +kernel
theorem dX0_joiningPass_15 : decode cX0_joiningPass 15 = .ok (.getfield 29, 3) := by decide +kernel
theorem dX0_joiningPass_18 : decode cX0_joiningPass 18 = .ok (.aload_n 0, 1) := by decide +kernel
theorem dX0_joiningPass_19 : decode cX0_joiningPass 19 = .ok (.getfield 35, 3) := by decide +kernel
theorem dX0_joiningPass_22 : decode cX0_joiningPass 22 = .ok (.iconst 0, 1) := by decide +kernel
theorem dX0_joiningPass_23 : decode cX0_joiningPass 23 = .ok (.iaload, 1) := by decide +kernel
theorem dX0_joiningPass_24 : decode cX0_joiningPass 24 = .ok (.iaload, 1) := by decide +kernel
theorem dX0_joiningPass_25 : decode cX0_joiningPass 25 = .ok (.ireturn, 1) := by decide +kernel
theorem dX0_giveTickets_0 : decode cX0_giveTickets 0 = .ok (.aload_n 0, 1) := by decide +kernel
theorem dX0_giveTickets_1 : decode cX0_giveTickets 1 = .ok (.getfield 22, 3) := by decide +kernel
theorem dX0_giveTickets_4 : decode cX0_giveTickets 4 = .ok (.iload_n 1, 1) := by decide +kernel
theorem dX0_giveTickets_5 : decode cX0_giveTickets 5 = .ok (.iload_n 2, 1) := by decide +kernel
theorem dX0_giveTickets_6 : decode cX0_giveTickets 6 = .ok (.iastore, 1) := by decide +kernel
theorem dX0_giveTickets_7 : decode cX0_giveTickets 7 = .ok (.aload_n 0, 1) := by decide +kernel
theorem dX0_giveTickets_8 : decode cX0_giveTickets 8 = .ok (.getfield 26, 3) := by decide +kernel
theorem dX0_giveTickets_11 : decode cX0_giveTickets 11 = .ok (.iload_n 1, 1) := by decide +kernel
theorem dX0_giveTickets_12 : decode cX0_giveTickets 12 = .ok (.aload_n 0, 1) := by decide +kernel
theorem dX0_giveTickets_13 : decode cX0_giveTickets 13 = .ok (.getfield 19, 3) := by decide +kernel
theorem dX0_giveTickets_16 : decode cX0_giveTickets 16 = .ok (.iload_n 2, 1) := by decide +kernel
theorem dX0_giveTickets_17 : decode cX0_giveTickets 17 = .ok (.idiv, 1) := by decide +kernel
theorem dX0_giveTickets_18 : decode cX0_giveTickets 18 = .ok (.iastore, 1) := by decide +kernel
theorem dX0_giveTickets_19 : decode cX0_giveTickets 19 = .ok (.return_, 1) := by decide +kernel
set_option maxRecDepth 20000 in
theorem ggX0_giveTurn_X0_settleFirst : GoodIn wsX0_giveTurn wsX0_settleFirst := goodIn_r _ [11, 2, 1, 12, 13, 14, 10, 15, 3, 16, 17, 18, 19, 20, 21, 22, 23, 24] (by decide +kernel) (by decide +kernel)
set_option maxRecDepth 20000 in
theorem gX0_giveTurn_X0_settleFirst : GoodIn wsX0_giveTurn (wsV RX0 74 RX0 yX0_settleFirst wsX0_settleFirst) := goodIn_app (goodIn_of _ (by decide +kernel)) ggX0_giveTurn_X0_settleFirst
theorem dX0_giveTurn_0 : decode cX0_giveTurn 0 = .ok (.aload_n 0, 1) := by decide +kernel
theorem dX0_giveTurn_1 : decode cX0_giveTurn 1 = .ok (.getfield 38, 3) := by decide +kernel
theorem dX0_giveTurn_4 : decode cX0_giveTurn 4 = .ok (.ifCond .ne 5, 3) := by decide +kernel
theorem dX0_giveTurn_7 : decode cX0_giveTurn 7 = .ok (.iconst (-1), 1) := by decide +kernel
theorem dX0_giveTurn_8 : decode cX0_giveTurn 8 = .ok (.ireturn, 1) := by decide +kernel
theorem dX0_giveTurn_9 : decode cX0_giveTurn 9 = .ok (.aload_n 0, 1) := by decide +kernel
theorem dX0_giveTurn_10 : decode cX0_giveTurn 10 = .ok (.getfield 35, 3) := by decide +kernel
theorem dX0_giveTurn_13 : decode cX0_giveTurn 13 = .ok (.iconst 0, 1) := by decide +kernel
theorem dX0_giveTurn_14 : decode cX0_giveTurn 14 = .ok (.iaload, 1) := by decide +kernel
theorem dX0_giveTurn_15 : decode cX0_giveTurn 15 = .ok (.istore_n 1, 1) := by decide +kernel
theorem dX0_giveTurn_16 : decode cX0_giveTurn 16 = .ok (.aload_n 0, 1) := by decide +kernel
theorem dX0_giveTurn_17 : decode cX0_giveTurn 17 = .ok (.getfield 29, 3) := by decide +kernel
theorem dX0_giveTurn_20 : decode cX0_giveTurn 20 = .ok (.iload_n 1, 1) := by decide +kernel
theorem dX0_giveTurn_21 : decode cX0_giveTurn 21 = .ok (.iaload, 1) := by decide +kernel
theorem dX0_giveTurn_22 : decode cX0_giveTurn 22 = .ok (.i2l, 1) := by decide +kernel
theorem dX0_giveTurn_23 : decode cX0_giveTurn 23 = .ok (.aload_n 0, 1) := by decide +kernel
theorem dX0_giveTurn_24 : decode cX0_giveTurn 24 = .ok (.getfield 26, 3) := by decide +kernel
theorem dX0_giveTurn_27 : decode cX0_giveTurn 27 = .ok (.iload_n 1, 1) := by decide +kernel
theorem dX0_giveTurn_28 : decode cX0_giveTurn 28 = .ok (.iaload, 1) := by decide +kernel
theorem dX0_giveTurn_29 : decode cX0_giveTurn 29 = .ok (.i2l, 1) := by decide +kernel
theorem dX0_giveTurn_30 : decode cX0_giveTurn 30 = .ok (.ladd, 1) := by decide +kernel
theorem dX0_giveTurn_31 : decode cX0_giveTurn 31 = .ok (.lstore_n 2, 1) := by decide +kernel
theorem dX0_giveTurn_32 : decode cX0_giveTurn 32 = .ok (.lload_n 2, 1) := by decide +kernel
theorem dX0_giveTurn_33 : decode cX0_giveTurn 33 = .ok (.ldc2_w 72, 3) := by decide +kernel
theorem dX0_giveTurn_36 : decode cX0_giveTurn 36 = .ok (.lcmp, 1) := by decide +kernel
theorem dX0_giveTurn_37 : decode cX0_giveTurn 37 = .ok (.ifCond .le 6, 3) := by decide +kernel
theorem dX0_giveTurn_40 : decode cX0_giveTurn 40 = .ok (.bipush (-2), 2) := by decide +kernel
theorem dX0_giveTurn_42 : decode cX0_giveTurn 42 = .ok (.ireturn, 1) := by decide +kernel
theorem dX0_giveTurn_43 : decode cX0_giveTurn 43 = .ok (.aload_n 0, 1) := by decide +kernel
theorem dX0_giveTurn_44 : decode cX0_giveTurn 44 = .ok (.getfield 29, 3) := by decide +kernel
theorem dX0_giveTurn_47 : decode cX0_giveTurn 47 = .ok (.iload_n 1, 1) := by decide +kernel
theorem dX0_giveTurn_48 : decode cX0_giveTurn 48 = .ok (.lload_n 2, 1) := by decide +kernel
theorem dX0_giveTurn_49 : decode cX0_giveTurn 49 = .ok (.l2i, 1) := by decide +kernel
theorem dX0_giveTurn_50 : decode cX0_giveTurn 50 = .ok (.iastore, 1) := by decide +kernel
theorem dX0_giveTurn_51 : decode cX0_giveTurn 51 = .ok (.aload_n 0, 1) := by decide +kernel
theorem dX0_giveTurn_52 : decode cX0_giveTurn 52 = .ok (.getfield 32, 3) := by decide +kernel
theorem dX0_giveTurn_55 : decode cX0_giveTurn 55 = .ok (.iload_n 1, 1) := by decide +kernel
theorem dX0_giveTurn_56 : decode cX0_giveTurn 56 = .ok (.dup2, 1) := by decide +kernel
theorem dX0_giveTurn_57 : decode cX0_giveTurn 57 = .ok (.iaload, 1) := by decide +kernel
theorem dX0_giveTurn_58 : decode cX0_giveTurn 58 = .ok (.iconst 1, 1) := by decide +kernel
theorem dX0_giveTurn_59 : decode cX0_giveTurn 59 = .ok (.iadd, 1) := by decide +kernel
theorem dX0_giveTurn_60 : decode cX0_giveTurn 60 = .ok (.iastore, 1) := by decide +kernel
theorem dX0_giveTurn_61 : decode cX0_giveTurn 61 = .ok (.aload_n 0, 1) := by decide +kernel
theorem dX0_giveTurn_62 : decode cX0_giveTurn 62 = .ok (.invokevirtual 74, 3) := by decide +kernel
theorem dX0_giveTurn_65 : decode cX0_giveTurn 65 = .ok (.iload_n 1, 1) := by decide +kernel
theorem dX0_giveTurn_66 : decode cX0_giveTurn 66 = .ok (.ireturn, 1) := by decide +kernel
set_option maxRecDepth 20000 in
theorem ggX0_enterLine_X0_settleFirst : GoodIn wsX0_enterLine wsX0_settleFirst := goodIn_r _ [11, 1, 2, 12, 13, 14, 10, 15, 16, 17, 18, 19, 20, 21, 22, 23, 24, 25] (by decide +kernel) (by decide +kernel)
set_option maxRecDepth 20000 in
theorem gX0_enterLine_X0_settleFirst : GoodIn wsX0_enterLine (wsV RX0 74 RX0 yX0_settleFirst wsX0_settleFirst) := goodIn_app (goodIn_of _ (by decide +kernel)) ggX0_enterLine_X0_settleFirst
theorem dX0_enterLine_0 : decode cX0_enterLine 0 = .ok (.aload_n 0, 1) := by decide +kernel
theorem dX0_enterLine_1 : decode cX0_enterLine 1 = .ok (.getfield 35, 3) := by decide +kernel
theorem dX0_enterLine_4 : decode cX0_enterLine 4 = .ok (.iconst 0, 1) := by decide +kernel
theorem dX0_enterLine_5 : decode cX0_enterLine 5 = .ok (.aload_n 0, 1) := by decide +kernel
theorem dX0_enterLine_6 : decode cX0_enterLine 6 = .ok (.getfield 35, 3) := by decide +kernel
theorem dX0_enterLine_9 : decode cX0_enterLine 9 = .ok (.iconst 1, 1) := by decide +kernel
theorem dX0_enterLine_10 : decode cX0_enterLine 10 = .ok (.aload_n 0, 1) := by decide +kernel
theorem dX0_enterLine_11 : decode cX0_enterLine 11 = .ok (.getfield 38, 3) := by decide +kernel
theorem dX0_enterLine_14 : decode cX0_enterLine 14 = .ok (.invokestatic 77, 3) := by decide +kernel
theorem dX0_enterLine_17 : decode cX0_enterLine 17 = .ok (.aload_n 0, 1) := by decide +kernel
theorem dX0_enterLine_18 : decode cX0_enterLine 18 = .ok (.getfield 35, 3) := by decide +kernel
theorem dX0_enterLine_21 : decode cX0_enterLine 21 = .ok (.iconst 0, 1) := by decide +kernel
theorem dX0_enterLine_22 : decode cX0_enterLine 22 = .ok (.iload_n 1, 1) := by decide +kernel
theorem dX0_enterLine_23 : decode cX0_enterLine 23 = .ok (.iastore, 1) := by decide +kernel
theorem dX0_enterLine_24 : decode cX0_enterLine 24 = .ok (.aload_n 0, 1) := by decide +kernel
theorem dX0_enterLine_25 : decode cX0_enterLine 25 = .ok (.dup, 1) := by decide +kernel
theorem dX0_enterLine_26 : decode cX0_enterLine 26 = .ok (.getfield 38, 3) := by decide +kernel
theorem dX0_enterLine_29 : decode cX0_enterLine 29 = .ok (.iconst 1, 1) := by decide +kernel
theorem dX0_enterLine_30 : decode cX0_enterLine 30 = .ok (.iadd, 1) := by decide +kernel
theorem dX0_enterLine_31 : decode cX0_enterLine 31 = .ok (.putfield 38, 3) := by decide +kernel
theorem dX0_enterLine_34 : decode cX0_enterLine 34 = .ok (.aload_n 0, 1) := by decide +kernel
theorem dX0_enterLine_35 : decode cX0_enterLine 35 = .ok (.invokevirtual 74, 3) := by decide +kernel
theorem dX0_enterLine_38 : decode cX0_enterLine 38 = .ok (.return_, 1) := by decide +kernel
set_option maxRecDepth 20000 in
theorem ggX0_quitLine_X0_placeOf : GoodIn wsX0_quitLine wsX0_placeOf := goodIn_r _ [11, 2, 1, 12, 13, 14, 15, 16, 17, 18, 19, 20] (by decide +kernel) (by decide +kernel)
set_option maxRecDepth 20000 in
theorem gX0_quitLine_X0_placeOf : GoodIn wsX0_quitLine (wsV RX0 83 RX0 yX0_placeOf wsX0_placeOf) := goodIn_app (goodIn_of _ (by decide +kernel)) ggX0_quitLine_X0_placeOf
theorem dX0_quitLine_0 : decode cX0_quitLine 0 = .ok (.aload_n 0, 1) := by decide +kernel
theorem dX0_quitLine_1 : decode cX0_quitLine 1 = .ok (.iload_n 1, 1) := by decide +kernel
theorem dX0_quitLine_2 : decode cX0_quitLine 2 = .ok (.invokevirtual 83, 3) := by decide +kernel
theorem dX0_quitLine_5 : decode cX0_quitLine 5 = .ok (.istore_n 2, 1) := by decide +kernel
theorem dX0_quitLine_6 : decode cX0_quitLine 6 = .ok (.aload_n 0, 1) := by decide +kernel
theorem dX0_quitLine_7 : decode cX0_quitLine 7 = .ok (.getfield 35, 3) := by decide +kernel
theorem dX0_quitLine_10 : decode cX0_quitLine 10 = .ok (.iload_n 2, 1) := by decide +kernel
theorem dX0_quitLine_11 : decode cX0_quitLine 11 = .ok (.iconst 1, 1) := by decide +kernel
theorem dX0_quitLine_12 : decode cX0_quitLine 12 = .ok (.iadd, 1) := by decide +kernel
theorem dX0_quitLine_13 : decode cX0_quitLine 13 = .ok (.aload_n 0, 1) := by decide +kernel
theorem dX0_quitLine_14 : decode cX0_quitLine 14 = .ok (.getfield 35, 3) := by decide +kernel
theorem dX0_quitLine_17 : decode cX0_quitLine 17 = .ok (.iload_n 2, 1) := by decide +kernel
theorem dX0_quitLine_18 : decode cX0_quitLine 18 = .ok (.aload_n 0, 1) := by decide +kernel
theorem dX0_quitLine_19 : decode cX0_quitLine 19 = .ok (.getfield 38, 3) := by decide +kernel
theorem dX0_quitLine_22 : decode cX0_quitLine 22 = .ok (.iload_n 2, 1) := by decide +kernel
theorem dX0_quitLine_23 : decode cX0_quitLine 23 = .ok (.isub, 1) := by decide +kernel
theorem dX0_quitLine_24 : decode cX0_quitLine 24 = .ok (.iconst 1, 1) := by decide +kernel
theorem dX0_quitLine_25 : decode cX0_quitLine 25 = .ok (.isub, 1) := by decide +kernel
theorem dX0_quitLine_26 : decode cX0_quitLine 26 = .ok (.invokestatic 77, 3) := by decide +kernel
theorem dX0_quitLine_29 : decode cX0_quitLine 29 = .ok (.aload_n 0, 1) := by decide +kernel
theorem dX0_quitLine_30 : decode cX0_quitLine 30 = .ok (.dup, 1) := by decide +kernel
theorem dX0_quitLine_31 : decode cX0_quitLine 31 = .ok (.getfield 38, 3) := by decide +kernel
theorem dX0_quitLine_34 : decode cX0_quitLine 34 = .ok (.iconst 1, 1) := by decide +kernel
theorem dX0_quitLine_35 : decode cX0_quitLine 35 = .ok (.isub, 1) := by decide +kernel
theorem dX0_quitLine_36 : decode cX0_quitLine 36 = .ok (.putfield 38, 3) := by decide +kernel
theorem dX0_quitLine_39 : decode cX0_quitLine 39 = .ok (.return_, 1) := by decide +kernel
theorem dX0_placeOf_0 : decode cX0_placeOf 0 = .ok (.iconst 0, 1) := by decide +kernel
theorem dX0_placeOf_1 : decode cX0_placeOf 1 = .ok (.istore_n 2, 1) := by decide +kernel
theorem dX0_placeOf_2 : decode cX0_placeOf 2 = .ok (.iload_n 2, 1) := by decide +kernel
theorem dX0_placeOf_3 : decode cX0_placeOf 3 = .ok (.aload_n 0, 1) := by decide +kernel
theorem dX0_placeOf_4 : decode cX0_placeOf 4 = .ok (.getfield 38, 3) := by decide +kernel
theorem dX0_placeOf_7 : decode cX0_placeOf 7 = .ok (.iconst 1, 1) := by decide +kernel
theorem dX0_placeOf_8 : decode cX0_placeOf 8 = .ok (.isub, 1) := by decide +kernel
theorem dX0_placeOf_9 : decode cX0_placeOf 9 = .ok (.if_icmp .ge 19, 3) := by decide +kernel
theorem dX0_placeOf_12 : decode cX0_placeOf 12 = .ok (.aload_n 0, 1) := by decide +kernel
theorem dX0_placeOf_13 : decode cX0_placeOf 13 = .ok (.getfield 35, 3) := by decide +kernel
theorem dX0_placeOf_16 : decode cX0_placeOf 16 = .ok (.iload_n 2, 1) := by decide +kernel
theorem dX0_placeOf_17 : decode cX0_placeOf 17 = .ok (.iaload, 1) := by decide +kernel
theorem dX0_placeOf_18 : decode cX0_placeOf 18 = .ok (.iload_n 1, 1) := by decide +kernel
theorem dX0_placeOf_19 : decode cX0_placeOf 19 = .ok (.if_icmp .eq 9, 3) := by decide +kernel
theorem dX0_placeOf_22 : decode cX0_placeOf 22 = .ok (.iinc 2 1, 3) := by decide +kernel
theorem dX0_placeOf_25 : decode cX0_placeOf 25 = .ok (.goto (-23), 3) := by decide +kernel
theorem dX0_placeOf_28 : decode cX0_placeOf 28 = .ok (.iload_n 2, 1) := by decide +kernel
theorem dX0_placeOf_29 : decode cX0_placeOf 29 = .ok (.ireturn, 1) := by decide +kernel
set_option maxRecDepth 20000 in
theorem ggX0_settleFirst_X0_isBefore : GoodIn wsX0_settleFirst wsX0_isBefore := goodIn_r _ [7, 8, 9, 10, 11, 12, 13, 14, 15, 16, 17] (by decide +kernel) (by decide +kernel)
set_option maxRecDepth 20000 in
theorem gX0_settleFirst_X0_isBefore : GoodIn wsX0_settleFirst (wsV RX0 87 RX0 yX0_isBefore wsX0_isBefore) := goodIn_app (goodIn_of _ (by decide +kernel)) ggX0_settleFirst_X0_isBefore
theorem dX0_settleFirst_0 : decode cX0_settleFirst 0 = .ok (.aload_n 0, 1) := by decide +kernel
theorem dX0_settleFirst_1 : decode cX0_settleFirst 1 = .ok (.getfield 35, 3) := by decide +kernel
theorem dX0_settleFirst_4 : decode cX0_settleFirst 4 = .ok (.iconst 0, 1) := by decide +kernel
theorem dX0_settleFirst_5 : decode cX0_settleFirst 5 = .ok (.iaload, 1) := by decide +kernel
theorem dX0_settleFirst_6 : decode cX0_settleFirst 6 = .ok (.istore_n 1, 1) := by decide +kernel
theorem dX0_settleFirst_7 : decode cX0_settleFirst 7 = .ok (.iconst 0, 1) := by decide +kernel
theorem dX0_settleFirst_8 : decode cX0_settleFirst 8 = .ok (.istore_n 2, 1) := by decide +kernel
theorem dX0_settleFirst_9 : decode cX0_settleFirst 9 = .ok (.iload_n 2, 1) := by decide +kernel
theorem dX0_settleFirst_10 : decode cX0_settleFirst 10 = .ok (.aload_n 0, 1) := by decide +kernel
theorem dX0_settleFirst_11 : decode cX0_settleFirst 11 = .ok (.getfield 38, 3) := by decide +kernel
theorem dX0_settleFirst_14 : decode cX0_settleFirst 14 = .ok (.iconst 1, 1) := by decide +kernel
theorem dX0_settleFirst_15 : decode cX0_settleFirst 15 = .ok (.isub, 1) := by decide +kernel
theorem dX0_settleFirst_16 : decode cX0_settleFirst 16 = .ok (.if_icmp .ge 39, 3) := by decide +kernel
theorem dX0_settleFirst_19 : decode cX0_settleFirst 19 = .ok (.aload_n 0, 1) := by decide +kernel
theorem dX0_settleFirst_20 : decode cX0_settleFirst 20 = .ok (.aload_n 0, 1) := by decide +kernel
theorem dX0_settleFirst_21 : decode cX0_settleFirst 21 = .ok (.getfield 35, 3) := by decide +kernel
theorem dX0_settleFirst_24 : decode cX0_settleFirst 24 = .ok (.iload_n 2, 1) := by decide +kernel
theorem dX0_settleFirst_25 : decode cX0_settleFirst 25 = .ok (.iconst 1, 1) := by decide +kernel
theorem dX0_settleFirst_26 : decode cX0_settleFirst 26 = .ok (.iadd, 1) := by decide +kernel
theorem dX0_settleFirst_27 : decode cX0_settleFirst 27 = .ok (.iaload, 1) := by decide +kernel
theorem dX0_settleFirst_28 : decode cX0_settleFirst 28 = .ok (.iload_n 1, 1) := by decide +kernel
theorem dX0_settleFirst_29 : decode cX0_settleFirst 29 = .ok (.invokevirtual 87, 3) := by decide +kernel
theorem dX0_settleFirst_32 : decode cX0_settleFirst 32 = .ok (.ifCond .eq 23, 3) := by decide +kernel
theorem dX0_settleFirst_35 : decode cX0_settleFirst 35 = .ok (.aload_n 0, 1) := by decide +kernel
theorem dX0_settleFirst_36 : decode cX0_settleFirst 36 = .ok (.getfield 35, 3) := by decide +kernel
theorem dX0_settleFirst_39 : decode cX0_settleFirst 39 = .ok (.iload_n 2, 1) := by decide +kernel
theorem dX0_settleFirst_40 : decode cX0_settleFirst 40 = .ok (.aload_n 0, 1) := by decide +kernel
theorem dX0_settleFirst_41 : decode cX0_settleFirst 41 = .ok (.getfield 35, 3) := by decide +kernel
theorem dX0_settleFirst_44 : decode cX0_settleFirst 44 = .ok (.iload_n 2, 1) := by decide +kernel
theorem dX0_settleFirst_45 : decode cX0_settleFirst 45 = .ok (.iconst 1, 1) := by decide +kernel
theorem dX0_settleFirst_46 : decode cX0_settleFirst 46 = .ok (.iadd, 1) := by decide +kernel
theorem dX0_settleFirst_47 : decode cX0_settleFirst 47 = .ok (.iaload, 1) := by decide +kernel
theorem dX0_settleFirst_48 : decode cX0_settleFirst 48 = .ok (.iastore, 1) := by decide +kernel
theorem dX0_settleFirst_49 : decode cX0_settleFirst 49 = .ok (.iinc 2 1, 3) := by decide +kernel
theorem dX0_settleFirst_52 : decode cX0_settleFirst 52 = .ok (.goto (-43), 3) := by decide +kernel
theorem dX0_settleFirst_55 : decode cX0_settleFirst 55 = .ok (.aload_n 0, 1) := by decide +kernel
theorem dX0_settleFirst_56 : decode cX0_settleFirst 56 = .ok (.getfield 35, 3) := by decide +kernel
theorem dX0_settleFirst_59 : decode cX0_settleFirst 59 = .ok (.iload_n 2, 1) := by decide +kernel
theorem dX0_settleFirst_60 : decode cX0_settleFirst 60 = .ok (.iload_n 1, 1) := by decide +kernel
theorem dX0_settleFirst_61 : decode cX0_settleFirst 61 = .ok (.iastore, 1) := by decide +kernel
theorem dX0_settleFirst_62 : decode cX0_settleFirst 62 = .ok (.return_, 1) := by decide +kernel
theorem dX0_isBefore_0 : decode cX0_isBefore 0 = .ok (.aload_n 0, 1) := by decide +kernel
theorem dX0_isBefore_1 : decode cX0_isBefore 1 = .ok (.getfield 29, 3) := by decide +kernel
theorem dX0_isBefore_4 : decode cX0_isBefore 4 = .ok (.iload_n 1, 1) := by decide +kernel
theorem dX0_isBefore_5 : decode cX0_isBefore 5 = .ok (.iaload, 1) := by decide +kernel
theorem dX0_isBefore_6 : decode cX0_isBefore 6 = .ok (.aload_n 0, 1) := by decide +kernel
theorem dX0_isBefore_7 : decode cX0_isBefore 7 = .ok (.getfield 29, 3) := by decide +kernel
theorem dX0_isBefore_10 : decode cX0_isBefore 10 = .ok (.iload_n 2, 1) := by decide +kernel
theorem dX0_isBefore_11 : decode cX0_isBefore 11 = .ok (.iaload, 1) := by decide +kernel
theorem dX0_isBefore_12 : decode cX0_isBefore 12 = .ok (.if_icmp .eq 24, 3) := by decide +kernel
theorem dX0_isBefore_15 : decode cX0_isBefore 15 = .ok (.aload_n 0, 1) := by decide +kernel
theorem dX0_isBefore_16 : decode cX0_isBefore 16 = .ok (.getfield 29, 3) := by decide +kernel
theorem dX0_isBefore_19 : decode cX0_isBefore 19 = .ok (.iload_n 1, 1) := by decide +kernel
theorem dX0_isBefore_20 : decode cX0_isBefore 20 = .ok (.iaload, 1) := by decide +kernel
theorem dX0_isBefore_21 : decode cX0_isBefore 21 = .ok (.aload_n 0, 1) := by decide +kernel
theorem dX0_isBefore_22 : decode cX0_isBefore 22 = .ok (.getfield 29, 3) := by decide +kernel
theorem dX0_isBefore_25 : decode cX0_isBefore 25 = .ok (.iload_n 2, 1) := by decide +kernel
theorem dX0_isBefore_26 : decode cX0_isBefore 26 = .ok (.iaload, 1) := by decide +kernel
theorem dX0_isBefore_27 : decode cX0_isBefore 27 = .ok (.if_icmp .ge 7, 3) := by decide +kernel
theorem dX0_isBefore_30 : decode cX0_isBefore 30 = .ok (.iconst 1, 1) := by decide +kernel
theorem dX0_isBefore_31 : decode cX0_isBefore 31 = .ok (.goto 4, 3) := by decide +kernel
theorem dX0_isBefore_34 : decode cX0_isBefore 34 = .ok (.iconst 0, 1) := by decide +kernel
theorem dX0_isBefore_35 : decode cX0_isBefore 35 = .ok (.ireturn, 1) := by decide +kernel
theorem dX0_isBefore_36 : decode cX0_isBefore 36 = .ok (.iload_n 1, 1) := by decide +kernel
theorem dX0_isBefore_37 : decode cX0_isBefore 37 = .ok (.iload_n 2, 1) := by decide +kernel
theorem dX0_isBefore_38 : decode cX0_isBefore 38 = .ok (.if_icmp .ge 7, 3) := by decide +kernel
theorem dX0_isBefore_41 : decode cX0_isBefore 41 = .ok (.iconst 1, 1) := by decide +kernel
theorem dX0_isBefore_42 : decode cX0_isBefore 42 = .ok (.goto 4, 3) := by decide +kernel
theorem dX0_isBefore_45 : decode cX0_isBefore 45 = .ok (.iconst 0, 1) := by decide +kernel
theorem dX0_isBefore_46 : decode cX0_isBefore 46 = .ok (.ireturn, 1) := by decide +kernel
theorem dX1_init_0 : decode cX1_init 0 = .ok (.aload_n 0, 1) := by decide +kernel
theorem dX1_init_1 : decode cX1_init 1 = .ok (.invokespecial 1, 3) := by decide +kernel
theorem dX1_init_4 : decode cX1_init 4 = .ok (.aload_n 0, 1) := by decide +kernel
theorem dX1_init_5 : decode cX1_init 5 = .ok (.bipush 64, 2) := by decide +kernel
theorem dX1_init_7 : decode cX1_init 7 = .ok (.newarray .boolean, 2) := by decide +kernel
theorem dX1_init_9 : decode cX1_init 9 = .ok (.putfield 7, 3) := by decide +kernel
theorem dX1_init_12 : decode cX1_init 12 = .ok (.aload_n 0, 1) := by decide +kernel
theorem dX1_init_13 : decode cX1_init 13 = .ok (.bipush 64, 2) := by decide +kernel
theorem dX1_init_15 : decode cX1_init 15 = .ok (.newarray .int, 2) := by decide +kernel
theorem dX1_init_17 : decode cX1_init 17 = .ok (.putfield 13, 3) := by decide +kernel
theorem dX1_init_20 : decode cX1_init 20 = .ok (.aload_n 0, 1) := by decide +kernel
theorem dX1_init_21 : decode cX1_init 21 = .ok (.bipush 64, 2) := by decide +kernel
theorem dX1_init_23 : decode cX1_init 23 = .ok (.newarray .long, 2) := by decide +kernel
theorem dX1_init_25 : decode cX1_init 25 = .ok (.putfield 17, 3) := by decide +kernel
theorem dX1_init_28 : decode cX1_init 28 = .ok (.aload_n 0, 1) := by decide +kernel
theorem dX1_init_29 : decode cX1_init 29 = .ok (.bipush 64, 2) := by decide +kernel
theorem dX1_init_31 : decode cX1_init 31 = .ok (.newarray .int, 2) := by decide +kernel
theorem dX1_init_33 : decode cX1_init 33 = .ok (.putfield 21, 3) := by decide +kernel
theorem dX1_init_36 : decode cX1_init 36 = .ok (.aload_n 0, 1) := by decide +kernel
theorem dX1_init_37 : decode cX1_init 37 = .ok (.iload_n 1, 1) := by decide +kernel
theorem dX1_init_38 : decode cX1_init 38 = .ok (.bipush 63, 2) := by decide +kernel
theorem dX1_init_40 : decode cX1_init 40 = .ok (.iand, 1) := by decide +kernel
theorem dX1_init_41 : decode cX1_init 41 = .ok (.iconst 1, 1) := by decide +kernel
theorem dX1_init_42 : decode cX1_init 42 = .ok (.iadd, 1) := by decide +kernel
theorem dX1_init_43 : decode cX1_init 43 = .ok (.putfield 24, 3) := by decide +kernel
theorem dX1_init_46 : decode cX1_init 46 = .ok (.iload_n 2, 1) := by decide +kernel
theorem dX1_init_47 : decode cX1_init 47 = .ok (.sipush 32767, 3) := by decide +kernel
theorem dX1_init_50 : decode cX1_init 50 = .ok (.irem, 1) := by decide +kernel
theorem dX1_init_51 : decode cX1_init 51 = .ok (.istore_n 3, 1) := by decide +kernel
theorem dX1_init_52 : decode cX1_init 52 = .ok (.aload_n 0, 1) := by decide +kernel
theorem dX1_init_53 : decode cX1_init 53 = .ok (.iload_n 3, 1) := by decide +kernel
theorem dX1_init_54 : decode cX1_init 54 = .ok (.ifCond .ge 11, 3) := by decide +kernel
theorem dX1_init_57 : decode cX1_init 57 = .ok (.iload_n 3, 1) := by decide +kernel
theorem dX1_init_58 : decode cX1_init 58 = .ok (.sipush 32767, 3) := by decide +kernel
theorem dX1_init_61 : decode cX1_init 61 = .ok (.iadd, 1) := by decide +kernel
theorem dX1_init_62 : decode cX1_init 62 = .ok (.goto 4, 3) := by decide +kernel
theorem dX1_init_65 : decode cX1_init 65 = .ok (.iload_n 3, 1) := by decide +kernel
theorem dX1_init_66 : decode cX1_init 66 = .ok (.iconst 2, 1) := by decide +kernel
theorem dX1_init_67 : decode cX1_init 67 = .ok (.iadd, 1) := by decide +kernel
theorem dX1_init_68 : decode cX1_init 68 = .ok (.putfield 28, 3) := by decide +kernel
theorem dX1_init_71 : decode cX1_init 71 = .ok (.return_, 1) := by decide +kernel
theorem dX1_isClient_0 : decode cX1_isClient 0 = .ok (.iload_n 1, 1) := by decide +kernel
theorem dX1_isClient_1 : decode cX1_isClient 1 = .ok (.ifCond .lt 15, 3) := by decide +kernel
theorem dX1_isClient_4 : decode cX1_isClient 4 = .ok (.iload_n 1, 1) := by decide +kernel
theorem dX1_isClient_5 : decode cX1_isClient 5 = .ok (.aload_n 0, 1) := by decide +kernel
theorem dX1_isClient_6 : decode cX1_isClient 6 = .ok (.getfield 24, 3) := by decide +kernel
theorem dX1_isClient_9 : decode cX1_isClient 9 = .ok (.if_icmp .ge 7, 3) := by decide +kernel
theorem dX1_isClient_12 : decode cX1_isClient 12 = .ok (.iconst 1, 1) := by decide +kernel
theorem dX1_isClient_13 : decode cX1_isClient 13 = .ok (.goto 4, 3) := by decide +kernel
theorem dX1_isClient_16 : decode cX1_isClient 16 = .ok (.iconst 0, 1) := by decide +kernel
theorem dX1_isClient_17 : decode cX1_isClient 17 = .ok (.ireturn, 1) := by decide +kernel
