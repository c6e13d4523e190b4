section
-- ===== PART A: goes FIRST, ahead of the names: the tables' words, and 'selects' of the private methods out of them =====
/-- a private method of a class that the tables say can be made, by its rows of tables_1 -/
def lw_okq (q : MethodName × Nat) : Prop := (q.1.cls ≠ "java/lang/invoke/MethodHandle" ∧ q.1.cls ≠ "java/lang/invoke/VarHandle") ∧ Cond.instantiable q.1.cls q.2 ∈ tables_1 ∧ Cond.privateMethod q.1 ∈ tables_1 ∧ Cond.instanceMethod q.1 ∈ tables_1
theorem lw_p0 : lw_okq (⟨"StrideHeap", "isClient", "(I)Z"⟩, 9) := ⟨⟨by decide +kernel, by decide +kernel⟩, List.mem_of_getElem? (i := 6) (by decide +kernel), List.mem_of_getElem? (i := 50) (by decide +kernel), List.mem_of_getElem? (i := 51) (by decide +kernel)⟩
theorem lw_p1 : lw_okq (⟨"StrideHeap", "isIn", "(I)Z"⟩, 9) := ⟨⟨by decide +kernel, by decide +kernel⟩, List.mem_of_getElem? (i := 6) (by decide +kernel), List.mem_of_getElem? (i := 54) (by decide +kernel), List.mem_of_getElem? (i := 55) (by decide +kernel)⟩
theorem lw_p2 : lw_okq (⟨"StrideHeap", "areTickets", "(I)Z"⟩, 9) := ⟨⟨by decide +kernel, by decide +kernel⟩, List.mem_of_getElem? (i := 6) (by decide +kernel), List.mem_of_getElem? (i := 58) (by decide +kernel), List.mem_of_getElem? (i := 59) (by decide +kernel)⟩
theorem lw_p3 : lw_okq (⟨"StrideHeap", "joiningPass", "()I"⟩, 9) := ⟨⟨by decide +kernel, by decide +kernel⟩, List.mem_of_getElem? (i := 6) (by decide +kernel), List.mem_of_getElem? (i := 62) (by decide +kernel), List.mem_of_getElem? (i := 63) (by decide +kernel)⟩
theorem lw_p4 : lw_okq (⟨"StrideHeap", "giveTickets", "(II)V"⟩, 9) := ⟨⟨by decide +kernel, by decide +kernel⟩, List.mem_of_getElem? (i := 6) (by decide +kernel), List.mem_of_getElem? (i := 66) (by decide +kernel), List.mem_of_getElem? (i := 67) (by decide +kernel)⟩
theorem lw_p5 : lw_okq (⟨"StrideHeap", "enterLine", "(I)V"⟩, 9) := ⟨⟨by decide +kernel, by decide +kernel⟩, List.mem_of_getElem? (i := 6) (by decide +kernel), List.mem_of_getElem? (i := 70) (by decide +kernel), List.mem_of_getElem? (i := 71) (by decide +kernel)⟩
theorem lw_p6 : lw_okq (⟨"StrideHeap", "settleFirst", "()V"⟩, 9) := ⟨⟨by decide +kernel, by decide +kernel⟩, List.mem_of_getElem? (i := 6) (by decide +kernel), List.mem_of_getElem? (i := 77) (by decide +kernel), List.mem_of_getElem? (i := 78) (by decide +kernel)⟩
theorem lw_p7 : lw_okq (⟨"StrideHeap", "isBefore", "(II)Z"⟩, 9) := ⟨⟨by decide +kernel, by decide +kernel⟩, List.mem_of_getElem? (i := 6) (by decide +kernel), List.mem_of_getElem? (i := 81) (by decide +kernel), List.mem_of_getElem? (i := 82) (by decide +kernel)⟩
theorem lw_p8 : lw_okq (⟨"StrideHeap", "quitLine", "(I)V"⟩, 9) := ⟨⟨by decide +kernel, by decide +kernel⟩, List.mem_of_getElem? (i := 6) (by decide +kernel), List.mem_of_getElem? (i := 89) (by decide +kernel), List.mem_of_getElem? (i := 90) (by decide +kernel)⟩
theorem lw_p9 : lw_okq (⟨"StrideHeap", "placeOf", "(I)I"⟩, 9) := ⟨⟨by decide +kernel, by decide +kernel⟩, List.mem_of_getElem? (i := 6) (by decide +kernel), List.mem_of_getElem? (i := 93) (by decide +kernel), List.mem_of_getElem? (i := 94) (by decide +kernel)⟩
theorem lw_p10 : lw_okq (⟨"StrideHeap", "giveTurn", "()I"⟩, 9) := ⟨⟨by decide +kernel, by decide +kernel⟩, List.mem_of_getElem? (i := 6) (by decide +kernel), List.mem_of_getElem? (i := 101) (by decide +kernel), List.mem_of_getElem? (i := 102) (by decide +kernel)⟩
theorem lw_p11 : lw_okq (⟨"StrideHeapModel", "isClient", "(I)Z"⟩, 8) := ⟨⟨by decide +kernel, by decide +kernel⟩, List.mem_of_getElem? (i := 141) (by decide +kernel), List.mem_of_getElem? (i := 178) (by decide +kernel), List.mem_of_getElem? (i := 179) (by decide +kernel)⟩
theorem lw_p12 : lw_okq (⟨"StrideHeapModel", "areTickets", "(I)Z"⟩, 8) := ⟨⟨by decide +kernel, by decide +kernel⟩, List.mem_of_getElem? (i := 141) (by decide +kernel), List.mem_of_getElem? (i := 182) (by decide +kernel), List.mem_of_getElem? (i := 183) (by decide +kernel)⟩
theorem lw_p13 : lw_okq (⟨"StrideHeapModel", "first", "()I"⟩, 8) := ⟨⟨by decide +kernel, by decide +kernel⟩, List.mem_of_getElem? (i := 141) (by decide +kernel), List.mem_of_getElem? (i := 186) (by decide +kernel), List.mem_of_getElem? (i := 187) (by decide +kernel)⟩
theorem lw_p14 : lw_okq (⟨"StrideHeapModel", "isBefore", "(II)Z"⟩, 8) := ⟨⟨by decide +kernel, by decide +kernel⟩, List.mem_of_getElem? (i := 141) (by decide +kernel), List.mem_of_getElem? (i := 190) (by decide +kernel), List.mem_of_getElem? (i := 191) (by decide +kernel)⟩
theorem lw_p15 : lw_okq (⟨"StrideHeapModel", "isIn", "(I)Z"⟩, 8) := ⟨⟨by decide +kernel, by decide +kernel⟩, List.mem_of_getElem? (i := 141) (by decide +kernel), List.mem_of_getElem? (i := 220) (by decide +kernel), List.mem_of_getElem? (i := 221) (by decide +kernel)⟩
def lw_privs_1 : List (MethodName × Nat) := [(⟨"StrideHeap", "isClient", "(I)Z"⟩, 9), (⟨"StrideHeap", "isIn", "(I)Z"⟩, 9), (⟨"StrideHeap", "areTickets", "(I)Z"⟩, 9), (⟨"StrideHeap", "joiningPass", "()I"⟩, 9), (⟨"StrideHeap", "giveTickets", "(II)V"⟩, 9), (⟨"StrideHeap", "enterLine", "(I)V"⟩, 9), (⟨"StrideHeap", "settleFirst", "()V"⟩, 9), (⟨"StrideHeap", "isBefore", "(II)Z"⟩, 9), (⟨"StrideHeap", "quitLine", "(I)V"⟩, 9), (⟨"StrideHeap", "placeOf", "(I)I"⟩, 9), (⟨"StrideHeap", "giveTurn", "()I"⟩, 9), (⟨"StrideHeapModel", "isClient", "(I)Z"⟩, 8), (⟨"StrideHeapModel", "areTickets", "(I)Z"⟩, 8), (⟨"StrideHeapModel", "first", "()I"⟩, 8), (⟨"StrideHeapModel", "isBefore", "(II)Z"⟩, 8), (⟨"StrideHeapModel", "isIn", "(I)Z"⟩, 8)]
theorem lw_r1 : ∀ q ∈ lw_privs_1, lw_okq q := List.forall_mem_cons.mpr ⟨lw_p0, List.forall_mem_cons.mpr ⟨lw_p1, List.forall_mem_cons.mpr ⟨lw_p2, List.forall_mem_cons.mpr ⟨lw_p3, List.forall_mem_cons.mpr ⟨lw_p4, List.forall_mem_cons.mpr ⟨lw_p5, List.forall_mem_cons.mpr ⟨lw_p6, List.forall_mem_cons.mpr ⟨lw_p7, List.forall_mem_cons.mpr ⟨lw_p8, List.forall_mem_cons.mpr ⟨lw_p9, List.forall_mem_cons.mpr ⟨lw_p10, List.forall_mem_cons.mpr ⟨lw_p11, List.forall_mem_cons.mpr ⟨lw_p12, List.forall_mem_cons.mpr ⟨lw_p13, List.forall_mem_cons.mpr ⟨lw_p14, List.forall_mem_cons.mpr ⟨lw_p15, fun _ h => absurd h List.not_mem_nil⟩⟩⟩⟩⟩⟩⟩⟩⟩⟩⟩⟩⟩⟩⟩⟩
def lw_privs : List (MethodName × Nat) := lw_privs_1
def lw_tbl : List Cond := k2_sels lw_privs ++ tables_1
theorem lw_privs_ok : ∀ q ∈ lw_privs, lw_okq q := lw_r1
end
section
/-! ===== BEGIN words of one list among another's, by their places ===== -/
theorem goodIn_r {big : List Cond} (ws : List Cond) (ps : List Nat) (hp : ws = ps.filterMap (fun i => big[i]?)) (h : ws.all goodWord = true) : GoodIn big ws := by
  intro w hw
  have h1 := List.all_eq_true.mp h w hw
  rw [hp] at hw
  obtain ⟨i, -, hi⟩ := List.mem_filterMap.mp hw
  have hm : w ∈ big := by first | exact List.mem_of_getElem? hi | exact List.getElem?_mem hi
  exact ⟨hm, good_of_word h1⟩
theorem goodIn_app {big a b : List Cond} (ha : GoodIn big a) (hb : GoodIn big b) : GoodIn big (a ++ b) := fun w h => (List.mem_append.mp h).elim (ha w) (hb w)
theorem goodIn_ca {big a b : List Cond} {c : Cond} (ha : GoodIn big (c :: a)) (hb : GoodIn big b) : GoodIn big (c :: (a ++ b)) := fun w h => (List.mem_cons.mp h).elim (fun e => ha w (List.mem_cons.mpr (Or.inl e))) (fun h => (List.mem_append.mp h).elim (fun h => ha w (List.mem_cons.mpr (Or.inr h))) (hb w))
theorem goodIn_sub {big ws : List Cond} (hm : ∀ w ∈ ws, w ∈ big) (h : ws.all goodWord = true) : GoodIn big ws := fun w hw => ⟨hm w hw, good_of_word (List.all_eq_true.mp h w hw)⟩
/-! ===== END ===== -/

/-! ===== BEGIN printed: names, fields, word lists, decode rows ===== -/
def RX0 : String := "StrideHeap"
def TX0 : u_T := fun k => match k with
  | 0 => ("StrideHeap", "cap", "I", true)
  | 1 => ("StrideHeap", "big", "I", true)
  | 2 => ("StrideHeap", "ticketsOf", "[I", true)
  | 3 => ("StrideHeap", "strides", "[I", true)
  | 4 => ("StrideHeap", "passes", "[I", true)
  | 5 => ("StrideHeap", "ran", "[I", true)
  | 6 => ("StrideHeap", "line", "[I", true)
  | 7 => ("StrideHeap", "inLine", "I", false)
  | _ => ("StrideHeap", "latestLeftPass", "I", false)
def tyX0 : Nat → FieldType := fun k => match k with
  | 0 => .int
  | 1 => .int
  | 2 => .array .int
  | 3 => .array .int
  | 4 => .array .int
  | 5 => .array .int
  | 6 => .array .int
  | 7 => .int
  | _ => .int
abbrev wsX00 : List Cond := u_ws RX0 TX0 9
theorem nmX0 : ∀ a, a < 9 → ∀ b, b < 9 → a ≠ b → (TX0 a).2.1 ≠ (TX0 b).2.1 := by decide +kernel
theorem tyX0_ok : ∀ k, k < 9 → parseFieldDescriptor (TX0 k).2.2.1 = some (tyX0 k) := by decide +kernel
abbrev cX0_init : ByteArray := prog_1_method_1_code
def yX0_init : MethodName := ⟨RX0, "<init>", "(II)V"⟩
abbrev cX0_join : ByteArray := prog_1_method_2_code
def yX0_join : MethodName := ⟨RX0, "join", "(II)I"⟩
abbrev cX0_leave : ByteArray := prog_1_method_3_code
def yX0_leave : MethodName := ⟨RX0, "leave", "(I)I"⟩
abbrev cX0_next : ByteArray := prog_1_method_4_code
def yX0_next : MethodName := ⟨RX0, "next", "()I"⟩
abbrev cX0_turns : ByteArray := prog_1_method_5_code
def yX0_turns : MethodName := ⟨RX0, "turns", "(I)I"⟩
abbrev cX0_change : ByteArray := prog_1_method_6_code
def yX0_change : MethodName := ⟨RX0, "change", "(II)I"⟩
abbrev cX0_ranOf : ByteArray := prog_1_method_7_code
def yX0_ranOf : MethodName := ⟨RX0, "ranOf", "(I)I"⟩
abbrev cX0_passOf : ByteArray := prog_1_method_8_code
def yX0_passOf : MethodName := ⟨RX0, "passOf", "(I)I"⟩
abbrev cX0_strideOf : ByteArray := prog_1_method_9_code
def yX0_strideOf : MethodName := ⟨RX0, "strideOf", "(I)I"⟩
abbrev cX0_clients : ByteArray := prog_1_method_10_code
def yX0_clients : MethodName := ⟨RX0, "clients", "()I"⟩
abbrev cX0_spread : ByteArray := prog_1_method_11_code
def yX0_spread : MethodName := ⟨RX0, "spread", "()I"⟩
abbrev cX0_order : ByteArray := prog_1_method_12_code
def yX0_order : MethodName := ⟨RX0, "order", "(I)I"⟩
abbrev cX0_isClient : ByteArray := prog_1_method_13_code
def yX0_isClient : MethodName := ⟨RX0, "isClient", "(I)Z"⟩
abbrev cX0_isIn : ByteArray := prog_1_method_14_code
def yX0_isIn : MethodName := ⟨RX0, "isIn", "(I)Z"⟩
abbrev cX0_areTickets : ByteArray := prog_1_method_15_code
def yX0_areTickets : MethodName := ⟨RX0, "areTickets", "(I)Z"⟩
abbrev cX0_joiningPass : ByteArray := prog_1_method_16_code
def yX0_joiningPass : MethodName := ⟨RX0, "joiningPass", "()I"⟩
abbrev cX0_giveTickets : ByteArray := prog_1_method_17_code
def yX0_giveTickets : MethodName := ⟨RX0, "giveTickets", "(II)V"⟩
abbrev cX0_giveTurn : ByteArray := prog_1_method_18_code
def yX0_giveTurn : MethodName := ⟨RX0, "giveTurn", "()I"⟩
abbrev cX0_enterLine : ByteArray := prog_1_method_19_code
def yX0_enterLine : MethodName := ⟨RX0, "enterLine", "(I)V"⟩
abbrev cX0_quitLine : ByteArray := prog_1_method_20_code
def yX0_quitLine : MethodName := ⟨RX0, "quitLine", "(I)V"⟩
abbrev cX0_placeOf : ByteArray := prog_1_method_21_code
def yX0_placeOf : MethodName := ⟨RX0, "placeOf", "(I)I"⟩
abbrev cX0_settleFirst : ByteArray := prog_1_method_22_code
def yX0_settleFirst : MethodName := ⟨RX0, "settleFirst", "()V"⟩
abbrev cX0_isBefore : ByteArray := prog_1_method_23_code
def yX0_isBefore : MethodName := ⟨RX0, "isBefore", "(II)Z"⟩
def RX1 : String := "StrideHeapModel"
def TX1 : u_T := fun k => match k with
  | 0 => ("StrideHeapModel", "cap", "I", true)
  | 1 => ("StrideHeapModel", "big", "I", true)
  | 2 => ("StrideHeapModel", "in", "[Z", true)
  | 3 => ("StrideHeapModel", "tickets", "[I", true)
  | 4 => ("StrideHeapModel", "pass", "[J", true)
  | 5 => ("StrideHeapModel", "ran", "[I", true)
  | 6 => ("StrideHeapModel", "many", "I", false)
  | _ => ("StrideHeapModel", "latest", "J", false)
def tyX1 : Nat → FieldType := fun k => match k with
  | 0 => .int
  | 1 => .int
  | 2 => .array .boolean
  | 3 => .array .int
  | 4 => .array .long
  | 5 => .array .int
  | 6 => .int
  | _ => .long
abbrev wsX10 : List Cond := u_ws RX1 TX1 8
theorem nmX1 : ∀ a, a < 8 → ∀ b, b < 8 → a ≠ b → (TX1 a).2.1 ≠ (TX1 b).2.1 := by decide +kernel
theorem tyX1_ok : ∀ k, k < 8 → parseFieldDescriptor (TX1 k).2.2.1 = some (tyX1 k) := by decide +kernel
abbrev cX1_init : ByteArray := prog_3_method_1_code
def yX1_init : MethodName := ⟨RX1, "<init>", "(II)V"⟩
abbrev cX1_isClient : ByteArray := prog_3_method_2_code
def yX1_isClient : MethodName := ⟨RX1, "isClient", "(I)Z"⟩
abbrev cX1_isIn : ByteArray := prog_3_method_3_code
def yX1_isIn : MethodName := ⟨RX1, "isIn", "(I)Z"⟩
abbrev cX1_areTickets : ByteArray := prog_3_method_4_code
def yX1_areTickets : MethodName := ⟨RX1, "areTickets", "(I)Z"⟩
abbrev cX1_isBefore : ByteArray := prog_3_method_5_code
def yX1_isBefore : MethodName := ⟨RX1, "isBefore", "(II)Z"⟩
abbrev cX1_first : ByteArray := prog_3_method_6_code
def yX1_first : MethodName := ⟨RX1, "first", "()I"⟩
abbrev cX1_join : ByteArray := prog_3_method_7_code
def yX1_join : MethodName := ⟨RX1, "join", "(II)I"⟩
abbrev cX1_leave : ByteArray := prog_3_method_8_code
def yX1_leave : MethodName := ⟨RX1, "leave", "(I)I"⟩
abbrev cX1_next : ByteArray := prog_3_method_9_code
def yX1_next : MethodName := ⟨RX1, "next", "()I"⟩
abbrev cX1_turns : ByteArray := prog_3_method_10_code
def yX1_turns : MethodName := ⟨RX1, "turns", "(I)I"⟩
abbrev cX1_change : ByteArray := prog_3_method_11_code
def yX1_change : MethodName := ⟨RX1, "change", "(II)I"⟩
abbrev cX1_ranOf : ByteArray := prog_3_method_12_code
def yX1_ranOf : MethodName := ⟨RX1, "ranOf", "(I)I"⟩
abbrev cX1_passOf : ByteArray := prog_3_method_13_code
def yX1_passOf : MethodName := ⟨RX1, "passOf", "(I)I"⟩
abbrev cX1_strideOf : ByteArray := prog_3_method_14_code
def yX1_strideOf : MethodName := ⟨RX1, "strideOf", "(I)I"⟩
abbrev cX1_clients : ByteArray := prog_3_method_15_code
def yX1_clients : MethodName := ⟨RX1, "clients", "()I"⟩
abbrev cX1_spread : ByteArray := prog_3_method_16_code
def yX1_spread : MethodName := ⟨RX1, "spread", "()I"⟩
abbrev cX1_order : ByteArray := prog_3_method_17_code
def yX1_order : MethodName := ⟨RX1, "order", "(I)I"⟩
def RJ9 : String := "java/lang/Math"
def TJ9 : u_T := fun k => match k with
  | _ => ("", "", "", false)
def tyJ9 : Nat → FieldType := fun k => match k with
  | _ => .int
abbrev wsJ90 : List Cond := u_ws RJ9 TJ9 0
theorem nmJ9 : ∀ a, a < 0 → ∀ b, b < 0 → a ≠ b → (TJ9 a).2.1 ≠ (TJ9 b).2.1 := by decide +kernel
theorem tyJ9_ok : ∀ k, k < 0 → parseFieldDescriptor (TJ9 k).2.2.1 = some (tyJ9 k) := by decide +kernel
abbrev cJ9_floorMod_7cf53 : ByteArray := prog_4_method_50_code
def yJ9_floorMod_7cf53 : MethodName := ⟨RJ9, "floorMod", "(II)I"⟩
def RJ10 : String := "java/lang/System"
def TJ10 : u_T := fun k => match k with
  | _ => ("", "", "", false)
def tyJ10 : Nat → FieldType := fun k => match k with
  | _ => .int
abbrev wsJ100 : List Cond := u_ws RJ10 TJ10 0
theorem nmJ10 : ∀ a, a < 0 → ∀ b, b < 0 → a ≠ b → (TJ10 a).2.1 ≠ (TJ10 b).2.1 := by decide +kernel
theorem tyJ10_ok : ∀ k, k < 0 → parseFieldDescriptor (TJ10 k).2.2.1 = some (tyJ10 k) := by decide +kernel
def RL : String := "StrideHeapLaw"
abbrev cL_cell : ByteArray := method_2_code
def yL_cell : MethodName := ⟨RL, "cell", "([II)I"⟩
abbrev cL_law : ByteArray := code
def yL_law : MethodName := ⟨RL, "law", "([I)Z"⟩
def wsJ9_floorMod_7cf53 : List Cond := .code yJ9_floorMod_7cf53 cJ9_floorMod_7cf53 3 (some .int) :: ([])
def wsX0_init : List Cond := .code yX0_init cX0_init 3 none :: ([.methodLink RX0 1 objectInit, .instanceMethod objectInit, .code objectInit ⟨#[0xb1]⟩ 1 none, .fieldLink RX0 15 "StrideHeap" "cap" "I", .fieldLink RX0 19 "StrideHeap" "big" "I", .arrayClass .int, .fieldLink RX0 22 "StrideHeap" "ticketsOf" "[I", .fieldLink RX0 26 "StrideHeap" "strides" "[I", .fieldLink RX0 29 "StrideHeap" "passes" "[I", .fieldLink RX0 32 "StrideHeap" "ran" "[I", .fieldLink RX0 35 "StrideHeap" "line" "[I", .fieldLink RX0 38 "StrideHeap" "inLine" "I", .fieldLink RX0 41 "StrideHeap" "latestLeftPass" "I", .methodLink RX0 9 yJ9_floorMod_7cf53, .static yJ9_floorMod_7cf53, .initialized RJ9, .code yJ9_floorMod_7cf53 cJ9_floorMod_7cf53 3 (some .int)] ++ wsX00)
def wsX0_isClient : List Cond := .code yX0_isClient cX0_isClient 2 (some .boolean) :: ([.fieldLink RX0 15 "StrideHeap" "cap" "I"] ++ wsX00)
def wsX0_isIn : List Cond := .code yX0_isIn cX0_isIn 2 (some .boolean) :: ([.fieldLink RX0 22 "StrideHeap" "ticketsOf" "[I"] ++ wsX00)
def wsX0_areTickets : List Cond := .code yX0_areTickets cX0_areTickets 2 (some .boolean) :: ([.fieldLink RX0 19 "StrideHeap" "big" "I"] ++ wsX00)
def wsX0_joiningPass : List Cond := .code yX0_joiningPass cX0_joiningPass 1 (some .int) :: ([.fieldLink RX0 38 "StrideHeap" "inLine" "I", .fieldLink RX0 41 "StrideHeap" "latestLeftPass" "I", .fieldLink RX0 29 "StrideHeap" "passes" "[I", .fieldLink RX0 35 "StrideHeap" "line" "[I"] ++ wsX00)
def wsX0_giveTickets : List Cond := .code yX0_giveTickets cX0_giveTickets 3 none :: ([.fieldLink RX0 22 "StrideHeap" "ticketsOf" "[I", .fieldLink RX0 26 "StrideHeap" "strides" "[I", .fieldLink RX0 19 "StrideHeap" "big" "I"] ++ wsX00)
def wsX0_isBefore : List Cond := .code yX0_isBefore cX0_isBefore 3 (some .boolean) :: ([.fieldLink RX0 29 "StrideHeap" "passes" "[I"] ++ wsX00)
def wsX0_settleFirst : List Cond := .code yX0_settleFirst cX0_settleFirst 3 none :: ([.fieldLink RX0 35 "StrideHeap" "line" "[I", .fieldLink RX0 38 "StrideHeap" "inLine" "I", .methodLink RX0 87 yX0_isBefore, .instanceMethod yX0_isBefore, .selects RX0 yX0_isBefore yX0_isBefore, .initialized RX0, .code yX0_isBefore cX0_isBefore 3 (some .boolean), .fieldLink RX0 29 "StrideHeap" "passes" "[I"] ++ wsX00)
def wsX0_enterLine : List Cond := .code yX0_enterLine cX0_enterLine 2 none :: ([.fieldLink RX0 35 "StrideHeap" "line" "[I", .fieldLink RX0 38 "StrideHeap" "inLine" "I", .methodLink RX0 77 arraycopyName, .native arraycopyName, .static arraycopyName, .initialized "java/lang/System", .methodLink RX0 74 yX0_settleFirst, .instanceMethod yX0_settleFirst, .selects RX0 yX0_settleFirst yX0_settleFirst, .initialized RX0, .code yX0_settleFirst cX0_settleFirst 3 none, .methodLink RX0 87 yX0_isBefore, .instanceMethod yX0_isBefore, .selects RX0 yX0_isBefore yX0_isBefore, .code yX0_isBefore cX0_isBefore 3 (some .boolean), .fieldLink RX0 29 "StrideHeap" "passes" "[I"] ++ wsX00)
def wsX0_join_r1 : List Cond := [Cond.fieldLink RX0 29 "StrideHeap" "passes" "[I", Cond.methodLink RX0 44 yX0_isClient, Cond.instanceMethod yX0_isClient, Cond.selects RX0 yX0_isClient yX0_isClient, Cond.initialized RX0, Cond.code yX0_isClient cX0_isClient 2 (some .boolean), Cond.fieldLink RX0 15 "StrideHeap" "cap" "I", Cond.methodLink RX0 48 yX0_isIn, Cond.instanceMethod yX0_isIn, Cond.selects RX0 yX0_isIn yX0_isIn, Cond.code yX0_isIn cX0_isIn 2 (some .boolean), Cond.fieldLink RX0 22 "StrideHeap" "ticketsOf" "[I", Cond.methodLink RX0 51 yX0_areTickets, Cond.instanceMethod yX0_areTickets, Cond.selects RX0 yX0_areTickets yX0_areTickets, Cond.code yX0_areTickets cX0_areTickets 2 (some .boolean), Cond.fieldLink RX0 19 "StrideHeap" "big" "I", Cond.methodLink RX0 54 yX0_joiningPass, Cond.instanceMethod yX0_joiningPass, Cond.selects RX0 yX0_joiningPass yX0_joiningPass, Cond.code yX0_joiningPass cX0_joiningPass 1 (some .int), Cond.fieldLink RX0 38 "StrideHeap" "inLine" "I", Cond.fieldLink RX0 41 "StrideHeap" "latestLeftPass" "I", Cond.fieldLink RX0 35 "StrideHeap" "line" "[I"]
def wsX0_join_r2 : List Cond := [Cond.methodLink RX0 58 yX0_giveTickets, Cond.instanceMethod yX0_giveTickets, Cond.selects RX0 yX0_giveTickets yX0_giveTickets, Cond.code yX0_giveTickets cX0_giveTickets 3 none, Cond.fieldLink RX0 26 "StrideHeap" "strides" "[I", Cond.methodLink RX0 62 yX0_enterLine, Cond.instanceMethod yX0_enterLine, Cond.selects RX0 yX0_enterLine yX0_enterLine, Cond.code yX0_enterLine cX0_enterLine 2 none, Cond.methodLink RX0 77 arraycopyName, Cond.native arraycopyName, Cond.static arraycopyName, Cond.initialized "java/lang/System", Cond.methodLink RX0 74 yX0_settleFirst, Cond.instanceMethod yX0_settleFirst, Cond.selects RX0 yX0_settleFirst yX0_settleFirst, Cond.code yX0_settleFirst cX0_settleFirst 3 none, Cond.methodLink RX0 87 yX0_isBefore, Cond.instanceMethod yX0_isBefore, Cond.selects RX0 yX0_isBefore yX0_isBefore, Cond.code yX0_isBefore cX0_isBefore 3 (some .boolean)]
def wsX0_join : List Cond := .code yX0_join cX0_join 3 (some .int) :: ((wsX0_join_r1 ++ wsX0_join_r2) ++ wsX00)
def wsX0_placeOf : List Cond := .code yX0_placeOf cX0_placeOf 3 (some .int) :: ([.fieldLink RX0 38 "StrideHeap" "inLine" "I", .fieldLink RX0 35 "StrideHeap" "line" "[I"] ++ wsX00)
def wsX0_quitLine : List Cond := .code yX0_quitLine cX0_quitLine 3 none :: ([.fieldLink RX0 35 "StrideHeap" "line" "[I", .fieldLink RX0 38 "StrideHeap" "inLine" "I", .methodLink RX0 77 arraycopyName, .native arraycopyName, .static arraycopyName, .initialized "java/lang/System", .methodLink RX0 83 yX0_placeOf, .instanceMethod yX0_placeOf, .selects RX0 yX0_placeOf yX0_placeOf, .initialized RX0, .code yX0_placeOf cX0_placeOf 3 (some .int)] ++ wsX00)
def wsX0_leave_r1 : List Cond := [Cond.fieldLink RX0 29 "StrideHeap" "passes" "[I", Cond.fieldLink RX0 41 "StrideHeap" "latestLeftPass" "I", Cond.fieldLink RX0 22 "StrideHeap" "ticketsOf" "[I", Cond.methodLink RX0 44 yX0_isClient, Cond.instanceMethod yX0_isClient, Cond.selects RX0 yX0_isClient yX0_isClient, Cond.initialized RX0, Cond.code yX0_isClient cX0_isClient 2 (some .boolean), Cond.fieldLink RX0 15 "StrideHeap" "cap" "I", Cond.methodLink RX0 48 yX0_isIn, Cond.instanceMethod yX0_isIn, Cond.selects RX0 yX0_isIn yX0_isIn, Cond.code yX0_isIn cX0_isIn 2 (some .boolean), Cond.methodLink RX0 66 yX0_quitLine, Cond.instanceMethod yX0_quitLine, Cond.selects RX0 yX0_quitLine yX0_quitLine, Cond.code yX0_quitLine cX0_quitLine 3 none, Cond.fieldLink RX0 35 "StrideHeap" "line" "[I", Cond.fieldLink RX0 38 "StrideHeap" "inLine" "I", Cond.methodLink RX0 77 arraycopyName, Cond.native arraycopyName, Cond.static arraycopyName, Cond.initialized "java/lang/System", Cond.methodLink RX0 83 yX0_placeOf]
def wsX0_leave_r2 : List Cond := [Cond.instanceMethod yX0_placeOf, Cond.selects RX0 yX0_placeOf yX0_placeOf, Cond.code yX0_placeOf cX0_placeOf 3 (some .int)]
def wsX0_leave : List Cond := .code yX0_leave cX0_leave 2 (some .int) :: ((wsX0_leave_r1 ++ wsX0_leave_r2) ++ wsX00)
def wsX0_giveTurn : List Cond := .code yX0_giveTurn cX0_giveTurn 4 (some .int) :: ([.fieldLink RX0 38 "StrideHeap" "inLine" "I", .fieldLink RX0 35 "StrideHeap" "line" "[I", .fieldLink RX0 29 "StrideHeap" "passes" "[I", .fieldLink RX0 26 "StrideHeap" "strides" "[I", .constantLong RX0 72 (2147483647), .fieldLink RX0 32 "StrideHeap" "ran" "[I", .methodLink RX0 74 yX0_settleFirst, .instanceMethod yX0_settleFirst, .selects RX0 yX0_settleFirst yX0_settleFirst, .initialized RX0, .code yX0_settleFirst cX0_settleFirst 3 none, .methodLink RX0 87 yX0_isBefore, .instanceMethod yX0_isBefore, .selects RX0 yX0_isBefore yX0_isBefore, .code yX0_isBefore cX0_isBefore 3 (some .boolean)] ++ wsX00)
def wsX0_next : List Cond := .code yX0_next cX0_next 1 (some .int) :: ([.methodLink RX0 69 yX0_giveTurn, .instanceMethod yX0_giveTurn, .selects RX0 yX0_giveTurn yX0_giveTurn, .initialized RX0, .code yX0_giveTurn cX0_giveTurn 4 (some .int), .fieldLink RX0 38 "StrideHeap" "inLine" "I", .fieldLink RX0 35 "StrideHeap" "line" "[I", .fieldLink RX0 29 "StrideHeap" "passes" "[I", .fieldLink RX0 26 "StrideHeap" "strides" "[I", .constantLong RX0 72 (2147483647), .fieldLink RX0 32 "StrideHeap" "ran" "[I", .methodLink RX0 74 yX0_settleFirst, .instanceMethod yX0_settleFirst, .selects RX0 yX0_settleFirst yX0_settleFirst, .code yX0_settleFirst cX0_settleFirst 3 none, .methodLink RX0 87 yX0_isBefore, .instanceMethod yX0_isBefore, .selects RX0 yX0_isBefore yX0_isBefore, .code yX0_isBefore cX0_isBefore 3 (some .boolean)] ++ wsX00)
def wsX0_turns : List Cond := .code yX0_turns cX0_turns 3 (some .int) :: ([.methodLink RX0 69 yX0_giveTurn, .instanceMethod yX0_giveTurn, .selects RX0 yX0_giveTurn yX0_giveTurn, .initialized RX0, .code yX0_giveTurn cX0_giveTurn 4 (some .int), .fieldLink RX0 38 "StrideHeap" "inLine" "I", .fieldLink RX0 35 "StrideHeap" "line" "[I", .fieldLink RX0 29 "StrideHeap" "passes" "[I", .fieldLink RX0 26 "StrideHeap" "strides" "[I", .constantLong RX0 72 (2147483647), .fieldLink RX0 32 "StrideHeap" "ran" "[I", .methodLink RX0 74 yX0_settleFirst, .instanceMethod yX0_settleFirst, .selects RX0 yX0_settleFirst yX0_settleFirst, .code yX0_settleFirst cX0_settleFirst 3 none, .methodLink RX0 87 yX0_isBefore, .instanceMethod yX0_isBefore, .selects RX0 yX0_isBefore yX0_isBefore, .code yX0_isBefore cX0_isBefore 3 (some .boolean)] ++ wsX00)
def wsX0_change : List Cond := .code yX0_change cX0_change 4 (some .int) :: ([.fieldLink RX0 22 "StrideHeap" "ticketsOf" "[I", .methodLink RX0 44 yX0_isClient, .instanceMethod yX0_isClient, .selects RX0 yX0_isClient yX0_isClient, .initialized RX0, .code yX0_isClient cX0_isClient 2 (some .boolean), .fieldLink RX0 15 "StrideHeap" "cap" "I", .methodLink RX0 48 yX0_isIn, .instanceMethod yX0_isIn, .selects RX0 yX0_isIn yX0_isIn, .code yX0_isIn cX0_isIn 2 (some .boolean), .methodLink RX0 51 yX0_areTickets, .instanceMethod yX0_areTickets, .selects RX0 yX0_areTickets yX0_areTickets, .code yX0_areTickets cX0_areTickets 2 (some .boolean), .fieldLink RX0 19 "StrideHeap" "big" "I", .methodLink RX0 58 yX0_giveTickets, .instanceMethod yX0_giveTickets, .selects RX0 yX0_giveTickets yX0_giveTickets, .code yX0_giveTickets cX0_giveTickets 3 none, .fieldLink RX0 26 "StrideHeap" "strides" "[I"] ++ wsX00)
def wsX0_ranOf : List Cond := .code yX0_ranOf cX0_ranOf 2 (some .int) :: ([.fieldLink RX0 32 "StrideHeap" "ran" "[I", .methodLink RX0 44 yX0_isClient, .instanceMethod yX0_isClient, .selects RX0 yX0_isClient yX0_isClient, .initialized RX0, .code yX0_isClient cX0_isClient 2 (some .boolean), .fieldLink RX0 15 "StrideHeap" "cap" "I"] ++ wsX00)
def wsX0_passOf : List Cond := .code yX0_passOf cX0_passOf 2 (some .int) :: ([.fieldLink RX0 29 "StrideHeap" "passes" "[I", .methodLink RX0 44 yX0_isClient, .instanceMethod yX0_isClient, .selects RX0 yX0_isClient yX0_isClient, .initialized RX0, .code yX0_isClient cX0_isClient 2 (some .boolean), .fieldLink RX0 15 "StrideHeap" "cap" "I", .methodLink RX0 48 yX0_isIn, .instanceMethod yX0_isIn, .selects RX0 yX0_isIn yX0_isIn, .code yX0_isIn cX0_isIn 2 (some .boolean), .fieldLink RX0 22 "StrideHeap" "ticketsOf" "[I"] ++ wsX00)
def wsX0_strideOf : List Cond := .code yX0_strideOf cX0_strideOf 2 (some .int) :: ([.fieldLink RX0 26 "StrideHeap" "strides" "[I", .methodLink RX0 44 yX0_isClient, .instanceMethod yX0_isClient, .selects RX0 yX0_isClient yX0_isClient, .initialized RX0, .code yX0_isClient cX0_isClient 2 (some .boolean), .fieldLink RX0 15 "StrideHeap" "cap" "I", .methodLink RX0 48 yX0_isIn, .instanceMethod yX0_isIn, .selects RX0 yX0_isIn yX0_isIn, .code yX0_isIn cX0_isIn 2 (some .boolean), .fieldLink RX0 22 "StrideHeap" "ticketsOf" "[I"] ++ wsX00)
def wsX0_clients : List Cond := .code yX0_clients cX0_clients 1 (some .int) :: ([.fieldLink RX0 38 "StrideHeap" "inLine" "I"] ++ wsX00)
def wsX0_spread : List Cond := .code yX0_spread cX0_spread 1 (some .int) :: ([.fieldLink RX0 38 "StrideHeap" "inLine" "I", .fieldLink RX0 29 "StrideHeap" "passes" "[I", .fieldLink RX0 35 "StrideHeap" "line" "[I"] ++ wsX00)
def wsX0_order : List Cond := .code yX0_order cX0_order 2 (some .int) :: ([.fieldLink RX0 38 "StrideHeap" "inLine" "I", .fieldLink RX0 35 "StrideHeap" "line" "[I"] ++ wsX00)
def wsX1_init : List Cond := .code yX1_init cX1_init 4 none :: ([.methodLink RX1 1 objectInit, .instanceMethod objectInit, .code objectInit ⟨#[0xb1]⟩ 1 none, .arrayClass .boolean, .fieldLink RX1 7 "StrideHeapModel" "in" "[Z", .arrayClass .int, .fieldLink RX1 13 "StrideHeapModel" "tickets" "[I", .arrayClass .long, .fieldLink RX1 17 "StrideHeapModel" "pass" "[J", .fieldLink RX1 21 "StrideHeapModel" "ran" "[I", .fieldLink RX1 24 "StrideHeapModel" "cap" "I", .fieldLink RX1 28 "StrideHeapModel" "big" "I"] ++ wsX10)
def wsX1_isClient : List Cond := .code yX1_isClient cX1_isClient 2 (some .boolean) :: ([.fieldLink RX1 24 "StrideHeapModel" "cap" "I"] ++ wsX10)
def wsX1_isIn : List Cond := .code yX1_isIn cX1_isIn 2 (some .boolean) :: ([.fieldLink RX1 7 "StrideHeapModel" "in" "[Z", .methodLink RX1 31 yX1_isClient, .instanceMethod yX1_isClient, .selects RX1 yX1_isClient yX1_isClient, .initialized RX1, .code yX1_isClient cX1_isClient 2 (some .boolean), .fieldLink RX1 24 "StrideHeapModel" "cap" "I"] ++ wsX10)
def wsX1_areTickets : List Cond := .code yX1_areTickets cX1_areTickets 2 (some .boolean) :: ([.fieldLink RX1 28 "StrideHeapModel" "big" "I"] ++ wsX10)
def wsX1_isBefore : List Cond := .code yX1_isBefore cX1_isBefore 3 (some .boolean) :: ([.fieldLink RX1 17 "StrideHeapModel" "pass" "[J"] ++ wsX10)
def wsX1_first : List Cond := .code yX1_first cX1_first 3 (some .int) :: ([.fieldLink RX1 24 "StrideHeapModel" "cap" "I", .fieldLink RX1 7 "StrideHeapModel" "in" "[Z", .methodLink RX1 35 yX1_isBefore, .instanceMethod yX1_isBefore, .selects RX1 yX1_isBefore yX1_isBefore, .initialized RX1, .code yX1_isBefore cX1_isBefore 3 (some .boolean), .fieldLink RX1 17 "StrideHeapModel" "pass" "[J"] ++ wsX10)
def wsX1_join : List Cond := .code yX1_join cX1_join 4 (some .int) :: ([.fieldLink RX1 7 "StrideHeapModel" "in" "[Z", .fieldLink RX1 17 "StrideHeapModel" "pass" "[J", .fieldLink RX1 46 "StrideHeapModel" "latest" "J", .fieldLink RX1 13 "StrideHeapModel" "tickets" "[I", .fieldLink RX1 50 "StrideHeapModel" "many" "I", .methodLink RX1 31 yX1_isClient, .instanceMethod yX1_isClient, .selects RX1 yX1_isClient yX1_isClient, .initialized RX1, .code yX1_isClient cX1_isClient 2 (some .boolean), .fieldLink RX1 24 "StrideHeapModel" "cap" "I", .methodLink RX1 39 yX1_areTickets, .instanceMethod yX1_areTickets, .selects RX1 yX1_areTickets yX1_areTickets, .code yX1_areTickets cX1_areTickets 2 (some .boolean), .fieldLink RX1 28 "StrideHeapModel" "big" "I", .methodLink RX1 42 yX1_first, .instanceMethod yX1_first, .selects RX1 yX1_first yX1_first, .code yX1_first cX1_first 3 (some .int), .methodLink RX1 35 yX1_isBefore, .instanceMethod yX1_isBefore, .selects RX1 yX1_isBefore yX1_isBefore, .code yX1_isBefore cX1_isBefore 3 (some .boolean)] ++ wsX10)
def wsX1_leave : List Cond := .code yX1_leave cX1_leave 2 (some .int) :: ([.fieldLink RX1 7 "StrideHeapModel" "in" "[Z", .fieldLink RX1 17 "StrideHeapModel" "pass" "[J", .fieldLink RX1 46 "StrideHeapModel" "latest" "J", .fieldLink RX1 50 "StrideHeapModel" "many" "I", .methodLink RX1 31 yX1_isClient, .instanceMethod yX1_isClient, .selects RX1 yX1_isClient yX1_isClient, .initialized RX1, .code yX1_isClient cX1_isClient 2 (some .boolean), .fieldLink RX1 24 "StrideHeapModel" "cap" "I"] ++ wsX10)
def wsX1_next : List Cond := .code yX1_next cX1_next 4 (some .int) :: ([.fieldLink RX1 17 "StrideHeapModel" "pass" "[J", .fieldLink RX1 28 "StrideHeapModel" "big" "I", .fieldLink RX1 13 "StrideHeapModel" "tickets" "[I", .constantLong RX1 53 (2147483647), .fieldLink RX1 21 "StrideHeapModel" "ran" "[I", .methodLink RX1 42 yX1_first, .instanceMethod yX1_first, .selects RX1 yX1_first yX1_first, .initialized RX1, .code yX1_first cX1_first 3 (some .int), .fieldLink RX1 24 "StrideHeapModel" "cap" "I", .fieldLink RX1 7 "StrideHeapModel" "in" "[Z", .methodLink RX1 35 yX1_isBefore, .instanceMethod yX1_isBefore, .selects RX1 yX1_isBefore yX1_isBefore, .code yX1_isBefore cX1_isBefore 3 (some .boolean)] ++ wsX10)
def wsX1_turns : List Cond := .code yX1_turns cX1_turns 4 (some .int) :: ([.methodLink RX1 55 yX1_next, .instanceMethod yX1_next, .selects RX1 yX1_next yX1_next, .initialized RX1, .code yX1_next cX1_next 4 (some .int), .fieldLink RX1 17 "StrideHeapModel" "pass" "[J", .fieldLink RX1 28 "StrideHeapModel" "big" "I", .fieldLink RX1 13 "StrideHeapModel" "tickets" "[I", .constantLong RX1 53 (2147483647), .fieldLink RX1 21 "StrideHeapModel" "ran" "[I", .methodLink RX1 42 yX1_first, .instanceMethod yX1_first, .selects RX1 yX1_first yX1_first, .code yX1_first cX1_first 3 (some .int), .fieldLink RX1 24 "StrideHeapModel" "cap" "I", .fieldLink RX1 7 "StrideHeapModel" "in" "[Z", .methodLink RX1 35 yX1_isBefore, .instanceMethod yX1_isBefore, .selects RX1 yX1_isBefore yX1_isBefore, .code yX1_isBefore cX1_isBefore 3 (some .boolean)] ++ wsX10)
def wsX1_change : List Cond := .code yX1_change cX1_change 4 (some .int) :: ([.fieldLink RX1 7 "StrideHeapModel" "in" "[Z", .fieldLink RX1 13 "StrideHeapModel" "tickets" "[I", .methodLink RX1 31 yX1_isClient, .instanceMethod yX1_isClient, .selects RX1 yX1_isClient yX1_isClient, .initialized RX1, .code yX1_isClient cX1_isClient 2 (some .boolean), .fieldLink RX1 24 "StrideHeapModel" "cap" "I", .methodLink RX1 39 yX1_areTickets, .instanceMethod yX1_areTickets, .selects RX1 yX1_areTickets yX1_areTickets, .code yX1_areTickets cX1_areTickets 2 (some .boolean), .fieldLink RX1 28 "StrideHeapModel" "big" "I"] ++ wsX10)
def wsX1_ranOf : List Cond := .code yX1_ranOf cX1_ranOf 2 (some .int) :: ([.fieldLink RX1 21 "StrideHeapModel" "ran" "[I", .methodLink RX1 31 yX1_isClient, .instanceMethod yX1_isClient, .selects RX1 yX1_isClient yX1_isClient, .initialized RX1, .code yX1_isClient cX1_isClient 2 (some .boolean), .fieldLink RX1 24 "StrideHeapModel" "cap" "I"] ++ wsX10)
def wsX1_passOf : List Cond := .code yX1_passOf cX1_passOf 2 (some .int) :: ([.fieldLink RX1 17 "StrideHeapModel" "pass" "[J", .methodLink RX1 58 yX1_isIn, .instanceMethod yX1_isIn, .selects RX1 yX1_isIn yX1_isIn, .initialized RX1, .code yX1_isIn cX1_isIn 2 (some .boolean), .fieldLink RX1 7 "StrideHeapModel" "in" "[Z", .methodLink RX1 31 yX1_isClient, .instanceMethod yX1_isClient, .selects RX1 yX1_isClient yX1_isClient, .code yX1_isClient cX1_isClient 2 (some .boolean), .fieldLink RX1 24 "StrideHeapModel" "cap" "I"] ++ wsX10)
def wsX1_strideOf : List Cond := .code yX1_strideOf cX1_strideOf 2 (some .int) :: ([.fieldLink RX1 28 "StrideHeapModel" "big" "I", .fieldLink RX1 13 "StrideHeapModel" "tickets" "[I", .methodLink RX1 58 yX1_isIn, .instanceMethod yX1_isIn, .selects RX1 yX1_isIn yX1_isIn, .initialized RX1, .code yX1_isIn cX1_isIn 2 (some .boolean), .fieldLink RX1 7 "StrideHeapModel" "in" "[Z", .methodLink RX1 31 yX1_isClient, .instanceMethod yX1_isClient, .selects RX1 yX1_isClient yX1_isClient, .code yX1_isClient cX1_isClient 2 (some .boolean), .fieldLink RX1 24 "StrideHeapModel" "cap" "I"] ++ wsX10)
def wsX1_clients : List Cond := .code yX1_clients cX1_clients 1 (some .int) :: ([.fieldLink RX1 50 "StrideHeapModel" "many" "I"] ++ wsX10)
def wsX1_spread : List Cond := .code yX1_spread cX1_spread 5 (some .int) :: ([.fieldLink RX1 24 "StrideHeapModel" "cap" "I", .fieldLink RX1 7 "StrideHeapModel" "in" "[Z", .fieldLink RX1 17 "StrideHeapModel" "pass" "[J", .methodLink RX1 42 yX1_first, .instanceMethod yX1_first, .selects RX1 yX1_first yX1_first, .initialized RX1, .code yX1_first cX1_first 3 (some .int), .methodLink RX1 35 yX1_isBefore, .instanceMethod yX1_isBefore, .selects RX1 yX1_isBefore yX1_isBefore, .code yX1_isBefore cX1_isBefore 3 (some .boolean)] ++ wsX10)
def wsX1_order : List Cond := .code yX1_order cX1_order 5 (some .int) :: ([.fieldLink RX1 50 "StrideHeapModel" "many" "I", .fieldLink RX1 24 "StrideHeapModel" "cap" "I", .fieldLink RX1 7 "StrideHeapModel" "in" "[Z", .methodLink RX1 35 yX1_isBefore, .instanceMethod yX1_isBefore, .selects RX1 yX1_isBefore yX1_isBefore, .initialized RX1, .code yX1_isBefore cX1_isBefore 3 (some .boolean), .fieldLink RX1 17 "StrideHeapModel" "pass" "[J"] ++ wsX10)
def wsL_cell : List Cond := .code yL_cell cL_cell 2 (some .int) :: ([])
def wsL_law_r1 : List Cond := [Cond.classLink RL 7 RX0, Cond.instantiable RX0 9, Cond.initialized RX0, Cond.classLink RL 18 RX1, Cond.instantiable RX1 8, Cond.initialized RX1, Cond.methodLink RL 9 yL_cell, Cond.static yL_cell, Cond.initialized RL, Cond.code yL_cell cL_cell 2 (some .int), Cond.methodLink RL 15 yX0_init, Cond.instanceMethod yX0_init, Cond.code yX0_init cX0_init 3 none, Cond.methodLink RX0 1 objectInit, Cond.instanceMethod objectInit, Cond.code objectInit ⟨#[0xb1]⟩ 1 none, Cond.fieldLink RX0 15 "StrideHeap" "cap" "I", Cond.fieldLink RX0 19 "StrideHeap" "big" "I", Cond.arrayClass .int, Cond.fieldLink RX0 22 "StrideHeap" "ticketsOf" "[I", Cond.fieldLink RX0 26 "StrideHeap" "strides" "[I", Cond.fieldLink RX0 29 "StrideHeap" "passes" "[I", Cond.fieldLink RX0 32 "StrideHeap" "ran" "[I", Cond.fieldLink RX0 35 "StrideHeap" "line" "[I"]
def wsL_law_r2 : List Cond := [Cond.fieldLink RX0 38 "StrideHeap" "inLine" "I", Cond.fieldLink RX0 41 "StrideHeap" "latestLeftPass" "I", Cond.methodLink RX0 9 yJ9_floorMod_7cf53, Cond.static yJ9_floorMod_7cf53, Cond.initialized RJ9, Cond.code yJ9_floorMod_7cf53 cJ9_floorMod_7cf53 3 (some .int), Cond.methodLink RL 20 yX1_init, Cond.instanceMethod yX1_init, Cond.code yX1_init cX1_init 4 none, Cond.methodLink RX1 1 objectInit, Cond.arrayClass .boolean, Cond.fieldLink RX1 7 "StrideHeapModel" "in" "[Z", Cond.fieldLink RX1 13 "StrideHeapModel" "tickets" "[I", Cond.arrayClass .long, Cond.fieldLink RX1 17 "StrideHeapModel" "pass" "[J", Cond.fieldLink RX1 21 "StrideHeapModel" "ran" "[I", Cond.fieldLink RX1 24 "StrideHeapModel" "cap" "I", Cond.fieldLink RX1 28 "StrideHeapModel" "big" "I", Cond.methodLink RL 21 yX0_join, Cond.instanceMethod yX0_join, Cond.selects RX0 yX0_join yX0_join, Cond.code yX0_join cX0_join 3 (some .int), Cond.methodLink RX0 44 yX0_isClient, Cond.instanceMethod yX0_isClient]
def wsL_law_r3 : List Cond := [Cond.selects RX0 yX0_isClient yX0_isClient, Cond.code yX0_isClient cX0_isClient 2 (some .boolean), Cond.methodLink RX0 48 yX0_isIn, Cond.instanceMethod yX0_isIn, Cond.selects RX0 yX0_isIn yX0_isIn, Cond.code yX0_isIn cX0_isIn 2 (some .boolean), Cond.methodLink RX0 51 yX0_areTickets, Cond.instanceMethod yX0_areTickets, Cond.selects RX0 yX0_areTickets yX0_areTickets, Cond.code yX0_areTickets cX0_areTickets 2 (some .boolean), Cond.methodLink RX0 54 yX0_joiningPass, Cond.instanceMethod yX0_joiningPass, Cond.selects RX0 yX0_joiningPass yX0_joiningPass, Cond.code yX0_joiningPass cX0_joiningPass 1 (some .int), Cond.methodLink RX0 58 yX0_giveTickets, Cond.instanceMethod yX0_giveTickets, Cond.selects RX0 yX0_giveTickets yX0_giveTickets, Cond.code yX0_giveTickets cX0_giveTickets 3 none, Cond.methodLink RX0 62 yX0_enterLine, Cond.instanceMethod yX0_enterLine, Cond.selects RX0 yX0_enterLine yX0_enterLine, Cond.code yX0_enterLine cX0_enterLine 2 none, Cond.methodLink RX0 77 arraycopyName, Cond.native arraycopyName]
def wsL_law_r4 : List Cond := [Cond.static arraycopyName, Cond.initialized "java/lang/System", Cond.methodLink RX0 74 yX0_settleFirst, Cond.instanceMethod yX0_settleFirst, Cond.selects RX0 yX0_settleFirst yX0_settleFirst, Cond.code yX0_settleFirst cX0_settleFirst 3 none, Cond.methodLink RX0 87 yX0_isBefore, Cond.instanceMethod yX0_isBefore, Cond.selects RX0 yX0_isBefore yX0_isBefore, Cond.code yX0_isBefore cX0_isBefore 3 (some .boolean), Cond.methodLink RL 25 yX1_join, Cond.instanceMethod yX1_join, Cond.selects RX1 yX1_join yX1_join, Cond.code yX1_join cX1_join 4 (some .int), Cond.fieldLink RX1 46 "StrideHeapModel" "latest" "J", Cond.fieldLink RX1 50 "StrideHeapModel" "many" "I", Cond.methodLink RX1 31 yX1_isClient, Cond.instanceMethod yX1_isClient, Cond.selects RX1 yX1_isClient yX1_isClient, Cond.code yX1_isClient cX1_isClient 2 (some .boolean), Cond.methodLink RX1 39 yX1_areTickets, Cond.instanceMethod yX1_areTickets, Cond.selects RX1 yX1_areTickets yX1_areTickets, Cond.code yX1_areTickets cX1_areTickets 2 (some .boolean)]
def wsL_law_r5 : List Cond := [Cond.methodLink RX1 42 yX1_first, Cond.instanceMethod yX1_first, Cond.selects RX1 yX1_first yX1_first, Cond.code yX1_first cX1_first 3 (some .int), Cond.methodLink RX1 35 yX1_isBefore, Cond.instanceMethod yX1_isBefore, Cond.selects RX1 yX1_isBefore yX1_isBefore, Cond.code yX1_isBefore cX1_isBefore 3 (some .boolean), Cond.methodLink RL 26 yX0_leave, Cond.instanceMethod yX0_leave, Cond.selects RX0 yX0_leave yX0_leave, Cond.code yX0_leave cX0_leave 2 (some .int), Cond.methodLink RX0 66 yX0_quitLine, Cond.instanceMethod yX0_quitLine, Cond.selects RX0 yX0_quitLine yX0_quitLine, Cond.code yX0_quitLine cX0_quitLine 3 none, Cond.methodLink RX0 83 yX0_placeOf, Cond.instanceMethod yX0_placeOf, Cond.selects RX0 yX0_placeOf yX0_placeOf, Cond.code yX0_placeOf cX0_placeOf 3 (some .int), Cond.methodLink RL 30 yX1_leave, Cond.instanceMethod yX1_leave, Cond.selects RX1 yX1_leave yX1_leave, Cond.code yX1_leave cX1_leave 2 (some .int)]
def wsL_law_r6 : List Cond := [Cond.methodLink RL 31 yX0_next, Cond.instanceMethod yX0_next, Cond.selects RX0 yX0_next yX0_next, Cond.code yX0_next cX0_next 1 (some .int), Cond.methodLink RX0 69 yX0_giveTurn, Cond.instanceMethod yX0_giveTurn, Cond.selects RX0 yX0_giveTurn yX0_giveTurn, Cond.code yX0_giveTurn cX0_giveTurn 4 (some .int), Cond.constantLong RX0 72 (2147483647), Cond.methodLink RL 35 yX1_next, Cond.instanceMethod yX1_next, Cond.selects RX1 yX1_next yX1_next, Cond.code yX1_next cX1_next 4 (some .int), Cond.constantLong RX1 53 (2147483647), Cond.methodLink RL 36 yX0_turns, Cond.instanceMethod yX0_turns, Cond.selects RX0 yX0_turns yX0_turns, Cond.code yX0_turns cX0_turns 3 (some .int), Cond.methodLink RL 39 yX1_turns, Cond.instanceMethod yX1_turns, Cond.selects RX1 yX1_turns yX1_turns, Cond.code yX1_turns cX1_turns 4 (some .int), Cond.methodLink RX1 55 yX1_next, Cond.methodLink RL 40 yX0_change]
def wsL_law_r7 : List Cond := [Cond.instanceMethod yX0_change, Cond.selects RX0 yX0_change yX0_change, Cond.code yX0_change cX0_change 4 (some .int), Cond.methodLink RL 43 yX1_change, Cond.instanceMethod yX1_change, Cond.selects RX1 yX1_change yX1_change, Cond.code yX1_change cX1_change 4 (some .int), Cond.methodLink RL 44 yX0_ranOf, Cond.instanceMethod yX0_ranOf, Cond.selects RX0 yX0_ranOf yX0_ranOf, Cond.code yX0_ranOf cX0_ranOf 2 (some .int), Cond.methodLink RL 47 yX1_ranOf, Cond.instanceMethod yX1_ranOf, Cond.selects RX1 yX1_ranOf yX1_ranOf, Cond.code yX1_ranOf cX1_ranOf 2 (some .int), Cond.methodLink RL 48 yX0_passOf, Cond.instanceMethod yX0_passOf, Cond.selects RX0 yX0_passOf yX0_passOf, Cond.code yX0_passOf cX0_passOf 2 (some .int), Cond.methodLink RL 51 yX1_passOf, Cond.instanceMethod yX1_passOf, Cond.selects RX1 yX1_passOf yX1_passOf, Cond.code yX1_passOf cX1_passOf 2 (some .int), Cond.methodLink RX1 58 yX1_isIn]
def wsL_law_r8 : List Cond := [Cond.instanceMethod yX1_isIn, Cond.selects RX1 yX1_isIn yX1_isIn, Cond.code yX1_isIn cX1_isIn 2 (some .boolean), Cond.methodLink RL 52 yX0_strideOf, Cond.instanceMethod yX0_strideOf, Cond.selects RX0 yX0_strideOf yX0_strideOf, Cond.code yX0_strideOf cX0_strideOf 2 (some .int), Cond.methodLink RL 55 yX1_strideOf, Cond.instanceMethod yX1_strideOf, Cond.selects RX1 yX1_strideOf yX1_strideOf, Cond.code yX1_strideOf cX1_strideOf 2 (some .int), Cond.methodLink RL 56 yX0_clients, Cond.instanceMethod yX0_clients, Cond.selects RX0 yX0_clients yX0_clients, Cond.code yX0_clients cX0_clients 1 (some .int), Cond.methodLink RL 59 yX1_clients, Cond.instanceMethod yX1_clients, Cond.selects RX1 yX1_clients yX1_clients, Cond.code yX1_clients cX1_clients 1 (some .int), Cond.methodLink RL 60 yX0_spread, Cond.instanceMethod yX0_spread, Cond.selects RX0 yX0_spread yX0_spread, Cond.code yX0_spread cX0_spread 1 (some .int), Cond.methodLink RL 63 yX1_spread]
def wsL_law_r9 : List Cond := [Cond.instanceMethod yX1_spread, Cond.selects RX1 yX1_spread yX1_spread, Cond.code yX1_spread cX1_spread 5 (some .int), Cond.methodLink RL 64 yX0_order, Cond.instanceMethod yX0_order, Cond.selects RX0 yX0_order yX0_order, Cond.code yX0_order cX0_order 2 (some .int), Cond.methodLink RL 67 yX1_order, Cond.instanceMethod yX1_order, Cond.selects RX1 yX1_order yX1_order, Cond.code yX1_order cX1_order 5 (some .int)]
def wsL_law : List Cond := (wsL_law_r1 ++ (wsL_law_r2 ++ (wsL_law_r3 ++ (wsL_law_r4 ++ (wsL_law_r5 ++ (wsL_law_r6 ++ (wsL_law_r7 ++ (wsL_law_r8 ++ wsL_law_r9)))))))) ++ wsX00 ++ wsX10 ++ ([] : List Cond)
set_option maxRecDepth 20000 in
theorem wsL_law_in : ∀ w ∈ wsL_law, w ∈ lw_tbl := fun w h => (goodIn_p wsL_law [155, 25, 28, 31, 160, 64, 68, 72, 76, 80, 84, 88, 95, 99, 192, 196, 200, 204, 208, 103, 107, 111, 212, 115, 119, 216, 124, 221, 128, 226, 132, 230, 136, 234, 238, 140, 242, 144, 246, 148, 250, 152, 254] (by decide +kernel) (by decide +kernel) w h).1
theorem inlX0 : ∀ w ∈ wsX00, w ∈ wsL_law := fun _ h => List.mem_append_left _ (List.mem_append_left _ (List.mem_append_right _ h))
theorem inX0 : ∀ w ∈ wsX00, w ∈ lw_tbl := fun w h => wsL_law_in w (inlX0 w h)
theorem inlX1 : ∀ w ∈ wsX10, w ∈ wsL_law := fun _ h => List.mem_append_left _ (List.mem_append_right _ h)
theorem inX1 : ∀ w ∈ wsX10, w ∈ lw_tbl := fun w h => wsL_law_in w (inlX1 w h)
theorem inJ9 : ∀ w ∈ wsJ90, w ∈ lw_tbl := by decide +kernel
theorem inJ10 : ∀ w ∈ wsJ100, w ∈ lw_tbl := by decide +kernel
set_option maxRecDepth 20000 in
theorem ggX0_init_J9_floorMod_7cf53 : GoodIn wsX0_init wsJ9_floorMod_7cf53 := goodIn_r _ [17] (by decide +kernel) (by decide +kernel)
set_option maxRecDepth 20000 in
theorem gX0_init_J9_floorMod_7cf53 : GoodIn wsX0_init (va_wsS RX0 9 yJ9_floorMod_7cf53 wsJ9_floorMod_7cf53) := goodIn_app (goodIn_of _ (by decide +kernel)) ggX0_init_J9_floorMod_7cf53
theorem dX0_init_0 : decode cX0_init 0 = .ok (.aload_n 0, 1) := by decide +kernel
theorem dX0_init_1 : decode cX0_init 1 = .ok (.invokespecial 1, 3) := by decide +kernel
theorem dX0_init_4 : decode cX0_init 4 = .ok (.aload_n 0, 1) := by decide +kernel
theorem dX0_init_5 : decode cX0_init 5 = .ok (.iconst 1, 1) := by decide +kernel
theorem dX0_init_6 : decode cX0_init 6 = .ok (.iload_n 1, 1) := by decide +kernel
theorem dX0_init_7 : decode cX0_init 7 = .ok (.bipush 64, 2) := by decide +kernel
theorem dX0_init_9 : decode cX0_init 9 = .ok (.invokestatic 9, 3) := by decide +kernel
theorem dX0_init_12 : decode cX0_init 12 = .ok (.iadd, 1) := by decide +kernel
theorem dX0_init_13 : decode cX0_init 13 = .ok (.putfield 15, 3) := by decide +kernel
theorem dX0_init_16 : decode cX0_init 16 = .ok (.aload_n 0, 1) := by decide +kernel
theorem dX0_init_17 : decode cX0_init 17 = .ok (.iconst 2, 1) := by decide +kernel
theorem dX0_init_18 : decode cX0_init 18 = .ok (.iload_n 2, 1) := by decide +kernel
theorem dX0_init_19 : decode cX0_init 19 = .ok (.sipush 32767, 3) := by decide +kernel
theorem dX0_init_22 : decode cX0_init 22 = .ok (.invokestatic 9, 3) := by decide +kernel
theorem dX0_init_25 : decode cX0_init 25 = .ok (.iadd, 1) := by decide +kernel
theorem dX0_init_26 : decode cX0_init 26 = .ok (.putfield 19, 3) := by decide +kernel
theorem dX0_init_29 : decode cX0_init 29 = .ok (.aload_n 0, 1) := by decide +kernel
theorem dX0_init_30 : decode cX0_init 30 = .ok (.aload_n 0, 1) := by decide +kernel
theorem dX0_init_31 : decode cX0_init 31 = .ok (.getfield 15, 3) := by decide +kernel
theorem dX0_init_34 : decode cX0_init 34 = .ok (.newarray .int, 2) := by decide +kernel
theorem dX0_init_36 : decode cX0_init 36 = .ok (.putfield 22, 3) := by decide +kernel
theorem dX0_init_39 : decode cX0_init 39 = .ok (.aload_n 0, 1) := by decide +kernel
theorem dX0_init_40 : decode cX0_init 40 = .ok (.aload_n 0, 1) := by decide +kernel
theorem dX0_init_41 : decode cX0_init 41 = .ok (.getfield 15, 3) := by decide +kernel
theorem dX0_init_44 : decode cX0_init 44 = .ok (.newarray .int, 2) := by decide +kernel
theorem dX0_init_46 : decode cX0_init 46 = .ok (.putfield 26, 3) := by decide +kernel
theorem dX0_init_49 : decode cX0_init 49 = .ok (.aload_n 0, 1) := by decide +kernel
theorem dX0_init_50 : decode cX0_init 50 = .ok (.aload_n 0, 1) := by decide +kernel
theorem dX0_init_51 : decode cX0_init 51 = .ok (.getfield 15, 3) := by decide +kernel
theorem dX0_init_54 : decode cX0_init 54 = .ok (.newarray .int, 2) := by decide +kernel
theorem dX0_init_56 : decode cX0_init 56 = .ok (.putfield 29, 3) := by decide +kernel
theorem dX0_init_59 : decode cX0_init 59 = .ok (.aload_n 0, 1) := by decide +kernel
theorem dX0_init_60 : decode cX0_init 60 = .ok (.aload_n 0, 1) := by decide +kernel
theorem dX0_init_61 : decode cX0_init 61 = .ok (.getfield 15, 3) := by decide +kernel
theorem dX0_init_64 : decode cX0_init 64 = .ok (.newarray .int, 2) := by decide +kernel
theorem dX0_init_66 : decode cX0_init 66 = .ok (.putfield 32, 3) := by decide +kernel
theorem dX0_init_69 : decode cX0_init 69 = .ok (.aload_n 0, 1) := by decide +kernel
theorem dX0_init_70 : decode cX0_init 70 = .ok (.aload_n 0, 1) := by decide +kernel
theorem dX0_init_71 : decode cX0_init 71 = .ok (.getfield 15, 3) := by decide +kernel
theorem dX0_init_74 : decode cX0_init 74 = .ok (.newarray .int, 2) := by decide +kernel
theorem dX0_init_76 : decode cX0_init 76 = .ok (.putfield 35, 3) := by decide +kernel
theorem dX0_init_79 : decode cX0_init 79 = .ok (.aload_n 0, 1) := by decide +kernel
theorem dX0_init_80 : decode cX0_init 80 = .ok (.iconst 0, 1) := by decide +kernel
theorem dX0_init_81 : decode cX0_init 81 = .ok (.putfield 38, 3) := by decide +kernel
theorem dX0_init_84 : decode cX0_init 84 = .ok (.aload_n 0, 1) := by decide +kernel
theorem dX0_init_85 : decode cX0_init 85 = .ok (.iconst 0, 1) := by decide +kernel
theorem dX0_init_86 : decode cX0_init 86 = .ok (.putfield 41, 3) := by decide +kernel
theorem dX0_init_89 : decode cX0_init 89 = .ok (.return_, 1) := by decide +kernel
set_option maxRecDepth 20000 in
theorem ggX0_join_X0_isClient : GoodIn wsX0_join wsX0_isClient := goodIn_r _ [6, 7, 46, 47, 48, 49, 50, 51, 52, 53, 54] (by decide +kernel) (by decide +kernel)
set_option maxRecDepth 20000 in
theorem gX0_join_X0_isClient : GoodIn wsX0_join (wsV RX0 44 RX0 yX0_isClient wsX0_isClient) := goodIn_app (goodIn_of _ (by decide +kernel)) ggX0_join_X0_isClient
set_option maxRecDepth 20000 in
theorem ggX0_join_X0_isIn : GoodIn wsX0_join wsX0_isIn := goodIn_r _ [11, 12, 46, 47, 48, 49, 50, 51, 52, 53, 54] (by decide +kernel) (by decide +kernel)
set_option maxRecDepth 20000 in
theorem gX0_join_X0_isIn : GoodIn wsX0_join (wsV RX0 48 RX0 yX0_isIn wsX0_isIn) := goodIn_app (goodIn_of _ (by decide +kernel)) ggX0_join_X0_isIn
set_option maxRecDepth 20000 in
theorem ggX0_join_X0_areTickets : GoodIn wsX0_join wsX0_areTickets := goodIn_r _ [16, 17, 46, 47, 48, 49, 50, 51, 52, 53, 54] (by decide +kernel) (by decide +kernel)
set_option maxRecDepth 20000 in
theorem gX0_join_X0_areTickets : GoodIn wsX0_join (wsV RX0 51 RX0 yX0_areTickets wsX0_areTickets) := goodIn_app (goodIn_of _ (by decide +kernel)) ggX0_join_X0_areTickets
set_option maxRecDepth 20000 in
theorem ggX0_join_X0_joiningPass : GoodIn wsX0_join wsX0_joiningPass := goodIn_r _ [21, 22, 23, 1, 24, 46, 47, 48, 49, 50, 51, 52, 53, 54] (by decide +kernel) (by decide +kernel)
set_option maxRecDepth 20000 in
theorem gX0_join_X0_joiningPass : GoodIn wsX0_join (wsV RX0 54 RX0 yX0_joiningPass wsX0_joiningPass) := goodIn_app (goodIn_of _ (by decide +kernel)) ggX0_join_X0_joiningPass
set_option maxRecDepth 20000 in
theorem ggX0_join_X0_giveTickets : GoodIn wsX0_join wsX0_giveTickets := goodIn_r _ [28, 12, 29, 17, 46, 47, 48, 49, 50, 51, 52, 53, 54] (by decide +kernel) (by decide +kernel)
set_option maxRecDepth 20000 in
theorem gX0_join_X0_giveTickets : GoodIn wsX0_join (wsV RX0 58 RX0 yX0_giveTickets wsX0_giveTickets) := goodIn_app (goodIn_of _ (by decide +kernel)) ggX0_join_X0_giveTickets
set_option maxRecDepth 20000 in
theorem ggX0_join_X0_enterLine : GoodIn wsX0_join wsX0_enterLine := goodIn_r _ [33, 24, 22, 34, 35, 36, 37, 38, 39, 40, 5, 41, 42, 43, 44, 45, 1, 46, 47, 48, 49, 50, 51, 52, 53, 54] (by decide +kernel) (by decide +kernel)
set_option maxRecDepth 20000 in
theorem gX0_join_X0_enterLine : GoodIn wsX0_join (wsV RX0 62 RX0 yX0_enterLine wsX0_enterLine) := goodIn_app (goodIn_of _ (by decide +kernel)) ggX0_join_X0_enterLine
theorem dX0_join_0 : decode cX0_join 0 = .ok (.aload_n 0, 1) := by decide +kernel
theorem dX0_join_1 : decode cX0_join 1 = .ok (.iload_n 1, 1) := by decide +kernel
theorem dX0_join_2 : decode cX0_join 2 = .ok (.invokevirtual 44, 3) := by decide +kernel
theorem dX0_join_5 : decode cX0_join 5 = .ok (.ifCond .ne 5, 3) := by decide +kernel
theorem dX0_join_8 : decode cX0_join 8 = .ok (.iconst (-1), 1) := by decide +kernel
theorem dX0_join_9 : decode cX0_join 9 = .ok (.ireturn, 1) := by decide +kernel
theorem dX0_join_10 : decode cX0_join 10 = .ok (.aload_n 0, 1) := by decide +kernel
theorem dX0_join_11 : decode cX0_join 11 = .ok (.iload_n 1, 1) := by decide +kernel
theorem dX0_join_12 : decode cX0_join 12 = .ok (.invokevirtual 48, 3) := by decide +kernel
theorem dX0_join_15 : decode cX0_join 15 = .ok (.ifCond .eq 6, 3) := by decide +kernel
theorem dX0_join_18 : decode cX0_join 18 = .ok (.bipush (-2), 2) := by decide +kernel
theorem dX0_join_20 : decode cX0_join 20 = .ok (.ireturn, 1) := by decide +kernel
theorem dX0_join_21 : decode cX0_join 21 = .ok (.aload_n 0, 1) := by decide +kernel
theorem dX0_join_22 : decode cX0_join 22 = .ok (.iload_n 2, 1) := by decide +kernel
theorem dX0_join_23 : decode cX0_join 23 = .ok (.invokevirtual 51, 3) := by decide +kernel
theorem dX0_join_26 : decode cX0_join 26 = .ok (.ifCond .ne 6, 3) := by decide +kernel
theorem dX0_join_29 : decode cX0_join 29 = .ok (.bipush (-3), 2) := by decide +kernel
theorem dX0_join_31 : decode cX0_join 31 = .ok (.ireturn, 1) := by decide +kernel
theorem dX0_join_32 : decode cX0_join 32 = .ok (.aload_n 0, 1) := by decide +kernel
theorem dX0_join_33 : decode cX0_join 33 = .ok (.getfield 29, 3) := by decide +kernel
theorem dX0_join_36 : decode cX0_join 36 = .ok (.iload_n 1, 1) := by decide +kernel
theorem dX0_join_37 : decode cX0_join 37 = .ok (.aload_n 0, 1) := by decide +kernel
theorem dX0_join_38 : decode cX0_join 38 = .ok (.invokevirtual 54, 3) := by decide +kernel
theorem dX0_join_41 : decode cX0_join 41 = .ok (.iastore, 1) := by decide +kernel
theorem dX0_join_42 : decode cX0_join 42 = .ok (.aload_n 0, 1) := by decide +kernel
theorem dX0_join_43 : decode cX0_join 43 = .ok (.iload_n 1, 1) := by decide +kernel
theorem dX0_join_44 : decode cX0_join 44 = .ok (.iload_n 2, 1) := by decide +kernel
theorem dX0_join_45 : decode cX0_join 45 = .ok (.invokevirtual 58, 3) := by decide +kernel
theorem dX0_join_48 : decode cX0_join 48 = .ok (.aload_n 0, 1) := by decide +kernel
theorem dX0_join_49 : decode cX0_join 49 = .ok (.iload_n 1, 1) := by decide +kernel
theorem dX0_join_50 : decode cX0_join 50 = .ok (.invokevirtual 62, 3) := by decide +kernel
theorem dX0_join_53 : decode cX0_join 53 = .ok (.iconst 1, 1) := by decide +kernel
theorem dX0_join_54 : decode cX0_join 54 = .ok (.ireturn, 1) := by decide +kernel
set_option maxRecDepth 20000 in
theorem ggX0_leave_X0_isClient : GoodIn wsX0_leave wsX0_isClient := goodIn_r _ [8, 9, 28, 29, 30, 31, 32, 33, 34, 35, 36] (by decide +kernel) (by decide +kernel)
set_option maxRecDepth 20000 in
theorem gX0_leave_X0_isClient : GoodIn wsX0_leave (wsV RX0 44 RX0 yX0_isClient wsX0_isClient) := goodIn_app (goodIn_of _ (by decide +kernel)) ggX0_leave_X0_isClient
set_option maxRecDepth 20000 in
theorem ggX0_leave_X0_isIn : GoodIn wsX0_leave wsX0_isIn := goodIn_r _ [13, 3, 28, 29, 30, 31, 32, 33, 34, 35, 36] (by decide +kernel) (by decide +kernel)
set_option maxRecDepth 20000 in
theorem gX0_leave_X0_isIn : GoodIn wsX0_leave (wsV RX0 48 RX0 yX0_isIn wsX0_isIn) := goodIn_app (goodIn_of _ (by decide +kernel)) ggX0_leave_X0_isIn
set_option maxRecDepth 20000 in
theorem ggX0_leave_X0_quitLine : GoodIn wsX0_leave wsX0_quitLine := goodIn_r _ [17, 18, 19, 20, 21, 22, 23, 24, 25, 26, 7, 27, 28, 29, 30, 31, 32, 33, 34, 35, 36] (by decide +kernel) (by decide +kernel)
set_option maxRecDepth 20000 in
theorem gX0_leave_X0_quitLine : GoodIn wsX0_leave (wsV RX0 66 RX0 yX0_quitLine wsX0_quitLine) := goodIn_app (goodIn_of _ (by decide +kernel)) ggX0_leave_X0_quitLine
theorem dX0_leave_0 : decode cX0_leave 0 = .ok (.aload_n 0, 1) := by decide +kernel
theorem dX0_leave_1 : decode cX0_leave 1 = .ok (.iload_n 1, 1) := by decide +kernel
theorem dX0_leave_2 : decode cX0_leave 2 = .ok (.invokevirtual 44, 3) := by decide +kernel
theorem dX0_leave_5 : decode cX0_leave 5 = .ok (.ifCond .ne 5, 3) := by decide +kernel
theorem dX0_leave_8 : decode cX0_leave 8 = .ok (.iconst (-1), 1) := by decide +kernel
theorem dX0_leave_9 : decode cX0_leave 9 = .ok (.ireturn, 1) := by decide +kernel
theorem dX0_leave_10 : decode cX0_leave 10 = .ok (.aload_n 0, 1) := by decide +kernel
theorem dX0_leave_11 : decode cX0_leave 11 = .ok (.iload_n 1, 1) := by decide +kernel
theorem dX0_leave_12 : decode cX0_leave 12 = .ok (.invokevirtual 48, 3) := by decide +kernel
theorem dX0_leave_15 : decode cX0_leave 15 = .ok (.ifCond .ne 6, 3) := by decide +kernel
theorem dX0_leave_18 : decode cX0_leave 18 = .ok (.bipush (-2), 2) := by decide +kernel
theorem dX0_leave_20 : decode cX0_leave 20 = .ok (.ireturn, 1) := by decide +kernel
theorem dX0_leave_21 : decode cX0_leave 21 = .ok (.aload_n 0, 1) := by decide +kernel
theorem dX0_leave_22 : decode cX0_leave 22 = .ok (.aload_n 0, 1) := by decide +kernel
theorem dX0_leave_23 : decode cX0_leave 23 = .ok (.getfield 29, 3) := by decide +kernel
theorem dX0_leave_26 : decode cX0_leave 26 = .ok (.iload_n 1, 1) := by decide +kernel
theorem dX0_leave_27 : decode cX0_leave 27 = .ok (.iaload, 1) := by decide +kernel
theorem dX0_leave_28 : decode cX0_leave 28 = .ok (.putfield 41, 3) := by decide +kernel
theorem dX0_leave_31 : decode cX0_leave 31 = .ok (.aload_n 0, 1) := by decide +kernel
theorem dX0_leave_32 : decode cX0_leave 32 = .ok (.getfield 22, 3) := by decide +kernel
theorem dX0_leave_35 : decode cX0_leave 35 = .ok (.iload_n 1, 1) := by decide +kernel
theorem dX0_leave_36 : decode cX0_leave 36 = .ok (.iconst 0, 1) := by decide +kernel
theorem dX0_leave_37 : decode cX0_leave 37 = .ok (.iastore, 1) := by decide +kernel
theorem dX0_leave_38 : decode cX0_leave 38 = .ok (.aload_n 0, 1) := by decide +kernel
theorem dX0_leave_39 : decode cX0_leave 39 = .ok (.iload_n 1, 1) := by decide +kernel
theorem dX0_leave_40 : decode cX0_leave 40 = .ok (.invokevirtual 66, 3) := by decide +kernel
theorem dX0_leave_43 : decode cX0_leave 43 = .ok (.iconst 1, 1) := by decide +kernel
theorem dX0_leave_44 : decode cX0_leave 44 = .ok (.ireturn, 1) := by decide +kernel
set_option maxRecDepth 20000 in
theorem ggX0_next_X0_giveTurn : GoodIn wsX0_next wsX0_giveTurn := goodIn_r _ [5, 6, 7, 8, 9, 10, 11, 12, 13, 14, 4, 15, 16, 17, 18, 19, 20, 21, 22, 23, 24, 25, 26, 27, 28] (by decide +kernel) (by decide +kernel)
set_option maxRecDepth 20000 in
theorem gX0_next_X0_giveTurn : GoodIn wsX0_next (wsV RX0 69 RX0 yX0_giveTurn wsX0_giveTurn) := goodIn_app (goodIn_of _ (by decide +kernel)) ggX0_next_X0_giveTurn
theorem dX0_next_0 : decode cX0_next 0 = .ok (.aload_n 0, 1) := by decide +kernel
theorem dX0_next_1 : decode cX0_next 1 = .ok (.invokevirtual 69, 3) := by decide +kernel
theorem dX0_next_4 : decode cX0_next 4 = .ok (.ireturn, 1) := by decide +kernel
set_option maxRecDepth 20000 in
theorem ggX0_turns_X0_giveTurn : GoodIn wsX0_turns wsX0_giveTurn := goodIn_r _ [5, 6, 7, 8, 9, 10, 11, 12, 13, 14, 4, 15, 16, 17, 18, 19, 20, 21, 22, 23, 24, 25, 26, 27, 28] (by decide +kernel) (by decide +kernel)
set_option maxRecDepth 20000 in
theorem gX0_turns_X0_giveTurn : GoodIn wsX0_turns (wsV RX0 69 RX0 yX0_giveTurn wsX0_giveTurn) := goodIn_app (goodIn_of _ (by decide +kernel)) ggX0_turns_X0_giveTurn
theorem dX0_turns_0 : decode cX0_turns 0 = .ok (.iload_n 1, 1) := by decide +kernel
theorem dX0_turns_1 : decode cX0_turns 1 = .ok (.iconst 1, 1) := by decide +kernel
theorem dX0_turns_2 : decode cX0_turns 2 = .ok (.if_icmp .lt 10, 3) := by decide +kernel
theorem dX0_turns_5 : decode cX0_turns 5 = .ok (.iload_n 1, 1) := by decide +kernel
theorem dX0_turns_6 : decode cX0_turns 6 = .ok (.sipush 1000, 3) := by decide +kernel
theorem dX0_turns_9 : decode cX0_turns 9 = .ok (.if_icmp .le 5, 3) := by decide +kernel
theorem dX0_turns_12 : decode cX0_turns 12 = .ok (.iconst (-1), 1) := by decide +kernel
theorem dX0_turns_13 : decode cX0_turns 13 = .ok (.ireturn, 1) := by decide +kernel
theorem dX0_turns_14 : decode cX0_turns 14 = .ok (.iconst 0, 1) := by decide +kernel
theorem dX0_turns_15 : decode cX0_turns 15 = .ok (.istore_n 2, 1) := by decide +kernel
theorem dX0_turns_16 : decode cX0_turns 16 = .ok (.iload_n 2, 1) := by decide +kernel
theorem dX0_turns_17 : decode cX0_turns 17 = .ok (.iload_n 1, 1) := by decide +kernel
theorem dX0_turns_18 : decode cX0_turns 18 = .ok (.if_icmp .ge 16, 3) := by decide +kernel
theorem dX0_turns_21 : decode cX0_turns 21 = .ok (.aload_n 0, 1) := by decide +kernel
theorem dX0_turns_22 : decode cX0_turns 22 = .ok (.invokevirtual 69, 3) := by decide +kernel
theorem dX0_turns_25 : decode cX0_turns 25 = .ok (.ifCond .lt 9, 3) := by decide +kernel
theorem dX0_turns_28 : decode cX0_turns 28 = .ok (.iinc 2 1, 3) := by decide +kernel
theorem dX0_turns_31 : decode cX0_turns 31 = .ok (.goto (-15), 3) := by decide +kernel
theorem dX0_turns_34 : decode cX0_turns 34 = .ok (.iload_n 2, 1) := by decide +kernel
theorem dX0_turns_35 : decode cX0_turns 35 = .ok (.ireturn, 1) := by decide +kernel
set_option maxRecDepth 20000 in
theorem ggX0_change_X0_isClient : GoodIn wsX0_change wsX0_isClient := goodIn_r _ [6, 7, 22, 23, 24, 25, 26, 27, 28, 29, 30] (by decide +kernel) (by decide +kernel)
set_option maxRecDepth 20000 in
theorem gX0_change_X0_isClient : GoodIn wsX0_change (wsV RX0 44 RX0 yX0_isClient wsX0_isClient) := goodIn_app (goodIn_of _ (by decide +kernel)) ggX0_change_X0_isClient
set_option maxRecDepth 20000 in
theorem ggX0_change_X0_isIn : GoodIn wsX0_change wsX0_isIn := goodIn_r _ [11, 1, 22, 23, 24, 25, 26, 27, 28, 29, 30] (by decide +kernel) (by decide +kernel)
set_option maxRecDepth 20000 in
theorem gX0_change_X0_isIn : GoodIn wsX0_change (wsV RX0 48 RX0 yX0_isIn wsX0_isIn) := goodIn_app (goodIn_of _ (by decide +kernel)) ggX0_change_X0_isIn
set_option maxRecDepth 20000 in
theorem ggX0_change_X0_areTickets : GoodIn wsX0_change wsX0_areTickets := goodIn_r _ [15, 16, 22, 23, 24, 25, 26, 27, 28, 29, 30] (by decide +kernel) (by decide +kernel)
set_option maxRecDepth 20000 in
theorem gX0_change_X0_areTickets : GoodIn wsX0_change (wsV RX0 51 RX0 yX0_areTickets wsX0_areTickets) := goodIn_app (goodIn_of _ (by decide +kernel)) ggX0_change_X0_areTickets
set_option maxRecDepth 20000 in
theorem ggX0_change_X0_giveTickets : GoodIn wsX0_change wsX0_giveTickets := goodIn_r _ [20, 1, 21, 16, 22, 23, 24, 25, 26, 27, 28, 29, 30] (by decide +kernel) (by decide +kernel)
set_option maxRecDepth 20000 in
theorem gX0_change_X0_giveTickets : GoodIn wsX0_change (wsV RX0 58 RX0 yX0_giveTickets wsX0_giveTickets) := goodIn_app (goodIn_of _ (by decide +kernel)) ggX0_change_X0_giveTickets
theorem dX0_change_0 : decode cX0_change 0 = .ok (.aload_n 0, 1) := by decide +kernel
theorem dX0_change_1 : decode cX0_change 1 = .ok (.iload_n 1, 1) := by decide +kernel
theorem dX0_change_2 : decode cX0_change 2 = .ok (.invokevirtual 44, 3) := by decide +kernel
theorem dX0_change_5 : decode cX0_change 5 = .ok (.ifCond .ne 5, 3) := by decide +kernel
theorem dX0_change_8 : decode cX0_change 8 = .ok (.iconst (-1), 1) := by decide +kernel
theorem dX0_change_9 : decode cX0_change 9 = .ok (.ireturn, 1) := by decide +kernel
theorem dX0_change_10 : decode cX0_change 10 = .ok (.aload_n 0, 1) := by decide +kernel
theorem dX0_change_11 : decode cX0_change 11 = .ok (.iload_n 1, 1) := by decide +kernel
theorem dX0_change_12 : decode cX0_change 12 = .ok (.invokevirtual 48, 3) := by decide +kernel
theorem dX0_change_15 : decode cX0_change 15 = .ok (.ifCond .ne 6, 3) := by decide +kernel
theorem dX0_change_18 : decode cX0_change 18 = .ok (.bipush (-2), 2) := by decide +kernel
theorem dX0_change_20 : decode cX0_change 20 = .ok (.ireturn, 1) := by decide +kernel
theorem dX0_change_21 : decode cX0_change 21 = .ok (.aload_n 0, 1) := by decide +kernel
theorem dX0_change_22 : decode cX0_change 22 = .ok (.iload_n 2, 1) := by decide +kernel
theorem dX0_change_23 : decode cX0_change 23 = .ok (.invokevirtual 51, 3) := by decide +kernel
theorem dX0_change_26 : decode cX0_change 26 = .ok (.ifCond .ne 6, 3) := by decide +kernel
theorem dX0_change_29 : decode cX0_change 29 = .ok (.bipush (-3), 2) := by decide +kernel
theorem dX0_change_31 : decode cX0_change 31 = .ok (.ireturn, 1) := by decide +kernel
theorem dX0_change_32 : decode cX0_change 32 = .ok (.aload_n 0, 1) := by decide +kernel
theorem dX0_change_33 : decode cX0_change 33 = .ok (.getfield 22, 3) := by decide +kernel
theorem dX0_change_36 : decode cX0_change 36 = .ok (.iload_n 1, 1) := by decide +kernel
theorem dX0_change_37 : decode cX0_change 37 = .ok (.iaload, 1) := by decide +kernel
theorem dX0_change_38 : decode cX0_change 38 = .ok (.istore_n 3, 1) := by decide +kernel
theorem dX0_change_39 : decode cX0_change 39 = .ok (.aload_n 0, 1) := by decide +kernel
theorem dX0_change_40 : decode cX0_change 40 = .ok (.iload_n 1, 1) := by decide +kernel
theorem dX0_change_41 : decode cX0_change 41 = .ok (.iload_n 2, 1) := by decide +kernel
theorem dX0_change_42 : decode cX0_change 42 = .ok (.invokevirtual 58, 3) := by decide +kernel
theorem dX0_change_45 : decode cX0_change 45 = .ok (.iload_n 3, 1) := by decide +kernel
theorem dX0_change_46 : decode cX0_change 46 = .ok (.ireturn, 1) := by decide +kernel
set_option maxRecDepth 20000 in
theorem ggX0_ranOf_X0_isClient : GoodIn wsX0_ranOf wsX0_isClient := goodIn_r _ [6, 7, 8, 9, 10, 11, 12, 13, 14, 15, 16] (by decide +kernel) (by decide +kernel)
set_option maxRecDepth 20000 in
theorem gX0_ranOf_X0_isClient : GoodIn wsX0_ranOf (wsV RX0 44 RX0 yX0_isClient wsX0_isClient) := goodIn_app (goodIn_of _ (by decide +kernel)) ggX0_ranOf_X0_isClient
theorem dX0_ranOf_0 : decode cX0_ranOf 0 = .ok (.aload_n 0, 1) := by decide +kernel
theorem dX0_ranOf_1 : decode cX0_ranOf 1 = .ok (.iload_n 1, 1) := by decide +kernel
theorem dX0_ranOf_2 : decode cX0_ranOf 2 = .ok (.invokevirtual 44, 3) := by decide +kernel
theorem dX0_ranOf_5 : decode cX0_ranOf 5 = .ok (.ifCond .eq 12, 3) := by decide +kernel
theorem dX0_ranOf_8 : decode cX0_ranOf 8 = .ok (.aload_n 0, 1) := by decide +kernel
theorem dX0_ranOf_9 : decode cX0_ranOf 9 = .ok (.getfield 32, 3) := by decide +kernel
theorem dX0_ranOf_12 : decode cX0_ranOf 12 = .ok (.iload_n 1, 1) := by decide +kernel
theorem dX0_ranOf_13 : decode cX0_ranOf 13 = .ok (.iaload, 1) := by decide +kernel
theorem dX0_ranOf_14 : decode cX0_ranOf 14 = .ok (.goto 4, 3) := by decide +kernel
theorem dX0_ranOf_17 : decode cX0_ranOf 17 = .ok (.iconst (-1), 1) := by decide +kernel
theorem dX0_ranOf_18 : decode cX0_ranOf 18 = .ok (.ireturn, 1) := by decide +kernel
set_option maxRecDepth 20000 in
theorem ggX0_passOf_X0_isClient : GoodIn wsX0_passOf wsX0_isClient := goodIn_r _ [6, 7, 13, 14, 15, 16, 17, 18, 19, 20, 21] (by decide +kernel) (by decide +kernel)
set_option maxRecDepth 20000 in
theorem gX0_passOf_X0_isClient : GoodIn wsX0_passOf (wsV RX0 44 RX0 yX0_isClient wsX0_isClient) := goodIn_app (goodIn_of _ (by decide +kernel)) ggX0_passOf_X0_isClient
set_option maxRecDepth 20000 in
theorem ggX0_passOf_X0_isIn : GoodIn wsX0_passOf wsX0_isIn := goodIn_r _ [11, 12, 13, 14, 15, 16, 17, 18, 19, 20, 21] (by decide +kernel) (by decide +kernel)
set_option maxRecDepth 20000 in
theorem gX0_passOf_X0_isIn : GoodIn wsX0_passOf (wsV RX0 48 RX0 yX0_isIn wsX0_isIn) := goodIn_app (goodIn_of _ (by decide +kernel)) ggX0_passOf_X0_isIn
theorem dX0_passOf_0 : decode cX0_passOf 0 = .ok (.aload_n 0, 1) := by decide +kernel
theorem dX0_passOf_1 : decode cX0_passOf 1 = .ok (.iload_n 1, 1) := by decide +kernel
theorem dX0_passOf_2 : decode cX0_passOf 2 = .ok (.invokevirtual 44, 3) := by decide +kernel
theorem dX0_passOf_5 : decode cX0_passOf 5 = .ok (.ifCond .eq 20, 3) := by decide +kernel
theorem dX0_passOf_8 : decode cX0_passOf 8 = .ok (.aload_n 0, 1) := by decide +kernel
theorem dX0_passOf_9 : decode cX0_passOf 9 = .ok (.iload_n 1, 1) := by decide +kernel
theorem dX0_passOf_10 : decode cX0_passOf 10 = .ok (.invokevirtual 48, 3) := by decide +kernel
theorem dX0_passOf_13 : decode cX0_passOf 13 = .ok (.ifCond .eq 12, 3) := by decide +kernel
theorem dX0_passOf_16 : decode cX0_passOf 16 = .ok (.aload_n 0, 1) := by decide +kernel
theorem dX0_passOf_17 : decode cX0_passOf 17 = .ok (.getfield 29, 3) := by decide +kernel
theorem dX0_passOf_20 : decode cX0_passOf 20 = .ok (.iload_n 1, 1) := by decide +kernel
theorem dX0_passOf_21 : decode cX0_passOf 21 = .ok (.iaload, 1) := by decide +kernel
theorem dX0_passOf_22 : decode cX0_passOf 22 = .ok (.goto 4, 3) := by decide +kernel
theorem dX0_passOf_25 : decode cX0_passOf 25 = .ok (.iconst (-1), 1) := by decide +kernel
theorem dX0_passOf_26 : decode cX0_passOf 26 = .ok (.ireturn, 1) := by decide +kernel
set_option maxRecDepth 20000 in
theorem ggX0_strideOf_X0_isClient : GoodIn wsX0_strideOf wsX0_isClient := goodIn_r _ [6, 7, 13, 14, 15, 16, 17, 18, 19, 20, 21] (by decide +kernel) (by decide +kernel)
set_option maxRecDepth 20000 in
theorem gX0_strideOf_X0_isClient : GoodIn wsX0_strideOf (wsV RX0 44 RX0 yX0_isClient wsX0_isClient) := goodIn_app (goodIn_of _ (by decide +kernel)) ggX0_strideOf_X0_isClient
set_option maxRecDepth 20000 in
theorem ggX0_strideOf_X0_isIn : GoodIn wsX0_strideOf wsX0_isIn := goodIn_r _ [11, 12, 13, 14, 15, 16, 17, 18, 19, 20, 21] (by decide +kernel) (by decide +kernel)
set_option maxRecDepth 20000 in
theorem gX0_strideOf_X0_isIn : GoodIn wsX0_strideOf (wsV RX0 48 RX0 yX0_isIn wsX0_isIn) := goodIn_app (goodIn_of _ (by decide +kernel)) ggX0_strideOf_X0_isIn
theorem dX0_strideOf_0 : decode cX0_strideOf 0 = .ok (.aload_n 0, 1) := by decide +kernel
theorem dX0_strideOf_1 : decode cX0_strideOf 1 = .ok (.iload_n 1, 1) := by decide +kernel
theorem dX0_strideOf_2 : decode cX0_strideOf 2 = .ok (.invokevirtual 44, 3) := by decide +kernel
theorem dX0_strideOf_5 : decode cX0_strideOf 5 = .ok (.ifCond .eq 20, 3) := by decide +kernel
theorem dX0_strideOf_8 : decode cX0_strideOf 8 = .ok (.aload_n 0, 1) := by decide +kernel
theorem dX0_strideOf_9 : decode cX0_strideOf 9 = .ok (.iload_n 1, 1) := by decide +kernel
theorem dX0_strideOf_10 : decode cX0_strideOf 10 = .ok (.invokevirtual 48, 3) := by decide +kernel
theorem dX0_strideOf_13 : decode cX0_strideOf 13 = .ok (.ifCond .eq 12, 3) := by decide +kernel
theorem dX0_strideOf_16 : decode cX0_strideOf 16 = .ok (.aload_n 0, 1) := by decide +kernel
theorem dX0_strideOf_17 : decode cX0_strideOf 17 = .ok (.getfield 26, 3) := by decide +kernel
theorem dX0_strideOf_20 : decode cX0_strideOf 20 = .ok (.iload_n 1, 1) := by decide +kernel
theorem dX0_strideOf_21 : decode cX0_strideOf 21 = .ok (.iaload, 1) := by decide +kernel
theorem dX0_strideOf_22 : decode cX0_strideOf 22 = .ok (.goto 4, 3) := by decide +kernel
theorem dX0_strideOf_25 : decode cX0_strideOf 25 = .ok (.iconst (-1), 1) := by decide +kernel
theorem dX0_strideOf_26 : decode cX0_strideOf 26 = .ok (.ireturn, 1) := by decide +kernel
theorem dX0_clients_0 : decode cX0_clients 0 = .ok (.aload_n 0, 1) := by decide +kernel
theorem dX0_clients_1 : decode cX0_clients 1 = .ok (.getfield 38, 3) := by decide +kernel
theorem dX0_clients_4 : decode cX0_clients 4 = .ok (.ireturn, 1) := by decide +kernel
theorem dX0_spread_0 : decode cX0_spread 0 = .ok (.aload_n 0, 1) := by decide +kernel
theorem dX0_spread_1 : decode cX0_spread 1 = .ok (.getfield 38, 3) := by decide +kernel
theorem dX0_spread_4 : decode cX0_spread 4 = .ok (.ifCond .ne 5, 3) := by decide +kernel
theorem dX0_spread_7 : decode cX0_spread 7 = .ok (.iconst (-1), 1) := by decide +kernel
theorem dX0_spread_8 : decode cX0_spread 8 = .ok (.ireturn, 1) := by decide +kernel
theorem dX0_spread_9 : decode cX0_spread 9 = .ok (.aload_n 0, 1) := by decide +kernel
theorem dX0_spread_10 : decode cX0_spread 10 = .ok (.getfield 29, 3) := by decide +kernel
theorem dX0_spread_13 : decode cX0_spread 13 = .ok (.aload_n 0, 1) := by decide +kernel
theorem dX0_spread_14 : decode cX0_spread 14 = .ok (.getfield 35, 3) := by decide +kernel
theorem dX0_spread_17 : decode cX0_spread 17 = .ok (.aload_n 0, 1) := by decide +kernel
theorem dX0_spread_18 : decode cX0_spread 18 = .ok (.getfield 38, 3) := by decide +kernel
theorem dX0_spread_21 : decode cX0_spread 21 = .ok (.iconst 1, 1) := by decide +kernel
theorem dX0_spread_22 : decode cX0_spread 22 = .ok (.isub, 1) := by decide +kernel
theorem dX0_spread_23 : decode cX0_spread 23 = .ok (.iaload, 1) := by decide +kernel
theorem dX0_spread_24 : decode cX0_spread 24 = .ok (.iaload, 1) := by decide +kernel
theorem dX0_spread_25 : decode cX0_spread 25 = .ok (.aload_n 0, 1) := by decide +kernel
theorem dX0_spread_26 : decode cX0_spread 26 = .ok (.getfield 29, 3) := by decide +kernel
theorem dX0_spread_29 : decode cX0_spread 29 = .ok (.aload_n 0, 1) := by decide +kernel
theorem dX0_spread_30 : decode cX0_spread 30 = .ok (.getfield 35, 3) := by decide +kernel
theorem dX0_spread_33 : decode cX0_spread 33 = .ok (.iconst 0, 1) := by decide +kernel
theorem dX0_spread_34 : decode cX0_spread 34 = .ok (.iaload, 1) := by decide +kernel
theorem dX0_spread_35 : decode cX0_spread 35 = .ok (.iaload, 1) := by decide +kernel
theorem dX0_spread_36 : decode cX0_spread 36 = .ok (.isub, 1) := by decide +kernel
theorem dX0_spread_37 : decode cX0_spread 37 = .ok (.ireturn, 1) := by decide +kernel
theorem dX0_order_0 : decode cX0_order 0 = .ok (.iload_n 1, 1) := by decide +kernel
theorem dX0_order_1 : decode cX0_order 1 = .ok (.ifCond .lt 20, 3) := by decide +kernel
theorem dX0_order_4 : decode cX0_order 4 = .ok (.iload_n 1, 1) := by decide +kernel
theorem dX0_order_5 : decode cX0_order 5 = .ok (.aload_n 0, 1) := by decide +kernel
theorem dX0_order_6 : decode cX0_order 6 = .ok (.getfield 38, 3) := by decide +kernel
theorem dX0_order_9 : decode cX0_order 9 = .ok (.if_icmp .ge 12, 3) := by decide +kernel
theorem dX0_order_12 : decode cX0_order 12 = .ok (.aload_n 0, 1) := by decide +kernel
theorem dX0_order_13 : decode cX0_order 13 = .ok (.getfield 35, 3) := by decide +kernel
theorem dX0_order_16 : decode cX0_order 16 = .ok (.iload_n 1, 1) := by decide +kernel
theorem dX0_order_17 : decode cX0_order 17 = .ok (.iaload, 1) := by decide +kernel
theorem dX0_order_18 : decode cX0_order 18 = .ok (.goto 4, 3) := by decide +kernel
theorem dX0_order_21 : decode cX0_order 21 = .ok (.iconst (-1), 1) := by decide +kernel
theorem dX0_order_22 : decode cX0_order 22 = .ok (.ireturn, 1) := by decide +kernel
theorem dX0_isClient_0 : decode cX0_isClient 0 = .ok (.iload_n 1, 1) := by decide +kernel
theorem dX0_isClient_1 : decode cX0_isClient 1 = .ok (.ifCond .lt 15, 3) := by decide +kernel
theorem dX0_isClient_4 : decode cX0_isClient 4 = .ok (.iload_n 1, 1) := by decide +kernel
theorem dX0_isClient_5 : decode cX0_isClient 5 = .ok (.aload_n 0, 1) := by decide +kernel
theorem dX0_isClient_6 : decode cX0_isClient 6 = .ok (.getfield 15, 3) := by decide +kernel
theorem dX0_isClient_9 : decode cX0_isClient 9 = .ok (.if_icmp .ge 7, 3) := by decide +kernel
theorem dX0_isClient_12 : decode cX0_isClient 12 = .ok (.iconst 1, 1) := by decide +kernel
theorem dX0_isClient_13 : decode cX0_isClient 13 = .ok (.goto 4, 3) := by decide +kernel
theorem dX0_isClient_16 : decode cX0_isClient 16 = .ok (.iconst 0, 1) := by decide +kernel
theorem dX0_isClient_17 : decode cX0_isClient 17 = .ok (.ireturn, 1) := by decide +kernel
theorem dX0_isIn_0 : decode cX0_isIn 0 = .ok (.aload_n 0, 1) := by decide +kernel
theorem dX0_isIn_1 : decode cX0_isIn 1 = .ok (.getfield 22, 3) := by decide +kernel
theorem dX0_isIn_4 : decode cX0_isIn 4 = .ok (.iload_n 1, 1) := by decide +kernel
theorem dX0_isIn_5 : decode cX0_isIn 5 = .ok (.iaload, 1) := by decide +kernel
theorem dX0_isIn_6 : decode cX0_isIn 6 = .ok (.ifCond .le 7, 3) := by decide +kernel
theorem dX0_isIn_9 : decode cX0_isIn 9 = .ok (.iconst 1, 1) := by decide +kernel
theorem dX0_isIn_10 : decode cX0_isIn 10 = .ok (.goto 4, 3) := by decide +kernel
theorem dX0_isIn_13 : decode cX0_isIn 13 = .ok (.iconst 0, 1) := by decide +kernel
theorem dX0_isIn_14 : decode cX0_isIn 14 = .ok (.ireturn, 1) := by decide +kernel
theorem dX0_areTickets_0 : decode cX0_areTickets 0 = .ok (.iload_n 1, 1) := by decide +kernel
theorem dX0_areTickets_1 : decode cX0_areTickets 1 = .ok (.iconst 1, 1) := by decide +kernel
theorem dX0_areTickets_2 : decode cX0_areTickets 2 = .ok (.if_icmp .lt 15, 3) := by decide +kernel
theorem dX0_areTickets_5 : decode cX0_areTickets 5 = .ok (.iload_n 1, 1) := by decide +kernel
theorem dX0_areTickets_6 : decode cX0_areTickets 6 = .ok (.aload_n 0, 1) := by decide +kernel
theorem dX0_areTickets_7 : decode cX0_areTickets 7 = .ok (.getfield 19, 3) := by decide +kernel
theorem dX0_areTickets_10 : decode cX0_areTickets 10 = .ok (.if_icmp .ge 7, 3) := by decide +kernel
theorem dX0_areTickets_13 : decode cX0_areTickets 13 = .ok (.iconst 1, 1) := by decide +kernel
theorem dX0_areTickets_14 : decode cX0_areTickets 14 = .ok (.goto 4, 3) := by decide +kernel
theorem dX0_areTickets_17 : decode cX0_areTickets 17 = .ok (.iconst 0, 1) := by decide +kernel
theorem dX0_areTickets_18 : decode cX0_areTickets 18 = .ok (.ireturn, 1) := by decide +kernel
theorem dX0_joiningPass_0 : decode cX0_joiningPass 0 = .ok (.aload_n 0, 1) := by decide +kernel
theorem dX0_joiningPass_1 : decode cX0_joiningPass 1 = .ok (.getfield 38, 3) := by decide +kernel
theorem dX0_joiningPass_4 : decode cX0_joiningPass 4 = .ok (.ifCond .ne 10, 3) := by decide +kernel
theorem dX0_joiningPass_7 : decode cX0_joiningPass 7 = .ok (.aload_n 0, 1) := by decide +kernel
theorem dX0_joiningPass_8 : decode cX0_joiningPass 8 = .ok (.getfield 41, 3) := by decide +kernel
theorem dX0_joiningPass_11 : decode cX0_joiningPass 11 = .ok (.goto 14, 3) := by decide +kernel
theorem dX0_joiningPass_14 : decode cX0_joiningPass 14 = .ok (.aload_n 0, 1) := by decide +kernel
theorem dX0_joiningPass_15 : decode cX0_joiningPass 15 = .ok (.getfield 29, 3) := by decide +kernel
theorem dX0_joiningPass_18 : decode cX0_joiningPass 18 = .ok (.aload_n 0, 1) := by decide +kernel
theorem dX0_joiningPass_19 : decode cX0_joiningPass 19 = .ok (.getfield 35, 3) := by decide +kernel
theorem dX0_joiningPass_22 : decode cX0_joiningPass 22 = .ok (.iconst 0, 1) := by decide +kernel
theorem dX0_joiningPass_23 : decode cX0_joiningPass 23 = .ok (.iaload, 1) := by decide +kernel
theorem dX0_joiningPass_24 : decode cX0_joiningPass 24 = .ok (.iaload, 1) := by decide +kernel
theorem dX0_joiningPass_25 : decode cX0_joiningPass 25 = .ok (.ireturn, 1) := by decide +kernel
theorem dX0_giveTickets_0 : decode cX0_giveTickets 0 = .ok (.aload_n 0, 1) := by decide +kernel
theorem dX0_giveTickets_1 : decode cX0_giveTickets 1 = .ok (.getfield 22, 3) := by decide +kernel
theorem dX0_giveTickets_4 : decode cX0_giveTickets 4 = .ok (.iload_n 1, 1) := by decide +kernel
theorem dX0_giveTickets_5 : decode cX0_giveTickets 5 = .ok (.iload_n 2, 1) := by decide +kernel
theorem dX0_giveTickets_6 : decode cX0_giveTickets 6 = .ok (.iastore, 1) := by decide +kernel
theorem dX0_giveTickets_7 : decode cX0_giveTickets 7 = .ok (.aload_n 0, 1) := by decide +kernel
theorem dX0_giveTickets_8 : decode cX0_giveTickets 8 = .ok (.getfield 26, 3) := by decide +kernel
theorem dX0_giveTickets_11 : decode cX0_giveTickets 11 = .ok (.iload_n 1, 1) := by decide +kernel
theorem dX0_giveTickets_12 : decode cX0_giveTickets 12 = .ok (.aload_n 0, 1) := by decide +kernel
theorem dX0_giveTickets_13 : decode cX0_giveTickets 13 = .ok (.getfield 19, 3) := by decide +kernel
theorem dX0_giveTickets_16 : decode cX0_giveTickets 16 = .ok (.iload_n 2, 1) := by decide +kernel
theorem dX0_giveTickets_17 : decode cX0_giveTickets 17 = .ok (.idiv, 1) := by decide +kernel
theorem dX0_giveTickets_18 : decode cX0_giveTickets 18 = .ok (.iastore, 1) := by decide +kernel
theorem dX0_giveTickets_19 : decode cX0_giveTickets 19 = .ok (.return_, 1) := by decide +kernel
set_option maxRecDepth 20000 in
theorem ggX0_giveTurn_X0_settleFirst : GoodIn wsX0_giveTurn wsX0_settleFirst := goodIn_r _ [11, 2, 1, 12, 13, 14, 10, 15, 3, 16, 17, 18, 19, 20, 21, 22, 23, 24] (by decide +kernel) (by decide +kernel)
set_option maxRecDepth 20000 in
theorem gX0_giveTurn_X0_settleFirst : GoodIn wsX0_giveTurn (wsV RX0 74 RX0 yX0_settleFirst wsX0_settleFirst) := goodIn_app (goodIn_of _ (by decide +kernel)) ggX0_giveTurn_X0_settleFirst
theorem dX0_giveTurn_0 : decode cX0_giveTurn 0 = .ok (.aload_n 0, 1) := by decide +kernel
theorem dX0_giveTurn_1 : decode cX0_giveTurn 1 = .ok (.getfield 38, 3) := by decide +kernel
theorem dX0_giveTurn_4 : decode cX0_giveTurn 4 = .ok (.ifCond .ne 5, 3) := by decide +kernel
theorem dX0_giveTurn_7 : decode cX0_giveTurn 7 = .ok (.iconst (-1), 1) := by decide +kernel
theorem dX0_giveTurn_8 : decode cX0_giveTurn 8 = .ok (.ireturn, 1) := by decide +kernel
theorem dX0_giveTurn_9 : decode cX0_giveTurn 9 = .ok (.aload_n 0, 1) := by decide +kernel
theorem dX0_giveTurn_10 : decode cX0_giveTurn 10 = .ok (.getfield 35, 3) := by decide +kernel
theorem dX0_giveTurn_13 : decode cX0_giveTurn 13 = .ok (.iconst 0, 1) := by decide +kernel
theorem dX0_giveTurn_14 : decode cX0_giveTurn 14 = .ok (.iaload, 1) := by decide +kernel
theorem dX0_giveTurn_15 : decode cX0_giveTurn 15 = .ok (.istore_n 1, 1) := by decide +kernel
theorem dX0_giveTurn_16 : decode cX0_giveTurn 16 = .ok (.aload_n 0, 1) := by decide +kernel
theorem dX0_giveTurn_17 : decode cX0_giveTurn 17 = .ok (.getfield 29, 3) := by decide +kernel
theorem dX0_giveTurn_20 : decode cX0_giveTurn 20 = .ok (.iload_n 1, 1) := by decide +kernel
theorem dX0_giveTurn_21 : decode cX0_giveTurn 21 = .ok (.iaload, 1) := by decide +kernel
theorem dX0_giveTurn_22 : decode cX0_giveTurn 22 = .ok (.i2l, 1) := by decide +kernel
theorem dX0_giveTurn_23 : decode cX0_giveTurn 23 = .ok (.aload_n 0, 1) := by decide +kernel
theorem dX0_giveTurn_24 : decode cX0_giveTurn 24 = .ok (.getfield 26, 3) := by decide +kernel
theorem dX0_giveTurn_27 : decode cX0_giveTurn 27 = .ok (.iload_n 1, 1) := by decide +kernel
theorem dX0_giveTurn_28 : decode cX0_giveTurn 28 = .ok (.iaload, 1) := by decide +kernel
theorem dX0_giveTurn_29 : decode cX0_giveTurn 29 = .ok (.i2l, 1) := by decide +kernel
theorem dX0_giveTurn_30 : decode cX0_giveTurn 30 = .ok (.ladd, 1) := by decide +kernel
theorem dX0_giveTurn_31 : decode cX0_giveTurn 31 = .ok (.lstore_n 2, 1) := by decide +kernel
theorem dX0_giveTurn_32 : decode cX0_giveTurn 32 = .ok (.lload_n 2, 1) := by decide +kernel
theorem dX0_giveTurn_33 : decode cX0_giveTurn 33 = .ok (.ldc2_w 72, 3) := by decide +kernel
theorem dX0_giveTurn_36 : decode cX0_giveTurn 36 = .ok (.lcmp, 1) := by decide +kernel
theorem dX0_giveTurn_37 : decode cX0_giveTurn 37 = .ok (.ifCond .le 6, 3) := by decide +kernel
theorem dX0_giveTurn_40 : decode cX0_giveTurn 40 = .ok (.bipush (-2), 2) := by decide +kernel
theorem dX0_giveTurn_42 : decode cX0_giveTurn 42 = .ok (.ireturn, 1) := by decide +kernel
theorem dX0_giveTurn_43 : decode cX0_giveTurn 43 = .ok (.aload_n 0, 1) := by decide +kernel
theorem dX0_giveTurn_44 : decode cX0_giveTurn 44 = .ok (.getfield 29, 3) := by decide +kernel
theorem dX0_giveTurn_47 : decode cX0_giveTurn 47 = .ok (.iload_n 1, 1) := by decide +kernel
theorem dX0_giveTurn_48 : decode cX0_giveTurn 48 = .ok (.lload_n 2, 1) := by decide +kernel
theorem dX0_giveTurn_49 : decode cX0_giveTurn 49 = .ok (.l2i, 1) := by decide +kernel
theorem dX0_giveTurn_50 : decode cX0_giveTurn 50 = .ok (.iastore, 1) := by decide +kernel
theorem dX0_giveTurn_51 : decode cX0_giveTurn 51 = .ok (.aload_n 0, 1) := by decide +kernel
theorem dX0_giveTurn_52 : decode cX0_giveTurn 52 = .ok (.getfield 32, 3) := by decide +kernel
theorem dX0_giveTurn_55 : decode cX0_giveTurn 55 = .ok (.iload_n 1, 1) := by decide +kernel
theorem dX0_giveTurn_56 : decode cX0_giveTurn 56 = .ok (.dup2, 1) := by decide +kernel
theorem dX0_giveTurn_57 : decode cX0_giveTurn 57 = .ok (.iaload, 1) := by decide +kernel
theorem dX0_giveTurn_58 : decode cX0_giveTurn 58 = .ok (.iconst 1, 1) := by decide +kernel
theorem dX0_giveTurn_59 : decode cX0_giveTurn 59 = .ok (.iadd, 1) := by decide +kernel
theorem dX0_giveTurn_60 : decode cX0_giveTurn 60 = .ok (.iastore, 1) := by decide +kernel
theorem dX0_giveTurn_61 : decode cX0_giveTurn 61 = .ok (.aload_n 0, 1) := by decide +kernel
theorem dX0_giveTurn_62 : decode cX0_giveTurn 62 = .ok (.invokevirtual 74, 3) := by decide +kernel
theorem dX0_giveTurn_65 : decode cX0_giveTurn 65 = .ok (.iload_n 1, 1) := by decide +kernel
theorem dX0_giveTurn_66 : decode cX0_giveTurn 66 = .ok (.ireturn, 1) := by decide +kernel
set_option maxRecDepth 20000 in
theorem ggX0_enterLine_X0_settleFirst : GoodIn wsX0_enterLine wsX0_settleFirst := goodIn_r _ [11, 1, 2, 12, 13, 14, 10, 15, 16, 17, 18, 19, 20, 21, 22, 23, 24, 25] (by decide +kernel) (by decide +kernel)
set_option maxRecDepth 20000 in
theorem gX0_enterLine_X0_settleFirst : GoodIn wsX0_enterLine (wsV RX0 74 RX0 yX0_settleFirst wsX0_settleFirst) := goodIn_app (goodIn_of _ (by decide +kernel)) ggX0_enterLine_X0_settleFirst
theorem dX0_enterLine_0 : decode cX0_enterLine 0 = .ok (.aload_n 0, 1) := by decide +kernel
theorem dX0_enterLine_1 : decode cX0_enterLine 1 = .ok (.getfield 35, 3) := by decide +kernel
theorem dX0_enterLine_4 : decode cX0_enterLine 4 = .ok (.iconst 0, 1) := by decide +kernel
theorem dX0_enterLine_5 : decode cX0_enterLine 5 = .ok (.aload_n 0, 1) := by decide +kernel
theorem dX0_enterLine_6 : decode cX0_enterLine 6 = .ok (.getfield 35, 3) := by decide +kernel
theorem dX0_enterLine_9 : decode cX0_enterLine 9 = .ok (.iconst 1, 1) := by decide +kernel
theorem dX0_enterLine_10 : decode cX0_enterLine 10 = .ok (.aload_n 0, 1) := by decide +kernel
theorem dX0_enterLine_11 : decode cX0_enterLine 11 = .ok (.getfield 38, 3) := by decide +kernel
theorem dX0_enterLine_14 : decode cX0_enterLine 14 = .ok (.invokestatic 77, 3) := by decide +kernel
theorem dX0_enterLine_17 : decode cX0_enterLine 17 = .ok (.aload_n 0, 1) := by decide +kernel
theorem dX0_enterLine_18 : decode cX0_enterLine 18 = .ok (.getfield 35, 3) := by decide +kernel
theorem dX0_enterLine_21 : decode cX0_enterLine 21 = .ok (.iconst 0, 1) := by decide +kernel
theorem dX0_enterLine_22 : decode cX0_enterLine 22 = .ok (.iload_n 1, 1) := by decide +kernel
theorem dX0_enterLine_23 : decode cX0_enterLine 23 = .ok (.iastore, 1) := by decide +kernel
theorem dX0_enterLine_24 : decode cX0_enterLine 24 = .ok (.aload_n 0, 1) := by decide +kernel
theorem dX0_enterLine_25 : decode cX0_enterLine 25 = .ok (.dup, 1) := by decide +kernel
theorem dX0_enterLine_26 : decode cX0_enterLine 26 = .ok (.getfield 38, 3) := by decide +kernel
theorem dX0_enterLine_29 : decode cX0_enterLine 29 = .ok (.iconst 1, 1) := by decide +kernel
theorem dX0_enterLine_30 : decode cX0_enterLine 30 = .ok (.iadd, 1) := by decide +kernel
theorem dX0_enterLine_31 : decode cX0_enterLine 31 = .ok (.putfield 38, 3) := by decide +kernel
theorem dX0_enterLine_34 : decode cX0_enterLine 34 = .ok (.aload_n 0, 1) := by decide +kernel
theorem dX0_enterLine_35 : decode cX0_enterLine 35 = .ok (.invokevirtual 74, 3) := by decide +kernel
theorem dX0_enterLine_38 : decode cX0_enterLine 38 = .ok (.return_, 1) := by decide +kernel
set_option maxRecDepth 20000 in
theorem ggX0_quitLine_X0_placeOf : GoodIn wsX0_quitLine wsX0_placeOf := goodIn_r _ [11, 2, 1, 12, 13, 14, 15, 16, 17, 18, 19, 20] (by decide +kernel) (by decide +kernel)
set_option maxRecDepth 20000 in
theorem gX0_quitLine_X0_placeOf : GoodIn wsX0_quitLine (wsV RX0 83 RX0 yX0_placeOf wsX0_placeOf) := goodIn_app (goodIn_of _ (by decide +kernel)) ggX0_quitLine_X0_placeOf
theorem dX0_quitLine_0 : decode cX0_quitLine 0 = .ok (.aload_n 0, 1) := by decide +kernel
theorem dX0_quitLine_1 : decode cX0_quitLine 1 = .ok (.iload_n 1, 1) := by decide +kernel
theorem dX0_quitLine_2 : decode cX0_quitLine 2 = .ok (.invokevirtual 83, 3) := by decide +kernel
theorem dX0_quitLine_5 : decode cX0_quitLine 5 = .ok (.istore_n 2, 1) := by decide +kernel
theorem dX0_quitLine_6 : decode cX0_quitLine 6 = .ok (.aload_n 0, 1) := by decide +kernel
theorem dX0_quitLine_7 : decode cX0_quitLine 7 = .ok (.getfield 35, 3) := by decide +kernel
theorem dX0_quitLine_10 : decode cX0_quitLine 10 = .ok (.iload_n 2, 1) := by decide +kernel
theorem dX0_quitLine_11 : decode cX0_quitLine 11 = .ok (.iconst 1, 1) := by decide +kernel
theorem dX0_quitLine_12 : decode cX0_quitLine 12 = .ok (.iadd, 1) := by decide +kernel
theorem dX0_quitLine_13 : decode cX0_quitLine 13 = .ok (.aload_n 0, 1) := by decide +kernel
theorem dX0_quitLine_14 : decode cX0_quitLine 14 = .ok (.getfield 35, 3) := by decide +kernel
theorem dX0_quitLine_17 : decode cX0_quitLine 17 = .ok (.iload_n 2, 1) := by decide +kernel
theorem dX0_quitLine_18 : decode cX0_quitLine 18 = .ok (.aload_n 0, 1) := by decide +kernel
theorem dX0_quitLine_19 : decode cX0_quitLine 19 = .ok (.getfield 38, 3) := by decide +kernel
theorem dX0_quitLine_22 : decode cX0_quitLine 22 = .ok (.iload_n 2, 1) := by decide +kernel
theorem dX0_quitLine_23 : decode cX0_quitLine 23 = .ok (.isub, 1) := by decide +kernel
theorem dX0_quitLine_24 : decode cX0_quitLine 24 = .ok (.iconst 1, 1) := by decide +kernel
theorem dX0_quitLine_25 : decode cX0_quitLine 25 = .ok (.isub, 1) := by decide +kernel
theorem dX0_quitLine_26 : decode cX0_quitLine 26 = .ok (.invokestatic 77, 3) := by decide +kernel
theorem dX0_quitLine_29 : decode cX0_quitLine 29 = .ok (.aload_n 0, 1) := by decide +kernel
theorem dX0_quitLine_30 : decode cX0_quitLine 30 = .ok (.dup, 1) := by decide +kernel
theorem dX0_quitLine_31 : decode cX0_quitLine 31 = .ok (.getfield 38, 3) := by decide +kernel
theorem dX0_quitLine_34 : decode cX0_quitLine 34 = .ok (.iconst 1, 1) := by decide +kernel
theorem dX0_quitLine_35 : decode cX0_quitLine 35 = .ok (.isub, 1) := by decide +kernel
theorem dX0_quitLine_36 : decode cX0_quitLine 36 = .ok (.putfield 38, 3) := by decide +kernel
theorem dX0_quitLine_39 : decode cX0_quitLine 39 = .ok (.return_, 1) := by decide +kernel
theorem dX0_placeOf_0 : decode cX0_placeOf 0 = .ok (.iconst 0, 1) := by decide +kernel
theorem dX0_placeOf_1 : decode cX0_placeOf 1 = .ok (.istore_n 2, 1) := by decide +kernel
theorem dX0_placeOf_2 : decode cX0_placeOf 2 = .ok (.iload_n 2, 1) := by decide +kernel
theorem dX0_placeOf_3 : decode cX0_placeOf 3 = .ok (.aload_n 0, 1) := by decide +kernel
theorem dX0_placeOf_4 : decode cX0_placeOf 4 = .ok (.getfield 38, 3) := by decide +kernel
theorem dX0_placeOf_7 : decode cX0_placeOf 7 = .ok (.iconst 1, 1) := by decide +kernel
theorem dX0_placeOf_8 : decode cX0_placeOf 8 = .ok (.isub, 1) := by decide +kernel
theorem dX0_placeOf_9 : decode cX0_placeOf 9 = .ok (.if_icmp .ge 19, 3) := by decide +kernel
theorem dX0_placeOf_12 : decode cX0_placeOf 12 = .ok (.aload_n 0, 1) := by decide +kernel
theorem dX0_placeOf_13 : decode cX0_placeOf 13 = .ok (.getfield 35, 3) := by decide +kernel
theorem dX0_placeOf_16 : decode cX0_placeOf 16 = .ok (.iload_n 2, 1) := by decide +kernel
theorem dX0_placeOf_17 : decode cX0_placeOf 17 = .ok (.iaload, 1) := by decide +kernel
theorem dX0_placeOf_18 : decode cX0_placeOf 18 = .ok (.iload_n 1, 1) := by decide +kernel
theorem dX0_placeOf_19 : decode cX0_placeOf 19 = .ok (.if_icmp .eq 9, 3) := by decide +kernel
theorem dX0_placeOf_22 : decode cX0_placeOf 22 = .ok (.iinc 2 1, 3) := by decide +kernel
theorem dX0_placeOf_25 : decode cX0_placeOf 25 = .ok (.goto (-23), 3) := by decide +kernel
theorem dX0_placeOf_28 : decode cX0_placeOf 28 = .ok (.iload_n 2, 1) := by decide +kernel
theorem dX0_placeOf_29 : decode cX0_placeOf 29 = .ok (.ireturn, 1) := by decide +kernel
set_option maxRecDepth 20000 in
theorem ggX0_settleFirst_X0_isBefore : GoodIn wsX0_settleFirst wsX0_isBefore := goodIn_r _ [7, 8, 9, 10, 11, 12, 13, 14, 15, 16, 17] (by decide +kernel) (by decide +kernel)
set_option maxRecDepth 20000 in
theorem gX0_settleFirst_X0_isBefore : GoodIn wsX0_settleFirst (wsV RX0 87 RX0 yX0_isBefore wsX0_isBefore) := goodIn_app (goodIn_of _ (by decide +kernel)) ggX0_settleFirst_X0_isBefore
theorem dX0_settleFirst_0 : decode cX0_settleFirst 0 = .ok (.aload_n 0, 1) := by decide +kernel
theorem dX0_settleFirst_1 : decode cX0_settleFirst 1 = .ok (.getfield 35, 3) := by decide +kernel
theorem dX0_settleFirst_4 : decode cX0_settleFirst 4 = .ok (.iconst 0, 1) := by decide +kernel
theorem dX0_settleFirst_5 : decode cX0_settleFirst 5 = .ok (.iaload, 1) := by decide +kernel
theorem dX0_settleFirst_6 : decode cX0_settleFirst 6 = .ok (.istore_n 1, 1) := by decide +kernel
theorem dX0_settleFirst_7 : decode cX0_settleFirst 7 = .ok (.iconst 0, 1) := by decide +kernel
theorem dX0_settleFirst_8 : decode cX0_settleFirst 8 = .ok (.istore_n 2, 1) := by decide +kernel
theorem dX0_settleFirst_9 : decode cX0_settleFirst 9 = .ok (.iload_n 2, 1) := by decide +kernel
theorem dX0_settleFirst_10 : decode cX0_settleFirst 10 = .ok (.aload_n 0, 1) := by decide +kernel
theorem dX0_settleFirst_11 : decode cX0_settleFirst 11 = .ok (.getfield 38, 3) := by decide +kernel
theorem dX0_settleFirst_14 : decode cX0_settleFirst 14 = .ok (.iconst 1, 1) := by decide +kernel
theorem dX0_settleFirst_15 : decode cX0_settleFirst 15 = .ok (.isub, 1) := by decide +kernel
theorem dX0_settleFirst_16 : decode cX0_settleFirst 16 = .ok (.if_icmp .ge 39, 3) := by decide +kernel
theorem dX0_settleFirst_19 : decode cX0_settleFirst 19 = .ok (.aload_n 0, 1) := by decide +kernel
theorem dX0_settleFirst_20 : decode cX0_settleFirst 20 = .ok (.aload_n 0, 1) := by decide +kernel
theorem dX0_settleFirst_21 : decode cX0_settleFirst 21 = .ok (.getfield 35, 3) := by decide +kernel
theorem dX0_settleFirst_24 : decode cX0_settleFirst 24 = .ok (.iload_n 2, 1) := by decide +kernel
theorem dX0_settleFirst_25 : decode cX0_settleFirst 25 = .ok (.iconst 1, 1) := by decide +kernel
theorem dX0_settleFirst_26 : decode cX0_settleFirst 26 = .ok (.iadd, 1) := by decide +kernel
theorem dX0_settleFirst_27 : decode cX0_settleFirst 27 = .ok (.iaload, 1) := by decide +kernel
theorem dX0_settleFirst_28 : decode cX0_settleFirst 28 = .ok (.iload_n 1, 1) := by decide +kernel
theorem dX0_settleFirst_29 : decode cX0_settleFirst 29 = .ok (.invokevirtual 87, 3) := by decide +kernel
theorem dX0_settleFirst_32 : decode cX0_settleFirst 32 = .ok (.ifCond .eq 23, 3) := by decide +kernel
theorem dX0_settleFirst_35 : decode cX0_settleFirst 35 = .ok (.aload_n 0, 1) := by decide +kernel
theorem dX0_settleFirst_36 : decode cX0_settleFirst 36 = .ok (.getfield 35, 3) := by decide +kernel
theorem dX0_settleFirst_39 : decode cX0_settleFirst 39 = .ok (.iload_n 2, 1) := by decide +kernel
theorem dX0_settleFirst_40 : decode cX0_settleFirst 40 = .ok (.aload_n 0, 1) := by decide +kernel
theorem dX0_settleFirst_41 : decode cX0_settleFirst 41 = .ok (.getfield 35, 3) := by decide +kernel
theorem dX0_settleFirst_44 : decode cX0_settleFirst 44 = .ok (.iload_n 2, 1) := by decide +kernel
theorem dX0_settleFirst_45 : decode cX0_settleFirst 45 = .ok (.iconst 1, 1) := by decide +kernel
theorem dX0_settleFirst_46 : decode cX0_settleFirst 46 = .ok (.iadd, 1) := by decide +kernel
theorem dX0_settleFirst_47 : decode cX0_settleFirst 47 = .ok (.iaload, 1) := by decide +kernel
theorem dX0_settleFirst_48 : decode cX0_settleFirst 48 = .ok (.iastore, 1) := by decide +kernel
theorem dX0_settleFirst_49 : decode cX0_settleFirst 49 = .ok (.iinc 2 1, 3) := by decide +kernel
theorem dX0_settleFirst_52 : decode cX0_settleFirst 52 = .ok (.goto (-43), 3) := by decide +kernel
theorem dX0_settleFirst_55 : decode cX0_settleFirst 55 = .ok (.aload_n 0, 1) := by decide +kernel
theorem dX0_settleFirst_56 : decode cX0_settleFirst 56 = .ok (.getfield 35, 3) := by decide +kernel
theorem dX0_settleFirst_59 : decode cX0_settleFirst 59 = .ok (.iload_n 2, 1) := by decide +kernel
theorem dX0_settleFirst_60 : decode cX0_settleFirst 60 = .ok (.iload_n 1, 1) := by decide +kernel
theorem dX0_settleFirst_61 : decode cX0_settleFirst 61 = .ok (.iastore, 1) := by decide +kernel
theorem dX0_settleFirst_62 : decode cX0_settleFirst 62 = .ok (.return_, 1) := by decide +kernel
theorem dX0_isBefore_0 : decode cX0_isBefore 0 = .ok (.aload_n 0, 1) := by decide +kernel
theorem dX0_isBefore_1 : decode cX0_isBefore 1 = .ok (.getfield 29, 3) := by decide +kernel
theorem dX0_isBefore_4 : decode cX0_isBefore 4 = .ok (.iload_n 1, 1) := by decide +kernel
theorem dX0_isBefore_5 : decode cX0_isBefore 5 = .ok (.iaload, 1) := by decide +kernel
theorem dX0_isBefore_6 : decode cX0_isBefore 6 = .ok (.aload_n 0, 1) := by decide +kernel
theorem dX0_isBefore_7 : decode cX0_isBefore 7 = .ok (.getfield 29, 3) := by decide +kernel
theorem dX0_isBefore_10 : decode cX0_isBefore 10 = .ok (.iload_n 2, 1) := by decide +kernel
theorem dX0_isBefore_11 : decode cX0_isBefore 11 = .ok (.iaload, 1) := by decide +kernel
theorem dX0_isBefore_12 : decode cX0_isBefore 12 = .ok (.if_icmp .eq 24, 3) := by decide +kernel
theorem dX0_isBefore_15 : decode cX0_isBefore 15 = .ok (.aload_n 0, 1) := by decide +kernel
theorem dX0_isBefore_16 : decode cX0_isBefore 16 = .ok (.getfield 29, 3) := by decide +kernel
theorem dX0_isBefore_19 : decode cX0_isBefore 19 = .ok (.iload_n 1, 1) := by decide +kernel
theorem dX0_isBefore_20 : decode cX0_isBefore 20 = .ok (.iaload, 1) := by decide +kernel
theorem dX0_isBefore_21 : decode cX0_isBefore 21 = .ok (.aload_n 0, 1) := by decide +kernel
theorem dX0_isBefore_22 : decode cX0_isBefore 22 = .ok (.getfield 29, 3) := by decide +kernel
theorem dX0_isBefore_25 : decode cX0_isBefore 25 = .ok (.iload_n 2, 1) := by decide +kernel
theorem dX0_isBefore_26 : decode cX0_isBefore 26 = .ok (.iaload, 1) := by decide +kernel
theorem dX0_isBefore_27 : decode cX0_isBefore 27 = .ok (.if_icmp .ge 7, 3) := by decide +kernel
theorem dX0_isBefore_30 : decode cX0_isBefore 30 = .ok (.iconst 1, 1) := by decide +kernel
theorem dX0_isBefore_31 : decode cX0_isBefore 31 = .ok (.goto 4, 3) := by decide +kernel
theorem dX0_isBefore_34 : decode cX0_isBefore 34 = .ok (.iconst 0, 1) := by decide +kernel
theorem dX0_isBefore_35 : decode cX0_isBefore 35 = .ok (.ireturn, 1) := by decide +kernel
theorem dX0_isBefore_36 : decode cX0_isBefore 36 = .ok (.iload_n 1, 1) := by decide +kernel
theorem dX0_isBefore_37 : decode cX0_isBefore 37 = .ok (.iload_n 2, 1) := by decide +kernel
theorem dX0_isBefore_38 : decode cX0_isBefore 38 = .ok (.if_icmp .ge 7, 3) := by decide +kernel
theorem dX0_isBefore_41 : decode cX0_isBefore 41 = .ok (.iconst 1, 1) := by decide +kernel
theorem dX0_isBefore_42 : decode cX0_isBefore 42 = .ok (.goto 4, 3) := by decide +kernel
theorem dX0_isBefore_45 : decode cX0_isBefore 45 = .ok (.iconst 0, 1) := by decide +kernel
theorem dX0_isBefore_46 : decode cX0_isBefore 46 = .ok (.ireturn, 1) := by decide +kernel
theorem dX1_init_0 : decode cX1_init 0 = .ok (.aload_n 0, 1) := by decide +kernel
theorem dX1_init_1 : decode cX1_init 1 = .ok (.invokespecial 1, 3) := by decide +kernel
theorem dX1_init_4 : decode cX1_init 4 = .ok (.aload_n 0, 1) := by decide +kernel
theorem dX1_init_5 : decode cX1_init 5 = .ok (.bipush 64, 2) := by decide +kernel
theorem dX1_init_7 : decode cX1_init 7 = .ok (.newarray .boolean, 2) := by decide +kernel
theorem dX1_init_9 : decode cX1_init 9 = .ok (.putfield 7, 3) := by decide +kernel
theorem dX1_init_12 : decode cX1_init 12 = .ok (.aload_n 0, 1) := by decide +kernel
theorem dX1_init_13 : decode cX1_init 13 = .ok (.bipush 64, 2) := by decide +kernel
theorem dX1_init_15 : decode cX1_init 15 = .ok (.newarray .int, 2) := by decide +kernel
theorem dX1_init_17 : decode cX1_init 17 = .ok (.putfield 13, 3) := by decide +kernel
theorem dX1_init_20 : decode cX1_init 20 = .ok (.aload_n 0, 1) := by decide +kernel
theorem dX1_init_21 : decode cX1_init 21 = .ok (.bipush 64, 2) := by decide +kernel
theorem dX1_init_23 : decode cX1_init 23 = .ok (.newarray .long, 2) := by decide +kernel
theorem dX1_init_25 : decode cX1_init 25 = .ok (.putfield 17, 3) := by decide +kernel
theorem dX1_init_28 : decode cX1_init 28 = .ok (.aload_n 0, 1) := by decide +kernel
theorem dX1_init_29 : decode cX1_init 29 = .ok (.bipush 64, 2) := by decide +kernel
theorem dX1_init_31 : decode cX1_init 31 = .ok (.newarray .int, 2) := by decide +kernel
theorem dX1_init_33 : decode cX1_init 33 = .ok (.putfield 21, 3) := by decide +kernel
theorem dX1_init_36 : decode cX1_init 36 = .ok (.aload_n 0, 1) := by decide +kernel
theorem dX1_init_37 : decode cX1_init 37 = .ok (.iload_n 1, 1) := by decide +kernel
theorem dX1_init_38 : decode cX1_init 38 = .ok (.bipush 63, 2) := by decide +kernel
theorem dX1_init_40 : decode cX1_init 40 = .ok (.iand, 1) := by decide +kernel
theorem dX1_init_41 : decode cX1_init 41 = .ok (.iconst 1, 1) := by decide +kernel
theorem dX1_init_42 : decode cX1_init 42 = .ok (.iadd, 1) := by decide +kernel
theorem dX1_init_43 : decode cX1_init 43 = .ok (.putfield 24, 3) := by decide +kernel
theorem dX1_init_46 : decode cX1_init 46 = .ok (.iload_n 2, 1) := by decide +kernel
theorem dX1_init_47 : decode cX1_init 47 = .ok (.sipush 32767, 3) := by decide +kernel
theorem dX1_init_50 : decode cX1_init 50 = .ok (.irem, 1) := by decide +kernel
theorem dX1_init_51 : decode cX1_init 51 = .ok (.istore_n 3, 1) := by decide +kernel
theorem dX1_init_52 : decode cX1_init 52 = .ok (.aload_n 0, 1) := by decide +kernel
theorem dX1_init_53 : decode cX1_init 53 = .ok (.iload_n 3, 1) := by decide +kernel
theorem dX1_init_54 : decode cX1_init 54 = .ok (.ifCond .ge 11, 3) := by decide +kernel
theorem dX1_init_57 : decode cX1_init 57 = .ok (.iload_n 3, 1) := by decide +kernel
theorem dX1_init_58 : decode cX1_init 58 = .ok (.sipush 32767, 3) := by decide +kernel
theorem dX1_init_61 : decode cX1_init 61 = .ok (.iadd, 1) := by decide +kernel
theorem dX1_init_62 : decode cX1_init 62 = .ok (.goto 4, 3) := by decide +kernel
theorem dX1_init_65 : decode cX1_init 65 = .ok (.iload_n 3, 1) := by decide +kernel
theorem dX1_init_66 : decode cX1_init 66 = .ok (.iconst 2, 1) := by decide +kernel
theorem dX1_init_67 : decode cX1_init 67 = .ok (.iadd, 1) := by decide +kernel
theorem dX1_init_68 : decode cX1_init 68 = .ok (.putfield 28, 3) := by decide +kernel
theorem dX1_init_71 : decode cX1_init 71 = .ok (.return_, 1) := by decide +kernel
theorem dX1_isClient_0 : decode cX1_isClient 0 = .ok (.iload_n 1, 1) := by decide +kernel
theorem dX1_isClient_1 : decode cX1_isClient 1 = .ok (.ifCond .lt 15, 3) := by decide +kernel
theorem dX1_isClient_4 : decode cX1_isClient 4 = .ok (.iload_n 1, 1) := by decide +kernel
theorem dX1_isClient_5 : decode cX1_isClient 5 = .ok (.aload_n 0, 1) := by decide +kernel
theorem dX1_isClient_6 : decode cX1_isClient 6 = .ok (.getfield 24, 3) := by decide +kernel
theorem dX1_isClient_9 : decode cX1_isClient 9 = .ok (.if_icmp .ge 7, 3) := by decide +kernel
theorem dX1_isClient_12 : decode cX1_isClient 12 = .ok (.iconst 1, 1) := by decide +kernel
theorem dX1_isClient_13 : decode cX1_isClient 13 = .ok (.goto 4, 3) := by decide +kernel
theorem dX1_isClient_16 : decode cX1_isClient 16 = .ok (.iconst 0, 1) := by decide +kernel
theorem dX1_isClient_17 : decode cX1_isClient 17 = .ok (.ireturn, 1) := by decide +kernel
end
section
set_option maxRecDepth 20000 in
theorem ggX1_isIn_X1_isClient : GoodIn wsX1_isIn wsX1_isClient := goodIn_r _ [6, 7, 8, 9, 10, 11, 12, 13, 14, 15] (by decide +kernel) (by decide +kernel)
set_option maxRecDepth 20000 in
theorem gX1_isIn_X1_isClient : GoodIn wsX1_isIn (wsV RX1 31 RX1 yX1_isClient wsX1_isClient) := goodIn_app (goodIn_of _ (by decide +kernel)) ggX1_isIn_X1_isClient
theorem dX1_isIn_0 : decode cX1_isIn 0 = .ok (.aload_n 0, 1) := by decide +kernel
theorem dX1_isIn_1 : decode cX1_isIn 1 = .ok (.iload_n 1, 1) := by decide +kernel
theorem dX1_isIn_2 : decode cX1_isIn 2 = .ok (.invokevirtual 31, 3) := by decide +kernel
theorem dX1_isIn_5 : decode cX1_isIn 5 = .ok (.ifCond .eq 16, 3) := by decide +kernel
theorem dX1_isIn_8 : decode cX1_isIn 8 = .ok (.aload_n 0, 1) := by decide +kernel
theorem dX1_isIn_9 : decode cX1_isIn 9 = .ok (.getfield 7, 3) := by decide +kernel
theorem dX1_isIn_12 : decode cX1_isIn 12 = .ok (.iload_n 1, 1) := by decide +kernel
theorem dX1_isIn_13 : decode cX1_isIn 13 = .ok (.baload, 1) := by decide +kernel
theorem dX1_isIn_14 : decode cX1_isIn 14 = .ok (.ifCond .eq 7, 3) := by decide +kernel
theorem dX1_isIn_17 : decode cX1_isIn 17 = .ok (.iconst 1, 1) := by decide +kernel
theorem dX1_isIn_18 : decode cX1_isIn 18 = .ok (.goto 4, 3) := by decide +kernel
theorem dX1_isIn_21 : decode cX1_isIn 21 = .ok (.iconst 0, 1) := by decide +kernel
theorem dX1_isIn_22 : decode cX1_isIn 22 = .ok (.ireturn, 1) := by decide +kernel
theorem dX1_areTickets_0 : decode cX1_areTickets 0 = .ok (.iload_n 1, 1) := by decide +kernel
theorem dX1_areTickets_1 : decode cX1_areTickets 1 = .ok (.ifCond .le 15, 3) := by decide +kernel
theorem dX1_areTickets_4 : decode cX1_areTickets 4 = .ok (.iload_n 1, 1) := by decide +kernel
theorem dX1_areTickets_5 : decode cX1_areTickets 5 = .ok (.aload_n 0, 1) := by decide +kernel
theorem dX1_areTickets_6 : decode cX1_areTickets 6 = .ok (.getfield 28, 3) := by decide +kernel
theorem dX1_areTickets_9 : decode cX1_areTickets 9 = .ok (.if_icmp .ge 7, 3) := by decide +kernel
theorem dX1_areTickets_12 : decode cX1_areTickets 12 = .ok (.iconst 1, 1) := by decide +kernel
theorem dX1_areTickets_13 : decode cX1_areTickets 13 = .ok (.goto 4, 3) := by decide +kernel
theorem dX1_areTickets_16 : decode cX1_areTickets 16 = .ok (.iconst 0, 1) := by decide +kernel
theorem dX1_areTickets_17 : decode cX1_areTickets 17 = .ok (.ireturn, 1) := by decide +kernel
theorem dX1_isBefore_0 : decode cX1_isBefore 0 = .ok (.aload_n 0, 1) := by decide +kernel
theorem dX1_isBefore_1 : decode cX1_isBefore 1 = .ok (.getfield 17, 3) := by decide +kernel
theorem dX1_isBefore_4 : decode cX1_isBefore 4 = .ok (.iload_n 1, 1) := by decide +kernel
theorem dX1_isBefore_5 : decode cX1_isBefore 5 = .ok (.laload, 1) := by decide +kernel
theorem dX1_isBefore_6 : decode cX1_isBefore 6 = .ok (.aload_n 0, 1) := by decide +kernel
theorem dX1_isBefore_7 : decode cX1_isBefore 7 = .ok (.getfield 17, 3) := by decide +kernel
theorem dX1_isBefore_10 : decode cX1_isBefore 10 = .ok (.iload_n 2, 1) := by decide +kernel
theorem dX1_isBefore_11 : decode cX1_isBefore 11 = .ok (.laload, 1) := by decide +kernel
theorem dX1_isBefore_12 : decode cX1_isBefore 12 = .ok (.lcmp, 1) := by decide +kernel
theorem dX1_isBefore_13 : decode cX1_isBefore 13 = .ok (.ifCond .lt 24, 3) := by decide +kernel
theorem dX1_isBefore_16 : decode cX1_isBefore 16 = .ok (.aload_n 0, 1) := by decide +kernel
theorem dX1_isBefore_17 : decode cX1_isBefore 17 = .ok (.getfield 17, 3) := by decide +kernel
theorem dX1_isBefore_20 : decode cX1_isBefore 20 = .ok (.iload_n 1, 1) := by decide +kernel
theorem dX1_isBefore_21 : decode cX1_isBefore 21 = .ok (.laload, 1) := by decide +kernel
theorem dX1_isBefore_22 : decode cX1_isBefore 22 = .ok (.aload_n 0, 1) := by decide +kernel
theorem dX1_isBefore_23 : decode cX1_isBefore 23 = .ok (.getfield 17, 3) := by decide +kernel
theorem dX1_isBefore_26 : decode cX1_isBefore 26 = .ok (.iload_n 2, 1) := by decide +kernel
theorem dX1_isBefore_27 : decode cX1_isBefore 27 = .ok (.laload, 1) := by decide +kernel
theorem dX1_isBefore_28 : decode cX1_isBefore 28 = .ok (.lcmp, 1) := by decide +kernel
theorem dX1_isBefore_29 : decode cX1_isBefore 29 = .ok (.ifCond .ne 12, 3) := by decide +kernel
theorem dX1_isBefore_32 : decode cX1_isBefore 32 = .ok (.iload_n 1, 1) := by decide +kernel
theorem dX1_isBefore_33 : decode cX1_isBefore 33 = .ok (.iload_n 2, 1) := by decide +kernel
theorem dX1_isBefore_34 : decode cX1_isBefore 34 = .ok (.if_icmp .ge 7, 3) := by decide +kernel
theorem dX1_isBefore_37 : decode cX1_isBefore 37 = .ok (.iconst 1, 1) := by decide +kernel
theorem dX1_isBefore_38 : decode cX1_isBefore 38 = .ok (.goto 4, 3) := by decide +kernel
theorem dX1_isBefore_41 : decode cX1_isBefore 41 = .ok (.iconst 0, 1) := by decide +kernel
theorem dX1_isBefore_42 : decode cX1_isBefore 42 = .ok (.ireturn, 1) := by decide +kernel
set_option maxRecDepth 20000 in
theorem ggX1_first_X1_isBefore : GoodIn wsX1_first wsX1_isBefore := goodIn_r _ [7, 8, 9, 10, 11, 12, 13, 14, 15, 16] (by decide +kernel) (by decide +kernel)
set_option maxRecDepth 20000 in
theorem gX1_first_X1_isBefore : GoodIn wsX1_first (wsV RX1 35 RX1 yX1_isBefore wsX1_isBefore) := goodIn_app (goodIn_of _ (by decide +kernel)) ggX1_first_X1_isBefore
theorem dX1_first_0 : decode cX1_first 0 = .ok (.iconst (-1), 1) := by decide +kernel
theorem dX1_first_1 : decode cX1_first 1 = .ok (.istore_n 1, 1) := by decide +kernel
theorem dX1_first_2 : decode cX1_first 2 = .ok (.iconst 0, 1) := by decide +kernel
theorem dX1_first_3 : decode cX1_first 3 = .ok (.istore_n 2, 1) := by decide +kernel
theorem dX1_first_4 : decode cX1_first 4 = .ok (.iload_n 2, 1) := by decide +kernel
theorem dX1_first_5 : decode cX1_first 5 = .ok (.aload_n 0, 1) := by decide +kernel
theorem dX1_first_6 : decode cX1_first 6 = .ok (.getfield 24, 3) := by decide +kernel
theorem dX1_first_9 : decode cX1_first 9 = .ok (.if_icmp .ge 33, 3) := by decide +kernel
theorem dX1_first_12 : decode cX1_first 12 = .ok (.aload_n 0, 1) := by decide +kernel
theorem dX1_first_13 : decode cX1_first 13 = .ok (.getfield 7, 3) := by decide +kernel
theorem dX1_first_16 : decode cX1_first 16 = .ok (.iload_n 2, 1) := by decide +kernel
theorem dX1_first_17 : decode cX1_first 17 = .ok (.baload, 1) := by decide +kernel
theorem dX1_first_18 : decode cX1_first 18 = .ok (.ifCond .eq 18, 3) := by decide +kernel
theorem dX1_first_21 : decode cX1_first 21 = .ok (.iload_n 1, 1) := by decide +kernel
theorem dX1_first_22 : decode cX1_first 22 = .ok (.ifCond .lt 12, 3) := by decide +kernel
theorem dX1_first_25 : decode cX1_first 25 = .ok (.aload_n 0, 1) := by decide +kernel
theorem dX1_first_26 : decode cX1_first 26 = .ok (.iload_n 2, 1) := by decide +kernel
theorem dX1_first_27 : decode cX1_first 27 = .ok (.iload_n 1, 1) := by decide +kernel
theorem dX1_first_28 : decode cX1_first 28 = .ok (.invokevirtual 35, 3) := by decide +kernel
theorem dX1_first_31 : decode cX1_first 31 = .ok (.ifCond .eq 5, 3) := by decide +kernel
theorem dX1_first_34 : decode cX1_first 34 = .ok (.iload_n 2, 1) := by decide +kernel
theorem dX1_first_35 : decode cX1_first 35 = .ok (.istore_n 1, 1) := by decide +kernel
theorem dX1_first_36 : decode cX1_first 36 = .ok (.iinc 2 1, 3) := by decide +kernel
theorem dX1_first_39 : decode cX1_first 39 = .ok (.goto (-35), 3) := by decide +kernel
theorem dX1_first_42 : decode cX1_first 42 = .ok (.iload_n 1, 1) := by decide +kernel
theorem dX1_first_43 : decode cX1_first 43 = .ok (.ireturn, 1) := by decide +kernel
set_option maxRecDepth 20000 in
theorem ggX1_join_X1_isClient : GoodIn wsX1_join wsX1_isClient := goodIn_r _ [10, 11, 25, 26, 27, 28, 29, 30, 31, 32] (by decide +kernel) (by decide +kernel)
set_option maxRecDepth 20000 in
theorem gX1_join_X1_isClient : GoodIn wsX1_join (wsV RX1 31 RX1 yX1_isClient wsX1_isClient) := goodIn_app (goodIn_of _ (by decide +kernel)) ggX1_join_X1_isClient
set_option maxRecDepth 20000 in
theorem ggX1_join_X1_areTickets : GoodIn wsX1_join wsX1_areTickets := goodIn_r _ [15, 16, 25, 26, 27, 28, 29, 30, 31, 32] (by decide +kernel) (by decide +kernel)
set_option maxRecDepth 20000 in
theorem gX1_join_X1_areTickets : GoodIn wsX1_join (wsV RX1 39 RX1 yX1_areTickets wsX1_areTickets) := goodIn_app (goodIn_of _ (by decide +kernel)) ggX1_join_X1_areTickets
set_option maxRecDepth 20000 in
theorem ggX1_join_X1_first : GoodIn wsX1_join wsX1_first := goodIn_r _ [20, 11, 1, 21, 22, 23, 9, 24, 2, 25, 26, 27, 28, 29, 30, 31, 32] (by decide +kernel) (by decide +kernel)
set_option maxRecDepth 20000 in
theorem gX1_join_X1_first : GoodIn wsX1_join (wsV RX1 42 RX1 yX1_first wsX1_first) := goodIn_app (goodIn_of _ (by decide +kernel)) ggX1_join_X1_first
theorem dX1_join_0 : decode cX1_join 0 = .ok (.aload_n 0, 1) := by decide +kernel
theorem dX1_join_1 : decode cX1_join 1 = .ok (.iload_n 1, 1) := by decide +kernel
theorem dX1_join_2 : decode cX1_join 2 = .ok (.invokevirtual 31, 3) := by decide +kernel
theorem dX1_join_5 : decode cX1_join 5 = .ok (.ifCond .ne 5, 3) := by decide +kernel
theorem dX1_join_8 : decode cX1_join 8 = .ok (.iconst (-1), 1) := by decide +kernel
theorem dX1_join_9 : decode cX1_join 9 = .ok (.ireturn, 1) := by decide +kernel
theorem dX1_join_10 : decode cX1_join 10 = .ok (.aload_n 0, 1) := by decide +kernel
theorem dX1_join_11 : decode cX1_join 11 = .ok (.getfield 7, 3) := by decide +kernel
theorem dX1_join_14 : decode cX1_join 14 = .ok (.iload_n 1, 1) := by decide +kernel
theorem dX1_join_15 : decode cX1_join 15 = .ok (.baload, 1) := by decide +kernel
theorem dX1_join_16 : decode cX1_join 16 = .ok (.ifCond .eq 6, 3) := by decide +kernel
theorem dX1_join_19 : decode cX1_join 19 = .ok (.bipush (-2), 2) := by decide +kernel
theorem dX1_join_21 : decode cX1_join 21 = .ok (.ireturn, 1) := by decide +kernel
theorem dX1_join_22 : decode cX1_join 22 = .ok (.aload_n 0, 1) := by decide +kernel
theorem dX1_join_23 : decode cX1_join 23 = .ok (.iload_n 2, 1) := by decide +kernel
theorem dX1_join_24 : decode cX1_join 24 = .ok (.invokevirtual 39, 3) := by decide +kernel
theorem dX1_join_27 : decode cX1_join 27 = .ok (.ifCond .ne 6, 3) := by decide +kernel
theorem dX1_join_30 : decode cX1_join 30 = .ok (.bipush (-3), 2) := by decide +kernel
theorem dX1_join_32 : decode cX1_join 32 = .ok (.ireturn, 1) := by decide +kernel
theorem dX1_join_33 : decode cX1_join 33 = .ok (.aload_n 0, 1) := by decide +kernel
theorem dX1_join_34 : decode cX1_join 34 = .ok (.invokevirtual 42, 3) := by decide +kernel
theorem dX1_join_37 : decode cX1_join 37 = .ok (.istore_n 3, 1) := by decide +kernel
theorem dX1_join_38 : decode cX1_join 38 = .ok (.aload_n 0, 1) := by decide +kernel
theorem dX1_join_39 : decode cX1_join 39 = .ok (.getfield 17, 3) := by decide +kernel
theorem dX1_join_42 : decode cX1_join 42 = .ok (.iload_n 1, 1) := by decide +kernel
theorem dX1_join_43 : decode cX1_join 43 = .ok (.iload_n 3, 1) := by decide +kernel
theorem dX1_join_44 : decode cX1_join 44 = .ok (.ifCond .ge 10, 3) := by decide +kernel
theorem dX1_join_47 : decode cX1_join 47 = .ok (.aload_n 0, 1) := by decide +kernel
theorem dX1_join_48 : decode cX1_join 48 = .ok (.getfield 46, 3) := by decide +kernel
theorem dX1_join_51 : decode cX1_join 51 = .ok (.goto 9, 3) := by decide +kernel
theorem dX1_join_54 : decode cX1_join 54 = .ok (.aload_n 0, 1) := by decide +kernel
theorem dX1_join_55 : decode cX1_join 55 = .ok (.getfield 17, 3) := by decide +kernel
theorem dX1_join_58 : decode cX1_join 58 = .ok (.iload_n 3, 1) := by decide +kernel
theorem dX1_join_59 : decode cX1_join 59 = .ok (.laload, 1) := by decide +kernel
theorem dX1_join_60 : decode cX1_join 60 = .ok (.lastore, 1) := by decide +kernel
theorem dX1_join_61 : decode cX1_join 61 = .ok (.aload_n 0, 1) := by decide +kernel
theorem dX1_join_62 : decode cX1_join 62 = .ok (.getfield 7, 3) := by decide +kernel
theorem dX1_join_65 : decode cX1_join 65 = .ok (.iload_n 1, 1) := by decide +kernel
theorem dX1_join_66 : decode cX1_join 66 = .ok (.iconst 1, 1) := by decide +kernel
theorem dX1_join_67 : decode cX1_join 67 = .ok (.bastore, 1) := by decide +kernel
theorem dX1_join_68 : decode cX1_join 68 = .ok (.aload_n 0, 1) := by decide +kernel
theorem dX1_join_69 : decode cX1_join 69 = .ok (.getfield 13, 3) := by decide +kernel
theorem dX1_join_72 : decode cX1_join 72 = .ok (.iload_n 1, 1) := by decide +kernel
theorem dX1_join_73 : decode cX1_join 73 = .ok (.iload_n 2, 1) := by decide +kernel
theorem dX1_join_74 : decode cX1_join 74 = .ok (.iastore, 1) := by decide +kernel
theorem dX1_join_75 : decode cX1_join 75 = .ok (.aload_n 0, 1) := by decide +kernel
theorem dX1_join_76 : decode cX1_join 76 = .ok (.dup, 1) := by decide +kernel
theorem dX1_join_77 : decode cX1_join 77 = .ok (.getfield 50, 3) := by decide +kernel
theorem dX1_join_80 : decode cX1_join 80 = .ok (.iconst 1, 1) := by decide +kernel
theorem dX1_join_81 : decode cX1_join 81 = .ok (.iadd, 1) := by decide +kernel
theorem dX1_join_82 : decode cX1_join 82 = .ok (.putfield 50, 3) := by decide +kernel
theorem dX1_join_85 : decode cX1_join 85 = .ok (.iconst 1, 1) := by decide +kernel
theorem dX1_join_86 : decode cX1_join 86 = .ok (.ireturn, 1) := by decide +kernel
set_option maxRecDepth 20000 in
theorem ggX1_leave_X1_isClient : GoodIn wsX1_leave wsX1_isClient := goodIn_r _ [9, 10, 11, 12, 13, 14, 15, 16, 17, 18] (by decide +kernel) (by decide +kernel)
set_option maxRecDepth 20000 in
theorem gX1_leave_X1_isClient : GoodIn wsX1_leave (wsV RX1 31 RX1 yX1_isClient wsX1_isClient) := goodIn_app (goodIn_of _ (by decide +kernel)) ggX1_leave_X1_isClient
theorem dX1_leave_0 : decode cX1_leave 0 = .ok (.aload_n 0, 1) := by decide +kernel
theorem dX1_leave_1 : decode cX1_leave 1 = .ok (.iload_n 1, 1) := by decide +kernel
theorem dX1_leave_2 : decode cX1_leave 2 = .ok (.invokevirtual 31, 3) := by decide +kernel
theorem dX1_leave_5 : decode cX1_leave 5 = .ok (.ifCond .ne 5, 3) := by decide +kernel
theorem dX1_leave_8 : decode cX1_leave 8 = .ok (.iconst (-1), 1) := by decide +kernel
theorem dX1_leave_9 : decode cX1_leave 9 = .ok (.ireturn, 1) := by decide +kernel
theorem dX1_leave_10 : decode cX1_leave 10 = .ok (.aload_n 0, 1) := by decide +kernel
theorem dX1_leave_11 : decode cX1_leave 11 = .ok (.getfield 7, 3) := by decide +kernel
theorem dX1_leave_14 : decode cX1_leave 14 = .ok (.iload_n 1, 1) := by decide +kernel
theorem dX1_leave_15 : decode cX1_leave 15 = .ok (.baload, 1) := by decide +kernel
theorem dX1_leave_16 : decode cX1_leave 16 = .ok (.ifCond .ne 6, 3) := by decide +kernel
theorem dX1_leave_19 : decode cX1_leave 19 = .ok (.bipush (-2), 2) := by decide +kernel
theorem dX1_leave_21 : decode cX1_leave 21 = .ok (.ireturn, 1) := by decide +kernel
theorem dX1_leave_22 : decode cX1_leave 22 = .ok (.aload_n 0, 1) := by decide +kernel
theorem dX1_leave_23 : decode cX1_leave 23 = .ok (.getfield 7, 3) := by decide +kernel
theorem dX1_leave_26 : decode cX1_leave 26 = .ok (.iload_n 1, 1) := by decide +kernel
theorem dX1_leave_27 : decode cX1_leave 27 = .ok (.iconst 0, 1) := by decide +kernel
theorem dX1_leave_28 : decode cX1_leave 28 = .ok (.bastore, 1) := by decide +kernel
theorem dX1_leave_29 : decode cX1_leave 29 = .ok (.aload_n 0, 1) := by decide +kernel
theorem dX1_leave_30 : decode cX1_leave 30 = .ok (.aload_n 0, 1) := by decide +kernel
theorem dX1_leave_31 : decode cX1_leave 31 = .ok (.getfield 17, 3) := by decide +kernel
theorem dX1_leave_34 : decode cX1_leave 34 = .ok (.iload_n 1, 1) := by decide +kernel
theorem dX1_leave_35 : decode cX1_leave 35 = .ok (.laload, 1) := by decide +kernel
theorem dX1_leave_36 : decode cX1_leave 36 = .ok (.putfield 46, 3) := by decide +kernel
theorem dX1_leave_39 : decode cX1_leave 39 = .ok (.aload_n 0, 1) := by decide +kernel
theorem dX1_leave_40 : decode cX1_leave 40 = .ok (.dup, 1) := by decide +kernel
theorem dX1_leave_41 : decode cX1_leave 41 = .ok (.getfield 50, 3) := by decide +kernel
theorem dX1_leave_44 : decode cX1_leave 44 = .ok (.iconst 1, 1) := by decide +kernel
theorem dX1_leave_45 : decode cX1_leave 45 = .ok (.isub, 1) := by decide +kernel
theorem dX1_leave_46 : decode cX1_leave 46 = .ok (.putfield 50, 3) := by decide +kernel
theorem dX1_leave_49 : decode cX1_leave 49 = .ok (.iconst 1, 1) := by decide +kernel
theorem dX1_leave_50 : decode cX1_leave 50 = .ok (.ireturn, 1) := by decide +kernel
set_option maxRecDepth 20000 in
theorem ggX1_next_X1_first : GoodIn wsX1_next wsX1_first := goodIn_r _ [10, 11, 12, 13, 14, 15, 9, 16, 1, 17, 18, 19, 20, 21, 22, 23, 24] (by decide +kernel) (by decide +kernel)
set_option maxRecDepth 20000 in
theorem gX1_next_X1_first : GoodIn wsX1_next (wsV RX1 42 RX1 yX1_first wsX1_first) := goodIn_app (goodIn_of _ (by decide +kernel)) ggX1_next_X1_first
theorem dX1_next_0 : decode cX1_next 0 = .ok (.aload_n 0, 1) := by decide +kernel
theorem dX1_next_1 : decode cX1_next 1 = .ok (.invokevirtual 42, 3) := by decide +kernel
theorem dX1_next_4 : decode cX1_next 4 = .ok (.istore_n 1, 1) := by decide +kernel
theorem dX1_next_5 : decode cX1_next 5 = .ok (.iload_n 1, 1) := by decide +kernel
theorem dX1_next_6 : decode cX1_next 6 = .ok (.ifCond .ge 5, 3) := by decide +kernel
theorem dX1_next_9 : decode cX1_next 9 = .ok (.iconst (-1), 1) := by decide +kernel
theorem dX1_next_10 : decode cX1_next 10 = .ok (.ireturn, 1) := by decide +kernel
theorem dX1_next_11 : decode cX1_next 11 = .ok (.aload_n 0, 1) := by decide +kernel
theorem dX1_next_12 : decode cX1_next 12 = .ok (.getfield 17, 3) := by decide +kernel
theorem dX1_next_15 : decode cX1_next 15 = .ok (.iload_n 1, 1) := by decide +kernel
theorem dX1_next_16 : decode cX1_next 16 = .ok (.laload, 1) := by decide +kernel
theorem dX1_next_17 : decode cX1_next 17 = .ok (.aload_n 0, 1) := by decide +kernel
theorem dX1_next_18 : decode cX1_next 18 = .ok (.getfield 28, 3) := by decide +kernel
theorem dX1_next_21 : decode cX1_next 21 = .ok (.aload_n 0, 1) := by decide +kernel
theorem dX1_next_22 : decode cX1_next 22 = .ok (.getfield 13, 3) := by decide +kernel
theorem dX1_next_25 : decode cX1_next 25 = .ok (.iload_n 1, 1) := by decide +kernel
theorem dX1_next_26 : decode cX1_next 26 = .ok (.iaload, 1) := by decide +kernel
theorem dX1_next_27 : decode cX1_next 27 = .ok (.idiv, 1) := by decide +kernel
theorem dX1_next_28 : decode cX1_next 28 = .ok (.i2l, 1) := by decide +kernel
theorem dX1_next_29 : decode cX1_next 29 = .ok (.ladd, 1) := by decide +kernel
theorem dX1_next_30 : decode cX1_next 30 = .ok (.lstore_n 2, 1) := by decide +kernel
theorem dX1_next_31 : decode cX1_next 31 = .ok (.lload_n 2, 1) := by decide +kernel
theorem dX1_next_32 : decode cX1_next 32 = .ok (.ldc2_w 53, 3) := by decide +kernel
theorem dX1_next_35 : decode cX1_next 35 = .ok (.lcmp, 1) := by decide +kernel
theorem dX1_next_36 : decode cX1_next 36 = .ok (.ifCond .le 6, 3) := by decide +kernel
theorem dX1_next_39 : decode cX1_next 39 = .ok (.bipush (-2), 2) := by decide +kernel
theorem dX1_next_41 : decode cX1_next 41 = .ok (.ireturn, 1) := by decide +kernel
theorem dX1_next_42 : decode cX1_next 42 = .ok (.aload_n 0, 1) := by decide +kernel
theorem dX1_next_43 : decode cX1_next 43 = .ok (.getfield 17, 3) := by decide +kernel
theorem dX1_next_46 : decode cX1_next 46 = .ok (.iload_n 1, 1) := by decide +kernel
theorem dX1_next_47 : decode cX1_next 47 = .ok (.lload_n 2, 1) := by decide +kernel
theorem dX1_next_48 : decode cX1_next 48 = .ok (.lastore, 1) := by decide +kernel
theorem dX1_next_49 : decode cX1_next 49 = .ok (.aload_n 0, 1) := by decide +kernel
theorem dX1_next_50 : decode cX1_next 50 = .ok (.getfield 21, 3) := by decide +kernel
theorem dX1_next_53 : decode cX1_next 53 = .ok (.iload_n 1, 1) := by decide +kernel
theorem dX1_next_54 : decode cX1_next 54 = .ok (.dup2, 1) := by decide +kernel
theorem dX1_next_55 : decode cX1_next 55 = .ok (.iaload, 1) := by decide +kernel
theorem dX1_next_56 : decode cX1_next 56 = .ok (.iconst 1, 1) := by decide +kernel
theorem dX1_next_57 : decode cX1_next 57 = .ok (.iadd, 1) := by decide +kernel
theorem dX1_next_58 : decode cX1_next 58 = .ok (.iastore, 1) := by decide +kernel
theorem dX1_next_59 : decode cX1_next 59 = .ok (.iload_n 1, 1) := by decide +kernel
theorem dX1_next_60 : decode cX1_next 60 = .ok (.ireturn, 1) := by decide +kernel
set_option maxRecDepth 20000 in
theorem ggX1_turns_X1_next : GoodIn wsX1_turns wsX1_next := goodIn_r _ [5, 6, 7, 8, 9, 10, 11, 12, 13, 4, 14, 15, 16, 17, 18, 19, 20, 21, 22, 23, 24, 25, 26, 27, 28] (by decide +kernel) (by decide +kernel)
set_option maxRecDepth 20000 in
theorem gX1_turns_X1_next : GoodIn wsX1_turns (wsV RX1 55 RX1 yX1_next wsX1_next) := goodIn_app (goodIn_of _ (by decide +kernel)) ggX1_turns_X1_next
theorem dX1_turns_0 : decode cX1_turns 0 = .ok (.iload_n 1, 1) := by decide +kernel
theorem dX1_turns_1 : decode cX1_turns 1 = .ok (.iconst 1, 1) := by decide +kernel
theorem dX1_turns_2 : decode cX1_turns 2 = .ok (.if_icmp .lt 10, 3) := by decide +kernel
theorem dX1_turns_5 : decode cX1_turns 5 = .ok (.iload_n 1, 1) := by decide +kernel
theorem dX1_turns_6 : decode cX1_turns 6 = .ok (.sipush 1000, 3) := by decide +kernel
theorem dX1_turns_9 : decode cX1_turns 9 = .ok (.if_icmp .le 5, 3) := by decide +kernel
theorem dX1_turns_12 : decode cX1_turns 12 = .ok (.iconst (-1), 1) := by decide +kernel
theorem dX1_turns_13 : decode cX1_turns 13 = .ok (.ireturn, 1) := by decide +kernel
theorem dX1_turns_14 : decode cX1_turns 14 = .ok (.iconst 0, 1) := by decide +kernel
theorem dX1_turns_15 : decode cX1_turns 15 = .ok (.istore_n 2, 1) := by decide +kernel
theorem dX1_turns_16 : decode cX1_turns 16 = .ok (.iconst 1, 1) := by decide +kernel
theorem dX1_turns_17 : decode cX1_turns 17 = .ok (.istore_n 3, 1) := by decide +kernel
theorem dX1_turns_18 : decode cX1_turns 18 = .ok (.iload_n 3, 1) := by decide +kernel
theorem dX1_turns_19 : decode cX1_turns 19 = .ok (.ifCond .eq 36, 3) := by decide +kernel
theorem dX1_turns_22 : decode cX1_turns 22 = .ok (.iload_n 2, 1) := by decide +kernel
theorem dX1_turns_23 : decode cX1_turns 23 = .ok (.iload_n 1, 1) := by decide +kernel
theorem dX1_turns_24 : decode cX1_turns 24 = .ok (.if_icmp .ge 31, 3) := by decide +kernel
theorem dX1_turns_27 : decode cX1_turns 27 = .ok (.aload_n 0, 1) := by decide +kernel
theorem dX1_turns_28 : decode cX1_turns 28 = .ok (.invokevirtual 55, 3) := by decide +kernel
theorem dX1_turns_31 : decode cX1_turns 31 = .ok (.ifCond .lt 7, 3) := by decide +kernel
theorem dX1_turns_34 : decode cX1_turns 34 = .ok (.iconst 1, 1) := by decide +kernel
theorem dX1_turns_35 : decode cX1_turns 35 = .ok (.goto 4, 3) := by decide +kernel
theorem dX1_turns_38 : decode cX1_turns 38 = .ok (.iconst 0, 1) := by decide +kernel
theorem dX1_turns_39 : decode cX1_turns 39 = .ok (.istore_n 3, 1) := by decide +kernel
theorem dX1_turns_40 : decode cX1_turns 40 = .ok (.iload_n 3, 1) := by decide +kernel
theorem dX1_turns_41 : decode cX1_turns 41 = .ok (.ifCond .eq 9, 3) := by decide +kernel
theorem dX1_turns_44 : decode cX1_turns 44 = .ok (.iload_n 2, 1) := by decide +kernel
theorem dX1_turns_45 : decode cX1_turns 45 = .ok (.iconst 1, 1) := by decide +kernel
theorem dX1_turns_46 : decode cX1_turns 46 = .ok (.iadd, 1) := by decide +kernel
theorem dX1_turns_47 : decode cX1_turns 47 = .ok (.goto 4, 3) := by decide +kernel
theorem dX1_turns_50 : decode cX1_turns 50 = .ok (.iload_n 2, 1) := by decide +kernel
theorem dX1_turns_51 : decode cX1_turns 51 = .ok (.istore_n 2, 1) := by decide +kernel
theorem dX1_turns_52 : decode cX1_turns 52 = .ok (.goto (-34), 3) := by decide +kernel
theorem dX1_turns_55 : decode cX1_turns 55 = .ok (.iload_n 2, 1) := by decide +kernel
theorem dX1_turns_56 : decode cX1_turns 56 = .ok (.ireturn, 1) := by decide +kernel
set_option maxRecDepth 20000 in
theorem ggX1_change_X1_isClient : GoodIn wsX1_change wsX1_isClient := goodIn_r _ [7, 8, 14, 15, 16, 17, 18, 19, 20, 21] (by decide +kernel) (by decide +kernel)
set_option maxRecDepth 20000 in
theorem gX1_change_X1_isClient : GoodIn wsX1_change (wsV RX1 31 RX1 yX1_isClient wsX1_isClient) := goodIn_app (goodIn_of _ (by decide +kernel)) ggX1_change_X1_isClient
set_option maxRecDepth 20000 in
theorem ggX1_change_X1_areTickets : GoodIn wsX1_change wsX1_areTickets := goodIn_r _ [12, 13, 14, 15, 16, 17, 18, 19, 20, 21] (by decide +kernel) (by decide +kernel)
set_option maxRecDepth 20000 in
theorem gX1_change_X1_areTickets : GoodIn wsX1_change (wsV RX1 39 RX1 yX1_areTickets wsX1_areTickets) := goodIn_app (goodIn_of _ (by decide +kernel)) ggX1_change_X1_areTickets
theorem dX1_change_0 : decode cX1_change 0 = .ok (.aload_n 0, 1) := by decide +kernel
theorem dX1_change_1 : decode cX1_change 1 = .ok (.iload_n 1, 1) := by decide +kernel
theorem dX1_change_2 : decode cX1_change 2 = .ok (.invokevirtual 31, 3) := by decide +kernel
theorem dX1_change_5 : decode cX1_change 5 = .ok (.ifCond .ne 5, 3) := by decide +kernel
theorem dX1_change_8 : decode cX1_change 8 = .ok (.iconst (-1), 1) := by decide +kernel
theorem dX1_change_9 : decode cX1_change 9 = .ok (.ireturn, 1) := by decide +kernel
theorem dX1_change_10 : decode cX1_change 10 = .ok (.aload_n 0, 1) := by decide +kernel
theorem dX1_change_11 : decode cX1_change 11 = .ok (.getfield 7, 3) := by decide +kernel
theorem dX1_change_14 : decode cX1_change 14 = .ok (.iload_n 1, 1) := by decide +kernel
theorem dX1_change_15 : decode cX1_change 15 = .ok (.baload, 1) := by decide +kernel
theorem dX1_change_16 : decode cX1_change 16 = .ok (.ifCond .ne 6, 3) := by decide +kernel
theorem dX1_change_19 : decode cX1_change 19 = .ok (.bipush (-2), 2) := by decide +kernel
theorem dX1_change_21 : decode cX1_change 21 = .ok (.ireturn, 1) := by decide +kernel
theorem dX1_change_22 : decode cX1_change 22 = .ok (.aload_n 0, 1) := by decide +kernel
theorem dX1_change_23 : decode cX1_change 23 = .ok (.iload_n 2, 1) := by decide +kernel
theorem dX1_change_24 : decode cX1_change 24 = .ok (.invokevirtual 39, 3) := by decide +kernel
theorem dX1_change_27 : decode cX1_change 27 = .ok (.ifCond .ne 6, 3) := by decide +kernel
theorem dX1_change_30 : decode cX1_change 30 = .ok (.bipush (-3), 2) := by decide +kernel
theorem dX1_change_32 : decode cX1_change 32 = .ok (.ireturn, 1) := by decide +kernel
theorem dX1_change_33 : decode cX1_change 33 = .ok (.aload_n 0, 1) := by decide +kernel
theorem dX1_change_34 : decode cX1_change 34 = .ok (.getfield 13, 3) := by decide +kernel
theorem dX1_change_37 : decode cX1_change 37 = .ok (.iload_n 1, 1) := by decide +kernel
theorem dX1_change_38 : decode cX1_change 38 = .ok (.iaload, 1) := by decide +kernel
theorem dX1_change_39 : decode cX1_change 39 = .ok (.istore_n 3, 1) := by decide +kernel
theorem dX1_change_40 : decode cX1_change 40 = .ok (.aload_n 0, 1) := by decide +kernel
theorem dX1_change_41 : decode cX1_change 41 = .ok (.getfield 13, 3) := by decide +kernel
theorem dX1_change_44 : decode cX1_change 44 = .ok (.iload_n 1, 1) := by decide +kernel
theorem dX1_change_45 : decode cX1_change 45 = .ok (.iload_n 2, 1) := by decide +kernel
theorem dX1_change_46 : decode cX1_change 46 = .ok (.iastore, 1) := by decide +kernel
theorem dX1_change_47 : decode cX1_change 47 = .ok (.iload_n 3, 1) := by decide +kernel
theorem dX1_change_48 : decode cX1_change 48 = .ok (.ireturn, 1) := by decide +kernel
set_option maxRecDepth 20000 in
theorem ggX1_ranOf_X1_isClient : GoodIn wsX1_ranOf wsX1_isClient := goodIn_r _ [6, 7, 8, 9, 10, 11, 12, 13, 14, 15] (by decide +kernel) (by decide +kernel)
set_option maxRecDepth 20000 in
theorem gX1_ranOf_X1_isClient : GoodIn wsX1_ranOf (wsV RX1 31 RX1 yX1_isClient wsX1_isClient) := goodIn_app (goodIn_of _ (by decide +kernel)) ggX1_ranOf_X1_isClient
theorem dX1_ranOf_0 : decode cX1_ranOf 0 = .ok (.aload_n 0, 1) := by decide +kernel
theorem dX1_ranOf_1 : decode cX1_ranOf 1 = .ok (.iload_n 1, 1) := by decide +kernel
theorem dX1_ranOf_2 : decode cX1_ranOf 2 = .ok (.invokevirtual 31, 3) := by decide +kernel
theorem dX1_ranOf_5 : decode cX1_ranOf 5 = .ok (.ifCond .eq 12, 3) := by decide +kernel
theorem dX1_ranOf_8 : decode cX1_ranOf 8 = .ok (.aload_n 0, 1) := by decide +kernel
theorem dX1_ranOf_9 : decode cX1_ranOf 9 = .ok (.getfield 21, 3) := by decide +kernel
theorem dX1_ranOf_12 : decode cX1_ranOf 12 = .ok (.iload_n 1, 1) := by decide +kernel
theorem dX1_ranOf_13 : decode cX1_ranOf 13 = .ok (.iaload, 1) := by decide +kernel
theorem dX1_ranOf_14 : decode cX1_ranOf 14 = .ok (.goto 4, 3) := by decide +kernel
theorem dX1_ranOf_17 : decode cX1_ranOf 17 = .ok (.iconst (-1), 1) := by decide +kernel
theorem dX1_ranOf_18 : decode cX1_ranOf 18 = .ok (.ireturn, 1) := by decide +kernel
set_option maxRecDepth 20000 in
theorem ggX1_passOf_X1_isIn : GoodIn wsX1_passOf wsX1_isIn := goodIn_r _ [6, 7, 8, 9, 10, 5, 11, 12, 13, 14, 15, 16, 17, 18, 19, 20] (by decide +kernel) (by decide +kernel)
set_option maxRecDepth 20000 in
theorem gX1_passOf_X1_isIn : GoodIn wsX1_passOf (wsV RX1 58 RX1 yX1_isIn wsX1_isIn) := goodIn_app (goodIn_of _ (by decide +kernel)) ggX1_passOf_X1_isIn
theorem dX1_passOf_0 : decode cX1_passOf 0 = .ok (.aload_n 0, 1) := by decide +kernel
theorem dX1_passOf_1 : decode cX1_passOf 1 = .ok (.iload_n 1, 1) := by decide +kernel
theorem dX1_passOf_2 : decode cX1_passOf 2 = .ok (.invokevirtual 58, 3) := by decide +kernel
theorem dX1_passOf_5 : decode cX1_passOf 5 = .ok (.ifCond .eq 13, 3) := by decide +kernel
theorem dX1_passOf_8 : decode cX1_passOf 8 = .ok (.aload_n 0, 1) := by decide +kernel
theorem dX1_passOf_9 : decode cX1_passOf 9 = .ok (.getfield 17, 3) := by decide +kernel
theorem dX1_passOf_12 : decode cX1_passOf 12 = .ok (.iload_n 1, 1) := by decide +kernel
theorem dX1_passOf_13 : decode cX1_passOf 13 = .ok (.laload, 1) := by decide +kernel
theorem dX1_passOf_14 : decode cX1_passOf 14 = .ok (.l2i, 1) := by decide +kernel
theorem dX1_passOf_15 : decode cX1_passOf 15 = .ok (.goto 4, 3) := by decide +kernel
theorem dX1_passOf_18 : decode cX1_passOf 18 = .ok (.iconst (-1), 1) := by decide +kernel
theorem dX1_passOf_19 : decode cX1_passOf 19 = .ok (.ireturn, 1) := by decide +kernel
set_option maxRecDepth 20000 in
theorem ggX1_strideOf_X1_isIn : GoodIn wsX1_strideOf wsX1_isIn := goodIn_r _ [7, 8, 9, 10, 11, 6, 12, 13, 14, 15, 16, 17, 18, 19, 20, 21] (by decide +kernel) (by decide +kernel)
set_option maxRecDepth 20000 in
theorem gX1_strideOf_X1_isIn : GoodIn wsX1_strideOf (wsV RX1 58 RX1 yX1_isIn wsX1_isIn) := goodIn_app (goodIn_of _ (by decide +kernel)) ggX1_strideOf_X1_isIn
theorem dX1_strideOf_0 : decode cX1_strideOf 0 = .ok (.aload_n 0, 1) := by decide +kernel
theorem dX1_strideOf_1 : decode cX1_strideOf 1 = .ok (.iload_n 1, 1) := by decide +kernel
theorem dX1_strideOf_2 : decode cX1_strideOf 2 = .ok (.invokevirtual 58, 3) := by decide +kernel
theorem dX1_strideOf_5 : decode cX1_strideOf 5 = .ok (.ifCond .eq 17, 3) := by decide +kernel
theorem dX1_strideOf_8 : decode cX1_strideOf 8 = .ok (.aload_n 0, 1) := by decide +kernel
theorem dX1_strideOf_9 : decode cX1_strideOf 9 = .ok (.getfield 28, 3) := by decide +kernel
theorem dX1_strideOf_12 : decode cX1_strideOf 12 = .ok (.aload_n 0, 1) := by decide +kernel
theorem dX1_strideOf_13 : decode cX1_strideOf 13 = .ok (.getfield 13, 3) := by decide +kernel
theorem dX1_strideOf_16 : decode cX1_strideOf 16 = .ok (.iload_n 1, 1) := by decide +kernel
theorem dX1_strideOf_17 : decode cX1_strideOf 17 = .ok (.iaload, 1) := by decide +kernel
theorem dX1_strideOf_18 : decode cX1_strideOf 18 = .ok (.idiv, 1) := by decide +kernel
theorem dX1_strideOf_19 : decode cX1_strideOf 19 = .ok (.goto 4, 3) := by decide +kernel
theorem dX1_strideOf_22 : decode cX1_strideOf 22 = .ok (.iconst (-1), 1) := by decide +kernel
theorem dX1_strideOf_23 : decode cX1_strideOf 23 = .ok (.ireturn, 1) := by decide +kernel
theorem dX1_clients_0 : decode cX1_clients 0 = .ok (.aload_n 0, 1) := by decide +kernel
theorem dX1_clients_1 : decode cX1_clients 1 = .ok (.getfield 50, 3) := by decide +kernel
theorem dX1_clients_4 : decode cX1_clients 4 = .ok (.ireturn, 1) := by decide +kernel
set_option maxRecDepth 20000 in
theorem ggX1_spread_X1_first : GoodIn wsX1_spread wsX1_first := goodIn_r _ [8, 1, 2, 9, 10, 11, 7, 12, 3, 13, 14, 15, 16, 17, 18, 19, 20] (by decide +kernel) (by decide +kernel)
set_option maxRecDepth 20000 in
theorem gX1_spread_X1_first : GoodIn wsX1_spread (wsV RX1 42 RX1 yX1_first wsX1_first) := goodIn_app (goodIn_of _ (by decide +kernel)) ggX1_spread_X1_first
theorem dX1_spread_0 : decode cX1_spread 0 = .ok (.aload_n 0, 1) := by decide +kernel
theorem dX1_spread_1 : decode cX1_spread 1 = .ok (.invokevirtual 42, 3) := by decide +kernel
theorem dX1_spread_4 : decode cX1_spread 4 = .ok (.istore_n 1, 1) := by decide +kernel
theorem dX1_spread_5 : decode cX1_spread 5 = .ok (.lconst 0, 1) := by decide +kernel
theorem dX1_spread_6 : decode cX1_spread 6 = .ok (.lstore_n 2, 1) := by decide +kernel
theorem dX1_spread_7 : decode cX1_spread 7 = .ok (.iconst 0, 1) := by decide +kernel
theorem dX1_spread_8 : decode cX1_spread 8 = .ok (.istore 4, 2) := by decide +kernel
theorem dX1_spread_10 : decode cX1_spread 10 = .ok (.iload 4, 2) := by decide +kernel
theorem dX1_spread_12 : decode cX1_spread 12 = .ok (.aload_n 0, 1) := by decide +kernel
theorem dX1_spread_13 : decode cX1_spread 13 = .ok (.getfield 24, 3) := by decide +kernel
theorem dX1_spread_16 : decode cX1_spread 16 = .ok (.if_icmp .ge 43, 3) := by decide +kernel
theorem dX1_spread_19 : decode cX1_spread 19 = .ok (.aload_n 0, 1) := by decide +kernel
theorem dX1_spread_20 : decode cX1_spread 20 = .ok (.getfield 7, 3) := by decide +kernel
theorem dX1_spread_23 : decode cX1_spread 23 = .ok (.iload 4, 2) := by decide +kernel
theorem dX1_spread_25 : decode cX1_spread 25 = .ok (.baload, 1) := by decide +kernel
theorem dX1_spread_26 : decode cX1_spread 26 = .ok (.ifCond .eq 25, 3) := by decide +kernel
theorem dX1_spread_29 : decode cX1_spread 29 = .ok (.aload_n 0, 1) := by decide +kernel
theorem dX1_spread_30 : decode cX1_spread 30 = .ok (.getfield 17, 3) := by decide +kernel
theorem dX1_spread_33 : decode cX1_spread 33 = .ok (.iload 4, 2) := by decide +kernel
theorem dX1_spread_35 : decode cX1_spread 35 = .ok (.laload, 1) := by decide +kernel
theorem dX1_spread_36 : decode cX1_spread 36 = .ok (.lload_n 2, 1) := by decide +kernel
theorem dX1_spread_37 : decode cX1_spread 37 = .ok (.lcmp, 1) := by decide +kernel
theorem dX1_spread_38 : decode cX1_spread 38 = .ok (.ifCond .le 13, 3) := by decide +kernel
theorem dX1_spread_41 : decode cX1_spread 41 = .ok (.aload_n 0, 1) := by decide +kernel
theorem dX1_spread_42 : decode cX1_spread 42 = .ok (.getfield 17, 3) := by decide +kernel
theorem dX1_spread_45 : decode cX1_spread 45 = .ok (.iload 4, 2) := by decide +kernel
theorem dX1_spread_47 : decode cX1_spread 47 = .ok (.laload, 1) := by decide +kernel
theorem dX1_spread_48 : decode cX1_spread 48 = .ok (.goto 4, 3) := by decide +kernel
theorem dX1_spread_51 : decode cX1_spread 51 = .ok (.lload_n 2, 1) := by decide +kernel
theorem dX1_spread_52 : decode cX1_spread 52 = .ok (.lstore_n 2, 1) := by decide +kernel
theorem dX1_spread_53 : decode cX1_spread 53 = .ok (.iinc 4 1, 3) := by decide +kernel
theorem dX1_spread_56 : decode cX1_spread 56 = .ok (.goto (-46), 3) := by decide +kernel
theorem dX1_spread_59 : decode cX1_spread 59 = .ok (.iload_n 1, 1) := by decide +kernel
theorem dX1_spread_60 : decode cX1_spread 60 = .ok (.ifCond .ge 7, 3) := by decide +kernel
theorem dX1_spread_63 : decode cX1_spread 63 = .ok (.iconst (-1), 1) := by decide +kernel
theorem dX1_spread_64 : decode cX1_spread 64 = .ok (.goto 12, 3) := by decide +kernel
theorem dX1_spread_67 : decode cX1_spread 67 = .ok (.lload_n 2, 1) := by decide +kernel
theorem dX1_spread_68 : decode cX1_spread 68 = .ok (.aload_n 0, 1) := by decide +kernel
theorem dX1_spread_69 : decode cX1_spread 69 = .ok (.getfield 17, 3) := by decide +kernel
theorem dX1_spread_72 : decode cX1_spread 72 = .ok (.iload_n 1, 1) := by decide +kernel
theorem dX1_spread_73 : decode cX1_spread 73 = .ok (.laload, 1) := by decide +kernel
theorem dX1_spread_74 : decode cX1_spread 74 = .ok (.lsub, 1) := by decide +kernel
theorem dX1_spread_75 : decode cX1_spread 75 = .ok (.l2i, 1) := by decide +kernel
theorem dX1_spread_76 : decode cX1_spread 76 = .ok (.ireturn, 1) := by decide +kernel
set_option maxRecDepth 20000 in
theorem ggX1_order_X1_isBefore : GoodIn wsX1_order wsX1_isBefore := goodIn_r _ [8, 9, 10, 11, 12, 13, 14, 15, 16, 17] (by decide +kernel) (by decide +kernel)
set_option maxRecDepth 20000 in
theorem gX1_order_X1_isBefore : GoodIn wsX1_order (wsV RX1 35 RX1 yX1_isBefore wsX1_isBefore) := goodIn_app (goodIn_of _ (by decide +kernel)) ggX1_order_X1_isBefore
theorem dX1_order_0 : decode cX1_order 0 = .ok (.iload_n 1, 1) := by decide +kernel
theorem dX1_order_1 : decode cX1_order 1 = .ok (.ifCond .lt 11, 3) := by decide +kernel
theorem dX1_order_4 : decode cX1_order 4 = .ok (.iload_n 1, 1) := by decide +kernel
theorem dX1_order_5 : decode cX1_order 5 = .ok (.aload_n 0, 1) := by decide +kernel
theorem dX1_order_6 : decode cX1_order 6 = .ok (.getfield 50, 3) := by decide +kernel
theorem dX1_order_9 : decode cX1_order 9 = .ok (.if_icmp .lt 5, 3) := by decide +kernel
theorem dX1_order_12 : decode cX1_order 12 = .ok (.iconst (-1), 1) := by decide +kernel
theorem dX1_order_13 : decode cX1_order 13 = .ok (.ireturn, 1) := by decide +kernel
theorem dX1_order_14 : decode cX1_order 14 = .ok (.iconst 0, 1) := by decide +kernel
theorem dX1_order_15 : decode cX1_order 15 = .ok (.istore_n 2, 1) := by decide +kernel
theorem dX1_order_16 : decode cX1_order 16 = .ok (.iload_n 2, 1) := by decide +kernel
theorem dX1_order_17 : decode cX1_order 17 = .ok (.aload_n 0, 1) := by decide +kernel
theorem dX1_order_18 : decode cX1_order 18 = .ok (.getfield 24, 3) := by decide +kernel
theorem dX1_order_21 : decode cX1_order 21 = .ok (.if_icmp .ge 88, 3) := by decide +kernel
theorem dX1_order_24 : decode cX1_order 24 = .ok (.iconst 0, 1) := by decide +kernel
theorem dX1_order_25 : decode cX1_order 25 = .ok (.istore_n 3, 1) := by decide +kernel
theorem dX1_order_26 : decode cX1_order 26 = .ok (.iconst 0, 1) := by decide +kernel
theorem dX1_order_27 : decode cX1_order 27 = .ok (.istore 4, 2) := by decide +kernel
theorem dX1_order_29 : decode cX1_order 29 = .ok (.iload 4, 2) := by decide +kernel
theorem dX1_order_31 : decode cX1_order 31 = .ok (.aload_n 0, 1) := by decide +kernel
theorem dX1_order_32 : decode cX1_order 32 = .ok (.getfield 24, 3) := by decide +kernel
theorem dX1_order_35 : decode cX1_order 35 = .ok (.if_icmp .ge 52, 3) := by decide +kernel
theorem dX1_order_38 : decode cX1_order 38 = .ok (.aload_n 0, 1) := by decide +kernel
theorem dX1_order_39 : decode cX1_order 39 = .ok (.getfield 7, 3) := by decide +kernel
theorem dX1_order_42 : decode cX1_order 42 = .ok (.iload_n 2, 1) := by decide +kernel
theorem dX1_order_43 : decode cX1_order 43 = .ok (.baload, 1) := by decide +kernel
theorem dX1_order_44 : decode cX1_order 44 = .ok (.ifCond .eq 35, 3) := by decide +kernel
theorem dX1_order_47 : decode cX1_order 47 = .ok (.aload_n 0, 1) := by decide +kernel
theorem dX1_order_48 : decode cX1_order 48 = .ok (.getfield 7, 3) := by decide +kernel
theorem dX1_order_51 : decode cX1_order 51 = .ok (.iload 4, 2) := by decide +kernel
theorem dX1_order_53 : decode cX1_order 53 = .ok (.baload, 1) := by decide +kernel
theorem dX1_order_54 : decode cX1_order 54 = .ok (.ifCond .eq 25, 3) := by decide +kernel
theorem dX1_order_57 : decode cX1_order 57 = .ok (.iload 4, 2) := by decide +kernel
theorem dX1_order_59 : decode cX1_order 59 = .ok (.iload_n 2, 1) := by decide +kernel
theorem dX1_order_60 : decode cX1_order 60 = .ok (.if_icmp .eq 19, 3) := by decide +kernel
theorem dX1_order_63 : decode cX1_order 63 = .ok (.aload_n 0, 1) := by decide +kernel
theorem dX1_order_64 : decode cX1_order 64 = .ok (.iload 4, 2) := by decide +kernel
theorem dX1_order_66 : decode cX1_order 66 = .ok (.iload_n 2, 1) := by decide +kernel
theorem dX1_order_67 : decode cX1_order 67 = .ok (.invokevirtual 35, 3) := by decide +kernel
theorem dX1_order_70 : decode cX1_order 70 = .ok (.ifCond .eq 9, 3) := by decide +kernel
theorem dX1_order_73 : decode cX1_order 73 = .ok (.iload_n 3, 1) := by decide +kernel
theorem dX1_order_74 : decode cX1_order 74 = .ok (.iconst 1, 1) := by decide +kernel
theorem dX1_order_75 : decode cX1_order 75 = .ok (.iadd, 1) := by decide +kernel
theorem dX1_order_76 : decode cX1_order 76 = .ok (.goto 4, 3) := by decide +kernel
theorem dX1_order_79 : decode cX1_order 79 = .ok (.iload_n 3, 1) := by decide +kernel
theorem dX1_order_80 : decode cX1_order 80 = .ok (.istore_n 3, 1) := by decide +kernel
theorem dX1_order_81 : decode cX1_order 81 = .ok (.iinc 4 1, 3) := by decide +kernel
theorem dX1_order_84 : decode cX1_order 84 = .ok (.goto (-55), 3) := by decide +kernel
theorem dX1_order_87 : decode cX1_order 87 = .ok (.aload_n 0, 1) := by decide +kernel
theorem dX1_order_88 : decode cX1_order 88 = .ok (.getfield 7, 3) := by decide +kernel
theorem dX1_order_91 : decode cX1_order 91 = .ok (.iload_n 2, 1) := by decide +kernel
theorem dX1_order_92 : decode cX1_order 92 = .ok (.baload, 1) := by decide +kernel
theorem dX1_order_93 : decode cX1_order 93 = .ok (.ifCond .eq 10, 3) := by decide +kernel
theorem dX1_order_96 : decode cX1_order 96 = .ok (.iload_n 3, 1) := by decide +kernel
theorem dX1_order_97 : decode cX1_order 97 = .ok (.iload_n 1, 1) := by decide +kernel
theorem dX1_order_98 : decode cX1_order 98 = .ok (.if_icmp .ne 5, 3) := by decide +kernel
theorem dX1_order_101 : decode cX1_order 101 = .ok (.iload_n 2, 1) := by decide +kernel
theorem dX1_order_102 : decode cX1_order 102 = .ok (.ireturn, 1) := by decide +kernel
theorem dX1_order_103 : decode cX1_order 103 = .ok (.iinc 2 1, 3) := by decide +kernel
theorem dX1_order_106 : decode cX1_order 106 = .ok (.goto (-90), 3) := by decide +kernel
theorem dX1_order_109 : decode cX1_order 109 = .ok (.iconst (-1), 1) := by decide +kernel
theorem dX1_order_110 : decode cX1_order 110 = .ok (.ireturn, 1) := by decide +kernel
theorem dJ9_floorMod_7cf53_0 : decode cJ9_floorMod_7cf53 0 = .ok (.iload_n 0, 1) := by decide +kernel
theorem dJ9_floorMod_7cf53_1 : decode cJ9_floorMod_7cf53 1 = .ok (.iload_n 1, 1) := by decide +kernel
theorem dJ9_floorMod_7cf53_2 : decode cJ9_floorMod_7cf53 2 = .ok (.irem, 1) := by decide +kernel
theorem dJ9_floorMod_7cf53_3 : decode cJ9_floorMod_7cf53 3 = .ok (.istore_n 2, 1) := by decide +kernel
theorem dJ9_floorMod_7cf53_4 : decode cJ9_floorMod_7cf53 4 = .ok (.iload_n 0, 1) := by decide +kernel
theorem dJ9_floorMod_7cf53_5 : decode cJ9_floorMod_7cf53 5 = .ok (.iload_n 1, 1) := by decide +kernel
theorem dJ9_floorMod_7cf53_6 : decode cJ9_floorMod_7cf53 6 = .ok (.ixor, 1) := by decide +kernel
theorem dJ9_floorMod_7cf53_7 : decode cJ9_floorMod_7cf53 7 = .ok (.ifCond .ge 11, 3) := by decide +kernel
theorem dJ9_floorMod_7cf53_10 : decode cJ9_floorMod_7cf53 10 = .ok (.iload_n 2, 1) := by decide +kernel
theorem dJ9_floorMod_7cf53_11 : decode cJ9_floorMod_7cf53 11 = .ok (.ifCond .eq 7, 3) := by decide +kernel
theorem dJ9_floorMod_7cf53_14 : decode cJ9_floorMod_7cf53 14 = .ok (.iload_n 2, 1) := by decide +kernel
theorem dJ9_floorMod_7cf53_15 : decode cJ9_floorMod_7cf53 15 = .ok (.iload_n 1, 1) := by decide +kernel
theorem dJ9_floorMod_7cf53_16 : decode cJ9_floorMod_7cf53 16 = .ok (.iadd, 1) := by decide +kernel
theorem dJ9_floorMod_7cf53_17 : decode cJ9_floorMod_7cf53 17 = .ok (.ireturn, 1) := by decide +kernel
theorem dJ9_floorMod_7cf53_18 : decode cJ9_floorMod_7cf53 18 = .ok (.iload_n 2, 1) := by decide +kernel
theorem dJ9_floorMod_7cf53_19 : decode cJ9_floorMod_7cf53 19 = .ok (.ireturn, 1) := by decide +kernel
theorem dL_cell_0 : decode cL_cell 0 = .ok (.iload_n 1, 1) := by decide +kernel
theorem dL_cell_1 : decode cL_cell 1 = .ok (.aload_n 0, 1) := by decide +kernel
theorem dL_cell_2 : decode cL_cell 2 = .ok (.arraylength, 1) := by decide +kernel
theorem dL_cell_3 : decode cL_cell 3 = .ok (.if_icmp .ge 9, 3) := by decide +kernel
theorem dL_cell_6 : decode cL_cell 6 = .ok (.aload_n 0, 1) := by decide +kernel
theorem dL_cell_7 : decode cL_cell 7 = .ok (.iload_n 1, 1) := by decide +kernel
theorem dL_cell_8 : decode cL_cell 8 = .ok (.iaload, 1) := by decide +kernel
theorem dL_cell_9 : decode cL_cell 9 = .ok (.goto 4, 3) := by decide +kernel
theorem dL_cell_12 : decode cL_cell 12 = .ok (.iconst 0, 1) := by decide +kernel
theorem dL_cell_13 : decode cL_cell 13 = .ok (.ireturn, 1) := by decide +kernel
end
section
set_option maxRecDepth 20000 in
theorem ggL_law_L_cell : GoodIn wsL_law wsL_cell := goodIn_r _ [9] (by decide +kernel) (by decide +kernel)
set_option maxRecDepth 20000 in
theorem gL_law_L_cell : GoodIn wsL_law (va_wsS RL 9 yL_cell wsL_cell) := goodIn_app (goodIn_of _ (by decide +kernel)) ggL_law_L_cell
set_option maxRecDepth 20000 in
theorem ggL_law_X0_init : GoodIn wsL_law wsX0_init := goodIn_r _ [12, 13, 14, 15, 16, 17, 18, 19, 20, 21, 22, 23, 24, 25, 26, 27, 28, 29, 203, 204, 205, 206, 207, 208, 209, 210, 211] (by decide +kernel) (by decide +kernel)
set_option maxRecDepth 20000 in
theorem gL_law_X0_init : GoodIn wsL_law (wsX0_init) := ggL_law_X0_init
set_option maxRecDepth 20000 in
theorem ggL_law_X1_init : GoodIn wsL_law wsX1_init := goodIn_r _ [32, 33, 14, 15, 34, 35, 18, 36, 37, 38, 39, 40, 41, 212, 213, 214, 215, 216, 217, 218, 219] (by decide +kernel) (by decide +kernel)
set_option maxRecDepth 20000 in
theorem gL_law_X1_init : GoodIn wsL_law (wsX1_init) := ggL_law_X1_init
set_option maxRecDepth 20000 in
theorem ggL_law_X0_join : GoodIn wsL_law wsX0_join := goodIn_r _ [45, 21, 46, 47, 48, 2, 49, 16, 50, 51, 52, 53, 19, 54, 55, 56, 57, 17, 58, 59, 60, 61, 24, 25, 23, 62, 63, 64, 65, 20, 66, 67, 68, 69, 70, 71, 72, 73, 74, 75, 76, 77, 78, 79, 80, 81, 203, 204, 205, 206, 207, 208, 209, 210, 211] (by decide +kernel) (by decide +kernel)
set_option maxRecDepth 20000 in
theorem gL_law_X0_join : GoodIn wsL_law (wsV RL 21 RX0 yX0_join wsX0_join) := goodIn_app (goodIn_of _ (by decide +kernel)) ggL_law_X0_join
set_option maxRecDepth 20000 in
theorem ggL_law_X1_join : GoodIn wsL_law wsX1_join := goodIn_r _ [85, 35, 38, 86, 36, 87, 88, 89, 90, 5, 91, 40, 92, 93, 94, 95, 41, 96, 97, 98, 99, 100, 101, 102, 103, 212, 213, 214, 215, 216, 217, 218, 219] (by decide +kernel) (by decide +kernel)
set_option maxRecDepth 20000 in
theorem gL_law_X1_join : GoodIn wsL_law (wsV RL 25 RX1 yX1_join wsX1_join) := goodIn_app (goodIn_of _ (by decide +kernel)) ggL_law_X1_join
set_option maxRecDepth 20000 in
theorem ggL_law_X0_leave : GoodIn wsL_law wsX0_leave := goodIn_r _ [107, 21, 25, 19, 46, 47, 48, 2, 49, 16, 50, 51, 52, 53, 108, 109, 110, 111, 23, 24, 70, 71, 72, 73, 112, 113, 114, 115, 203, 204, 205, 206, 207, 208, 209, 210, 211] (by decide +kernel) (by decide +kernel)
set_option maxRecDepth 20000 in
theorem gL_law_X0_leave : GoodIn wsL_law (wsV RL 26 RX0 yX0_leave wsX0_leave) := goodIn_app (goodIn_of _ (by decide +kernel)) ggL_law_X0_leave
set_option maxRecDepth 20000 in
theorem ggL_law_X1_leave : GoodIn wsL_law wsX1_leave := goodIn_r _ [119, 35, 38, 86, 87, 88, 89, 90, 5, 91, 40, 212, 213, 214, 215, 216, 217, 218, 219] (by decide +kernel) (by decide +kernel)
set_option maxRecDepth 20000 in
theorem gL_law_X1_leave : GoodIn wsL_law (wsV RL 30 RX1 yX1_leave wsX1_leave) := goodIn_app (goodIn_of _ (by decide +kernel)) ggL_law_X1_leave
set_option maxRecDepth 20000 in
theorem ggL_law_X0_next : GoodIn wsL_law wsX0_next := goodIn_r _ [123, 124, 125, 126, 2, 127, 24, 23, 21, 20, 128, 22, 74, 75, 76, 77, 78, 79, 80, 81, 203, 204, 205, 206, 207, 208, 209, 210, 211] (by decide +kernel) (by decide +kernel)
set_option maxRecDepth 20000 in
theorem gL_law_X0_next : GoodIn wsL_law (wsV RL 31 RX0 yX0_next wsX0_next) := goodIn_app (goodIn_of _ (by decide +kernel)) ggL_law_X0_next
set_option maxRecDepth 20000 in
theorem ggL_law_X1_next : GoodIn wsL_law wsX1_next := goodIn_r _ [132, 38, 41, 36, 133, 39, 96, 97, 98, 5, 99, 40, 35, 100, 101, 102, 103, 212, 213, 214, 215, 216, 217, 218, 219] (by decide +kernel) (by decide +kernel)
set_option maxRecDepth 20000 in
theorem gL_law_X1_next : GoodIn wsL_law (wsV RL 35 RX1 yX1_next wsX1_next) := goodIn_app (goodIn_of _ (by decide +kernel)) ggL_law_X1_next
set_option maxRecDepth 20000 in
theorem ggL_law_X0_turns : GoodIn wsL_law wsX0_turns := goodIn_r _ [137, 124, 125, 126, 2, 127, 24, 23, 21, 20, 128, 22, 74, 75, 76, 77, 78, 79, 80, 81, 203, 204, 205, 206, 207, 208, 209, 210, 211] (by decide +kernel) (by decide +kernel)
set_option maxRecDepth 20000 in
theorem gL_law_X0_turns : GoodIn wsL_law (wsV RL 36 RX0 yX0_turns wsX0_turns) := goodIn_app (goodIn_of _ (by decide +kernel)) ggL_law_X0_turns
set_option maxRecDepth 20000 in
theorem ggL_law_X1_turns : GoodIn wsL_law wsX1_turns := goodIn_r _ [141, 142, 130, 131, 5, 132, 38, 41, 36, 133, 39, 96, 97, 98, 99, 40, 35, 100, 101, 102, 103, 212, 213, 214, 215, 216, 217, 218, 219] (by decide +kernel) (by decide +kernel)
set_option maxRecDepth 20000 in
theorem gL_law_X1_turns : GoodIn wsL_law (wsV RL 39 RX1 yX1_turns wsX1_turns) := goodIn_app (goodIn_of _ (by decide +kernel)) ggL_law_X1_turns
set_option maxRecDepth 20000 in
theorem ggL_law_X0_change : GoodIn wsL_law wsX0_change := goodIn_r _ [146, 19, 46, 47, 48, 2, 49, 16, 50, 51, 52, 53, 54, 55, 56, 57, 17, 62, 63, 64, 65, 20, 203, 204, 205, 206, 207, 208, 209, 210, 211] (by decide +kernel) (by decide +kernel)
set_option maxRecDepth 20000 in
theorem gL_law_X0_change : GoodIn wsL_law (wsV RL 40 RX0 yX0_change wsX0_change) := goodIn_app (goodIn_of _ (by decide +kernel)) ggL_law_X0_change
set_option maxRecDepth 20000 in
theorem ggL_law_X1_change : GoodIn wsL_law wsX1_change := goodIn_r _ [150, 35, 36, 88, 89, 90, 5, 91, 40, 92, 93, 94, 95, 41, 212, 213, 214, 215, 216, 217, 218, 219] (by decide +kernel) (by decide +kernel)
set_option maxRecDepth 20000 in
theorem gL_law_X1_change : GoodIn wsL_law (wsV RL 43 RX1 yX1_change wsX1_change) := goodIn_app (goodIn_of _ (by decide +kernel)) ggL_law_X1_change
set_option maxRecDepth 20000 in
theorem ggL_law_X0_ranOf : GoodIn wsL_law wsX0_ranOf := goodIn_r _ [154, 22, 46, 47, 48, 2, 49, 16, 203, 204, 205, 206, 207, 208, 209, 210, 211] (by decide +kernel) (by decide +kernel)
set_option maxRecDepth 20000 in
theorem gL_law_X0_ranOf : GoodIn wsL_law (wsV RL 44 RX0 yX0_ranOf wsX0_ranOf) := goodIn_app (goodIn_of _ (by decide +kernel)) ggL_law_X0_ranOf
set_option maxRecDepth 20000 in
theorem ggL_law_X1_ranOf : GoodIn wsL_law wsX1_ranOf := goodIn_r _ [158, 39, 88, 89, 90, 5, 91, 40, 212, 213, 214, 215, 216, 217, 218, 219] (by decide +kernel) (by decide +kernel)
set_option maxRecDepth 20000 in
theorem gL_law_X1_ranOf : GoodIn wsL_law (wsV RL 47 RX1 yX1_ranOf wsX1_ranOf) := goodIn_app (goodIn_of _ (by decide +kernel)) ggL_law_X1_ranOf
set_option maxRecDepth 20000 in
theorem ggL_law_X0_passOf : GoodIn wsL_law wsX0_passOf := goodIn_r _ [162, 21, 46, 47, 48, 2, 49, 16, 50, 51, 52, 53, 19, 203, 204, 205, 206, 207, 208, 209, 210, 211] (by decide +kernel) (by decide +kernel)
set_option maxRecDepth 20000 in
theorem gL_law_X0_passOf : GoodIn wsL_law (wsV RL 48 RX0 yX0_passOf wsX0_passOf) := goodIn_app (goodIn_of _ (by decide +kernel)) ggL_law_X0_passOf
set_option maxRecDepth 20000 in
theorem ggL_law_X1_passOf : GoodIn wsL_law wsX1_passOf := goodIn_r _ [166, 38, 167, 168, 169, 5, 170, 35, 88, 89, 90, 91, 40, 212, 213, 214, 215, 216, 217, 218, 219] (by decide +kernel) (by decide +kernel)
set_option maxRecDepth 20000 in
theorem gL_law_X1_passOf : GoodIn wsL_law (wsV RL 51 RX1 yX1_passOf wsX1_passOf) := goodIn_app (goodIn_of _ (by decide +kernel)) ggL_law_X1_passOf
set_option maxRecDepth 20000 in
theorem ggL_law_X0_strideOf : GoodIn wsL_law wsX0_strideOf := goodIn_r _ [174, 20, 46, 47, 48, 2, 49, 16, 50, 51, 52, 53, 19, 203, 204, 205, 206, 207, 208, 209, 210, 211] (by decide +kernel) (by decide +kernel)
set_option maxRecDepth 20000 in
theorem gL_law_X0_strideOf : GoodIn wsL_law (wsV RL 52 RX0 yX0_strideOf wsX0_strideOf) := goodIn_app (goodIn_of _ (by decide +kernel)) ggL_law_X0_strideOf
set_option maxRecDepth 20000 in
theorem ggL_law_X1_strideOf : GoodIn wsL_law wsX1_strideOf := goodIn_r _ [178, 41, 36, 167, 168, 169, 5, 170, 35, 88, 89, 90, 91, 40, 212, 213, 214, 215, 216, 217, 218, 219] (by decide +kernel) (by decide +kernel)
set_option maxRecDepth 20000 in
theorem gL_law_X1_strideOf : GoodIn wsL_law (wsV RL 55 RX1 yX1_strideOf wsX1_strideOf) := goodIn_app (goodIn_of _ (by decide +kernel)) ggL_law_X1_strideOf
set_option maxRecDepth 20000 in
theorem ggL_law_X0_clients : GoodIn wsL_law wsX0_clients := goodIn_r _ [182, 24, 203, 204, 205, 206, 207, 208, 209, 210, 211] (by decide +kernel) (by decide +kernel)
set_option maxRecDepth 20000 in
theorem gL_law_X0_clients : GoodIn wsL_law (wsV RL 56 RX0 yX0_clients wsX0_clients) := goodIn_app (goodIn_of _ (by decide +kernel)) ggL_law_X0_clients
set_option maxRecDepth 20000 in
theorem ggL_law_X1_clients : GoodIn wsL_law wsX1_clients := goodIn_r _ [186, 87, 212, 213, 214, 215, 216, 217, 218, 219] (by decide +kernel) (by decide +kernel)
set_option maxRecDepth 20000 in
theorem gL_law_X1_clients : GoodIn wsL_law (wsV RL 59 RX1 yX1_clients wsX1_clients) := goodIn_app (goodIn_of _ (by decide +kernel)) ggL_law_X1_clients
set_option maxRecDepth 20000 in
theorem ggL_law_X0_spread : GoodIn wsL_law wsX0_spread := goodIn_r _ [190, 24, 21, 23, 203, 204, 205, 206, 207, 208, 209, 210, 211] (by decide +kernel) (by decide +kernel)
set_option maxRecDepth 20000 in
theorem gL_law_X0_spread : GoodIn wsL_law (wsV RL 60 RX0 yX0_spread wsX0_spread) := goodIn_app (goodIn_of _ (by decide +kernel)) ggL_law_X0_spread
set_option maxRecDepth 20000 in
theorem ggL_law_X1_spread : GoodIn wsL_law wsX1_spread := goodIn_r _ [194, 40, 35, 38, 96, 97, 98, 5, 99, 100, 101, 102, 103, 212, 213, 214, 215, 216, 217, 218, 219] (by decide +kernel) (by decide +kernel)
set_option maxRecDepth 20000 in
theorem gL_law_X1_spread : GoodIn wsL_law (wsV RL 63 RX1 yX1_spread wsX1_spread) := goodIn_app (goodIn_of _ (by decide +kernel)) ggL_law_X1_spread
set_option maxRecDepth 20000 in
theorem ggL_law_X0_order : GoodIn wsL_law wsX0_order := goodIn_r _ [198, 24, 23, 203, 204, 205, 206, 207, 208, 209, 210, 211] (by decide +kernel) (by decide +kernel)
set_option maxRecDepth 20000 in
theorem gL_law_X0_order : GoodIn wsL_law (wsV RL 64 RX0 yX0_order wsX0_order) := goodIn_app (goodIn_of _ (by decide +kernel)) ggL_law_X0_order
set_option maxRecDepth 20000 in
theorem ggL_law_X1_order : GoodIn wsL_law wsX1_order := goodIn_r _ [202, 87, 40, 35, 100, 101, 102, 5, 103, 38, 212, 213, 214, 215, 216, 217, 218, 219] (by decide +kernel) (by decide +kernel)
set_option maxRecDepth 20000 in
theorem gL_law_X1_order : GoodIn wsL_law (wsV RL 67 RX1 yX1_order wsX1_order) := goodIn_app (goodIn_of _ (by decide +kernel)) ggL_law_X1_order
theorem dL_law_0 : decode cL_law 0 = .ok (.new 7, 3) := by decide +kernel
theorem dL_law_3 : decode cL_law 3 = .ok (.dup, 1) := by decide +kernel
theorem dL_law_4 : decode cL_law 4 = .ok (.aload_n 0, 1) := by decide +kernel
theorem dL_law_5 : decode cL_law 5 = .ok (.iconst 0, 1) := by decide +kernel
theorem dL_law_6 : decode cL_law 6 = .ok (.invokestatic 9, 3) := by decide +kernel
theorem dL_law_9 : decode cL_law 9 = .ok (.aload_n 0, 1) := by decide +kernel
theorem dL_law_10 : decode cL_law 10 = .ok (.iconst 1, 1) := by decide +kernel
theorem dL_law_11 : decode cL_law 11 = .ok (.invokestatic 9, 3) := by decide +kernel
theorem dL_law_14 : decode cL_law 14 = .ok (.invokespecial 15, 3) := by decide +kernel
theorem dL_law_17 : decode cL_law 17 = .ok (.astore_n 1, 1) := by decide +kernel
theorem dL_law_18 : decode cL_law 18 = .ok (.new 18, 3) := by decide +kernel
theorem dL_law_21 : decode cL_law 21 = .ok (.dup, 1) := by decide +kernel
theorem dL_law_22 : decode cL_law 22 = .ok (.aload_n 0, 1) := by decide +kernel
theorem dL_law_23 : decode cL_law 23 = .ok (.iconst 0, 1) := by decide +kernel
theorem dL_law_24 : decode cL_law 24 = .ok (.invokestatic 9, 3) := by decide +kernel
theorem dL_law_27 : decode cL_law 27 = .ok (.aload_n 0, 1) := by decide +kernel
theorem dL_law_28 : decode cL_law 28 = .ok (.iconst 1, 1) := by decide +kernel
theorem dL_law_29 : decode cL_law 29 = .ok (.invokestatic 9, 3) := by decide +kernel
theorem dL_law_32 : decode cL_law 32 = .ok (.invokespecial 20, 3) := by decide +kernel
theorem dL_law_35 : decode cL_law 35 = .ok (.astore_n 2, 1) := by decide +kernel
theorem dL_law_36 : decode cL_law 36 = .ok (.iconst 2, 1) := by decide +kernel
theorem dL_law_37 : decode cL_law 37 = .ok (.istore_n 3, 1) := by decide +kernel
theorem dL_law_38 : decode cL_law 38 = .ok (.iload_n 3, 1) := by decide +kernel
theorem dL_law_39 : decode cL_law 39 = .ok (.aload_n 0, 1) := by decide +kernel
theorem dL_law_40 : decode cL_law 40 = .ok (.arraylength, 1) := by decide +kernel
theorem dL_law_41 : decode cL_law 41 = .ok (.iconst 3, 1) := by decide +kernel
theorem dL_law_42 : decode cL_law 42 = .ok (.isub, 1) := by decide +kernel
theorem dL_law_43 : decode cL_law 43 = .ok (.if_icmp .gt 318, 3) := by decide +kernel
theorem dL_law_46 : decode cL_law 46 = .ok (.aload_n 0, 1) := by decide +kernel
theorem dL_law_47 : decode cL_law 47 = .ok (.iload_n 3, 1) := by decide +kernel
theorem dL_law_48 : decode cL_law 48 = .ok (.iaload, 1) := by decide +kernel
theorem dL_law_49 : decode cL_law 49 = .ok (.bipush 15, 2) := by decide +kernel
theorem dL_law_51 : decode cL_law 51 = .ok (.iand, 1) := by decide +kernel
theorem dL_law_52 : decode cL_law 52 = .ok (.tableswitch 303 0 10 #[60, 93, 116, 129, 152, 185, 208, 231, 254, 267, 280], 60) := by decide +kernel
theorem dL_law_112 : decode cL_law 112 = .ok (.aload_n 1, 1) := by decide +kernel
theorem dL_law_113 : decode cL_law 113 = .ok (.aload_n 0, 1) := by decide +kernel
theorem dL_law_114 : decode cL_law 114 = .ok (.iload_n 3, 1) := by decide +kernel
theorem dL_law_115 : decode cL_law 115 = .ok (.iconst 1, 1) := by decide +kernel
theorem dL_law_116 : decode cL_law 116 = .ok (.iadd, 1) := by decide +kernel
theorem dL_law_117 : decode cL_law 117 = .ok (.iaload, 1) := by decide +kernel
theorem dL_law_118 : decode cL_law 118 = .ok (.aload_n 0, 1) := by decide +kernel
theorem dL_law_119 : decode cL_law 119 = .ok (.iload_n 3, 1) := by decide +kernel
theorem dL_law_120 : decode cL_law 120 = .ok (.iconst 2, 1) := by decide +kernel
theorem dL_law_121 : decode cL_law 121 = .ok (.iadd, 1) := by decide +kernel
theorem dL_law_122 : decode cL_law 122 = .ok (.iaload, 1) := by decide +kernel
theorem dL_law_123 : decode cL_law 123 = .ok (.invokevirtual 21, 3) := by decide +kernel
theorem dL_law_126 : decode cL_law 126 = .ok (.aload_n 2, 1) := by decide +kernel
theorem dL_law_127 : decode cL_law 127 = .ok (.aload_n 0, 1) := by decide +kernel
theorem dL_law_128 : decode cL_law 128 = .ok (.iload_n 3, 1) := by decide +kernel
theorem dL_law_129 : decode cL_law 129 = .ok (.iconst 1, 1) := by decide +kernel
theorem dL_law_130 : decode cL_law 130 = .ok (.iadd, 1) := by decide +kernel
theorem dL_law_131 : decode cL_law 131 = .ok (.iaload, 1) := by decide +kernel
theorem dL_law_132 : decode cL_law 132 = .ok (.aload_n 0, 1) := by decide +kernel
theorem dL_law_133 : decode cL_law 133 = .ok (.iload_n 3, 1) := by decide +kernel
theorem dL_law_134 : decode cL_law 134 = .ok (.iconst 2, 1) := by decide +kernel
theorem dL_law_135 : decode cL_law 135 = .ok (.iadd, 1) := by decide +kernel
theorem dL_law_136 : decode cL_law 136 = .ok (.iaload, 1) := by decide +kernel
theorem dL_law_137 : decode cL_law 137 = .ok (.invokevirtual 25, 3) := by decide +kernel
theorem dL_law_140 : decode cL_law 140 = .ok (.if_icmp .eq 215, 3) := by decide +kernel
theorem dL_law_143 : decode cL_law 143 = .ok (.iconst 0, 1) := by decide +kernel
theorem dL_law_144 : decode cL_law 144 = .ok (.ireturn, 1) := by decide +kernel
theorem dL_law_145 : decode cL_law 145 = .ok (.aload_n 1, 1) := by decide +kernel
theorem dL_law_146 : decode cL_law 146 = .ok (.aload_n 0, 1) := by decide +kernel
theorem dL_law_147 : decode cL_law 147 = .ok (.iload_n 3, 1) := by decide +kernel
theorem dL_law_148 : decode cL_law 148 = .ok (.iconst 1, 1) := by decide +kernel
theorem dL_law_149 : decode cL_law 149 = .ok (.iadd, 1) := by decide +kernel
theorem dL_law_150 : decode cL_law 150 = .ok (.iaload, 1) := by decide +kernel
theorem dL_law_151 : decode cL_law 151 = .ok (.invokevirtual 26, 3) := by decide +kernel
theorem dL_law_154 : decode cL_law 154 = .ok (.aload_n 2, 1) := by decide +kernel
theorem dL_law_155 : decode cL_law 155 = .ok (.aload_n 0, 1) := by decide +kernel
theorem dL_law_156 : decode cL_law 156 = .ok (.iload_n 3, 1) := by decide +kernel
theorem dL_law_157 : decode cL_law 157 = .ok (.iconst 1, 1) := by decide +kernel
theorem dL_law_158 : decode cL_law 158 = .ok (.iadd, 1) := by decide +kernel
theorem dL_law_159 : decode cL_law 159 = .ok (.iaload, 1) := by decide +kernel
theorem dL_law_160 : decode cL_law 160 = .ok (.invokevirtual 30, 3) := by decide +kernel
theorem dL_law_163 : decode cL_law 163 = .ok (.if_icmp .eq 192, 3) := by decide +kernel
theorem dL_law_166 : decode cL_law 166 = .ok (.iconst 0, 1) := by decide +kernel
theorem dL_law_167 : decode cL_law 167 = .ok (.ireturn, 1) := by decide +kernel
theorem dL_law_168 : decode cL_law 168 = .ok (.aload_n 1, 1) := by decide +kernel
theorem dL_law_169 : decode cL_law 169 = .ok (.invokevirtual 31, 3) := by decide +kernel
theorem dL_law_172 : decode cL_law 172 = .ok (.aload_n 2, 1) := by decide +kernel
theorem dL_law_173 : decode cL_law 173 = .ok (.invokevirtual 35, 3) := by decide +kernel
theorem dL_law_176 : decode cL_law 176 = .ok (.if_icmp .eq 179, 3) := by decide +kernel
theorem dL_law_179 : decode cL_law 179 = .ok (.iconst 0, 1) := by decide +kernel
theorem dL_law_180 : decode cL_law 180 = .ok (.ireturn, 1) := by decide +kernel
theorem dL_law_181 : decode cL_law 181 = .ok (.aload_n 1, 1) := by decide +kernel
theorem dL_law_182 : decode cL_law 182 = .ok (.aload_n 0, 1) := by decide +kernel
theorem dL_law_183 : decode cL_law 183 = .ok (.iload_n 3, 1) := by decide +kernel
theorem dL_law_184 : decode cL_law 184 = .ok (.iconst 1, 1) := by decide +kernel
theorem dL_law_185 : decode cL_law 185 = .ok (.iadd, 1) := by decide +kernel
theorem dL_law_186 : decode cL_law 186 = .ok (.iaload, 1) := by decide +kernel
theorem dL_law_187 : decode cL_law 187 = .ok (.invokevirtual 36, 3) := by decide +kernel
theorem dL_law_190 : decode cL_law 190 = .ok (.aload_n 2, 1) := by decide +kernel
theorem dL_law_191 : decode cL_law 191 = .ok (.aload_n 0, 1) := by decide +kernel
theorem dL_law_192 : decode cL_law 192 = .ok (.iload_n 3, 1) := by decide +kernel
theorem dL_law_193 : decode cL_law 193 = .ok (.iconst 1, 1) := by decide +kernel
theorem dL_law_194 : decode cL_law 194 = .ok (.iadd, 1) := by decide +kernel
theorem dL_law_195 : decode cL_law 195 = .ok (.iaload, 1) := by decide +kernel
theorem dL_law_196 : decode cL_law 196 = .ok (.invokevirtual 39, 3) := by decide +kernel
theorem dL_law_199 : decode cL_law 199 = .ok (.if_icmp .eq 156, 3) := by decide +kernel
theorem dL_law_202 : decode cL_law 202 = .ok (.iconst 0, 1) := by decide +kernel
theorem dL_law_203 : decode cL_law 203 = .ok (.ireturn, 1) := by decide +kernel
theorem dL_law_204 : decode cL_law 204 = .ok (.aload_n 1, 1) := by decide +kernel
theorem dL_law_205 : decode cL_law 205 = .ok (.aload_n 0, 1) := by decide +kernel
theorem dL_law_206 : decode cL_law 206 = .ok (.iload_n 3, 1) := by decide +kernel
theorem dL_law_207 : decode cL_law 207 = .ok (.iconst 1, 1) := by decide +kernel
theorem dL_law_208 : decode cL_law 208 = .ok (.iadd, 1) := by decide +kernel
theorem dL_law_209 : decode cL_law 209 = .ok (.iaload, 1) := by decide +kernel
theorem dL_law_210 : decode cL_law 210 = .ok (.aload_n 0, 1) := by decide +kernel
theorem dL_law_211 : decode cL_law 211 = .ok (.iload_n 3, 1) := by decide +kernel
theorem dL_law_212 : decode cL_law 212 = .ok (.iconst 2, 1) := by decide +kernel
theorem dL_law_213 : decode cL_law 213 = .ok (.iadd, 1) := by decide +kernel
theorem dL_law_214 : decode cL_law 214 = .ok (.iaload, 1) := by decide +kernel
theorem dL_law_215 : decode cL_law 215 = .ok (.invokevirtual 40, 3) := by decide +kernel
theorem dL_law_218 : decode cL_law 218 = .ok (.aload_n 2, 1) := by decide +kernel
theorem dL_law_219 : decode cL_law 219 = .ok (.aload_n 0, 1) := by decide +kernel
theorem dL_law_220 : decode cL_law 220 = .ok (.iload_n 3, 1) := by decide +kernel
theorem dL_law_221 : decode cL_law 221 = .ok (.iconst 1, 1) := by decide +kernel
theorem dL_law_222 : decode cL_law 222 = .ok (.iadd, 1) := by decide +kernel
theorem dL_law_223 : decode cL_law 223 = .ok (.iaload, 1) := by decide +kernel
theorem dL_law_224 : decode cL_law 224 = .ok (.aload_n 0, 1) := by decide +kernel
theorem dL_law_225 : decode cL_law 225 = .ok (.iload_n 3, 1) := by decide +kernel
theorem dL_law_226 : decode cL_law 226 = .ok (.iconst 2, 1) := by decide +kernel
theorem dL_law_227 : decode cL_law 227 = .ok (.iadd, 1) := by decide +kernel
theorem dL_law_228 : decode cL_law 228 = .ok (.iaload, 1) := by decide +kernel
theorem dL_law_229 : decode cL_law 229 = .ok (.invokevirtual 43, 3) := by decide +kernel
theorem dL_law_232 : decode cL_law 232 = .ok (.if_icmp .eq 123, 3) := by decide +kernel
theorem dL_law_235 : decode cL_law 235 = .ok (.iconst 0, 1) := by decide +kernel
theorem dL_law_236 : decode cL_law 236 = .ok (.ireturn, 1) := by decide +kernel
theorem dL_law_237 : decode cL_law 237 = .ok (.aload_n 1, 1) := by decide +kernel
theorem dL_law_238 : decode cL_law 238 = .ok (.aload_n 0, 1) := by decide +kernel
theorem dL_law_239 : decode cL_law 239 = .ok (.iload_n 3, 1) := by decide +kernel
theorem dL_law_240 : decode cL_law 240 = .ok (.iconst 1, 1) := by decide +kernel
theorem dL_law_241 : decode cL_law 241 = .ok (.iadd, 1) := by decide +kernel
theorem dL_law_242 : decode cL_law 242 = .ok (.iaload, 1) := by decide +kernel
theorem dL_law_243 : decode cL_law 243 = .ok (.invokevirtual 44, 3) := by decide +kernel
theorem dL_law_246 : decode cL_law 246 = .ok (.aload_n 2, 1) := by decide +kernel
theorem dL_law_247 : decode cL_law 247 = .ok (.aload_n 0, 1) := by decide +kernel
theorem dL_law_248 : decode cL_law 248 = .ok (.iload_n 3, 1) := by decide +kernel
theorem dL_law_249 : decode cL_law 249 = .ok (.iconst 1, 1) := by decide +kernel
theorem dL_law_250 : decode cL_law 250 = .ok (.iadd, 1) := by decide +kernel
theorem dL_law_251 : decode cL_law 251 = .ok (.iaload, 1) := by decide +kernel
theorem dL_law_252 : decode cL_law 252 = .ok (.invokevirtual 47, 3) := by decide +kernel
theorem dL_law_255 : decode cL_law 255 = .ok (.if_icmp .eq 100, 3) := by decide +kernel
theorem dL_law_258 : decode cL_law 258 = .ok (.iconst 0, 1) := by decide +kernel
theorem dL_law_259 : decode cL_law 259 = .ok (.ireturn, 1) := by decide +kernel
theorem dL_law_260 : decode cL_law 260 = .ok (.aload_n 1, 1) := by decide +kernel
theorem dL_law_261 : decode cL_law 261 = .ok (.aload_n 0, 1) := by decide +kernel
theorem dL_law_262 : decode cL_law 262 = .ok (.iload_n 3, 1) := by decide +kernel
theorem dL_law_263 : decode cL_law 263 = .ok (.iconst 1, 1) := by decide +kernel
theorem dL_law_264 : decode cL_law 264 = .ok (.iadd, 1) := by decide +kernel
theorem dL_law_265 : decode cL_law 265 = .ok (.iaload, 1) := by decide +kernel
theorem dL_law_266 : decode cL_law 266 = .ok (.invokevirtual 48, 3) := by decide +kernel
theorem dL_law_269 : decode cL_law 269 = .ok (.aload_n 2, 1) := by decide +kernel
theorem dL_law_270 : decode cL_law 270 = .ok (.aload_n 0, 1) := by decide +kernel
theorem dL_law_271 : decode cL_law 271 = .ok (.iload_n 3, 1) := by decide +kernel
theorem dL_law_272 : decode cL_law 272 = .ok (.iconst 1, 1) := by decide +kernel
theorem dL_law_273 : decode cL_law 273 = .ok (.iadd, 1) := by decide +kernel
theorem dL_law_274 : decode cL_law 274 = .ok (.iaload, 1) := by decide +kernel
theorem dL_law_275 : decode cL_law 275 = .ok (.invokevirtual 51, 3) := by decide +kernel
theorem dL_law_278 : decode cL_law 278 = .ok (.if_icmp .eq 77, 3) := by decide +kernel
theorem dL_law_281 : decode cL_law 281 = .ok (.iconst 0, 1) := by decide +kernel
theorem dL_law_282 : decode cL_law 282 = .ok (.ireturn, 1) := by decide +kernel
theorem dL_law_283 : decode cL_law 283 = .ok (.aload_n 1, 1) := by decide +kernel
theorem dL_law_284 : decode cL_law 284 = .ok (.aload_n 0, 1) := by decide +kernel
theorem dL_law_285 : decode cL_law 285 = .ok (.iload_n 3, 1) := by decide +kernel
theorem dL_law_286 : decode cL_law 286 = .ok (.iconst 1, 1) := by decide +kernel
theorem dL_law_287 : decode cL_law 287 = .ok (.iadd, 1) := by decide +kernel
theorem dL_law_288 : decode cL_law 288 = .ok (.iaload, 1) := by decide +kernel
theorem dL_law_289 : decode cL_law 289 = .ok (.invokevirtual 52, 3) := by decide +kernel
theorem dL_law_292 : decode cL_law 292 = .ok (.aload_n 2, 1) := by decide +kernel
theorem dL_law_293 : decode cL_law 293 = .ok (.aload_n 0, 1) := by decide +kernel
theorem dL_law_294 : decode cL_law 294 = .ok (.iload_n 3, 1) := by decide +kernel
theorem dL_law_295 : decode cL_law 295 = .ok (.iconst 1, 1) := by decide +kernel
theorem dL_law_296 : decode cL_law 296 = .ok (.iadd, 1) := by decide +kernel
theorem dL_law_297 : decode cL_law 297 = .ok (.iaload, 1) := by decide +kernel
theorem dL_law_298 : decode cL_law 298 = .ok (.invokevirtual 55, 3) := by decide +kernel
theorem dL_law_301 : decode cL_law 301 = .ok (.if_icmp .eq 54, 3) := by decide +kernel
theorem dL_law_304 : decode cL_law 304 = .ok (.iconst 0, 1) := by decide +kernel
theorem dL_law_305 : decode cL_law 305 = .ok (.ireturn, 1) := by decide +kernel
theorem dL_law_306 : decode cL_law 306 = .ok (.aload_n 1, 1) := by decide +kernel
theorem dL_law_307 : decode cL_law 307 = .ok (.invokevirtual 56, 3) := by decide +kernel
theorem dL_law_310 : decode cL_law 310 = .ok (.aload_n 2, 1) := by decide +kernel
theorem dL_law_311 : decode cL_law 311 = .ok (.invokevirtual 59, 3) := by decide +kernel
theorem dL_law_314 : decode cL_law 314 = .ok (.if_icmp .eq 41, 3) := by decide +kernel
theorem dL_law_317 : decode cL_law 317 = .ok (.iconst 0, 1) := by decide +kernel
theorem dL_law_318 : decode cL_law 318 = .ok (.ireturn, 1) := by decide +kernel
theorem dL_law_319 : decode cL_law 319 = .ok (.aload_n 1, 1) := by decide +kernel
theorem dL_law_320 : decode cL_law 320 = .ok (.invokevirtual 60, 3) := by decide +kernel
theorem dL_law_323 : decode cL_law 323 = .ok (.aload_n 2, 1) := by decide +kernel
theorem dL_law_324 : decode cL_law 324 = .ok (.invokevirtual 63, 3) := by decide +kernel
theorem dL_law_327 : decode cL_law 327 = .ok (.if_icmp .eq 28, 3) := by decide +kernel
theorem dL_law_330 : decode cL_law 330 = .ok (.iconst 0, 1) := by decide +kernel
theorem dL_law_331 : decode cL_law 331 = .ok (.ireturn, 1) := by decide +kernel
theorem dL_law_332 : decode cL_law 332 = .ok (.aload_n 1, 1) := by decide +kernel
theorem dL_law_333 : decode cL_law 333 = .ok (.aload_n 0, 1) := by decide +kernel
theorem dL_law_334 : decode cL_law 334 = .ok (.iload_n 3, 1) := by decide +kernel
theorem dL_law_335 : decode cL_law 335 = .ok (.iconst 1, 1) := by decide +kernel
theorem dL_law_336 : decode cL_law 336 = .ok (.iadd, 1) := by decide +kernel
theorem dL_law_337 : decode cL_law 337 = .ok (.iaload, 1) := by decide +kernel
theorem dL_law_338 : decode cL_law 338 = .ok (.invokevirtual 64, 3) := by decide +kernel
theorem dL_law_341 : decode cL_law 341 = .ok (.aload_n 2, 1) := by decide +kernel
theorem dL_law_342 : decode cL_law 342 = .ok (.aload_n 0, 1) := by decide +kernel
theorem dL_law_343 : decode cL_law 343 = .ok (.iload_n 3, 1) := by decide +kernel
theorem dL_law_344 : decode cL_law 344 = .ok (.iconst 1, 1) := by decide +kernel
theorem dL_law_345 : decode cL_law 345 = .ok (.iadd, 1) := by decide +kernel
theorem dL_law_346 : decode cL_law 346 = .ok (.iaload, 1) := by decide +kernel
theorem dL_law_347 : decode cL_law 347 = .ok (.invokevirtual 67, 3) := by decide +kernel
theorem dL_law_350 : decode cL_law 350 = .ok (.if_icmp .eq 5, 3) := by decide +kernel
theorem dL_law_353 : decode cL_law 353 = .ok (.iconst 0, 1) := by decide +kernel
theorem dL_law_354 : decode cL_law 354 = .ok (.ireturn, 1) := by decide +kernel
theorem dL_law_355 : decode cL_law 355 = .ok (.iinc 3 3, 3) := by decide +kernel
theorem dL_law_358 : decode cL_law 358 = .ok (.goto (-320), 3) := by decide +kernel
theorem dL_law_361 : decode cL_law 361 = .ok (.iconst 1, 1) := by decide +kernel
theorem dL_law_362 : decode cL_law 362 = .ok (.ireturn, 1) := by decide +kernel
abbrev vwCl : List vw_C := [(RX0, TX0, 9), (RX1, TX1, 8)]
end
section
-- the fields' words are among each method's words
theorem wiX0_init : ∀ w ∈ u_ws RX0 TX0 9, w ∈ wsX0_init := fun _ h => List.mem_cons_of_mem _ (List.mem_append_right _ h)
theorem wiX0_isClient : ∀ w ∈ u_ws RX0 TX0 9, w ∈ wsX0_isClient := fun _ h => List.mem_cons_of_mem _ (List.mem_append_right _ h)
theorem wiX0_isIn : ∀ w ∈ u_ws RX0 TX0 9, w ∈ wsX0_isIn := fun _ h => List.mem_cons_of_mem _ (List.mem_append_right _ h)
theorem wiX0_areTickets : ∀ w ∈ u_ws RX0 TX0 9, w ∈ wsX0_areTickets := fun _ h => List.mem_cons_of_mem _ (List.mem_append_right _ h)
theorem wiX0_joiningPass : ∀ w ∈ u_ws RX0 TX0 9, w ∈ wsX0_joiningPass := fun _ h => List.mem_cons_of_mem _ (List.mem_append_right _ h)
theorem wiX0_giveTickets : ∀ w ∈ u_ws RX0 TX0 9, w ∈ wsX0_giveTickets := fun _ h => List.mem_cons_of_mem _ (List.mem_append_right _ h)
theorem wiX0_isBefore : ∀ w ∈ u_ws RX0 TX0 9, w ∈ wsX0_isBefore := fun _ h => List.mem_cons_of_mem _ (List.mem_append_right _ h)
theorem wiX0_settleFirst : ∀ w ∈ u_ws RX0 TX0 9, w ∈ wsX0_settleFirst := fun _ h => List.mem_cons_of_mem _ (List.mem_append_right _ h)
theorem wiX0_enterLine : ∀ w ∈ u_ws RX0 TX0 9, w ∈ wsX0_enterLine := fun _ h => List.mem_cons_of_mem _ (List.mem_append_right _ h)
theorem wiX0_join : ∀ w ∈ u_ws RX0 TX0 9, w ∈ wsX0_join := fun _ h => List.mem_cons_of_mem _ (List.mem_append_right _ h)
theorem wiX0_placeOf : ∀ w ∈ u_ws RX0 TX0 9, w ∈ wsX0_placeOf := fun _ h => List.mem_cons_of_mem _ (List.mem_append_right _ h)
theorem wiX0_quitLine : ∀ w ∈ u_ws RX0 TX0 9, w ∈ wsX0_quitLine := fun _ h => List.mem_cons_of_mem _ (List.mem_append_right _ h)
theorem wiX0_leave : ∀ w ∈ u_ws RX0 TX0 9, w ∈ wsX0_leave := fun _ h => List.mem_cons_of_mem _ (List.mem_append_right _ h)
theorem wiX0_giveTurn : ∀ w ∈ u_ws RX0 TX0 9, w ∈ wsX0_giveTurn := fun _ h => List.mem_cons_of_mem _ (List.mem_append_right _ h)
theorem wiX0_next : ∀ w ∈ u_ws RX0 TX0 9, w ∈ wsX0_next := fun _ h => List.mem_cons_of_mem _ (List.mem_append_right _ h)
theorem wiX0_turns : ∀ w ∈ u_ws RX0 TX0 9, w ∈ wsX0_turns := fun _ h => List.mem_cons_of_mem _ (List.mem_append_right _ h)
theorem wiX0_change : ∀ w ∈ u_ws RX0 TX0 9, w ∈ wsX0_change := fun _ h => List.mem_cons_of_mem _ (List.mem_append_right _ h)
theorem wiX0_ranOf : ∀ w ∈ u_ws RX0 TX0 9, w ∈ wsX0_ranOf := fun _ h => List.mem_cons_of_mem _ (List.mem_append_right _ h)
theorem wiX0_passOf : ∀ w ∈ u_ws RX0 TX0 9, w ∈ wsX0_passOf := fun _ h => List.mem_cons_of_mem _ (List.mem_append_right _ h)
theorem wiX0_strideOf : ∀ w ∈ u_ws RX0 TX0 9, w ∈ wsX0_strideOf := fun _ h => List.mem_cons_of_mem _ (List.mem_append_right _ h)
theorem wiX0_clients : ∀ w ∈ u_ws RX0 TX0 9, w ∈ wsX0_clients := fun _ h => List.mem_cons_of_mem _ (List.mem_append_right _ h)
theorem wiX0_spread : ∀ w ∈ u_ws RX0 TX0 9, w ∈ wsX0_spread := fun _ h => List.mem_cons_of_mem _ (List.mem_append_right _ h)
theorem wiX0_order : ∀ w ∈ u_ws RX0 TX0 9, w ∈ wsX0_order := fun _ h => List.mem_cons_of_mem _ (List.mem_append_right _ h)
theorem wiX1_init : ∀ w ∈ u_ws RX1 TX1 8, w ∈ wsX1_init := fun _ h => List.mem_cons_of_mem _ (List.mem_append_right _ h)
theorem wiX1_isClient : ∀ w ∈ u_ws RX1 TX1 8, w ∈ wsX1_isClient := fun _ h => List.mem_cons_of_mem _ (List.mem_append_right _ h)
theorem wiX1_isIn : ∀ w ∈ u_ws RX1 TX1 8, w ∈ wsX1_isIn := fun _ h => List.mem_cons_of_mem _ (List.mem_append_right _ h)
theorem wiX1_areTickets : ∀ w ∈ u_ws RX1 TX1 8, w ∈ wsX1_areTickets := fun _ h => List.mem_cons_of_mem _ (List.mem_append_right _ h)
theorem wiX1_isBefore : ∀ w ∈ u_ws RX1 TX1 8, w ∈ wsX1_isBefore := fun _ h => List.mem_cons_of_mem _ (List.mem_append_right _ h)
theorem wiX1_first : ∀ w ∈ u_ws RX1 TX1 8, w ∈ wsX1_first := fun _ h => List.mem_cons_of_mem _ (List.mem_append_right _ h)
theorem wiX1_join : ∀ w ∈ u_ws RX1 TX1 8, w ∈ wsX1_join := fun _ h => List.mem_cons_of_mem _ (List.mem_append_right _ h)
theorem wiX1_leave : ∀ w ∈ u_ws RX1 TX1 8, w ∈ wsX1_leave := fun _ h => List.mem_cons_of_mem _ (List.mem_append_right _ h)
theorem wiX1_next : ∀ w ∈ u_ws RX1 TX1 8, w ∈ wsX1_next := fun _ h => List.mem_cons_of_mem _ (List.mem_append_right _ h)
theorem wiX1_turns : ∀ w ∈ u_ws RX1 TX1 8, w ∈ wsX1_turns := fun _ h => List.mem_cons_of_mem _ (List.mem_append_right _ h)
theorem wiX1_change : ∀ w ∈ u_ws RX1 TX1 8, w ∈ wsX1_change := fun _ h => List.mem_cons_of_mem _ (List.mem_append_right _ h)
theorem wiX1_ranOf : ∀ w ∈ u_ws RX1 TX1 8, w ∈ wsX1_ranOf := fun _ h => List.mem_cons_of_mem _ (List.mem_append_right _ h)
theorem wiX1_passOf : ∀ w ∈ u_ws RX1 TX1 8, w ∈ wsX1_passOf := fun _ h => List.mem_cons_of_mem _ (List.mem_append_right _ h)
theorem wiX1_strideOf : ∀ w ∈ u_ws RX1 TX1 8, w ∈ wsX1_strideOf := fun _ h => List.mem_cons_of_mem _ (List.mem_append_right _ h)
theorem wiX1_clients : ∀ w ∈ u_ws RX1 TX1 8, w ∈ wsX1_clients := fun _ h => List.mem_cons_of_mem _ (List.mem_append_right _ h)
theorem wiX1_spread : ∀ w ∈ u_ws RX1 TX1 8, w ∈ wsX1_spread := fun _ h => List.mem_cons_of_mem _ (List.mem_append_right _ h)
theorem wiX1_order : ∀ w ∈ u_ws RX1 TX1 8, w ∈ wsX1_order := fun _ h => List.mem_cons_of_mem _ (List.mem_append_right _ h)
end
section
-- ROWS OF MY OWN: the machine's rows over natural numbers (every int of the picture is nI of a Nat)
def sh_a (f : Nat → Nat) : Nat → Int32 := fun j => nI (f j)
def sh_up (f : Nat → Nat) (k v : Nat) : Nat → Nat := fun j => if j = k then v else f j
theorem sh_up_s (f : Nat → Nat) (k v : Nat) : sh_up f k v k = v := by simp [sh_up]
theorem sh_up_n (f : Nat → Nat) {k j : Nat} (v : Nat) (h : j ≠ k) : sh_up f k v j = f j := by simp [sh_up, h]
theorem sh_upd (f : Nat → Nat) {k : Nat} (v : Nat) (h : k < 2 ^ 31) : upd (sh_a f) (nI k).toNatClampNeg (nI v) = sh_a (sh_up f k v) := by
  rw [nI_clamp h]
  funext j
  simp only [upd, sh_a, sh_up]
  split <;> rfl
/-- longs, booleans -/
def sl_a (f : Nat → Nat) : Nat → Int64 := fun j => lN (f j)
def sh_in (t : Nat → Nat) : Nat → Nat := fun j => if 0 < t j then 1 else 0
theorem in_0 {t : Nat → Nat} {c : Nat} : sh_in t c = 0 ↔ t c = 0 := by
  simp only [sh_in]
  split <;> omega
theorem in_p {t : Nat → Nat} {c : Nat} : 0 < sh_in t c ↔ 0 < t c := by
  simp only [sh_in]
  split <;> omega
theorem in_lt (t : Nat → Nat) (c : Nat) : sh_in t c < 2 ^ 31 := by
  simp only [sh_in]
  split <;> omega
theorem in_up1 (t : Nat → Nat) (c v : Nat) (h : 0 < v) : sh_up (sh_in t) c 1 = sh_in (sh_up t c v) := by
  funext j
  by_cases q : j = c <;> simp [sh_up, sh_in, q, h]
theorem in_up0 (t : Nat → Nat) (c : Nat) : sh_up (sh_in t) c 0 = sh_in (sh_up t c 0) := by
  funext j
  by_cases q : j = c <;> simp [sh_up, sh_in, q]
theorem in_upS (t : Nat → Nat) (c v : Nat) (h0 : 0 < t c) (h : 0 < v) : sh_in t = sh_in (sh_up t c v) := by
  funext j
  by_cases q : j = c <;> simp [sh_up, sh_in, q, h, h0]
theorem sl_upd (f : Nat → Nat) {k : Nat} (v : Nat) (h : k < 2 ^ 31) : vp_updL (sl_a f) (nI k).toNatClampNeg (lN v) = sl_a (sh_up f k v) := by
  rw [nI_clamp h]
  funext j
  simp only [vp_updL, sl_a, sh_up]
  split <;> rfl
section SR
variable {p : Program} {l : Launch} {e : Env} {R : Room} {s : State} {m : MethodId} {args : Array Value} {below : List Frame} {meth : Method} {c : Code} {H : Heap} {locs : List Loc} {cells slots : Nat} {Q : State → Prop}
variable {cc : ByteArray} {pc : Nat} {ls : Array Slot} {rest : List Value} {D : va_G} {cl : List vw_C} {A : Nat → Prop} {a : Nat} {tys : List (ClassId × FieldType)} {ws : va_W} {H0 : Heap}
theorem sr_ald (hx : p.tables.exec = Jvm.exec) (hb : c.code = cc) (hK : va_K D cl tys s) (hP : va_P D cl ws H) (q0 t0 : Nat) {cA : ClassId} {n : Nat} {f : Nat → Nat} (ha : ws[q0]? = some (a, .inl (cA, n, .inl (sh_a f)))) (ht : tys[t0]? = some (cA, .int)) {k : Nat} (hk : k < n) (hn : n < 2 ^ 31) (hdg : decode cc pc = .ok (.iaload, 1))
    (kk : W p l e R s m args below meth c H locs cells slots Q (F0 m (pc + 1) ls (.int (nI (f k)) :: rest))) : W p l e R s m args below meth c H locs cells slots Q (F0 m pc ls (.int (nI k) :: .ref a :: rest)) := by
  refine va_iald hx hb hK hP q0 t0 ha ht (vp_in_nI hk hn) hdg ?_
  rw [nI_clamp (Nat.lt_trans hk hn)]
  exact kk
theorem sr_ast (hx : p.tables.exec = Jvm.exec) (hb : c.code = cc) (hK : va_K D cl tys s) (hP : va_P D cl ws H) (hD : va_D A ws) (hS : va_S A H0 H locs) (q0 t0 : Nat) {cA : ClassId} {n : Nat} {f : Nat → Nat} (ha : ws[q0]? = some (a, .inl (cA, n, .inl (sh_a f)))) (ht : tys[t0]? = some (cA, .int)) {k v : Nat} (hk : k < n) (hn : n < 2 ^ 31) (hdg : decode cc pc = .ok (.iastore, 1))
    (kk : ∀ (H1 : Heap) (locs1 : List Loc), va_P D cl (ws.set q0 (a, .inl (cA, n, .inl (sh_a (sh_up f k v))))) H1 → va_D A (ws.set q0 (a, .inl (cA, n, .inl (sh_a (sh_up f k v))))) → va_S A H0 H1 locs1 → W p l e R s m args below meth c H1 locs1 cells slots Q (F0 m (pc + 1) ls rest)) : W p l e R s m args below meth c H locs cells slots Q (F0 m pc ls (.int (nI v) :: .int (nI k) :: .ref a :: rest)) := by
  refine va_iast hx hb hK hP hD hS q0 t0 ha ht (vp_in_nI hk hn) hdg (fun H1 locs1 hP1 hD1 hS1 => ?_)
  rw [sh_upd f v (Nat.lt_trans hk hn)] at hP1 hD1
  exact kk H1 locs1 hP1 hD1 hS1
theorem sr_iadd (hx : p.tables.exec = Jvm.exec) (hb : c.code = cc) {x y : Nat} (hdg : decode cc pc = .ok (.iadd, 1))
    (kk : W p l e R s m args below meth c H locs cells slots Q (F0 m (pc + 1) ls (.int (nI (x + y)) :: rest))) : W p l e R s m args below meth c H locs cells slots Q (F0 m pc ls (.int (nI y) :: .int (nI x) :: rest)) := by
  refine lv_iadd hx hb hdg ?_
  rw [nI_add]
  exact kk
theorem sr_isub (hx : p.tables.exec = Jvm.exec) (hb : c.code = cc) {x y : Nat} (h : y ≤ x) (hdg : decode cc pc = .ok (.isub, 1))
    (kk : W p l e R s m args below meth c H locs cells slots Q (F0 m (pc + 1) ls (.int (nI (x - y)) :: rest))) : W p l e R s m args below meth c H locs cells slots Q (F0 m pc ls (.int (nI y) :: .int (nI x) :: rest)) := by
  refine lv_isub hx hb hdg ?_
  rw [pk_sub h]
  exact kk
theorem sr_idiv (hx : p.tables.exec = Jvm.exec) (hb : c.code = cc) {x y : Nat} (h0 : 0 < y) (h1 : x < 2 ^ 31) (h2 : y < 2 ^ 31) (hdg : decode cc pc = .ok (.idiv, 1))
    (kk : W p l e R s m args below meth c H locs cells slots Q (F0 m (pc + 1) ls (.int (nI (x / y)) :: rest))) : W p l e R s m args below meth c H locs cells slots Q (F0 m pc ls (.int (nI y) :: .int (nI x) :: rest)) := by
  refine lv_idiv hx hb hdg (nI_ne0 h0 h2) ?_
  rw [pk_div h1 h0 h2]
  exact kk
theorem sr_iconst (hx : p.tables.exec = Jvm.exec) (hb : c.code = cc) {n : Nat} (hdg : decode cc pc = .ok (.iconst (n : Int), 1))
    (kk : W p l e R s m args below meth c H locs cells slots Q (F0 m (pc + 1) ls (.int (nI n) :: rest))) : W p l e R s m args below meth c H locs cells slots Q (F0 m pc ls rest) := lv_iconst hx hb hdg (by rfl) kk
theorem sr_cmp_lt (hx : p.tables.exec = Jvm.exec) (hb : c.code = cc) {x y : Nat} (h1 : x < 2 ^ 31) (h2 : y < 2 ^ 31) {off : Int} {tgt : Nat} (hdg : decode cc pc = .ok (.if_icmp .lt off, 3)) (ht : (pc : Int) + off = (tgt : Int))
    (kt : x < y → W p l e R s m args below meth c H locs cells slots Q (F0 m tgt ls rest)) (kf : y ≤ x → W p l e R s m args below meth c H locs cells slots Q (F0 m (pc + 3) ls rest)) : W p l e R s m args below meth c H locs cells slots Q (F0 m pc ls (.int (nI y) :: .int (nI x) :: rest)) :=
  lv_icmp_lt hx hb hdg ht (fun h => kt ((nI_ltI h1 h2).mp h)) (fun h => kf (Nat.le_of_not_lt (fun q => h ((nI_ltI h1 h2).mpr q))))
theorem sr_cmp_ge (hx : p.tables.exec = Jvm.exec) (hb : c.code = cc) {x y : Nat} (h1 : x < 2 ^ 31) (h2 : y < 2 ^ 31) {off : Int} {tgt : Nat} (hdg : decode cc pc = .ok (.if_icmp .ge off, 3)) (ht : (pc : Int) + off = (tgt : Int))
    (kt : y ≤ x → W p l e R s m args below meth c H locs cells slots Q (F0 m tgt ls rest)) (kf : x < y → W p l e R s m args below meth c H locs cells slots Q (F0 m (pc + 3) ls rest)) : W p l e R s m args below meth c H locs cells slots Q (F0 m pc ls (.int (nI y) :: .int (nI x) :: rest)) :=
  lv_icmp_ge hx hb hdg ht (fun h => kt ((nI_leI h2 h1).mp h)) (fun h => kf (Nat.lt_of_not_le (fun q => h ((nI_leI h2 h1).mpr q))))
theorem sr_cmp_gt (hx : p.tables.exec = Jvm.exec) (hb : c.code = cc) {x y : Nat} (h1 : x < 2 ^ 31) (h2 : y < 2 ^ 31) {off : Int} {tgt : Nat} (hdg : decode cc pc = .ok (.if_icmp .gt off, 3)) (ht : (pc : Int) + off = (tgt : Int))
    (kt : y < x → W p l e R s m args below meth c H locs cells slots Q (F0 m tgt ls rest)) (kf : x ≤ y → W p l e R s m args below meth c H locs cells slots Q (F0 m (pc + 3) ls rest)) : W p l e R s m args below meth c H locs cells slots Q (F0 m pc ls (.int (nI y) :: .int (nI x) :: rest)) :=
  lv_icmp_gt hx hb hdg ht (fun h => kt ((nI_ltI h2 h1).mp h)) (fun h => kf (Nat.le_of_not_lt (fun q => h ((nI_ltI h2 h1).mpr q))))
theorem sr_cmp_le (hx : p.tables.exec = Jvm.exec) (hb : c.code = cc) {x y : Nat} (h1 : x < 2 ^ 31) (h2 : y < 2 ^ 31) {off : Int} {tgt : Nat} (hdg : decode cc pc = .ok (.if_icmp .le off, 3)) (ht : (pc : Int) + off = (tgt : Int))
    (kt : x ≤ y → W p l e R s m args below meth c H locs cells slots Q (F0 m tgt ls rest)) (kf : y < x → W p l e R s m args below meth c H locs cells slots Q (F0 m (pc + 3) ls rest)) : W p l e R s m args below meth c H locs cells slots Q (F0 m pc ls (.int (nI y) :: .int (nI x) :: rest)) :=
  lv_icmp_le hx hb hdg ht (fun h => kt ((nI_leI h1 h2).mp h)) (fun h => kf (Nat.lt_of_not_le (fun q => h ((nI_leI h1 h2).mpr q))))
theorem sr_cmp_eq (hx : p.tables.exec = Jvm.exec) (hb : c.code = cc) {x y : Nat} (h1 : x < 2 ^ 31) (h2 : y < 2 ^ 31) {off : Int} {tgt : Nat} (hdg : decode cc pc = .ok (.if_icmp .eq off, 3)) (ht : (pc : Int) + off = (tgt : Int))
    (kt : x = y → W p l e R s m args below meth c H locs cells slots Q (F0 m tgt ls rest)) (kf : x ≠ y → W p l e R s m args below meth c H locs cells slots Q (F0 m (pc + 3) ls rest)) : W p l e R s m args below meth c H locs cells slots Q (F0 m pc ls (.int (nI y) :: .int (nI x) :: rest)) :=
  lv_icmp_eq hx hb hdg ht (fun h => kt ((nI_eq h1 h2).mp h)) (fun h => kf (fun q => h ((nI_eq h1 h2).mpr q)))
theorem sr_cmp_ne (hx : p.tables.exec = Jvm.exec) (hb : c.code = cc) {x y : Nat} (h1 : x < 2 ^ 31) (h2 : y < 2 ^ 31) {off : Int} {tgt : Nat} (hdg : decode cc pc = .ok (.if_icmp .ne off, 3)) (ht : (pc : Int) + off = (tgt : Int))
    (kt : x ≠ y → W p l e R s m args below meth c H locs cells slots Q (F0 m tgt ls rest)) (kf : x = y → W p l e R s m args below meth c H locs cells slots Q (F0 m (pc + 3) ls rest)) : W p l e R s m args below meth c H locs cells slots Q (F0 m pc ls (.int (nI y) :: .int (nI x) :: rest)) :=
  lv_icmp_ne hx hb hdg ht (fun h => kt (fun q => h ((nI_eq h1 h2).mpr q))) (fun h => kf ((nI_eq h1 h2).mp h))
theorem sr_if_eq (hx : p.tables.exec = Jvm.exec) (hb : c.code = cc) {x : Nat} (h1 : x < 2 ^ 31) {off : Int} {tgt : Nat} (hdg : decode cc pc = .ok (.ifCond .eq off, 3)) (ht : (pc : Int) + off = (tgt : Int))
    (kt : x = 0 → W p l e R s m args below meth c H locs cells slots Q (F0 m tgt ls rest)) (kf : 0 < x → W p l e R s m args below meth c H locs cells slots Q (F0 m (pc + 3) ls rest)) : W p l e R s m args below meth c H locs cells slots Q (F0 m pc ls (.int (nI x) :: rest)) :=
  lv_if_eq hx hb hdg ht (fun h => kt ((nI_eq h1 (by decide)).mp (h.trans nI_0.symm))) (fun h => kf (Nat.pos_of_ne_zero (fun q => h (by rw [q]; exact nI_0))))
theorem sr_if_ne (hx : p.tables.exec = Jvm.exec) (hb : c.code = cc) {x : Nat} (h1 : x < 2 ^ 31) {off : Int} {tgt : Nat} (hdg : decode cc pc = .ok (.ifCond .ne off, 3)) (ht : (pc : Int) + off = (tgt : Int))
    (kt : 0 < x → W p l e R s m args below meth c H locs cells slots Q (F0 m tgt ls rest)) (kf : x = 0 → W p l e R s m args below meth c H locs cells slots Q (F0 m (pc + 3) ls rest)) : W p l e R s m args below meth c H locs cells slots Q (F0 m pc ls (.int (nI x) :: rest)) :=
  lv_if_ne hx hb hdg ht (fun h => kt (Nat.pos_of_ne_zero (fun q => h (by rw [q]; exact nI_0)))) (fun h => kf ((nI_eq h1 (by decide)).mp (h.trans nI_0.symm)))
theorem sr_if_le (hx : p.tables.exec = Jvm.exec) (hb : c.code = cc) {x : Nat} (h1 : x < 2 ^ 31) {off : Int} {tgt : Nat} (hdg : decode cc pc = .ok (.ifCond .le off, 3)) (ht : (pc : Int) + off = (tgt : Int))
    (kt : x = 0 → W p l e R s m args below meth c H locs cells slots Q (F0 m tgt ls rest)) (kf : 0 < x → W p l e R s m args below meth c H locs cells slots Q (F0 m (pc + 3) ls rest)) : W p l e R s m args below meth c H locs cells slots Q (F0 m pc ls (.int (nI x) :: rest)) :=
  lv_if_le hx hb hdg ht (fun h => kt (by
    rcases Nat.eq_zero_or_pos x with q | q
    · exact q
    · exact absurd h (nI_nle q h1))) (fun h => kf (Nat.pos_of_ne_zero (fun q => h (by rw [q, nI_0]; exact Int32.le_refl _))))
theorem sr_if_ge (hx : p.tables.exec = Jvm.exec) (hb : c.code = cc) {x : Nat} (h1 : x < 2 ^ 31) {off : Int} {tgt : Nat} (hdg : decode cc pc = .ok (.ifCond .ge off, 3)) (ht : (pc : Int) + off = (tgt : Int))
    (kt : W p l e R s m args below meth c H locs cells slots Q (F0 m tgt ls rest)) : W p l e R s m args below meth c H locs cells slots Q (F0 m pc ls (.int (nI x) :: rest)) :=
  lv_if_ge hx hb hdg ht (fun _ => kt) (fun h => absurd (nI_pos' h1) h)
theorem sr_if_lt (hx : p.tables.exec = Jvm.exec) (hb : c.code = cc) {x : Nat} (h1 : x < 2 ^ 31) {off : Int} {tgt : Nat} (hdg : decode cc pc = .ok (.ifCond .lt off, 3)) (ht : (pc : Int) + off = (tgt : Int))
    (kf : W p l e R s m args below meth c H locs cells slots Q (F0 m (pc + 3) ls rest)) : W p l e R s m args below meth c H locs cells slots Q (F0 m pc ls (.int (nI x) :: rest)) :=
  lv_if_lt hx hb hdg ht (fun h => absurd h (nI_pos h1)) (fun _ => kf)
theorem sr_zald (hx : p.tables.exec = Jvm.exec) (hb : c.code = cc) (hK : va_K D cl tys s) (hP : va_P D cl ws H) (q0 t0 : Nat) {cA : ClassId} {n : Nat} {f : Nat → Nat} (ha : ws[q0]? = some (a, .inl (cA, n, .inl (sh_a f)))) (ht : tys[t0]? = some (cA, .boolean)) {k : Nat} (hk : k < n) (hn : n < 2 ^ 31) (hdg : decode cc pc = .ok (.baload, 1))
    (kk : W p l e R s m args below meth c H locs cells slots Q (F0 m (pc + 1) ls (.int (nI (f k)) :: rest))) : W p l e R s m args below meth c H locs cells slots Q (F0 m pc ls (.int (nI k) :: .ref a :: rest)) := by
  refine va_zald hx hb hK hP q0 t0 ha ht (vp_in_nI hk hn) hdg ?_
  rw [nI_clamp (Nat.lt_trans hk hn)]
  exact kk
theorem sr_zast (hx : p.tables.exec = Jvm.exec) (hb : c.code = cc) (hK : va_K D cl tys s) (hP : va_P D cl ws H) (hD : va_D A ws) (hS : va_S A H0 H locs) (q0 t0 : Nat) {cA : ClassId} {n : Nat} {f : Nat → Nat} (ha : ws[q0]? = some (a, .inl (cA, n, .inl (sh_a f)))) (ht : tys[t0]? = some (cA, .boolean)) {k v : Nat} (hk : k < n) (hn : n < 2 ^ 31) (hv : vp_nar .boolean (nI v) = nI v) (hdg : decode cc pc = .ok (.bastore, 1))
    (kk : ∀ (H1 : Heap) (locs1 : List Loc), va_P D cl (ws.set q0 (a, .inl (cA, n, .inl (sh_a (sh_up f k v))))) H1 → va_D A (ws.set q0 (a, .inl (cA, n, .inl (sh_a (sh_up f k v))))) → va_S A H0 H1 locs1 → W p l e R s m args below meth c H1 locs1 cells slots Q (F0 m (pc + 1) ls rest)) : W p l e R s m args below meth c H locs cells slots Q (F0 m pc ls (.int (nI v) :: .int (nI k) :: .ref a :: rest)) := by
  refine va_zast hx hb hK hP hD hS q0 t0 ha ht (vp_in_nI hk hn) hdg (fun H1 locs1 hP1 hD1 hS1 => ?_)
  rw [hv, sh_upd f v (Nat.lt_trans hk hn)] at hP1 hD1
  exact kk H1 locs1 hP1 hD1 hS1
theorem sr_lald (hx : p.tables.exec = Jvm.exec) (hb : c.code = cc) (hK : va_K D cl tys s) (hP : va_P D cl ws H) (q0 t0 : Nat) {cA : ClassId} {n : Nat} {f : Nat → Nat} (ha : ws[q0]? = some (a, .inl (cA, n, .inr (.inl (sl_a f))))) (ht : tys[t0]? = some (cA, .long)) {k : Nat} (hk : k < n) (hn : n < 2 ^ 31) (hdg : decode cc pc = .ok (.laload, 1))
    (kk : W p l e R s m args below meth c H locs cells slots Q (F0 m (pc + 1) ls (.long (lN (f k)) :: rest))) : W p l e R s m args below meth c H locs cells slots Q (F0 m pc ls (.int (nI k) :: .ref a :: rest)) := by
  refine va_lald hx hb hK hP q0 t0 ha ht (vp_in_nI hk hn) hdg ?_
  rw [nI_clamp (Nat.lt_trans hk hn)]
  exact kk
theorem sr_last (hx : p.tables.exec = Jvm.exec) (hb : c.code = cc) (hK : va_K D cl tys s) (hP : va_P D cl ws H) (hD : va_D A ws) (hS : va_S A H0 H locs) (q0 t0 : Nat) {cA : ClassId} {n : Nat} {f : Nat → Nat} (ha : ws[q0]? = some (a, .inl (cA, n, .inr (.inl (sl_a f))))) (ht : tys[t0]? = some (cA, .long)) {k v : Nat} (hk : k < n) (hn : n < 2 ^ 31) (hdg : decode cc pc = .ok (.lastore, 1))
    (kk : ∀ (H1 : Heap) (locs1 : List Loc), va_P D cl (ws.set q0 (a, .inl (cA, n, .inr (.inl (sl_a (sh_up f k v)))))) H1 → va_D A (ws.set q0 (a, .inl (cA, n, .inr (.inl (sl_a (sh_up f k v)))))) → va_S A H0 H1 locs1 → W p l e R s m args below meth c H1 locs1 cells slots Q (F0 m (pc + 1) ls rest)) : W p l e R s m args below meth c H locs cells slots Q (F0 m pc ls (.long (lN v) :: .int (nI k) :: .ref a :: rest)) := by
  refine va_last hx hb hK hP hD hS q0 t0 ha ht (vp_in_nI hk hn) hdg (fun H1 locs1 hP1 hD1 hS1 => ?_)
  rw [sl_upd f v (Nat.lt_trans hk hn)] at hP1 hD1
  exact kk H1 locs1 hP1 hD1 hS1
theorem sr_ladd (hx : p.tables.exec = Jvm.exec) (hb : c.code = cc) {x y : Nat} (hdg : decode cc pc = .ok (.ladd, 1))
    (kk : W p l e R s m args below meth c H locs cells slots Q (F0 m (pc + 1) ls (.long (lN (x + y)) :: rest))) : W p l e R s m args below meth c H locs cells slots Q (F0 m pc ls (.long (lN y) :: .long (lN x) :: rest)) := by
  refine lv_ladd hx hb hdg ?_
  rw [lN_add]
  exact kk
theorem sr_lsub (hx : p.tables.exec = Jvm.exec) (hb : c.code = cc) {x y : Nat} (h : y ≤ x) (hdg : decode cc pc = .ok (.lsub, 1))
    (kk : W p l e R s m args below meth c H locs cells slots Q (F0 m (pc + 1) ls (.long (lN (x - y)) :: rest))) : W p l e R s m args below meth c H locs cells slots Q (F0 m pc ls (.long (lN y) :: .long (lN x) :: rest)) := by
  refine lv_lsub hx hb hdg ?_
  rw [lN_sub h]
  exact kk
theorem sr_lle (hx : p.tables.exec = Jvm.exec) (hb : c.code = cc) {x y : Nat} (h1 : x < 2 ^ 63) (h2 : y < 2 ^ 63) (hdg : decode cc pc = .ok (.lcmp, 1)) {off : Int} {tgt : Nat} (hdg2 : decode cc (pc + 1) = .ok (.ifCond .le off, 3)) (ht : ((pc + 1 : Nat) : Int) + off = (tgt : Int))
    (kt : x ≤ y → W p l e R s m args below meth c H locs cells slots Q (F0 m tgt ls rest)) (kf : y < x → W p l e R s m args below meth c H locs cells slots Q (F0 m (pc + 1 + 3) ls rest)) : W p l e R s m args below meth c H locs cells slots Q (F0 m pc ls (.long (lN y) :: .long (lN x) :: rest)) :=
  W.lcmp hx hb hdg (lv_if_le hx hb hdg2 ht (fun h => kt ((pk_lLE h1 h2).mp ((lg_cmp_le _ _).mp h))) (fun h => kf (Nat.lt_of_not_le (fun q => h ((lg_cmp_le _ _).mpr ((pk_lLE h1 h2).mpr q))))))
theorem sr_llt (hx : p.tables.exec = Jvm.exec) (hb : c.code = cc) {x y : Nat} (h1 : x < 2 ^ 63) (h2 : y < 2 ^ 63) (hdg : decode cc pc = .ok (.lcmp, 1)) {off : Int} {tgt : Nat} (hdg2 : decode cc (pc + 1) = .ok (.ifCond .lt off, 3)) (ht : ((pc + 1 : Nat) : Int) + off = (tgt : Int))
    (kt : x < y → W p l e R s m args below meth c H locs cells slots Q (F0 m tgt ls rest)) (kf : y ≤ x → W p l e R s m args below meth c H locs cells slots Q (F0 m (pc + 1 + 3) ls rest)) : W p l e R s m args below meth c H locs cells slots Q (F0 m pc ls (.long (lN y) :: .long (lN x) :: rest)) :=
  W.lcmp hx hb hdg (lv_if_lt hx hb hdg2 ht (fun h => kt ((pk_lLT h1 h2).mp ((lg_cmp_lt _ _).mp h))) (fun h => kf (Nat.le_of_not_lt (fun q => h ((lg_cmp_lt _ _).mpr ((pk_lLT h1 h2).mpr q))))))
theorem sr_lne (hx : p.tables.exec = Jvm.exec) (hb : c.code = cc) {x y : Nat} (h1 : x < 2 ^ 63) (h2 : y < 2 ^ 63) (hdg : decode cc pc = .ok (.lcmp, 1)) {off : Int} {tgt : Nat} (hdg2 : decode cc (pc + 1) = .ok (.ifCond .ne off, 3)) (ht : ((pc + 1 : Nat) : Int) + off = (tgt : Int))
    (kt : x ≠ y → W p l e R s m args below meth c H locs cells slots Q (F0 m tgt ls rest)) (kf : x = y → W p l e R s m args below meth c H locs cells slots Q (F0 m (pc + 1 + 3) ls rest)) : W p l e R s m args below meth c H locs cells slots Q (F0 m pc ls (.long (lN y) :: .long (lN x) :: rest)) :=
  W.lcmp hx hb hdg (lv_if_ne hx hb hdg2 ht (fun h => kt (fun q => h ((lg_cmp_eq _ _).mpr ((pk_lEQ h1 h2).mpr q)))) (fun h => kf ((pk_lEQ h1 h2).mp ((lg_cmp_eq _ _).mp h))))
end SR
end
section
-- THE PICTURE, PURE: which client stands before which, how many are in, the line
abbrev sh_bf (p : Nat → Nat) (a b : Nat) : Prop := p a < p b ∨ (p a = p b ∧ a < b)
theorem bf_irr {p : Nat → Nat} {a : Nat} : ¬ sh_bf p a a := by
  intro h
  rcases h with h | h <;> omega
theorem bf_tr {p : Nat → Nat} {a b c : Nat} (h1 : sh_bf p a b) (h2 : sh_bf p b c) : sh_bf p a c := by
  unfold sh_bf at *
  omega
theorem bf_tot {p : Nat → Nat} {a b : Nat} (h : a ≠ b) (h1 : ¬ sh_bf p a b) : sh_bf p b a := by
  unfold sh_bf at *
  omega
theorem bf_asym {p : Nat → Nat} {a b : Nat} (h : sh_bf p a b) : ¬ sh_bf p b a := by
  unfold sh_bf at *
  omega
theorem bf_ne {p : Nat → Nat} {a b : Nat} (h : sh_bf p a b) : a ≠ b := by
  intro q
  subst q
  exact bf_irr h
theorem bf_le {p : Nat → Nat} {a b : Nat} (h : sh_bf p a b) : p a ≤ p b := by
  unfold sh_bf at *
  omega
theorem bf_congr {p p2 : Nat → Nat} {a b : Nat} (ha : p2 a = p a) (hb : p2 b = p b) : sh_bf p2 a b ↔ sh_bf p a b := by
  unfold sh_bf
  rw [ha, hb]
/-- how many of the first N are in -/
def sh_cnt (t : Nat → Nat) : Nat → Nat
  | 0 => 0
  | k + 1 => sh_cnt t k + (if 0 < t k then 1 else 0)
theorem cnt_le (t : Nat → Nat) : ∀ N, sh_cnt t N ≤ N
  | 0 => Nat.le_refl 0
  | k + 1 => by
    have := cnt_le t k
    simp only [sh_cnt]
    split <;> omega
theorem cnt_out (t : Nat → Nat) (c v : Nat) : ∀ N, N ≤ c → sh_cnt (sh_up t c v) N = sh_cnt t N
  | 0, _ => rfl
  | k + 1, h => by
    simp only [sh_cnt]
    rw [cnt_out t c v k (by omega), sh_up_n t v (by omega)]
theorem cnt_in (t : Nat → Nat) {c v : Nat} (h0 : t c = 0) (hv : 0 < v) : ∀ N, c < N → sh_cnt (sh_up t c v) N = sh_cnt t N + 1
  | 0, h => absurd h (Nat.not_lt_zero _)
  | k + 1, h => by
    simp only [sh_cnt]
    by_cases hk : k = c
    · subst hk
      rw [cnt_out t k v k (Nat.le_refl _), sh_up_s, if_pos hv, h0, if_neg (by omega)]
    · rw [cnt_in t h0 hv k (by omega), sh_up_n t v hk]
      omega
theorem cnt_off (t : Nat → Nat) {c : Nat} (h0 : 0 < t c) : ∀ N, c < N → sh_cnt (sh_up t c 0) N + 1 = sh_cnt t N
  | 0, h => absurd h (Nat.not_lt_zero _)
  | k + 1, h => by
    simp only [sh_cnt]
    by_cases hk : k = c
    · subst hk
      rw [cnt_out t k 0 k (Nat.le_refl _), sh_up_s, if_pos h0, if_neg (by omega)]
    · have := cnt_off t h0 k (by omega)
      rw [sh_up_n t 0 hk]
      omega
theorem cnt_same (t : Nat → Nat) {c v : Nat} (h0 : 0 < t c) (hv : 0 < v) : ∀ N, sh_cnt (sh_up t c v) N = sh_cnt t N
  | 0 => rfl
  | k + 1 => by
    simp only [sh_cnt]
    rw [cnt_same t h0 hv k]
    by_cases hk : k = c
    · subst hk
      rw [sh_up_s, if_pos hv, if_pos h0]
    · rw [sh_up_n t v hk]
theorem cnt_lt (t : Nat → Nat) {c N : Nat} (hc : c < N) (h0 : t c = 0) : sh_cnt t N < N := by
  have h1 := cnt_in t h0 (v := 1) (by omega) N hc
  have h2 := cnt_le (sh_up t c 1) N
  omega
theorem cnt_pos (t : Nat → Nat) {c N : Nat} (hc : c < N) (h0 : 0 < t c) : 0 < sh_cnt t N := by
  have h1 := cnt_off t h0 N hc
  omega
theorem cnt_zero (t : Nat → Nat) {N : Nat} (h : sh_cnt t N = 0) {c : Nat} (hc : c < N) : t c = 0 := by
  rcases Nat.eq_zero_or_pos (t c) with q | q
  · exact q
  · have := cnt_pos t hc q
    omega
/-- the line: the clients that are in, by pass and number -/
def sh_I (N : Nat) (t p L : Nat → Nat) (n : Nat) : Prop := n = sh_cnt t N ∧ (∀ i, i < n → L i < N ∧ 0 < t (L i)) ∧ (∀ i j, i < j → j < n → sh_bf p (L i) (L j)) ∧ (∀ c, c < N → 0 < t c → ∃ i, i < n ∧ L i = c)
/-- the first of M has gone back to place k -/
def sh_rot (p M L : Nat → Nat) (n k : Nat) : Prop := k < n ∧ (∀ i, i < k → L i = M (i + 1)) ∧ L k = M 0 ∧ (∀ i, k < i → L i = M i) ∧ (∀ i, i < k → sh_bf p (M (i + 1)) (M 0)) ∧ (k + 1 < n → ¬ sh_bf p (M (k + 1)) (M 0))
theorem rot_sorted {p M L : Nat → Nat} {n k : Nat} (h : sh_rot p M L n k) (hs : ∀ i j, 1 ≤ i → i < j → j < n → sh_bf p (M i) (M j)) (hd : ∀ i, 1 ≤ i → i < n → M i ≠ M 0) : ∀ i j, i < j → j < n → sh_bf p (L i) (L j) := by
  obtain ⟨hk, h1, h2, h3, h4, h5⟩ := h
  intro i j hij hj
  rcases Nat.lt_trichotomy j k with q | q | q
  · rw [h1 i (by omega), h1 j q]
    exact hs _ _ (by omega) (by omega) (by omega)
  · subst q
    rw [h1 i hij, h2]
    exact h4 i hij
  · rw [h3 j q]
    rcases Nat.lt_trichotomy i k with r | r | r
    · rw [h1 i r]
      exact hs _ _ (by omega) (by omega) hj
    · subst r
      rw [h2]
      have hb : sh_bf p (M 0) (M (i + 1)) := bf_tot (hd (i + 1) (by omega) (by omega)) (h5 (by omega))
      by_cases hji : j = i + 1
      · rw [hji]
        exact hb
      · exact bf_tr hb (hs _ _ (by omega) (by omega) hj)
    · rw [h3 i r]
      exact hs _ _ (by omega) hij hj
theorem rot_mem {p M L : Nat → Nat} {n k : Nat} (h : sh_rot p M L n k) {c : Nat} (hc : ∃ i, i < n ∧ M i = c) : ∃ i, i < n ∧ L i = c := by
  obtain ⟨hk, h1, h2, h3, -, -⟩ := h
  obtain ⟨i, hi, e⟩ := hc
  rcases Nat.eq_zero_or_pos i with q | q
  · subst q
    exact ⟨k, hk, by rw [h2, e]⟩
  · rcases Nat.lt_or_ge k i with r | r
    · exact ⟨i, hi, by rw [h3 i r, e]⟩
    · refine ⟨i - 1, by omega, ?_⟩
      rw [h1 (i - 1) (by omega), show i - 1 + 1 = i by omega, e]
theorem rot_from {p M L : Nat → Nat} {n k : Nat} (h : sh_rot p M L n k) {i : Nat} (hi : i < n) : ∃ j, j < n ∧ L i = M j := by
  obtain ⟨hk, h1, h2, h3, -, -⟩ := h
  rcases Nat.lt_trichotomy i k with q | q | q
  · exact ⟨i + 1, by omega, h1 i q⟩
  · subst q
    exact ⟨0, by omega, h2⟩
  · exact ⟨i, hi, h3 i q⟩
theorem I_inj {N n : Nat} {t p L : Nat → Nat} (h : sh_I N t p L n) {i j : Nat} (hi : i < n) (hj : j < n) (e : L i = L j) : i = j := by
  rcases Nat.lt_trichotomy i j with q | q | q
  · exact absurd e (bf_ne (h.2.2.1 i j q hj))
  · exact q
  · exact absurd e.symm (bf_ne (h.2.2.1 j i q hi))
/-- the first one stands before every other -/
theorem I_first {N n : Nat} {t p L : Nat → Nat} (h : sh_I N t p L n) {c : Nat} (hc : c < N) (ht : 0 < t c) : c = L 0 ∨ sh_bf p (L 0) c := by
  obtain ⟨i, hi, e⟩ := h.2.2.2 c hc ht
  rcases Nat.eq_zero_or_pos i with q | q
  · left
    rw [← e, q]
  · right
    rw [← e]
    exact h.2.2.1 0 i q hi
theorem I_new {N : Nat} {t p L : Nat → Nat} (h : ∀ c, c < N → t c = 0) : sh_I N t p L 0 := by
  have hz : ∀ k, k ≤ N → sh_cnt t k = 0 := by
    intro k
    induction k with
    | zero => intro _; rfl
    | succ k ih =>
      intro hk
      simp only [sh_cnt]
      rw [ih (by omega), h k (by omega)]
      rfl
  exact ⟨(hz N (Nat.le_refl N)).symm, fun i hi => absurd hi (Nat.not_lt_zero _), fun i j _ hj => absurd hj (Nat.not_lt_zero _), fun c hc ht => by rw [h c hc] at ht; omega⟩
/-- a turn of the first -/
theorem I_turn {N n k x : Nat} {t p L L2 : Nat → Nat} (h : sh_I N t p L n) (hr : sh_rot (sh_up p (L 0) x) L L2 n k) : sh_I N t (sh_up p (L 0) x) L2 n := by
  have hd : ∀ i, 1 ≤ i → i < n → L i ≠ L 0 := fun i h1 h2 e => by
    have := I_inj h h2 (by omega) e
    omega
  refine ⟨h.1, fun i hi => ?_, rot_sorted hr (fun i j h1 h2 h3 => ?_) hd, fun c hc ht => rot_mem hr (h.2.2.2 c hc ht)⟩
  · obtain ⟨j, hj, e⟩ := rot_from hr hi
    rw [e]
    exact h.2.1 j hj
  · exact (bf_congr (sh_up_n p x (hd i h1 (by omega))) (sh_up_n p x (hd j (by omega) h3))).mpr (h.2.2.1 i j h2 h3)
/-- one joins: in front, then back to its place -/
theorem I_join {N n k c tk x : Nat} {t p L M L2 : Nat → Nat} (h : sh_I N t p L n) (hc : c < N) (h0 : t c = 0) (htk : 0 < tk) (hM0 : M 0 = c) (hM : ∀ i, i < n → M (i + 1) = L i) (hr : sh_rot (sh_up p c x) M L2 (n + 1) k) : sh_I N (sh_up t c tk) (sh_up p c x) L2 (n + 1) := by
  have hne : ∀ i, i < n → L i ≠ c := fun i hi e => by
    have := (h.2.1 i hi).2
    rw [e, h0] at this
    omega
  refine ⟨by rw [cnt_in t h0 htk N hc, ← h.1], fun i hi => ?_, rot_sorted hr (fun i j h1 h2 h3 => ?_) (fun i h1 h2 => ?_), fun d hd ht => rot_mem hr ?_⟩
  · obtain ⟨j, hj, e⟩ := rot_from hr hi
    rw [e]
    cases j with
    | zero =>
      rw [hM0, sh_up_s]
      exact ⟨hc, htk⟩
    | succ j =>
      rw [hM j (by omega), sh_up_n t tk (hne j (by omega))]
      exact h.2.1 j (by omega)
  · obtain ⟨i, rfl⟩ : ∃ z, i = z + 1 := ⟨i - 1, by omega⟩
    obtain ⟨j, rfl⟩ : ∃ z, j = z + 1 := ⟨j - 1, by omega⟩
    rw [hM i (by omega), hM j (by omega)]
    exact (bf_congr (sh_up_n p x (hne i (by omega))) (sh_up_n p x (hne j (by omega)))).mpr (h.2.2.1 i j (by omega) (by omega))
  · obtain ⟨i, rfl⟩ : ∃ z, i = z + 1 := ⟨i - 1, by omega⟩
    rw [hM i (by omega), hM0]
    exact hne i (by omega)
  · by_cases hdc : d = c
    · exact ⟨0, by omega, by rw [hM0, hdc]⟩
    · rw [sh_up_n t tk hdc] at ht
      obtain ⟨i, hi, e⟩ := h.2.2.2 d hd ht
      exact ⟨i + 1, by omega, by rw [hM i hi, e]⟩
/-- one leaves: those behind it come up -/
theorem I_leave {N n k c : Nat} {t p L L2 : Nat → Nat} (h : sh_I N t p L (n + 1)) (hk : k < n + 1) (hc : L k = c) (h1 : ∀ i, i < k → L2 i = L i) (h2 : ∀ i, k ≤ i → i < n → L2 i = L (i + 1)) : sh_I N (sh_up t c 0) p L2 n := by
  have hcN := h.2.1 k hk
  rw [hc] at hcN
  have from_ : ∀ i, i < n → ∃ j, j < n + 1 ∧ j ≠ k ∧ L2 i = L j := fun i hi => by
    rcases Nat.lt_or_ge i k with q | q
    · exact ⟨i, by omega, by omega, h1 i q⟩
    · exact ⟨i + 1, by omega, by omega, h2 i q hi⟩
  refine ⟨?_, fun i hi => ?_, fun i j hij hj => ?_, fun d hd ht => ?_⟩
  · have := cnt_off t hcN.2 N hcN.1
    have := h.1
    omega
  · obtain ⟨j, hj, hjk, e⟩ := from_ i hi
    have hne : L j ≠ c := fun q => hjk (I_inj h hj hk (q.trans hc.symm))
    rw [e, sh_up_n t 0 hne]
    exact h.2.1 j hj
  · rcases Nat.lt_or_ge j k with q | q
    · rw [h1 i (by omega), h1 j q]
      exact h.2.2.1 i j hij (by omega)
    · rw [h2 j q hj]
      rcases Nat.lt_or_ge i k with r | r
      · rw [h1 i r]
        exact h.2.2.1 i (j + 1) (by omega) (by omega)
      · rw [h2 i r (by omega)]
        exact h.2.2.1 (i + 1) (j + 1) (by omega) (by omega)
  · have hdc : d ≠ c := fun q => by rw [q, sh_up_s] at ht; omega
    rw [sh_up_n t 0 hdc] at ht
    obtain ⟨i, hi, e⟩ := h.2.2.2 d hd ht
    have hik : i ≠ k := fun q => hdc (by rw [← e, q, hc])
    rcases Nat.lt_or_ge i k with q | q
    · exact ⟨i, by omega, by rw [h1 i q, e]⟩
    · exact ⟨i - 1, by omega, by rw [h2 (i - 1) (by omega) (by omega), show i - 1 + 1 = i by omega, e]⟩
/-- tickets change: the line stays -/
theorem I_change {N n c v : Nat} {t p L : Nat → Nat} (h : sh_I N t p L n) (h0 : 0 < t c) (hv : 0 < v) : sh_I N (sh_up t c v) p L n := by
  refine ⟨by rw [cnt_same t h0 hv N]; exact h.1, fun i hi => ⟨(h.2.1 i hi).1, ?_⟩, h.2.2.1, fun d hd ht => h.2.2.2 d hd ?_⟩
  · by_cases q : L i = c
    · rw [q, sh_up_s]; exact hv
    · rw [sh_up_n t v q]; exact (h.2.1 i hi).2
  · by_cases q : d = c
    · rw [q]; exact h0
    · rw [sh_up_n t v q] at ht; exact ht
end
section
-- THE WORLDS: the class's cells, the reference's cells; calls of methods over a part of the world
abbrev sw (h0 aT aS aP aR aL : Nat) (cA : ClassId) (N big n lp : Nat) (ft fs fp fr fl : Nat → Nat) : va_W := [(h0, .inr (0, [.int (nI N), .int (nI big), .ref aT, .ref aS, .ref aP, .ref aR, .ref aL, .int (nI n), .int (nI lp)])), (aT, .inl (cA, N, .inl (sh_a ft))), (aS, .inl (cA, N, .inl (sh_a fs))), (aP, .inl (cA, N, .inl (sh_a fp))), (aR, .inl (cA, N, .inl (sh_a fr))), (aL, .inl (cA, N, .inl (sh_a fl)))]
abbrev mw (k0 bI bT bP bR : Nat) (cA cZ cJ : ClassId) (N big n lp : Nat) (ft fk fp fr : Nat → Nat) : va_W := [(k0, .inr (1, [.int (nI N), .int (nI big), .ref bI, .ref bT, .ref bP, .ref bR, .int (nI n), .long (lN lp)])), (bI, .inl (cZ, 64, .inl (sh_a (sh_in ft)))), (bT, .inl (cA, 64, .inl (sh_a fk))), (bP, .inl (cJ, 64, .inr (.inl (sl_a fp)))), (bR, .inl (cA, 64, .inl (sh_a fr)))]
abbrev ty3 (cA cZ cJ : ClassId) : List (ClassId × FieldType) := [(cA, .int), (cZ, .boolean), (cJ, .long)]
abbrev sB (dC : Nat → ClassId) (dI : Nat → Nat → Nat) (tys : List (ClassId × FieldType)) (sz : Nat) (ws : va_W) : State → Prop := fun U => U.heap.size = sz ∧ va_P (dC, dI) vwCl ws U.heap ∧ va_K (dC, dI) vwCl tys U ∧ va_D (fun _ => True) ws
abbrev sE (dC : Nat → ClassId) (dI : Nat → Nat → Nat) (A : Nat → Prop) (ws : va_W) : State → Prop := fun t => va_P (dC, dI) vwCl ws t.heap ∧ va_D A ws
theorem sj_at {wr wc : va_W} {k : Nat} {q : Nat × va_E} (h : wc[k]? = some q) : (wr ++ wc)[wr.length + k]? = some q := by
  rw [List.getElem?_append_right (by omega), Nat.add_sub_cancel_left]
  exact h
theorem sj_al {wr wc : va_W} {k : Nat} {q : Nat × va_E} (h : wr[k]? = some q) : (wr ++ wc)[k]? = some q := by
  rw [List.getElem?_append_left (List.getElem?_eq_some_iff.mp h).1]
  exact h
theorem sj_Dr {A : Nat → Prop} {wr wc : va_W} (hD : va_D A (wr ++ wc)) : va_D A wr := ⟨fun i j x y hi hj e => hD.1 i j x y (sj_al hi) (sj_al hj) e, fun k q hk => hD.2 k q (sj_al hk)⟩
theorem sj_Dc {A : Nat → Prop} {wr wc : va_W} (hD : va_D A (wr ++ wc)) : va_D A wc := ⟨fun i j x y hi hj e => by
  have := hD.1 _ _ x y (sj_at hi) (sj_at hj) e
  omega, fun k q hk => hD.2 _ q (sj_at hk)⟩
theorem sj_Pr {D : va_G} {cl : List vw_C} {wr wc : va_W} {H : Heap} (hP : va_P D cl (wr ++ wc) H) : va_P D cl wr H := fun k q hk => hP k q (sj_al hk)
theorem sj_Pc {D : va_G} {cl : List vw_C} {wr wc : va_W} {H : Heap} (hP : va_P D cl (wr ++ wc) H) : va_P D cl wc H := fun _ q hk => hP _ q (sj_at hk)
theorem sj_ap {A : Nat → Prop} {wr wc : va_W} (hD : va_D A (wr ++ wc)) {i j : Nat} {x y : Nat × va_E} (hi : wr[i]? = some x) (hj : wc[j]? = some y) : x.1 ≠ y.1 := fun e => by
  have := hD.1 _ _ x y (sj_al hi) (sj_at hj) e
  have := (List.getElem?_eq_some_iff.mp hi).1
  omega
theorem sj_Ps {D : va_G} {cl : List vw_C} {wr wc : va_W} {H : Heap} (hP : va_P D cl (wr ++ wc) H) : va_P D cl (wc ++ wr) H := (sj_Pc hP).app (sj_Pr hP)
theorem sj_Ds {A : Nat → Prop} {wr wc : va_W} (hD : va_D A (wr ++ wc)) : va_D A (wc ++ wr) := (sj_Dc hD).app (sj_Dr hD) (fun _ _ _ _ hi hj e => sj_ap hD hj hi e.symm)
theorem sj_free {A : Nat → Prop} {wr wc : va_W} {H0 H : Heap} {locs : List Loc} (hD : va_D A (wr ++ wc)) (hS : va_S A H0 H locs) (hA : ∀ q, H0.size ≤ q → A q) : ∀ q, va_A wc H.size q → A q := by
  intro q h
  rcases h with ⟨k, e, h⟩ | h
  · exact hD.2 _ (q, e) (sj_at h)
  · exact hA q (Nat.le_trans hS.1 h)
theorem sj_join {A : Nat → Prop} {D : va_G} {cl : List vw_C} {wr wc w1 : va_W} {H H1 : Heap} (hP : va_P D cl (wr ++ wc) H) (hD : va_D A (wr ++ wc)) (hk : ∀ q : Nat, q < H.size → ¬ va_A wc H.size q → H1[q]? = H[q]?) (hF : ∀ q, va_A wc H.size q → A q) (hP1 : va_P D cl w1 H1) (hD1 : va_D (va_A wc H.size) w1) : va_P D cl (wr ++ w1) H1 ∧ va_D A (wr ++ w1) := by
  have apart : ∀ (k : Nat) (q : Nat × va_E), wr[k]? = some q → q.1 < H.size ∧ ¬ va_A wc H.size q.1 := by
    intro k q hq
    have hl := (hP k q (sj_al hq)).lt
    refine ⟨hl, fun h => ?_⟩
    rcases h with ⟨k2, e, h⟩ | h
    · exact sj_ap hD hq h rfl
    · omega
  refine ⟨va_P.app (fun k q hq => ?_) hP1, va_D.app (sj_Dr hD) (hD1.weaken (fun k q _ h => hF q.1 h)) (fun i j x y hx hy hxy => ?_)⟩
  · obtain ⟨g1, g2⟩ := apart k q hq
    exact (hP k q (sj_al hq)).kept (hk q.1 g1 g2)
  · exact (apart i x hx).2 (by rw [hxy]; exact hD1.2 j y hy)
section SC
variable {p : Program} {l : Launch} {e : Env} {R : Room} {s : State} {m : MethodId} {args : Array Value} {below : List Frame} {meth : Method} {c : Code} {H : Heap} {locs : List Loc} {cells slots : Nat} {Q : State → Prop}
variable {cc : ByteArray} {pc nL n index maxL : Nat} {ls : Array Slot} {rest As st0 : List Value} {A : Nat → Prop} {b : Nat} {tys : List (ClassId × FieldType)} {wr wc : va_W} {H0 : Heap} {dC : Nat → ClassId} {dI : Nat → Nat → Nat} {Ts wy : List Cond} {own C : String} {y : MethodName} {bytes : ByteArray} {ret : Option FieldType} {rm : Room}
theorem sc_pre (hK : va_K (dC, dI) vwCl tys s) (hP : va_P (dC, dI) vwCl (wr ++ wc) H) (hD : va_D A (wr ++ wc)) (hr : ∃ cell : Cell, H[b]? = some cell ∧ cell.vm.isStatics = false ∧ s.vm.findClass C = some cell.cls) : PreV s H C b (va_Pc (.ref b :: As) (sB dC dI tys H.size wc)) As :=
  ⟨fun a U g mk q => by obtain ⟨q0, q1, qP, qK, qD⟩ := q; exact ⟨q0, q1, qP, va_K.moved (u := U) (U := U.calling g mk a) (Vm.Alike.refl U.vm) qK, qD⟩, hr, fun U hU hW => ⟨rfl, by rw [hU], by rw [hU]; exact sj_Pc hP, va_K.moved hW.alike hK, (sj_Dc hD).weaken (fun _ _ _ _ => trivial)⟩⟩
/-- a call of a method that answers an int: its world is wc, the rest wr stays -/
theorem sc_i {S : Type} {post : Int32 → S → Prop} {wn : S → va_W} (F : CallFix p m c cc nL s args Ts own) (hM : Met l y wy rm (va_Pc (.ref b :: As) (sB dC dI tys H.size wc)) (va_Qi post (fun u => sE dC dI (va_A wc H.size) (wn u)) (va_A wc H.size)) 0 0 (va_A wc H.size)) (cw : CallW R s args own C index y bytes maxL ret wy rm 0 0 n)
    (hK : va_K (dC, dI) vwCl tys s) (hP : va_P (dC, dI) vwCl (wr ++ wc) H) (hD : va_D A (wr ++ wc)) (hS : va_S A H0 H locs) (hA : ∀ q, H0.size ≤ q → A q) (hr : ∃ cell : Cell, H[b]? = some cell ∧ cell.vm.isStatics = false ∧ s.vm.findClass C = some cell.cls) (hn : As.length = n) (hsize : ls.size = nL) (hst : st0 = As.reverse ++ .ref b :: rest) (hW : (rest.map fun v => v.category).sum ≤ 8) (hdg : decode cc pc = .ok (.invokevirtual index, 3)) (hcs : cells ≤ R.cells ∧ slots ≤ R.slots)
    (kk : ∀ (r : Int32) (u : S) (H1 : Heap) (locs1 : List Loc), post r u → va_P (dC, dI) vwCl (wr ++ wn u) H1 → va_D A (wr ++ wn u) → va_S A H0 H1 locs1 → W p l e R s m args below meth c H1 locs1 cells slots Q (F0 m (pc + 3) ls (.int r :: rest))) : W p l e R s m args below meth c H locs cells slots Q (F0 m pc ls st0) := by
  have hF := sj_free hD hS hA
  refine va_calli (va_runV (As := As) (rest := rest) F hM cw (sc_pre hK hP hD hr) rfl hn hsize hst (lv_room hW) hdg hcs) hS (fun q _ h => hF q h) hF (fun r u t H1 locs1 ht hvm hw hB hz1 hk1 hS1 => ?_)
  obtain ⟨hP1, hD1⟩ := hB
  rw [ht] at hP1
  obtain ⟨hP2, hD2⟩ := sj_join hP hD hk1 hF hP1 hD1
  exact kk r u H1 locs1 hw hP2 hD2 hS1
/-- the same, of a method that answers nothing -/
theorem sc_v {S : Type} {post : S → Prop} {wn : S → va_W} (F : CallFix p m c cc nL s args Ts own) (hM : Met l y wy rm (va_Pc (.ref b :: As) (sB dC dI tys H.size wc)) (va_Qv post (fun u => sE dC dI (va_A wc H.size) (wn u)) (va_A wc H.size)) 0 0 (va_A wc H.size)) (cw : CallW R s args own C index y bytes maxL ret wy rm 0 0 n)
    (hK : va_K (dC, dI) vwCl tys s) (hP : va_P (dC, dI) vwCl (wr ++ wc) H) (hD : va_D A (wr ++ wc)) (hS : va_S A H0 H locs) (hA : ∀ q, H0.size ≤ q → A q) (hr : ∃ cell : Cell, H[b]? = some cell ∧ cell.vm.isStatics = false ∧ s.vm.findClass C = some cell.cls) (hn : As.length = n) (hsize : ls.size = nL) (hst : st0 = As.reverse ++ .ref b :: rest) (hW : (rest.map fun v => v.category).sum ≤ 8) (hdg : decode cc pc = .ok (.invokevirtual index, 3)) (hcs : cells ≤ R.cells ∧ slots ≤ R.slots)
    (kk : ∀ (u : S) (H1 : Heap) (locs1 : List Loc), post u → va_P (dC, dI) vwCl (wr ++ wn u) H1 → va_D A (wr ++ wn u) → va_S A H0 H1 locs1 → W p l e R s m args below meth c H1 locs1 cells slots Q (F0 m (pc + 3) ls rest)) : W p l e R s m args below meth c H locs cells slots Q (F0 m pc ls st0) := by
  have hF := sj_free hD hS hA
  refine va_callv (va_runV (As := As) (rest := rest) F hM cw (sc_pre hK hP hD hr) rfl hn hsize hst (lv_room hW) hdg hcs) hS (fun q _ h => hF q h) hF (fun u t H1 locs1 ht hvm hw hB hz1 hk1 hS1 => ?_)
  obtain ⟨hP1, hD1⟩ := hB
  rw [ht] at hP1
  obtain ⟨hP2, hD2⟩ := sj_join hP hD hk1 hF hP1 hD1
  exact kk u H1 locs1 hw hP2 hD2 hS1
end SC
end
section
-- WHAT EACH CALL ANSWERS, as pure functions that both the class and the reference are held against
def sh_ix (N : Nat) (x : Int32) : Option Nat := if 0 ≤ x ∧ x < nI N then some x.toNatClampNeg else none
theorem ix_in {N j : Nat} (hj : j < N) (hN : N < 2 ^ 31) : sh_ix N (nI j) = some j := by
  unfold sh_ix
  rw [if_pos ⟨nI_pos' (by omega), nI_lt hj hN⟩, nI_clamp (by omega)]
theorem ix_lo {N : Nat} {x : Int32} (h : x < 0) : sh_ix N x = none := if_neg (fun q => Int32.not_lt.mpr q.1 h)
theorem ix_hi {N : Nat} {x : Int32} (h : nI N ≤ x) : sh_ix N x = none := if_neg (fun q => Int32.not_lt.mpr h q.2)
theorem ix_of {N : Nat} {x : Int32} (hN : N < 2 ^ 31) : sh_ix N x = none ∨ ∃ j, j < N ∧ x = nI j ∧ sh_ix N x = some j := by
  rcases pk_ix x hN with h | h | ⟨j, hj, rfl⟩
  · exact Or.inl (ix_lo h)
  · exact Or.inl (ix_hi h)
  · exact Or.inr ⟨j, hj, rfl, ix_in hj hN⟩
/-- the first of the first k clients, and 1; 0 when none is in -/
def sh_fi (t p : Nat → Nat) : Nat → Nat
  | 0 => 0
  | k + 1 => if 0 < t k ∧ (sh_fi t p k = 0 ∨ (p k < p (sh_fi t p k - 1) ∨ (p k = p (sh_fi t p k - 1) ∧ k < sh_fi t p k - 1))) then k + 1 else sh_fi t p k
theorem fi_spec (t p : Nat → Nat) : ∀ k, (sh_fi t p k = 0 ∧ ∀ c, c < k → t c = 0) ∨ (∃ b, sh_fi t p k = b + 1 ∧ b < k ∧ 0 < t b ∧ ∀ c, c < k → 0 < t c → c = b ∨ sh_bf p b c)
  | 0 => Or.inl ⟨rfl, fun c h => absurd h (Nat.not_lt_zero _)⟩
  | k + 1 => by
    rcases fi_spec t p k with ⟨h1, h2⟩ | ⟨b, h1, h2, h3, h4⟩
    · by_cases q : 0 < t k
      · right
        refine ⟨k, ?_, by omega, q, fun c hc ht => ?_⟩
        · simp only [sh_fi]
          rw [if_pos ⟨q, Or.inl h1⟩]
        · left
          rcases Nat.lt_or_ge c k with z | z
          · have := h2 c z
            omega
          · omega
      · left
        refine ⟨?_, fun c hc => ?_⟩
        · simp only [sh_fi]
          rw [if_neg (fun z => q z.1)]
          exact h1
        · rcases Nat.lt_or_ge c k with z | z
          · exact h2 c z
          · have : c = k := by omega
            subst this
            omega
    · right
      by_cases q : 0 < t k ∧ sh_bf p k b
      · refine ⟨k, ?_, by omega, q.1, fun c hc ht => ?_⟩
        · simp only [sh_fi]
          rw [h1, if_pos ⟨q.1, Or.inr (by simpa [sh_bf] using q.2)⟩]
        · rcases Nat.lt_or_ge c k with z | z
          · right
            rcases h4 c z ht with e | e
            · rw [e]; exact q.2
            · exact bf_tr q.2 e
          · left; omega
      · refine ⟨b, ?_, by omega, h3, fun c hc ht => ?_⟩
        · simp only [sh_fi]
          rw [h1, if_neg]
          intro z
          refine q ⟨z.1, ?_⟩
          rcases z.2 with w | w
          · omega
          · simpa [sh_bf] using w
        · rcases Nat.lt_or_ge c k with z | z
          · exact h4 c z ht
          · have : c = k := by omega
            subst this
            right
            exact bf_tot (by omega) (fun w => q ⟨ht, w⟩)
theorem fi_I {N n : Nat} {t p L : Nat → Nat} (h : sh_I N t p L n) (hn : 0 < n) : sh_fi t p N = L 0 + 1 := by
  have h0 := h.2.1 0 hn
  rcases fi_spec t p N with ⟨-, h2⟩ | ⟨b, h1, h2, h3, h4⟩
  · have := h2 _ h0.1
    omega
  · rw [h1]
    rcases I_first h h2 h3 with e | e
    · rw [e]
    · rcases h4 _ h0.1 h0.2 with z | z
      · rw [z]
      · exact absurd e (bf_asym z)
theorem fi_I0 {N : Nat} {t p L : Nat → Nat} (h : sh_I N t p L 0) : sh_fi t p N = 0 := by
  rcases fi_spec t p N with ⟨h1, -⟩ | ⟨b, -, h2, h3, -⟩
  · exact h1
  · have := cnt_pos t h2 h3
    have := h.1
    omega
/-- the greatest pass -/
def sh_mx (t p : Nat → Nat) : Nat → Nat
  | 0 => 0
  | k + 1 => if 0 < t k ∧ sh_mx t p k < p k then p k else sh_mx t p k
theorem mx_ub (t p : Nat → Nat) : ∀ k c, c < k → 0 < t c → p c ≤ sh_mx t p k
  | 0, c, h, _ => absurd h (Nat.not_lt_zero _)
  | k + 1, c, h, ht => by
    simp only [sh_mx]
    by_cases q : c = k
    · subst q
      split
      · exact Nat.le_refl _
      · omega
    · have := mx_ub t p k c (by omega) ht
      split <;> omega
theorem mx_at (t p : Nat → Nat) : ∀ k, sh_mx t p k = 0 ∨ ∃ c, c < k ∧ 0 < t c ∧ sh_mx t p k = p c
  | 0 => Or.inl rfl
  | k + 1 => by
    simp only [sh_mx]
    split
    · next h => exact Or.inr ⟨k, by omega, h.1, rfl⟩
    · rcases mx_at t p k with h | ⟨c, h1, h2, h3⟩
      · exact Or.inl h
      · exact Or.inr ⟨c, by omega, h2, h3⟩
theorem mx_I {N n : Nat} {t p L : Nat → Nat} (h : sh_I N t p L (n + 1)) : sh_mx t p N = p (L n) := by
  have hn := h.2.1 n (by omega)
  have h1 := mx_ub t p N _ hn.1 hn.2
  rcases mx_at t p N with h2 | ⟨c, h2, h3, h4⟩
  · omega
  · obtain ⟨i, hi, e⟩ := h.2.2.2 c h2 h3
    have : p c ≤ p (L n) := by
      rcases Nat.lt_or_ge i n with q | q
      · rw [← e]
        exact bf_le (h.2.2.1 i n q (by omega))
      · rw [← e, show i = n by omega]
        exact Nat.le_refl _
    omega
theorem mx_le {t p : Nat → Nat} {M : Nat} (h : ∀ c, p c < M) (hM : 0 < M) (k : Nat) : sh_mx t p k < M := by
  rcases mx_at t p k with q | ⟨c, -, -, q⟩
  · omega
  · rw [q]; exact h c
/-- how many stand before c -/
def sh_rk (t p : Nat → Nat) (c : Nat) : Nat → Nat
  | 0 => 0
  | k + 1 => if 0 < t c ∧ 0 < t k ∧ k ≠ c ∧ sh_bf p k c then sh_rk t p c k + 1 else sh_rk t p c k
end
section
-- more rows: a loop's rule, arraycopy within an array, what the tests of arguments say
theorem ix_yes {N : Nat} {x : Int32} (h1 : ¬ x < 0) (h2 : ¬ nI N ≤ x) (hN : N < 2 ^ 31) : ∃ j, j < N ∧ x = nI j := by
  rcases pk_ix x hN with h | h | h
  · exact absurd h h1
  · exact absurd h h2
  · exact h
theorem tk_lt {big : Nat} {y : Int32} (hb : big < 2 ^ 31) (h : y < nI 1) : sh_ix big y = none ∨ sh_ix big y = some 0 := by
  rcases ix_of (x := y) hb with q | ⟨j, hj, rfl, q⟩
  · exact Or.inl q
  · have := (nI_ltI (a := j) (b := 1) (by omega) (by decide)).mp h
    have : j = 0 := by omega
    subst this
    exact Or.inr q
theorem tk_le {big : Nat} {y : Int32} (hb : big < 2 ^ 31) (h : y ≤ 0) : sh_ix big y = none ∨ sh_ix big y = some 0 := by
  rcases ix_of (x := y) hb with q | ⟨j, hj, rfl, q⟩
  · exact Or.inl q
  · have := (nI_leI (a := j) (b := 0) (by omega) (by decide)).mp (by rw [nI_0]; exact h)
    have : j = 0 := by omega
    subst this
    exact Or.inr q
theorem tk_ok {big : Nat} {y : Int32} (hb : big < 2 ^ 31) (h1 : ¬ y < nI 1) (h2 : ¬ nI big ≤ y) : ∃ k, 0 < k ∧ k < big ∧ y = nI k := by
  have h0 : ¬ y < 0 := fun q => h1 (Int32.lt_trans q (by decide))
  obtain ⟨j, hj, rfl⟩ := ix_yes h0 h2 hb
  refine ⟨j, ?_, hj, rfl⟩
  rcases Nat.eq_zero_or_pos j with q | q
  · subst q
    exact absurd (by decide) h1
  · exact q
theorem tk_ok2 {big : Nat} {y : Int32} (hb : big < 2 ^ 31) (h1 : ¬ y ≤ 0) (h2 : ¬ nI big ≤ y) : ∃ k, 0 < k ∧ k < big ∧ y = nI k := by
  have h0 : ¬ y < 0 := fun q => h1 (Int32.le_of_lt q)
  obtain ⟨j, hj, rfl⟩ := ix_yes h0 h2 hb
  refine ⟨j, ?_, hj, rfl⟩
  rcases Nat.eq_zero_or_pos j with q | q
  · subst q
    exact absurd (by decide) h1
  · exact q
theorem sh_cpy (f : Nat → Nat) (sp dp k : Nat) : va_cpy (sh_a f) (sh_a f) sp dp k = sh_a (va_cpy f f sp dp k) := by
  funext j
  simp only [va_cpy, sh_a]
  split <;> rfl
section SL
variable {p : Program} {l : Launch} {e : Env} {R : Room} {s : State} {m : MethodId} {args : Array Value} {below : List Frame} {meth : Method} {c : Code} {H : Heap} {locs : List Loc} {cells slots : Nat} {Q : State → Prop}
variable {cc : ByteArray} {pc : Nat} {ls : Array Slot} {rest : List Value} {D : va_G} {cl : List vw_C} {A : Nat → Prop} {a : Nat} {tys : List (ClassId × FieldType)} {ws : va_W} {H0 : Heap}
/-- a loop whose measure falls: the invariant I at measure d gives the walk from its head -/
theorem sl_loop {α : Type} {st : List Value} (I : Nat → α → Heap → List Loc → Array Slot → Prop) (h0 : ∀ x H locs ls, ¬ I 0 x H locs ls)
    (hs : ∀ d x H locs ls, (∀ y H1 locs1 ls1, I d y H1 locs1 ls1 → W p l e R s m args below meth c H1 locs1 cells slots Q (F0 m pc ls1 st)) → I (d + 1) x H locs ls → W p l e R s m args below meth c H locs cells slots Q (F0 m pc ls st)) :
    ∀ d x H locs ls, I d x H locs ls → W p l e R s m args below meth c H locs cells slots Q (F0 m pc ls st) := by
  intro d
  induction d with
  | zero => exact fun x H locs ls h => absurd h (h0 x H locs ls)
  | succ d ih => exact fun x H locs ls h => hs d x H locs ls ih h
theorem sr_cpy (hx : p.tables.exec = Jvm.exec) (hb : c.code = cc) (hml : c.maxLocals = ls.size) {own : String} {index : Nat} (hown : s.vm.findClass own = some m.cls) (hlink : (Cond.methodLink own index arraycopyName).before args s = true) (hnat : (Cond.native arraycopyName).before args s = true) (hstat : (Cond.static arraycopyName).before args s = true) (hini : (Cond.initialized "java/lang/System").before args s = true)
    (hK : va_K D cl tys s) (hP : va_P D cl ws H) (hD : va_D A ws) (hS : va_S A H0 H locs) (q0 t0 : Nat) {cA : ClassId} {n : Nat} {f : Nat → Nat} (ha : ws[q0]? = some (a, .inl (cA, n, .inl (sh_a f)))) (ht : tys[t0]? = some (cA, .int)) {sp dp k : Nat} (h4 : sp + k ≤ n) (h5 : dp + k ≤ n) (hn : n < 2 ^ 31)
    (hframes : 1 ≤ R.frames) (hlocals : (rest.map fun v => v.category).sum + (nativeFrameWords "java/lang/System" "arraycopy" 5 + 11) ≤ R.locals) (hdg : decode cc pc = .ok (.invokestatic index, 3))
    (kk : ∀ (H1 : Heap) (locs1 : List Loc), va_P D cl (ws.set q0 (a, .inl (cA, n, .inl (sh_a (va_cpy f f sp dp k))))) H1 → va_D A (ws.set q0 (a, .inl (cA, n, .inl (sh_a (va_cpy f f sp dp k))))) → va_S A H0 H1 locs1 → W p l e R s m args below meth c H1 locs1 cells slots Q (F0 m (pc + 3) ls rest)) : W p l e R s m args below meth c H locs cells slots Q (F0 m pc ls (.int (nI k) :: .int (nI dp) :: .ref a :: .int (nI sp) :: .ref a :: rest)) := by
  have e1 : (nI sp).toNatClampNeg = sp := nI_clamp (by omega)
  have e2 : (nI dp).toNatClampNeg = dp := nI_clamp (by omega)
  have e3 : (nI k).toNatClampNeg = k := nI_clamp (by omega)
  refine va_copyi hx hb hml hown hlink hnat hstat hini hK hP hD hS q0 q0 t0 t0 ha ha ht ht rfl (nI_pos (by omega)) (nI_pos (by omega)) (nI_pos (by omega)) (by rw [e1, e3]; exact h4) (by rw [e2, e3]; exact h5) (fun i _ => rfl) hframes hlocals hdg (fun H1 locs1 hP1 hD1 hS1 => ?_)
  rw [e1, e2, e3, sh_cpy] at hP1 hD1
  exact kk H1 locs1 hP1 hD1 hS1
end SL
/-- what holds of the class's state between calls -/
def sh_V (N big n lp : Nat) (ft fs fp fl : Nat → Nat) : Prop := 0 < N ∧ N ≤ 64 ∧ 2 ≤ big ∧ big ≤ 32768 ∧ lp < 2 ^ 31 ∧ (∀ c, fp c < 2 ^ 31) ∧ (∀ c, ft c < big) ∧ (∀ c, 0 < ft c → fs c = big / ft c) ∧ sh_I N ft fp fl n
/-- and of the reference's -/
def sh_M (N big n lp : Nat) (ft fk fp : Nat → Nat) : Prop := 0 < N ∧ N ≤ 64 ∧ 2 ≤ big ∧ big ≤ 32768 ∧ lp < 2 ^ 31 ∧ (∀ c, fp c < 2 ^ 31) ∧ (∀ c, ft c < big) ∧ (∀ c, 0 < ft c → fk c = ft c) ∧ n = sh_cnt ft N
end
section
-- THE CLASS: methods that call nothing
set_option maxHeartbeats 4000000 in
set_option maxRecDepth 100000 in
/-- isClient(x) -/
theorem kX0_isClient (l : Launch) (dC : Nat → ClassId) (dI : Nat → Nat → Nat) (h0 aT aS aP aR aL : Nat) (cA cZ cJ : ClassId) (sz N big n lp : Nat) (ft fs fp fr fl : Nat → Nat) (hN : N ≤ 64) (x : Int32) : Met l yX0_isClient wsX0_isClient ({ frames := 0, cells := 0, slots := 0, locals := 0 }) (va_Pc [.ref h0, .int x] (sB dC dI (ty3 cA cZ cJ) sz (sw h0 aT aS aP aR aL cA N big n lp ft fs fp fr fl))) (va_Qi (fun (r : Int32) (_ : Unit) => (sh_ix N x = none ∧ r = nI 0) ∨ ∃ j, j < N ∧ x = nI j ∧ r = nI 1) (fun _ => sE dC dI (va_A (sw h0 aT aS aP aR aL cA N big n lp ft fs fp fr fl) sz) (sw h0 aT aS aP aR aL cA N big n lp ft fs fp fr fl)) (va_A (sw h0 aT aS aP aR aL cA N big n lp ft fs fp fr fl) sz)) 0 0 (va_A (sw h0 aT aS aP aR aL cA N big n lp ft fs fp fr fl) sz) := by
  refine Met.ofW (cc := cX0_isClient) (maxL := 2) (ret := (some .boolean)) (by decide) rfl ?_
  intro p e s m args below meth c s₁ B hml hv
  obtain ⟨rfl, hsz, hP, hK, hD0⟩ := hv
  have hx := B.exec
  have hb := B.bytes
  have hr := B.returns
  have hts := atoms_spec (ws := wsX0_isClient) B.pre
  have hown : s.vm.findClass RX0 = some m.cls := findClass_of_methodNamed B.named
  have hlocks := B.notSynchronized
  subst hsz
  have hD := hD0.self (sz := s.heap.size)
  generalize hAe : va_A (sw h0 aT aS aP aR aL cA N big n lp ft fs fp fr fl) s.heap.size = A at hD ⊢
  have hA : ∀ q : Nat, s.heap.size ≤ q → A q := fun q h => by rw [← hAe]; exact Or.inr h
  have hS : va_S A s.heap s.heap [] := va_S.rf
  have hl := lv_entry ([.ref h0, .int x]) (n := 2) (Nat.le_of_ble_eq_true rfl)
  rw [lg_entry_eq]
  generalize (lg_sl ([.ref h0, .int x]) ++ List.replicate (2 - (lg_sl ([.ref h0, .int x])).length) Slot.unset).toArray = ls at hl ⊢
  have hl : lv_has ls 2 [(0, .ref h0), (1, .int x)] := hl
  refine lv_iload_n hx hb dX0_isClient_0 rfl (lv_at hl 1 rfl) ?_
  refine lv_if_lt (tgt := 16) hx hb dX0_isClient_1 (by decide) (fun c1 => ?_) (fun c1 => ?_)
  · skip
    refine lv_iconst (v := nI 0) hx hb dX0_isClient_16 (by decide) ?_
    exact W.zret (v := nI 0) hx hb hr (by rfl) (fun t ht hW => ⟨⟨nI 0, (), rfl, Or.inl ⟨ix_lo c1, rfl⟩, by rw [ht]; exact hP, hD⟩, hS.F ht⟩) hS.2.2 dX0_isClient_17
  · skip
    refine lv_iload_n hx hb dX0_isClient_4 rfl (lv_at hl 1 rfl) ?_
    refine lv_aload_n hx hb dX0_isClient_5 rfl (lv_at hl 0 rfl) ?_
    refine va_get (D := (dC, dI)) (ci := 0) (v := .int (nI N)) (C := RX0) (T := TX0) (N := 9) hx hb hts wiX0_isClient hown hK hP 0 rfl rfl 0 (by decide) (hts (.fieldLink RX0 15 "StrideHeap" "cap" "I") (by decide +kernel)) (fun _ h9 => h9) rfl dX0_isClient_6 ?_
    refine lv_icmp_ge (tgt := 16) hx hb dX0_isClient_9 (by decide) (fun c2 => ?_) (fun c2 => ?_)
    · skip
      refine lv_iconst (v := nI 0) hx hb dX0_isClient_16 (by decide) ?_
      exact W.zret (v := nI 0) hx hb hr (by rfl) (fun t ht hW => ⟨⟨nI 0, (), rfl, Or.inl ⟨ix_hi c2, rfl⟩, by rw [ht]; exact hP, hD⟩, hS.F ht⟩) hS.2.2 dX0_isClient_17
    · skip
      refine lv_iconst (v := nI 1) hx hb dX0_isClient_12 (by decide) ?_
      refine lv_goto (tgt := 17) hx hb dX0_isClient_13 (by decide) ?_
      exact W.zret (v := nI 1) hx hb hr (by rfl) (fun t ht hW => ⟨⟨nI 1, (), rfl, (by obtain ⟨j, hj, e⟩ := ix_yes c1 c2 (by omega); exact Or.inr ⟨j, hj, e, rfl⟩), by rw [ht]; exact hP, hD⟩, hS.F ht⟩) hS.2.2 dX0_isClient_17
set_option maxHeartbeats 4000000 in
set_option maxRecDepth 100000 in
/-- isIn(j) -/
theorem kX0_isIn (l : Launch) (dC : Nat → ClassId) (dI : Nat → Nat → Nat) (h0 aT aS aP aR aL : Nat) (cA cZ cJ : ClassId) (sz N big n lp : Nat) (ft fs fp fr fl : Nat → Nat) (hN : N ≤ 64) (hft : ∀ c, ft c < 2 ^ 31) (j : Nat) (hj : j < N) : Met l yX0_isIn wsX0_isIn ({ frames := 0, cells := 0, slots := 0, locals := 0 }) (va_Pc [.ref h0, .int (nI j)] (sB dC dI (ty3 cA cZ cJ) sz (sw h0 aT aS aP aR aL cA N big n lp ft fs fp fr fl))) (va_Qi (fun (r : Int32) (_ : Unit) => (ft j = 0 ∧ r = nI 0) ∨ (0 < ft j ∧ r = nI 1)) (fun _ => sE dC dI (va_A (sw h0 aT aS aP aR aL cA N big n lp ft fs fp fr fl) sz) (sw h0 aT aS aP aR aL cA N big n lp ft fs fp fr fl)) (va_A (sw h0 aT aS aP aR aL cA N big n lp ft fs fp fr fl) sz)) 0 0 (va_A (sw h0 aT aS aP aR aL cA N big n lp ft fs fp fr fl) sz) := by
  refine Met.ofW (cc := cX0_isIn) (maxL := 2) (ret := (some .boolean)) (by decide) rfl ?_
  intro p e s m args below meth c s₁ B hml hv
  obtain ⟨rfl, hsz, hP, hK, hD0⟩ := hv
  have hx := B.exec
  have hb := B.bytes
  have hr := B.returns
  have hts := atoms_spec (ws := wsX0_isIn) B.pre
  have hown : s.vm.findClass RX0 = some m.cls := findClass_of_methodNamed B.named
  have hlocks := B.notSynchronized
  subst hsz
  have hD := hD0.self (sz := s.heap.size)
  generalize hAe : va_A (sw h0 aT aS aP aR aL cA N big n lp ft fs fp fr fl) s.heap.size = A at hD ⊢
  have hA : ∀ q : Nat, s.heap.size ≤ q → A q := fun q h => by rw [← hAe]; exact Or.inr h
  have hS : va_S A s.heap s.heap [] := va_S.rf
  have hl := lv_entry ([.ref h0, .int (nI j)]) (n := 2) (Nat.le_of_ble_eq_true rfl)
  rw [lg_entry_eq]
  generalize (lg_sl ([.ref h0, .int (nI j)]) ++ List.replicate (2 - (lg_sl ([.ref h0, .int (nI j)])).length) Slot.unset).toArray = ls at hl ⊢
  have hl : lv_has ls 2 [(0, .ref h0), (1, .int (nI j))] := hl
  refine lv_aload_n hx hb dX0_isIn_0 rfl (lv_at hl 0 rfl) ?_
  refine va_get (D := (dC, dI)) (ci := 0) (v := .ref aT) (C := RX0) (T := TX0) (N := 9) hx hb hts wiX0_isIn hown hK hP 0 rfl rfl 2 (by decide) (hts (.fieldLink RX0 22 "StrideHeap" "ticketsOf" "[I") (by decide +kernel)) (fun _ h9 => h9) rfl dX0_isIn_1 ?_
  refine lv_iload_n hx hb dX0_isIn_4 rfl (lv_at hl 1 rfl) ?_
  refine sr_ald hx hb hK hP 1 0 rfl rfl (k := j) hj (by omega) dX0_isIn_5 ?_
  refine sr_if_le (tgt := 13) hx hb (hft j) dX0_isIn_6 (by decide) (fun c1 => ?_) (fun c1 => ?_)
  · skip
    refine lv_iconst (v := nI 0) hx hb dX0_isIn_13 (by decide) ?_
    exact W.zret (v := nI 0) hx hb hr (by rfl) (fun t ht hW => ⟨⟨nI 0, (), rfl, Or.inl ⟨c1, rfl⟩, by rw [ht]; exact hP, hD⟩, hS.F ht⟩) hS.2.2 dX0_isIn_14
  · skip
    refine lv_iconst (v := nI 1) hx hb dX0_isIn_9 (by decide) ?_
    refine lv_goto (tgt := 14) hx hb dX0_isIn_10 (by decide) ?_
    exact W.zret (v := nI 1) hx hb hr (by rfl) (fun t ht hW => ⟨⟨nI 1, (), rfl, Or.inr ⟨c1, rfl⟩, by rw [ht]; exact hP, hD⟩, hS.F ht⟩) hS.2.2 dX0_isIn_14
set_option maxHeartbeats 4000000 in
set_option maxRecDepth 100000 in
/-- areTickets(y) -/
theorem kX0_areTickets (l : Launch) (dC : Nat → ClassId) (dI : Nat → Nat → Nat) (h0 aT aS aP aR aL : Nat) (cA cZ cJ : ClassId) (sz N big n lp : Nat) (ft fs fp fr fl : Nat → Nat) (hbig : big ≤ 32768) (y : Int32) : Met l yX0_areTickets wsX0_areTickets ({ frames := 0, cells := 0, slots := 0, locals := 0 }) (va_Pc [.ref h0, .int y] (sB dC dI (ty3 cA cZ cJ) sz (sw h0 aT aS aP aR aL cA N big n lp ft fs fp fr fl))) (va_Qi (fun (r : Int32) (_ : Unit) => ((sh_ix big y = none ∨ sh_ix big y = some 0) ∧ r = nI 0) ∨ ∃ k, 0 < k ∧ k < big ∧ y = nI k ∧ r = nI 1) (fun _ => sE dC dI (va_A (sw h0 aT aS aP aR aL cA N big n lp ft fs fp fr fl) sz) (sw h0 aT aS aP aR aL cA N big n lp ft fs fp fr fl)) (va_A (sw h0 aT aS aP aR aL cA N big n lp ft fs fp fr fl) sz)) 0 0 (va_A (sw h0 aT aS aP aR aL cA N big n lp ft fs fp fr fl) sz) := by
  refine Met.ofW (cc := cX0_areTickets) (maxL := 2) (ret := (some .boolean)) (by decide) rfl ?_
  intro p e s m args below meth c s₁ B hml hv
  obtain ⟨rfl, hsz, hP, hK, hD0⟩ := hv
  have hx := B.exec
  have hb := B.bytes
  have hr := B.returns
  have hts := atoms_spec (ws := wsX0_areTickets) B.pre
  have hown : s.vm.findClass RX0 = some m.cls := findClass_of_methodNamed B.named
  have hlocks := B.notSynchronized
  subst hsz
  have hD := hD0.self (sz := s.heap.size)
  generalize hAe : va_A (sw h0 aT aS aP aR aL cA N big n lp ft fs fp fr fl) s.heap.size = A at hD ⊢
  have hA : ∀ q : Nat, s.heap.size ≤ q → A q := fun q h => by rw [← hAe]; exact Or.inr h
  have hS : va_S A s.heap s.heap [] := va_S.rf
  have hl := lv_entry ([.ref h0, .int y]) (n := 2) (Nat.le_of_ble_eq_true rfl)
  rw [lg_entry_eq]
  generalize (lg_sl ([.ref h0, .int y]) ++ List.replicate (2 - (lg_sl ([.ref h0, .int y])).length) Slot.unset).toArray = ls at hl ⊢
  have hl : lv_has ls 2 [(0, .ref h0), (1, .int y)] := hl
  refine lv_iload_n hx hb dX0_areTickets_0 rfl (lv_at hl 1 rfl) ?_
  refine lv_iconst (v := nI 1) hx hb dX0_areTickets_1 (by decide) ?_
  refine lv_icmp_lt (tgt := 17) hx hb dX0_areTickets_2 (by decide) (fun c1 => ?_) (fun c1 => ?_)
  · skip
    refine lv_iconst (v := nI 0) hx hb dX0_areTickets_17 (by decide) ?_
    exact W.zret (v := nI 0) hx hb hr (by rfl) (fun t ht hW => ⟨⟨nI 0, (), rfl, Or.inl ⟨tk_lt (by omega) c1, rfl⟩, by rw [ht]; exact hP, hD⟩, hS.F ht⟩) hS.2.2 dX0_areTickets_18
  · skip
    refine lv_iload_n hx hb dX0_areTickets_5 rfl (lv_at hl 1 rfl) ?_
    refine lv_aload_n hx hb dX0_areTickets_6 rfl (lv_at hl 0 rfl) ?_
    refine va_get (D := (dC, dI)) (ci := 0) (v := .int (nI big)) (C := RX0) (T := TX0) (N := 9) hx hb hts wiX0_areTickets hown hK hP 0 rfl rfl 1 (by decide) (hts (.fieldLink RX0 19 "StrideHeap" "big" "I") (by decide +kernel)) (fun _ h9 => h9) rfl dX0_areTickets_7 ?_
    refine lv_icmp_ge (tgt := 17) hx hb dX0_areTickets_10 (by decide) (fun c2 => ?_) (fun c2 => ?_)
    · skip
      refine lv_iconst (v := nI 0) hx hb dX0_areTickets_17 (by decide) ?_
      exact W.zret (v := nI 0) hx hb hr (by rfl) (fun t ht hW => ⟨⟨nI 0, (), rfl, Or.inl ⟨Or.inl (ix_hi c2), rfl⟩, by rw [ht]; exact hP, hD⟩, hS.F ht⟩) hS.2.2 dX0_areTickets_18
    · skip
      refine lv_iconst (v := nI 1) hx hb dX0_areTickets_13 (by decide) ?_
      refine lv_goto (tgt := 18) hx hb dX0_areTickets_14 (by decide) ?_
      exact W.zret (v := nI 1) hx hb hr (by rfl) (fun t ht hW => ⟨⟨nI 1, (), rfl, (by obtain ⟨k, h1, h2, e⟩ := tk_ok (by omega) c1 c2; exact Or.inr ⟨k, h1, h2, e, rfl⟩), by rw [ht]; exact hP, hD⟩, hS.F ht⟩) hS.2.2 dX0_areTickets_18
set_option maxHeartbeats 4000000 in
set_option maxRecDepth 100000 in
/-- joiningPass() -/
theorem kX0_joiningPass (l : Launch) (dC : Nat → ClassId) (dI : Nat → Nat → Nat) (h0 aT aS aP aR aL : Nat) (cA cZ cJ : ClassId) (sz N big n lp : Nat) (ft fs fp fr fl : Nat → Nat) (hN : N ≤ 64) (hn : n ≤ N) (hfl : 0 < n → fl 0 < N) : Met l yX0_joiningPass wsX0_joiningPass ({ frames := 0, cells := 0, slots := 0, locals := 0 }) (va_Pc [.ref h0] (sB dC dI (ty3 cA cZ cJ) sz (sw h0 aT aS aP aR aL cA N big n lp ft fs fp fr fl))) (va_Qi (fun (r : Int32) (_ : Unit) => r = nI (if n = 0 then lp else fp (fl 0))) (fun _ => sE dC dI (va_A (sw h0 aT aS aP aR aL cA N big n lp ft fs fp fr fl) sz) (sw h0 aT aS aP aR aL cA N big n lp ft fs fp fr fl)) (va_A (sw h0 aT aS aP aR aL cA N big n lp ft fs fp fr fl) sz)) 0 0 (va_A (sw h0 aT aS aP aR aL cA N big n lp ft fs fp fr fl) sz) := by
  refine Met.ofW (cc := cX0_joiningPass) (maxL := 1) (ret := (some .int)) (by decide) rfl ?_
  intro p e s m args below meth c s₁ B hml hv
  obtain ⟨rfl, hsz, hP, hK, hD0⟩ := hv
  have hx := B.exec
  have hb := B.bytes
  have hr := B.returns
  have hts := atoms_spec (ws := wsX0_joiningPass) B.pre
  have hown : s.vm.findClass RX0 = some m.cls := findClass_of_methodNamed B.named
  have hlocks := B.notSynchronized
  subst hsz
  have hD := hD0.self (sz := s.heap.size)
  generalize hAe : va_A (sw h0 aT aS aP aR aL cA N big n lp ft fs fp fr fl) s.heap.size = A at hD ⊢
  have hA : ∀ q : Nat, s.heap.size ≤ q → A q := fun q h => by rw [← hAe]; exact Or.inr h
  have hS : va_S A s.heap s.heap [] := va_S.rf
  have hl := lv_entry ([.ref h0]) (n := 1) (Nat.le_of_ble_eq_true rfl)
  rw [lg_entry_eq]
  generalize (lg_sl ([.ref h0]) ++ List.replicate (1 - (lg_sl ([.ref h0])).length) Slot.unset).toArray = ls at hl ⊢
  have hl : lv_has ls 1 [(0, .ref h0)] := hl
  refine lv_aload_n hx hb dX0_joiningPass_0 rfl (lv_at hl 0 rfl) ?_
  refine va_get (D := (dC, dI)) (ci := 0) (v := .int (nI n)) (C := RX0) (T := TX0) (N := 9) hx hb hts wiX0_joiningPass hown hK hP 0 rfl rfl 7 (by decide) (hts (.fieldLink RX0 38 "StrideHeap" "inLine" "I") (by decide +kernel)) (fun _ h9 => h9) rfl dX0_joiningPass_1 ?_
  refine sr_if_ne (tgt := 14) hx hb (by omega) dX0_joiningPass_4 (by decide) (fun c1 => ?_) (fun c1 => ?_)
  · skip
    refine lv_aload_n hx hb dX0_joiningPass_14 rfl (lv_at hl 0 rfl) ?_
    refine va_get (D := (dC, dI)) (ci := 0) (v := .ref aP) (C := RX0) (T := TX0) (N := 9) hx hb hts wiX0_joiningPass hown hK hP 0 rfl rfl 4 (by decide) (hts (.fieldLink RX0 29 "StrideHeap" "passes" "[I") (by decide +kernel)) (fun _ h9 => h9) rfl dX0_joiningPass_15 ?_
    refine lv_aload_n hx hb dX0_joiningPass_18 rfl (lv_at hl 0 rfl) ?_
    refine va_get (D := (dC, dI)) (ci := 0) (v := .ref aL) (C := RX0) (T := TX0) (N := 9) hx hb hts wiX0_joiningPass hown hK hP 0 rfl rfl 6 (by decide) (hts (.fieldLink RX0 35 "StrideHeap" "line" "[I") (by decide +kernel)) (fun _ h9 => h9) rfl dX0_joiningPass_19 ?_
    refine lv_iconst (v := nI 0) hx hb dX0_joiningPass_22 (by decide) ?_
    refine sr_ald hx hb hK hP 5 0 rfl rfl (k := 0) (by omega) (by omega) dX0_joiningPass_23 ?_
    refine sr_ald hx hb hK hP 3 0 rfl rfl (k := fl 0) (hfl c1) (by omega) dX0_joiningPass_24 ?_
    exact W.iret (v := nI (fp (fl 0))) hx hb hr (fun t ht hW => ⟨⟨nI (fp (fl 0)), (), rfl, (by rw [if_neg (by omega)]), by rw [ht]; exact hP, hD⟩, hS.F ht⟩) hS.2.2 dX0_joiningPass_25
  · skip
    refine lv_aload_n hx hb dX0_joiningPass_7 rfl (lv_at hl 0 rfl) ?_
    refine va_get (D := (dC, dI)) (ci := 0) (v := .int (nI lp)) (C := RX0) (T := TX0) (N := 9) hx hb hts wiX0_joiningPass hown hK hP 0 rfl rfl 8 (by decide) (hts (.fieldLink RX0 41 "StrideHeap" "latestLeftPass" "I") (by decide +kernel)) (fun _ h9 => h9) rfl dX0_joiningPass_8 ?_
    refine lv_goto (tgt := 25) hx hb dX0_joiningPass_11 (by decide) ?_
    exact W.iret (v := nI lp) hx hb hr (fun t ht hW => ⟨⟨nI lp, (), rfl, (by rw [if_pos c1]), by rw [ht]; exact hP, hD⟩, hS.F ht⟩) hS.2.2 dX0_joiningPass_25
set_option maxHeartbeats 4000000 in
set_option maxRecDepth 100000 in
/-- giveTickets(j, k) -/
theorem kX0_giveTickets (l : Launch) (dC : Nat → ClassId) (dI : Nat → Nat → Nat) (h0 aT aS aP aR aL : Nat) (cA cZ cJ : ClassId) (sz N big n lp : Nat) (ft fs fp fr fl : Nat → Nat) (hN : N ≤ 64) (hbig : big ≤ 32768) (j k : Nat) (hj : j < N) (hk : 0 < k) (hk2 : k < 2 ^ 31) : Met l yX0_giveTickets wsX0_giveTickets ({ frames := 0, cells := 0, slots := 0, locals := 0 }) (va_Pc [.ref h0, .int (nI j), .int (nI k)] (sB dC dI (ty3 cA cZ cJ) sz (sw h0 aT aS aP aR aL cA N big n lp ft fs fp fr fl))) (va_Qv (fun (_ : Unit) => True) (fun _ => sE dC dI (va_A (sw h0 aT aS aP aR aL cA N big n lp ft fs fp fr fl) sz) (sw h0 aT aS aP aR aL cA N big n lp (sh_up ft j k) (sh_up fs j (big / k)) fp fr fl)) (va_A (sw h0 aT aS aP aR aL cA N big n lp ft fs fp fr fl) sz)) 0 0 (va_A (sw h0 aT aS aP aR aL cA N big n lp ft fs fp fr fl) sz) := by
  refine Met.ofW (cc := cX0_giveTickets) (maxL := 3) (ret := none) (by decide) rfl ?_
  intro p e s m args below meth c s₁ B hml hv
  obtain ⟨rfl, hsz, hP, hK, hD0⟩ := hv
  have hx := B.exec
  have hb := B.bytes
  have hr := B.returns
  have hts := atoms_spec (ws := wsX0_giveTickets) B.pre
  have hown : s.vm.findClass RX0 = some m.cls := findClass_of_methodNamed B.named
  have hlocks := B.notSynchronized
  subst hsz
  have hD := hD0.self (sz := s.heap.size)
  generalize hAe : va_A (sw h0 aT aS aP aR aL cA N big n lp ft fs fp fr fl) s.heap.size = A at hD ⊢
  have hA : ∀ q : Nat, s.heap.size ≤ q → A q := fun q h => by rw [← hAe]; exact Or.inr h
  have hS : va_S A s.heap s.heap [] := va_S.rf
  have hl := lv_entry ([.ref h0, .int (nI j), .int (nI k)]) (n := 3) (Nat.le_of_ble_eq_true rfl)
  rw [lg_entry_eq]
  generalize (lg_sl ([.ref h0, .int (nI j), .int (nI k)]) ++ List.replicate (3 - (lg_sl ([.ref h0, .int (nI j), .int (nI k)])).length) Slot.unset).toArray = ls at hl ⊢
  have hl : lv_has ls 3 [(0, .ref h0), (1, .int (nI j)), (2, .int (nI k))] := hl
  refine lv_aload_n hx hb dX0_giveTickets_0 rfl (lv_at hl 0 rfl) ?_
  refine va_get (D := (dC, dI)) (ci := 0) (v := .ref aT) (C := RX0) (T := TX0) (N := 9) hx hb hts wiX0_giveTickets hown hK hP 0 rfl rfl 2 (by decide) (hts (.fieldLink RX0 22 "StrideHeap" "ticketsOf" "[I") (by decide +kernel)) (fun _ h9 => h9) rfl dX0_giveTickets_1 ?_
  refine lv_iload_n hx hb dX0_giveTickets_4 rfl (lv_at hl 1 rfl) ?_
  refine lv_iload_n hx hb dX0_giveTickets_5 rfl (lv_at hl 2 rfl) ?_
  refine sr_ast hx hb hK hP hD hS 1 0 rfl rfl (k := j) (v := k) (by omega) (by omega) dX0_giveTickets_6 (fun H locs hP hD hS => ?_)
  have hP : va_P (dC, dI) vwCl (sw h0 aT aS aP aR aL cA N big n lp (sh_up ft j k) fs fp fr fl) H := hP
  have hD : va_D A (sw h0 aT aS aP aR aL cA N big n lp (sh_up ft j k) fs fp fr fl) := hD
  refine lv_aload_n hx hb dX0_giveTickets_7 rfl (lv_at hl 0 rfl) ?_
  refine va_get (D := (dC, dI)) (ci := 0) (v := .ref aS) (C := RX0) (T := TX0) (N := 9) hx hb hts wiX0_giveTickets hown hK hP 0 rfl rfl 3 (by decide) (hts (.fieldLink RX0 26 "StrideHeap" "strides" "[I") (by decide +kernel)) (fun _ h9 => h9) rfl dX0_giveTickets_8 ?_
  refine lv_iload_n hx hb dX0_giveTickets_11 rfl (lv_at hl 1 rfl) ?_
  refine lv_aload_n hx hb dX0_giveTickets_12 rfl (lv_at hl 0 rfl) ?_
  refine va_get (D := (dC, dI)) (ci := 0) (v := .int (nI big)) (C := RX0) (T := TX0) (N := 9) hx hb hts wiX0_giveTickets hown hK hP 0 rfl rfl 1 (by decide) (hts (.fieldLink RX0 19 "StrideHeap" "big" "I") (by decide +kernel)) (fun _ h9 => h9) rfl dX0_giveTickets_13 ?_
  refine lv_iload_n hx hb dX0_giveTickets_16 rfl (lv_at hl 2 rfl) ?_
  refine sr_idiv hx hb (by omega) (by omega) (by omega) dX0_giveTickets_17 ?_
  refine sr_ast hx hb hK hP hD hS 2 0 rfl rfl (k := j) (v := big / k) (by omega) (by omega) dX0_giveTickets_18 (fun H locs hP hD hS => ?_)
  have hP : va_P (dC, dI) vwCl (sw h0 aT aS aP aR aL cA N big n lp (sh_up ft j k) (sh_up fs j (big / k)) fp fr fl) H := hP
  have hD : va_D A (sw h0 aT aS aP aR aL cA N big n lp (sh_up ft j k) (sh_up fs j (big / k)) fp fr fl) := hD
  exact W.vret hx hb hr (fun t ht hW => ⟨⟨(), rfl, trivial, by rw [ht]; exact hP, hD⟩, hS.F ht⟩) hS.2.2 dX0_giveTickets_19
set_option maxHeartbeats 4000000 in
set_option maxRecDepth 100000 in
/-- isBefore(i, j) -/
theorem kX0_isBefore (l : Launch) (dC : Nat → ClassId) (dI : Nat → Nat → Nat) (h0 aT aS aP aR aL : Nat) (cA cZ cJ : ClassId) (sz N big n lp : Nat) (ft fs fp fr fl : Nat → Nat) (hN : N ≤ 64) (hfp : ∀ c, fp c < 2 ^ 31) (i j : Nat) (hi : i < N) (hj : j < N) : Met l yX0_isBefore wsX0_isBefore ({ frames := 0, cells := 0, slots := 0, locals := 0 }) (va_Pc [.ref h0, .int (nI i), .int (nI j)] (sB dC dI (ty3 cA cZ cJ) sz (sw h0 aT aS aP aR aL cA N big n lp ft fs fp fr fl))) (va_Qi (fun (r : Int32) (_ : Unit) => (sh_bf fp i j ∧ r = nI 1) ∨ (¬ sh_bf fp i j ∧ r = nI 0)) (fun _ => sE dC dI (va_A (sw h0 aT aS aP aR aL cA N big n lp ft fs fp fr fl) sz) (sw h0 aT aS aP aR aL cA N big n lp ft fs fp fr fl)) (va_A (sw h0 aT aS aP aR aL cA N big n lp ft fs fp fr fl) sz)) 0 0 (va_A (sw h0 aT aS aP aR aL cA N big n lp ft fs fp fr fl) sz) := by
  refine Met.ofW (cc := cX0_isBefore) (maxL := 3) (ret := (some .boolean)) (by decide) rfl ?_
  intro p e s m args below meth c s₁ B hml hv
  obtain ⟨rfl, hsz, hP, hK, hD0⟩ := hv
  have hx := B.exec
  have hb := B.bytes
  have hr := B.returns
  have hts := atoms_spec (ws := wsX0_isBefore) B.pre
  have hown : s.vm.findClass RX0 = some m.cls := findClass_of_methodNamed B.named
  have hlocks := B.notSynchronized
  subst hsz
  have hD := hD0.self (sz := s.heap.size)
  generalize hAe : va_A (sw h0 aT aS aP aR aL cA N big n lp ft fs fp fr fl) s.heap.size = A at hD ⊢
  have hA : ∀ q : Nat, s.heap.size ≤ q → A q := fun q h => by rw [← hAe]; exact Or.inr h
  have hS : va_S A s.heap s.heap [] := va_S.rf
  have hl := lv_entry ([.ref h0, .int (nI i), .int (nI j)]) (n := 3) (Nat.le_of_ble_eq_true rfl)
  rw [lg_entry_eq]
  generalize (lg_sl ([.ref h0, .int (nI i), .int (nI j)]) ++ List.replicate (3 - (lg_sl ([.ref h0, .int (nI i), .int (nI j)])).length) Slot.unset).toArray = ls at hl ⊢
  have hl : lv_has ls 3 [(0, .ref h0), (1, .int (nI i)), (2, .int (nI j))] := hl
  refine lv_aload_n hx hb dX0_isBefore_0 rfl (lv_at hl 0 rfl) ?_
  refine va_get (D := (dC, dI)) (ci := 0) (v := .ref aP) (C := RX0) (T := TX0) (N := 9) hx hb hts wiX0_isBefore hown hK hP 0 rfl rfl 4 (by decide) (hts (.fieldLink RX0 29 "StrideHeap" "passes" "[I") (by decide +kernel)) (fun _ h9 => h9) rfl dX0_isBefore_1 ?_
  refine lv_iload_n hx hb dX0_isBefore_4 rfl (lv_at hl 1 rfl) ?_
  refine sr_ald hx hb hK hP 3 0 rfl rfl (k := i) (by omega) (by omega) dX0_isBefore_5 ?_
  refine lv_aload_n hx hb dX0_isBefore_6 rfl (lv_at hl 0 rfl) ?_
  refine va_get (D := (dC, dI)) (ci := 0) (v := .ref aP) (C := RX0) (T := TX0) (N := 9) hx hb hts wiX0_isBefore hown hK hP 0 rfl rfl 4 (by decide) (hts (.fieldLink RX0 29 "StrideHeap" "passes" "[I") (by decide +kernel)) (fun _ h9 => h9) rfl dX0_isBefore_7 ?_
  refine lv_iload_n hx hb dX0_isBefore_10 rfl (lv_at hl 2 rfl) ?_
  refine sr_ald hx hb hK hP 3 0 rfl rfl (k := j) (by omega) (by omega) dX0_isBefore_11 ?_
  refine sr_cmp_eq (tgt := 36) hx hb (hfp i) (hfp j) dX0_isBefore_12 (by decide) (fun c1 => ?_) (fun c1 => ?_)
  · skip
    refine lv_iload_n hx hb dX0_isBefore_36 rfl (lv_at hl 1 rfl) ?_
    refine lv_iload_n hx hb dX0_isBefore_37 rfl (lv_at hl 2 rfl) ?_
    refine sr_cmp_ge (tgt := 45) hx hb (by omega) (by omega) dX0_isBefore_38 (by decide) (fun c2 => ?_) (fun c2 => ?_)
    · skip
      refine lv_iconst (v := nI 0) hx hb dX0_isBefore_45 (by decide) ?_
      exact W.zret (v := nI 0) hx hb hr (by rfl) (fun t ht hW => ⟨⟨nI 0, (), rfl, Or.inr ⟨by unfold sh_bf; omega, rfl⟩, by rw [ht]; exact hP, hD⟩, hS.F ht⟩) hS.2.2 dX0_isBefore_46
    · skip
      refine lv_iconst (v := nI 1) hx hb dX0_isBefore_41 (by decide) ?_
      refine lv_goto (tgt := 46) hx hb dX0_isBefore_42 (by decide) ?_
      exact W.zret (v := nI 1) hx hb hr (by rfl) (fun t ht hW => ⟨⟨nI 1, (), rfl, Or.inl ⟨Or.inr ⟨c1, c2⟩, rfl⟩, by rw [ht]; exact hP, hD⟩, hS.F ht⟩) hS.2.2 dX0_isBefore_46
  · skip
    refine lv_aload_n hx hb dX0_isBefore_15 rfl (lv_at hl 0 rfl) ?_
    refine va_get (D := (dC, dI)) (ci := 0) (v := .ref aP) (C := RX0) (T := TX0) (N := 9) hx hb hts wiX0_isBefore hown hK hP 0 rfl rfl 4 (by decide) (hts (.fieldLink RX0 29 "StrideHeap" "passes" "[I") (by decide +kernel)) (fun _ h9 => h9) rfl dX0_isBefore_16 ?_
    refine lv_iload_n hx hb dX0_isBefore_19 rfl (lv_at hl 1 rfl) ?_
    refine sr_ald hx hb hK hP 3 0 rfl rfl (k := i) (by omega) (by omega) dX0_isBefore_20 ?_
    refine lv_aload_n hx hb dX0_isBefore_21 rfl (lv_at hl 0 rfl) ?_
    refine va_get (D := (dC, dI)) (ci := 0) (v := .ref aP) (C := RX0) (T := TX0) (N := 9) hx hb hts wiX0_isBefore hown hK hP 0 rfl rfl 4 (by decide) (hts (.fieldLink RX0 29 "StrideHeap" "passes" "[I") (by decide +kernel)) (fun _ h9 => h9) rfl dX0_isBefore_22 ?_
    refine lv_iload_n hx hb dX0_isBefore_25 rfl (lv_at hl 2 rfl) ?_
    refine sr_ald hx hb hK hP 3 0 rfl rfl (k := j) (by omega) (by omega) dX0_isBefore_26 ?_
    refine sr_cmp_ge (tgt := 34) hx hb (hfp i) (hfp j) dX0_isBefore_27 (by decide) (fun c2 => ?_) (fun c2 => ?_)
    · skip
      refine lv_iconst (v := nI 0) hx hb dX0_isBefore_34 (by decide) ?_
      exact W.zret (v := nI 0) hx hb hr (by rfl) (fun t ht hW => ⟨⟨nI 0, (), rfl, Or.inr ⟨by unfold sh_bf; omega, rfl⟩, by rw [ht]; exact hP, hD⟩, hS.F ht⟩) hS.2.2 dX0_isBefore_35
    · skip
      refine lv_iconst (v := nI 1) hx hb dX0_isBefore_30 (by decide) ?_
      refine lv_goto (tgt := 35) hx hb dX0_isBefore_31 (by decide) ?_
      exact W.zret (v := nI 1) hx hb hr (by rfl) (fun t ht hW => ⟨⟨nI 1, (), rfl, Or.inl ⟨Or.inl c2, rfl⟩, by rw [ht]; exact hP, hD⟩, hS.F ht⟩) hS.2.2 dX0_isBefore_35
end
section
-- THE CLASS: the line
set_option maxHeartbeats 4000000 in
set_option maxRecDepth 100000 in
/-- settleFirst(): the first goes back to its place -/
theorem kX0_settleFirst (l : Launch) (dC : Nat → ClassId) (dI : Nat → Nat → Nat) (h0 aT aS aP aR aL : Nat) (cA cZ cJ : ClassId) (sz N big n lp : Nat) (ft fs fp fr fl : Nat → Nat) (hN : N ≤ 64) (hn0 : 0 < n) (hn : n ≤ N) (hfp : ∀ c, fp c < 2 ^ 31) (hfl : ∀ i, i < n → fl i < N) : Met l yX0_settleFirst wsX0_settleFirst ({ frames := 1, cells := 0, slots := 0, locals := 22 }) (va_Pc [.ref h0] (sB dC dI (ty3 cA cZ cJ) sz (sw h0 aT aS aP aR aL cA N big n lp ft fs fp fr fl))) (va_Qv (fun u : (Nat → Nat) => ∃ k, sh_rot fp fl u n k) (fun u => sE dC dI (va_A (sw h0 aT aS aP aR aL cA N big n lp ft fs fp fr fl) sz) (sw h0 aT aS aP aR aL cA N big n lp ft fs fp fr u)) (va_A (sw h0 aT aS aP aR aL cA N big n lp ft fs fp fr fl) sz)) 0 0 (va_A (sw h0 aT aS aP aR aL cA N big n lp ft fs fp fr fl) sz) := by
  refine Met.ofW (cc := cX0_settleFirst) (maxL := 3) (ret := none) (by decide) rfl ?_
  intro p e s m args below meth c s₁ B hml hv
  obtain ⟨rfl, hsz, hP, hK, hD0⟩ := hv
  have hx := B.exec
  have hb := B.bytes
  have hr := B.returns
  have hts := atoms_spec (ws := wsX0_settleFirst) B.pre
  have hown : s.vm.findClass RX0 = some m.cls := findClass_of_methodNamed B.named
  have hlocks := B.notSynchronized
  subst hsz
  have hD := hD0.self (sz := s.heap.size)
  generalize hAe : va_A (sw h0 aT aS aP aR aL cA N big n lp ft fs fp fr fl) s.heap.size = A at hD ⊢
  have hA : ∀ q : Nat, s.heap.size ≤ q → A q := fun q h => by rw [← hAe]; exact Or.inr h
  have hS : va_S A s.heap s.heap [] := va_S.rf
  have hl := lv_entry ([.ref h0]) (n := 3) (Nat.le_of_ble_eq_true rfl)
  rw [lg_entry_eq]
  generalize (lg_sl ([.ref h0]) ++ List.replicate (3 - (lg_sl ([.ref h0])).length) Slot.unset).toArray = ls at hl ⊢
  have hl : lv_has ls 3 [(0, .ref h0)] := hl
  refine lv_aload_n hx hb dX0_settleFirst_0 rfl (lv_at hl 0 rfl) ?_
  refine va_get (D := (dC, dI)) (ci := 0) (v := .ref aL) (C := RX0) (T := TX0) (N := 9) hx hb hts wiX0_settleFirst hown hK hP 0 rfl rfl 6 (by decide) (hts (.fieldLink RX0 35 "StrideHeap" "line" "[I") (by decide +kernel)) (fun _ h9 => h9) rfl dX0_settleFirst_1 ?_
  refine lv_iconst (v := nI 0) hx hb dX0_settleFirst_4 (by decide) ?_
  refine sr_ald hx hb hK hP 5 0 rfl rfl (k := 0) (by omega) (by omega) dX0_settleFirst_5 ?_
  refine lv_istore_n (lv' := [(1, .int (nI (fl 0))), (0, .ref h0)]) hx hb dX0_settleFirst_6 rfl hl (by decide) rfl (fun ls hl => ?_)
  refine lv_iconst (v := nI 0) hx hb dX0_settleFirst_7 (by decide) ?_
  refine lv_istore_n (lv' := [(2, .int (nI 0)), (1, .int (nI (fl 0))), (0, .ref h0)]) hx hb dX0_settleFirst_8 rfl hl (by decide) rfl (fun ls hl => ?_)
  refine sl_loop (fun d (x : Nat × (Nat → Nat)) H locs ls => n ≤ x.1 + d ∧ x.1 < n ∧ (∀ i, i < x.1 → x.2 i = fl (i + 1)) ∧ (∀ i, x.1 ≤ i → x.2 i = fl i) ∧ (∀ i, i < x.1 → sh_bf fp (fl (i + 1)) (fl 0)) ∧ va_P (dC, dI) vwCl (sw h0 aT aS aP aR aL cA N big n lp ft fs fp fr x.2) H ∧ va_D A (sw h0 aT aS aP aR aL cA N big n lp ft fs fp fr x.2) ∧ va_S A s.heap H locs ∧ lv_has ls 3 [(2, .int (nI x.1)), (1, .int (nI (fl 0))), (0, .ref h0)]) (fun x H locs ls h => by omega) ?_ n (0, fl) _ _ _ ⟨by omega, hn0, fun i h => absurd h (Nat.not_lt_zero _), fun _ _ => rfl, fun i h => absurd h (Nat.not_lt_zero _), hP, hD, hS, lv_sub hl [0, 1, 2] rfl⟩
  intro d x H locs ls ih hI
  obtain ⟨k, g⟩ := x
  obtain ⟨h1, h2, h3, h4, h5, hP, hD, hS, hl⟩ := hI
  dsimp only at h1 h2 h3 h4 h5 hP hD hl
  refine lv_iload_n hx hb dX0_settleFirst_9 rfl (lv_at hl 0 rfl) ?_
  refine lv_aload_n hx hb dX0_settleFirst_10 rfl (lv_at hl 2 rfl) ?_
  refine va_get (D := (dC, dI)) (ci := 0) (v := .int (nI n)) (C := RX0) (T := TX0) (N := 9) hx hb hts wiX0_settleFirst hown hK hP 0 rfl rfl 7 (by decide) (hts (.fieldLink RX0 38 "StrideHeap" "inLine" "I") (by decide +kernel)) (fun _ h9 => h9) rfl dX0_settleFirst_11 ?_
  refine lv_iconst (v := nI 1) hx hb dX0_settleFirst_14 (by decide) ?_
  refine sr_isub hx hb (by omega) dX0_settleFirst_15 ?_
  refine sr_cmp_ge (tgt := 55) hx hb (by omega) (by omega) dX0_settleFirst_16 (by decide) (fun c1 => ?_) (fun c1 => ?_)
  · skip
    refine lv_aload_n hx hb dX0_settleFirst_55 rfl (lv_at hl 2 rfl) ?_
    refine va_get (D := (dC, dI)) (ci := 0) (v := .ref aL) (C := RX0) (T := TX0) (N := 9) hx hb hts wiX0_settleFirst hown hK hP 0 rfl rfl 6 (by decide) (hts (.fieldLink RX0 35 "StrideHeap" "line" "[I") (by decide +kernel)) (fun _ h9 => h9) rfl dX0_settleFirst_56 ?_
    refine lv_iload_n hx hb dX0_settleFirst_59 rfl (lv_at hl 0 rfl) ?_
    refine lv_iload_n hx hb dX0_settleFirst_60 rfl (lv_at hl 1 rfl) ?_
    refine sr_ast hx hb hK hP hD hS 5 0 rfl rfl (k := k) (v := fl 0) (by omega) (by omega) dX0_settleFirst_61 (fun H locs hP hD hS => ?_)
    have hP : va_P (dC, dI) vwCl (sw h0 aT aS aP aR aL cA N big n lp ft fs fp fr (sh_up g k (fl 0))) H := hP
    have hD : va_D A (sw h0 aT aS aP aR aL cA N big n lp ft fs fp fr (sh_up g k (fl 0))) := hD
    exact W.vret hx hb hr (fun t ht hW => ⟨⟨(sh_up g k (fl 0)), rfl, ⟨k, h2, fun i hi => by rw [sh_up_n g _ (by omega)]; exact h3 i hi, sh_up_s g k _, fun i hi => by rw [sh_up_n g _ (by omega)]; exact h4 i (by omega), h5, fun q => by omega⟩, by rw [ht]; exact hP, hD⟩, hS.F ht⟩) hS.2.2 dX0_settleFirst_62
  · skip
    have e1 : g (k + 1) = fl (k + 1) := h4 _ (by omega)
    have hlt : fl (k + 1) < N := hfl _ (by omega)
    have hlt0 : fl 0 < N := hfl _ hn0
    refine lv_aload_n hx hb dX0_settleFirst_19 rfl (lv_at hl 2 rfl) ?_
    refine lv_aload_n hx hb dX0_settleFirst_20 rfl (lv_at hl 2 rfl) ?_
    refine va_get (D := (dC, dI)) (ci := 0) (v := .ref aL) (C := RX0) (T := TX0) (N := 9) hx hb hts wiX0_settleFirst hown hK hP 0 rfl rfl 6 (by decide) (hts (.fieldLink RX0 35 "StrideHeap" "line" "[I") (by decide +kernel)) (fun _ h9 => h9) rfl dX0_settleFirst_21 ?_
    refine lv_iload_n hx hb dX0_settleFirst_24 rfl (lv_at hl 0 rfl) ?_
    refine lv_iconst (v := nI 1) hx hb dX0_settleFirst_25 (by decide) ?_
    refine sr_iadd hx hb dX0_settleFirst_26 ?_
    refine sr_ald hx hb hK hP 5 0 rfl rfl (k := k + 1) (by omega) (by omega) dX0_settleFirst_27 ?_
    refine lv_iload_n hx hb dX0_settleFirst_28 rfl (lv_at hl 1 rfl) ?_
    refine sc_i (wr := []) (wc := sw h0 aT aS aP aR aL cA N big n lp ft fs fp fr g) (As := [.int (nI (g (k + 1))), .int (nI (fl 0))]) (rest := []) ⟨hx, hb, hml, hown, hts⟩ (kX0_isBefore l dC dI h0 aT aS aP aR aL cA cZ cJ H.size N big n lp ft fs fp fr g hN hfp (g (k + 1)) (fl 0) (by omega) hlt0) (cwV 2 hts gX0_settleFirst_X0_isBefore rfl rfl rfl (by decide +kernel) ⟨Nat.le_of_ble_eq_true rfl, Nat.le_of_ble_eq_true rfl⟩) hK hP hD hS hA (va_recv hK hP (ci := 0) (q0 := 0) rfl rfl) rfl hl.1 rfl (Nat.le_of_ble_eq_true rfl) dX0_settleFirst_29 ⟨Nat.zero_le _, Nat.zero_le _⟩ (fun r _ H locs hw hP hD hS => ?_)
    rcases hw with ⟨hbf, rfl⟩ | ⟨hbf, rfl⟩
    · skip
      refine sr_if_eq (tgt := 55) hx hb (by decide) dX0_settleFirst_32 (by decide) (fun q => absurd q (by decide)) (fun _ => ?_)
      refine lv_aload_n hx hb dX0_settleFirst_35 rfl (lv_at hl 2 rfl) ?_
      refine va_get (D := (dC, dI)) (ci := 0) (v := .ref aL) (C := RX0) (T := TX0) (N := 9) hx hb hts wiX0_settleFirst hown hK hP 0 rfl rfl 6 (by decide) (hts (.fieldLink RX0 35 "StrideHeap" "line" "[I") (by decide +kernel)) (fun _ h9 => h9) rfl dX0_settleFirst_36 ?_
      refine lv_iload_n hx hb dX0_settleFirst_39 rfl (lv_at hl 0 rfl) ?_
      refine lv_aload_n hx hb dX0_settleFirst_40 rfl (lv_at hl 2 rfl) ?_
      refine va_get (D := (dC, dI)) (ci := 0) (v := .ref aL) (C := RX0) (T := TX0) (N := 9) hx hb hts wiX0_settleFirst hown hK hP 0 rfl rfl 6 (by decide) (hts (.fieldLink RX0 35 "StrideHeap" "line" "[I") (by decide +kernel)) (fun _ h9 => h9) rfl dX0_settleFirst_41 ?_
      refine lv_iload_n hx hb dX0_settleFirst_44 rfl (lv_at hl 0 rfl) ?_
      refine lv_iconst (v := nI 1) hx hb dX0_settleFirst_45 (by decide) ?_
      refine sr_iadd hx hb dX0_settleFirst_46 ?_
      refine sr_ald hx hb hK hP 5 0 rfl rfl (k := k + 1) (by omega) (by omega) dX0_settleFirst_47 ?_
      refine sr_ast hx hb hK hP hD hS 5 0 rfl rfl (k := k) (v := g (k + 1)) (by omega) (by omega) dX0_settleFirst_48 (fun H locs hP hD hS => ?_)
      have hP : va_P (dC, dI) vwCl (sw h0 aT aS aP aR aL cA N big n lp ft fs fp fr (sh_up g k (g (k + 1)))) H := hP
      have hD : va_D A (sw h0 aT aS aP aR aL cA N big n lp ft fs fp fr (sh_up g k (g (k + 1)))) := hD
      refine lv_iinc (v := nI (k + 1)) (lv' := [(2, .int (nI (k + 1))), (1, .int (nI (fl 0))), (0, .ref h0)]) hx hb dX0_settleFirst_49 hl (k := 0) rfl (nI_1 _) (by decide) rfl (fun ls hl => ?_)
      refine lv_goto (tgt := 9) hx hb dX0_settleFirst_52 (by decide) ?_
      exact ih (k + 1, sh_up g k (g (k + 1))) _ _ _ ⟨by omega, by omega, fun i hi => by
        dsimp only at hi ⊢
        by_cases q : i = k
        · subst q; rw [sh_up_s]; exact e1
        · rw [sh_up_n g _ q]; exact h3 i (by omega), fun i hi => by dsimp only at hi ⊢; rw [sh_up_n g _ (by omega)]; exact h4 i (by omega), fun i hi => by
        dsimp only at hi
        by_cases q : i = k
        · subst q; rw [← e1]; exact hbf
        · exact h5 i (by omega), hP, hD, hS, lv_sub hl [0, 1, 2] rfl⟩
    · skip
      refine sr_if_eq (tgt := 55) hx hb (by decide) dX0_settleFirst_32 (by decide) (fun _ => ?_) (fun q => absurd q (by decide))
      refine lv_aload_n hx hb dX0_settleFirst_55 rfl (lv_at hl 2 rfl) ?_
      refine va_get (D := (dC, dI)) (ci := 0) (v := .ref aL) (C := RX0) (T := TX0) (N := 9) hx hb hts wiX0_settleFirst hown hK hP 0 rfl rfl 6 (by decide) (hts (.fieldLink RX0 35 "StrideHeap" "line" "[I") (by decide +kernel)) (fun _ h9 => h9) rfl dX0_settleFirst_56 ?_
      refine lv_iload_n hx hb dX0_settleFirst_59 rfl (lv_at hl 0 rfl) ?_
      refine lv_iload_n hx hb dX0_settleFirst_60 rfl (lv_at hl 1 rfl) ?_
      refine sr_ast hx hb hK hP hD hS 5 0 rfl rfl (k := k) (v := fl 0) (by omega) (by omega) dX0_settleFirst_61 (fun H locs hP hD hS => ?_)
      have hP : va_P (dC, dI) vwCl (sw h0 aT aS aP aR aL cA N big n lp ft fs fp fr (sh_up g k (fl 0))) H := hP
      have hD : va_D A (sw h0 aT aS aP aR aL cA N big n lp ft fs fp fr (sh_up g k (fl 0))) := hD
      exact W.vret hx hb hr (fun t ht hW => ⟨⟨(sh_up g k (fl 0)), rfl, ⟨k, h2, fun i hi => by rw [sh_up_n g _ (by omega)]; exact h3 i hi, sh_up_s g k _, fun i hi => by rw [sh_up_n g _ (by omega)]; exact h4 i (by omega), h5, fun _ => by rw [← e1]; exact hbf⟩, by rw [ht]; exact hP, hD⟩, hS.F ht⟩) hS.2.2 dX0_settleFirst_62
set_option maxHeartbeats 4000000 in
set_option maxRecDepth 100000 in
/-- placeOf(c): where it stands -/
theorem kX0_placeOf (l : Launch) (dC : Nat → ClassId) (dI : Nat → Nat → Nat) (h0 aT aS aP aR aL : Nat) (cA cZ cJ : ClassId) (sz N big n lp : Nat) (ft fs fp fr fl : Nat → Nat) (hN : N ≤ 64) (hn : n ≤ N) (hfl : ∀ i, i < n → fl i < N) (q0 : Nat) (hq0 : q0 < n) : Met l yX0_placeOf wsX0_placeOf ({ frames := 0, cells := 0, slots := 0, locals := 0 }) (va_Pc [.ref h0, .int (nI (fl q0))] (sB dC dI (ty3 cA cZ cJ) sz (sw h0 aT aS aP aR aL cA N big n lp ft fs fp fr fl))) (va_Qi (fun (r : Int32) (_ : Unit) => ∃ k, k < n ∧ fl k = fl q0 ∧ r = nI k) (fun _ => sE dC dI (va_A (sw h0 aT aS aP aR aL cA N big n lp ft fs fp fr fl) sz) (sw h0 aT aS aP aR aL cA N big n lp ft fs fp fr fl)) (va_A (sw h0 aT aS aP aR aL cA N big n lp ft fs fp fr fl) sz)) 0 0 (va_A (sw h0 aT aS aP aR aL cA N big n lp ft fs fp fr fl) sz) := by
  refine Met.ofW (cc := cX0_placeOf) (maxL := 3) (ret := (some .int)) (by decide) rfl ?_
  intro p e s m args below meth c s₁ B hml hv
  obtain ⟨rfl, hsz, hP, hK, hD0⟩ := hv
  have hx := B.exec
  have hb := B.bytes
  have hr := B.returns
  have hts := atoms_spec (ws := wsX0_placeOf) B.pre
  have hown : s.vm.findClass RX0 = some m.cls := findClass_of_methodNamed B.named
  have hlocks := B.notSynchronized
  subst hsz
  have hD := hD0.self (sz := s.heap.size)
  generalize hAe : va_A (sw h0 aT aS aP aR aL cA N big n lp ft fs fp fr fl) s.heap.size = A at hD ⊢
  have hA : ∀ q : Nat, s.heap.size ≤ q → A q := fun q h => by rw [← hAe]; exact Or.inr h
  have hS : va_S A s.heap s.heap [] := va_S.rf
  have hl := lv_entry ([.ref h0, .int (nI (fl q0))]) (n := 3) (Nat.le_of_ble_eq_true rfl)
  rw [lg_entry_eq]
  generalize (lg_sl ([.ref h0, .int (nI (fl q0))]) ++ List.replicate (3 - (lg_sl ([.ref h0, .int (nI (fl q0))])).length) Slot.unset).toArray = ls at hl ⊢
  have hl : lv_has ls 3 [(0, .ref h0), (1, .int (nI (fl q0)))] := hl
  have hq1 : fl q0 < N := hfl q0 hq0
  refine lv_iconst (v := nI 0) hx hb dX0_placeOf_0 (by decide) ?_
  refine lv_istore_n (lv' := [(2, .int (nI 0)), (0, .ref h0), (1, .int (nI (fl q0)))]) hx hb dX0_placeOf_1 rfl hl (by decide) rfl (fun ls hl => ?_)
  refine sl_loop (fun d (x : Nat) H locs ls => n ≤ x + d ∧ x < n ∧ x ≤ q0 ∧ va_P (dC, dI) vwCl (sw h0 aT aS aP aR aL cA N big n lp ft fs fp fr fl) H ∧ va_D A (sw h0 aT aS aP aR aL cA N big n lp ft fs fp fr fl) ∧ va_S A s.heap H locs ∧ lv_has ls 3 [(2, .int (nI x)), (0, .ref h0), (1, .int (nI (fl q0)))]) (fun x H locs ls h => by omega) ?_ n 0 _ _ _ ⟨by omega, by omega, by omega, hP, hD, hS, lv_sub hl [0, 1, 2] rfl⟩
  intro d x H locs ls ih hI
  obtain ⟨h1, h2, h3, hP, hD, hS, hl⟩ := hI
  refine lv_iload_n hx hb dX0_placeOf_2 rfl (lv_at hl 0 rfl) ?_
  refine lv_aload_n hx hb dX0_placeOf_3 rfl (lv_at hl 1 rfl) ?_
  refine va_get (D := (dC, dI)) (ci := 0) (v := .int (nI n)) (C := RX0) (T := TX0) (N := 9) hx hb hts wiX0_placeOf hown hK hP 0 rfl rfl 7 (by decide) (hts (.fieldLink RX0 38 "StrideHeap" "inLine" "I") (by decide +kernel)) (fun _ h9 => h9) rfl dX0_placeOf_4 ?_
  refine lv_iconst (v := nI 1) hx hb dX0_placeOf_7 (by decide) ?_
  refine sr_isub hx hb (by omega) dX0_placeOf_8 ?_
  refine sr_cmp_ge (tgt := 28) hx hb (by omega) (by omega) dX0_placeOf_9 (by decide) (fun c1 => ?_) (fun c1 => ?_)
  · skip
    refine lv_iload_n hx hb dX0_placeOf_28 rfl (lv_at hl 0 rfl) ?_
    exact W.iret (v := nI x) hx hb hr (fun t ht hW => ⟨⟨nI x, (), rfl, ⟨x, h2, by rw [show x = q0 by omega], rfl⟩, by rw [ht]; exact hP, hD⟩, hS.F ht⟩) hS.2.2 dX0_placeOf_29
  · skip
    have hlt : fl x < N := hfl x h2
    refine lv_aload_n hx hb dX0_placeOf_12 rfl (lv_at hl 1 rfl) ?_
    refine va_get (D := (dC, dI)) (ci := 0) (v := .ref aL) (C := RX0) (T := TX0) (N := 9) hx hb hts wiX0_placeOf hown hK hP 0 rfl rfl 6 (by decide) (hts (.fieldLink RX0 35 "StrideHeap" "line" "[I") (by decide +kernel)) (fun _ h9 => h9) rfl dX0_placeOf_13 ?_
    refine lv_iload_n hx hb dX0_placeOf_16 rfl (lv_at hl 0 rfl) ?_
    refine sr_ald hx hb hK hP 5 0 rfl rfl (k := x) (by omega) (by omega) dX0_placeOf_17 ?_
    refine lv_iload_n hx hb dX0_placeOf_18 rfl (lv_at hl 2 rfl) ?_
    refine sr_cmp_eq (tgt := 28) hx hb (by omega) (by omega) dX0_placeOf_19 (by decide) (fun c2 => ?_) (fun c2 => ?_)
    · skip
      refine lv_iload_n hx hb dX0_placeOf_28 rfl (lv_at hl 0 rfl) ?_
      exact W.iret (v := nI x) hx hb hr (fun t ht hW => ⟨⟨nI x, (), rfl, ⟨x, h2, c2, rfl⟩, by rw [ht]; exact hP, hD⟩, hS.F ht⟩) hS.2.2 dX0_placeOf_29
    · skip
      refine lv_iinc (v := nI (x + 1)) (lv' := [(2, .int (nI (x + 1))), (0, .ref h0), (1, .int (nI (fl q0)))]) hx hb dX0_placeOf_22 hl (k := 0) rfl (nI_1 _) (by decide) rfl (fun ls hl => ?_)
      refine lv_goto (tgt := 2) hx hb dX0_placeOf_25 (by decide) ?_
      exact ih (x + 1) _ _ _ ⟨by omega, by omega, by
        rcases Nat.lt_or_ge x q0 with q | q
        · exact q
        · exact absurd (by rw [show x = q0 by omega]) c2, hP, hD, hS, lv_sub hl [0, 1, 2] rfl⟩
set_option maxHeartbeats 4000000 in
set_option maxRecDepth 100000 in
/-- quitLine(c): it is taken out of the line -/
theorem kX0_quitLine (l : Launch) (dC : Nat → ClassId) (dI : Nat → Nat → Nat) (h0 aT aS aP aR aL : Nat) (cA cZ cJ : ClassId) (sz N big n lp : Nat) (ft fs fp fr fl : Nat → Nat) (hN : N ≤ 64) (hn : n ≤ N) (hfl : ∀ i, i < n → fl i < N) (q0 : Nat) (hq0 : q0 < n) : Met l yX0_quitLine wsX0_quitLine ({ frames := 1, cells := 0, slots := 0, locals := 22 }) (va_Pc [.ref h0, .int (nI (fl q0))] (sB dC dI (ty3 cA cZ cJ) sz (sw h0 aT aS aP aR aL cA N big n lp ft fs fp fr fl))) (va_Qv (fun u : (Nat → Nat) => ∃ k, k < n ∧ fl k = fl q0 ∧ (∀ i, i < k → u i = fl i) ∧ (∀ i, k ≤ i → i + 1 < n → u i = fl (i + 1))) (fun u => sE dC dI (va_A (sw h0 aT aS aP aR aL cA N big n lp ft fs fp fr fl) sz) (sw h0 aT aS aP aR aL cA N big (n - 1) lp ft fs fp fr u)) (va_A (sw h0 aT aS aP aR aL cA N big n lp ft fs fp fr fl) sz)) 0 0 (va_A (sw h0 aT aS aP aR aL cA N big n lp ft fs fp fr fl) sz) := by
  refine Met.ofW (cc := cX0_quitLine) (maxL := 3) (ret := none) (by decide) rfl ?_
  intro p e s m args below meth c s₁ B hml hv
  obtain ⟨rfl, hsz, hP, hK, hD0⟩ := hv
  have hx := B.exec
  have hb := B.bytes
  have hr := B.returns
  have hts := atoms_spec (ws := wsX0_quitLine) B.pre
  have hown : s.vm.findClass RX0 = some m.cls := findClass_of_methodNamed B.named
  have hlocks := B.notSynchronized
  subst hsz
  have hD := hD0.self (sz := s.heap.size)
  generalize hAe : va_A (sw h0 aT aS aP aR aL cA N big n lp ft fs fp fr fl) s.heap.size = A at hD ⊢
  have hA : ∀ q : Nat, s.heap.size ≤ q → A q := fun q h => by rw [← hAe]; exact Or.inr h
  have hS : va_S A s.heap s.heap [] := va_S.rf
  have hl := lv_entry ([.ref h0, .int (nI (fl q0))]) (n := 3) (Nat.le_of_ble_eq_true rfl)
  rw [lg_entry_eq]
  generalize (lg_sl ([.ref h0, .int (nI (fl q0))]) ++ List.replicate (3 - (lg_sl ([.ref h0, .int (nI (fl q0))])).length) Slot.unset).toArray = ls at hl ⊢
  have hl : lv_has ls 3 [(0, .ref h0), (1, .int (nI (fl q0)))] := hl
  refine lv_aload_n hx hb dX0_quitLine_0 rfl (lv_at hl 0 rfl) ?_
  refine lv_iload_n hx hb dX0_quitLine_1 rfl (lv_at hl 1 rfl) ?_
  refine sc_i (wr := []) (wc := sw h0 aT aS aP aR aL cA N big n lp ft fs fp fr fl) (As := [.int (nI (fl q0))]) (rest := []) ⟨hx, hb, hml, hown, hts⟩ (kX0_placeOf l dC dI h0 aT aS aP aR aL cA cZ cJ s.heap.size N big n lp ft fs fp fr fl hN hn hfl q0 hq0) (cwV 1 hts gX0_quitLine_X0_placeOf rfl rfl rfl (by decide +kernel) ⟨Nat.le_of_ble_eq_true rfl, Nat.le_of_ble_eq_true rfl⟩) hK hP hD hS hA (va_recv hK hP (ci := 0) (q0 := 0) rfl rfl) rfl hl.1 rfl (Nat.le_of_ble_eq_true rfl) dX0_quitLine_2 ⟨Nat.zero_le _, Nat.zero_le _⟩ (fun r _ H locs hw hP hD hS => ?_)
  obtain ⟨k, hk, ek, rfl⟩ := hw
  refine lv_istore_n (lv' := [(2, .int (nI k)), (0, .ref h0), (1, .int (nI (fl q0)))]) hx hb dX0_quitLine_5 rfl hl (by decide) rfl (fun ls hl => ?_)
  refine lv_aload_n hx hb dX0_quitLine_6 rfl (lv_at hl 1 rfl) ?_
  refine va_get (D := (dC, dI)) (ci := 0) (v := .ref aL) (C := RX0) (T := TX0) (N := 9) hx hb hts wiX0_quitLine hown hK hP 0 rfl rfl 6 (by decide) (hts (.fieldLink RX0 35 "StrideHeap" "line" "[I") (by decide +kernel)) (fun _ h9 => h9) rfl dX0_quitLine_7 ?_
  refine lv_iload_n hx hb dX0_quitLine_10 rfl (lv_at hl 0 rfl) ?_
  refine lv_iconst (v := nI 1) hx hb dX0_quitLine_11 (by decide) ?_
  refine sr_iadd hx hb dX0_quitLine_12 ?_
  refine lv_aload_n hx hb dX0_quitLine_13 rfl (lv_at hl 1 rfl) ?_
  refine va_get (D := (dC, dI)) (ci := 0) (v := .ref aL) (C := RX0) (T := TX0) (N := 9) hx hb hts wiX0_quitLine hown hK hP 0 rfl rfl 6 (by decide) (hts (.fieldLink RX0 35 "StrideHeap" "line" "[I") (by decide +kernel)) (fun _ h9 => h9) rfl dX0_quitLine_14 ?_
  refine lv_iload_n hx hb dX0_quitLine_17 rfl (lv_at hl 0 rfl) ?_
  refine lv_aload_n hx hb dX0_quitLine_18 rfl (lv_at hl 1 rfl) ?_
  refine va_get (D := (dC, dI)) (ci := 0) (v := .int (nI n)) (C := RX0) (T := TX0) (N := 9) hx hb hts wiX0_quitLine hown hK hP 0 rfl rfl 7 (by decide) (hts (.fieldLink RX0 38 "StrideHeap" "inLine" "I") (by decide +kernel)) (fun _ h9 => h9) rfl dX0_quitLine_19 ?_
  refine lv_iload_n hx hb dX0_quitLine_22 rfl (lv_at hl 0 rfl) ?_
  refine sr_isub hx hb (by omega) dX0_quitLine_23 ?_
  refine lv_iconst (v := nI 1) hx hb dX0_quitLine_24 (by decide) ?_
  refine sr_isub hx hb (by omega) dX0_quitLine_25 ?_
  refine sr_cpy hx hb (by rw [hml]; exact hl.1.symm) hown (hts (.methodLink RX0 77 arraycopyName) (by decide +kernel)) (hts (.native arraycopyName) (by decide +kernel)) (hts (.static arraycopyName) (by decide +kernel)) (hts (.initialized "java/lang/System") (by decide +kernel)) hK hP hD hS 5 0 rfl rfl (sp := k + 1) (dp := k) (k := (n - k) - 1) (by omega) (by omega) (by omega) (Nat.le_of_ble_eq_true rfl) (Nat.le_of_ble_eq_true rfl) dX0_quitLine_26 (fun H locs hP hD hS => ?_)
  have hP : va_P (dC, dI) vwCl (sw h0 aT aS aP aR aL cA N big n lp ft fs fp fr (va_cpy fl fl (k + 1) k ((n - k) - 1))) H := hP
  have hD : va_D A (sw h0 aT aS aP aR aL cA N big n lp ft fs fp fr (va_cpy fl fl (k + 1) k ((n - k) - 1))) := hD
  refine lv_aload_n hx hb dX0_quitLine_29 rfl (lv_at hl 1 rfl) ?_
  refine lv_dup hx hb dX0_quitLine_30 rfl ?_
  refine va_get (D := (dC, dI)) (ci := 0) (v := .int (nI n)) (C := RX0) (T := TX0) (N := 9) hx hb hts wiX0_quitLine hown hK hP 0 rfl rfl 7 (by decide) (hts (.fieldLink RX0 38 "StrideHeap" "inLine" "I") (by decide +kernel)) (fun _ h9 => h9) rfl dX0_quitLine_31 ?_
  refine lv_iconst (v := nI 1) hx hb dX0_quitLine_34 (by decide) ?_
  refine sr_isub hx hb (by omega) dX0_quitLine_35 ?_
  refine va_put (D := (dC, dI)) (ci := 0) (v := .int (nI (n - 1))) (ty := .int) (C := RX0) (T := TX0) (N := 9) hx hb hts wiX0_quitLine tyX0 tyX0_ok nmX0 hown hK hP hD hS 0 rfl rfl 7 (by decide) (hts (.fieldLink RX0 38 "StrideHeap" "inLine" "I") (by decide +kernel)) (fun _ h9 => h9) rfl (by decide +kernel) rfl rfl (Nat.le_of_ble_eq_true rfl) dX0_quitLine_36 (fun H locs hP hD hS => ?_)
  have hP : va_P (dC, dI) vwCl (sw h0 aT aS aP aR aL cA N big (n - 1) lp ft fs fp fr (va_cpy fl fl (k + 1) k ((n - k) - 1))) H := hP
  have hD : va_D A (sw h0 aT aS aP aR aL cA N big (n - 1) lp ft fs fp fr (va_cpy fl fl (k + 1) k ((n - k) - 1))) := hD
  exact W.vret hx hb hr (fun t ht hW => ⟨⟨(va_cpy fl fl (k + 1) k (n - k - 1)), rfl, ⟨k, hk, ek, fun i hi => by simp only [va_cpy]; rw [if_neg (by omega)], fun i hi hi2 => by simp only [va_cpy]; rw [if_pos (by omega), show k + 1 + (i - k) = i + 1 by omega]⟩, by rw [ht]; exact hP, hD⟩, hS.F ht⟩) hS.2.2 dX0_quitLine_39
set_option maxHeartbeats 4000000 in
set_option maxRecDepth 100000 in
/-- enterLine(j): in front, then back to its place -/
theorem kX0_enterLine (l : Launch) (dC : Nat → ClassId) (dI : Nat → Nat → Nat) (h0 aT aS aP aR aL : Nat) (cA cZ cJ : ClassId) (sz N big n lp : Nat) (ft fs fp fr fl : Nat → Nat) (hN : N ≤ 64) (hn : n < N) (hfp : ∀ c, fp c < 2 ^ 31) (hfl : ∀ i, i < n → fl i < N) (j : Nat) (hj : j < N) : Met l yX0_enterLine wsX0_enterLine ({ frames := 2, cells := 0, slots := 0, locals := 44 }) (va_Pc [.ref h0, .int (nI j)] (sB dC dI (ty3 cA cZ cJ) sz (sw h0 aT aS aP aR aL cA N big n lp ft fs fp fr fl))) (va_Qv (fun u : (Nat → Nat) => ∃ M k, M 0 = j ∧ (∀ i, i < n → M (i + 1) = fl i) ∧ sh_rot fp M u (n + 1) k) (fun u => sE dC dI (va_A (sw h0 aT aS aP aR aL cA N big n lp ft fs fp fr fl) sz) (sw h0 aT aS aP aR aL cA N big (n + 1) lp ft fs fp fr u)) (va_A (sw h0 aT aS aP aR aL cA N big n lp ft fs fp fr fl) sz)) 0 0 (va_A (sw h0 aT aS aP aR aL cA N big n lp ft fs fp fr fl) sz) := by
  refine Met.ofW (cc := cX0_enterLine) (maxL := 2) (ret := none) (by decide) rfl ?_
  intro p e s m args below meth c s₁ B hml hv
  obtain ⟨rfl, hsz, hP, hK, hD0⟩ := hv
  have hx := B.exec
  have hb := B.bytes
  have hr := B.returns
  have hts := atoms_spec (ws := wsX0_enterLine) B.pre
  have hown : s.vm.findClass RX0 = some m.cls := findClass_of_methodNamed B.named
  have hlocks := B.notSynchronized
  subst hsz
  have hD := hD0.self (sz := s.heap.size)
  generalize hAe : va_A (sw h0 aT aS aP aR aL cA N big n lp ft fs fp fr fl) s.heap.size = A at hD ⊢
  have hA : ∀ q : Nat, s.heap.size ≤ q → A q := fun q h => by rw [← hAe]; exact Or.inr h
  have hS : va_S A s.heap s.heap [] := va_S.rf
  have hl := lv_entry ([.ref h0, .int (nI j)]) (n := 2) (Nat.le_of_ble_eq_true rfl)
  rw [lg_entry_eq]
  generalize (lg_sl ([.ref h0, .int (nI j)]) ++ List.replicate (2 - (lg_sl ([.ref h0, .int (nI j)])).length) Slot.unset).toArray = ls at hl ⊢
  have hl : lv_has ls 2 [(0, .ref h0), (1, .int (nI j))] := hl
  refine lv_aload_n hx hb dX0_enterLine_0 rfl (lv_at hl 0 rfl) ?_
  refine va_get (D := (dC, dI)) (ci := 0) (v := .ref aL) (C := RX0) (T := TX0) (N := 9) hx hb hts wiX0_enterLine hown hK hP 0 rfl rfl 6 (by decide) (hts (.fieldLink RX0 35 "StrideHeap" "line" "[I") (by decide +kernel)) (fun _ h9 => h9) rfl dX0_enterLine_1 ?_
  refine lv_iconst (v := nI 0) hx hb dX0_enterLine_4 (by decide) ?_
  refine lv_aload_n hx hb dX0_enterLine_5 rfl (lv_at hl 0 rfl) ?_
  refine va_get (D := (dC, dI)) (ci := 0) (v := .ref aL) (C := RX0) (T := TX0) (N := 9) hx hb hts wiX0_enterLine hown hK hP 0 rfl rfl 6 (by decide) (hts (.fieldLink RX0 35 "StrideHeap" "line" "[I") (by decide +kernel)) (fun _ h9 => h9) rfl dX0_enterLine_6 ?_
  refine lv_iconst (v := nI 1) hx hb dX0_enterLine_9 (by decide) ?_
  refine lv_aload_n hx hb dX0_enterLine_10 rfl (lv_at hl 0 rfl) ?_
  refine va_get (D := (dC, dI)) (ci := 0) (v := .int (nI n)) (C := RX0) (T := TX0) (N := 9) hx hb hts wiX0_enterLine hown hK hP 0 rfl rfl 7 (by decide) (hts (.fieldLink RX0 38 "StrideHeap" "inLine" "I") (by decide +kernel)) (fun _ h9 => h9) rfl dX0_enterLine_11 ?_
  refine sr_cpy hx hb (by rw [hml]; exact hl.1.symm) hown (hts (.methodLink RX0 77 arraycopyName) (by decide +kernel)) (hts (.native arraycopyName) (by decide +kernel)) (hts (.static arraycopyName) (by decide +kernel)) (hts (.initialized "java/lang/System") (by decide +kernel)) hK hP hD hS 5 0 rfl rfl (sp := 0) (dp := 1) (k := n) (by omega) (by omega) (by omega) (Nat.le_of_ble_eq_true rfl) (Nat.le_of_ble_eq_true rfl) dX0_enterLine_14 (fun H locs hP hD hS => ?_)
  have hP : va_P (dC, dI) vwCl (sw h0 aT aS aP aR aL cA N big n lp ft fs fp fr (va_cpy fl fl 0 1 n)) H := hP
  have hD : va_D A (sw h0 aT aS aP aR aL cA N big n lp ft fs fp fr (va_cpy fl fl 0 1 n)) := hD
  refine lv_aload_n hx hb dX0_enterLine_17 rfl (lv_at hl 0 rfl) ?_
  refine va_get (D := (dC, dI)) (ci := 0) (v := .ref aL) (C := RX0) (T := TX0) (N := 9) hx hb hts wiX0_enterLine hown hK hP 0 rfl rfl 6 (by decide) (hts (.fieldLink RX0 35 "StrideHeap" "line" "[I") (by decide +kernel)) (fun _ h9 => h9) rfl dX0_enterLine_18 ?_
  refine lv_iconst (v := nI 0) hx hb dX0_enterLine_21 (by decide) ?_
  refine lv_iload_n hx hb dX0_enterLine_22 rfl (lv_at hl 1 rfl) ?_
  refine sr_ast hx hb hK hP hD hS 5 0 rfl rfl (k := 0) (v := j) (by omega) (by omega) dX0_enterLine_23 (fun H locs hP hD hS => ?_)
  have hP : va_P (dC, dI) vwCl (sw h0 aT aS aP aR aL cA N big n lp ft fs fp fr (sh_up (va_cpy fl fl 0 1 n) 0 j)) H := hP
  have hD : va_D A (sw h0 aT aS aP aR aL cA N big n lp ft fs fp fr (sh_up (va_cpy fl fl 0 1 n) 0 j)) := hD
  refine lv_aload_n hx hb dX0_enterLine_24 rfl (lv_at hl 0 rfl) ?_
  refine lv_dup hx hb dX0_enterLine_25 rfl ?_
  refine va_get (D := (dC, dI)) (ci := 0) (v := .int (nI n)) (C := RX0) (T := TX0) (N := 9) hx hb hts wiX0_enterLine hown hK hP 0 rfl rfl 7 (by decide) (hts (.fieldLink RX0 38 "StrideHeap" "inLine" "I") (by decide +kernel)) (fun _ h9 => h9) rfl dX0_enterLine_26 ?_
  refine lv_iconst (v := nI 1) hx hb dX0_enterLine_29 (by decide) ?_
  refine sr_iadd hx hb dX0_enterLine_30 ?_
  refine va_put (D := (dC, dI)) (ci := 0) (v := .int (nI (n + 1))) (ty := .int) (C := RX0) (T := TX0) (N := 9) hx hb hts wiX0_enterLine tyX0 tyX0_ok nmX0 hown hK hP hD hS 0 rfl rfl 7 (by decide) (hts (.fieldLink RX0 38 "StrideHeap" "inLine" "I") (by decide +kernel)) (fun _ h9 => h9) rfl (by decide +kernel) rfl rfl (Nat.le_of_ble_eq_true rfl) dX0_enterLine_31 (fun H locs hP hD hS => ?_)
  have hP : va_P (dC, dI) vwCl (sw h0 aT aS aP aR aL cA N big (n + 1) lp ft fs fp fr (sh_up (va_cpy fl fl 0 1 n) 0 j)) H := hP
  have hD : va_D A (sw h0 aT aS aP aR aL cA N big (n + 1) lp ft fs fp fr (sh_up (va_cpy fl fl 0 1 n) 0 j)) := hD
  refine lv_aload_n hx hb dX0_enterLine_34 rfl (lv_at hl 0 rfl) ?_
  obtain ⟨M, hM⟩ : ∃ M, M = sh_up (va_cpy fl fl 0 1 n) 0 j := ⟨_, rfl⟩
  rw [← hM] at hP hD
  have hM0 : M 0 = j := by rw [hM, sh_up_s]
  have hM1 : ∀ i, i < n → M (i + 1) = fl i := fun i hi => by rw [hM, sh_up_n _ _ (by omega)]; simp only [va_cpy]; rw [if_pos (by omega), show 0 + (i + 1 - 1) = i by omega]
  refine sc_v (wr := []) (wc := sw h0 aT aS aP aR aL cA N big (n + 1) lp ft fs fp fr M) (As := []) (rest := []) ⟨hx, hb, hml, hown, hts⟩ (kX0_settleFirst l dC dI h0 aT aS aP aR aL cA cZ cJ H.size N big (n + 1) lp ft fs fp fr M hN (by omega) (by omega) hfp (fun i hi => by
      cases i with
      | zero => rw [hM0]; exact hj
      | succ i => rw [hM1 i (by omega)]; exact hfl i (by omega))) (cwV 0 hts gX0_enterLine_X0_settleFirst rfl rfl rfl (by decide +kernel) ⟨Nat.le_of_ble_eq_true rfl, Nat.le_of_ble_eq_true rfl⟩) hK hP hD hS hA (va_recv hK hP (ci := 0) (q0 := 0) rfl rfl) rfl hl.1 rfl (Nat.le_of_ble_eq_true rfl) dX0_enterLine_35 ⟨Nat.zero_le _, Nat.zero_le _⟩ (fun u H locs hw hP hD hS => ?_)
  obtain ⟨k, hk⟩ := hw
  exact W.vret hx hb hr (fun t ht hW => ⟨⟨u, rfl, ⟨M, k, hM0, hM1, hk⟩, by rw [ht]; exact hP, hD⟩, hS.F ht⟩) hS.2.2 dX0_enterLine_38
end
section
-- WHAT EACH CALL ANSWERS (2)
theorem cnt_congr {u v : Nat → Nat} : ∀ N, (∀ d, d < N → (0 < u d ↔ 0 < v d)) → sh_cnt u N = sh_cnt v N
  | 0, _ => rfl
  | k + 1, h => by
    simp only [sh_cnt]
    rw [cnt_congr k (fun d hd => h d (by omega))]
    by_cases q : 0 < u k
    · rw [if_pos q, if_pos ((h k (by omega)).mp q)]
    · rw [if_neg q, if_neg (fun z => q ((h k (by omega)).mpr z))]
theorem cnt_none : ∀ N, sh_cnt (fun _ => 0) N = 0
  | 0 => rfl
  | k + 1 => by simp [sh_cnt, cnt_none k]
theorem rk_cnt (t p : Nat → Nat) (c : Nat) : ∀ N, sh_rk t p c N = sh_cnt (fun d => if 0 < t c ∧ 0 < t d ∧ d ≠ c ∧ sh_bf p d c then 1 else 0) N
  | 0 => rfl
  | k + 1 => by
    simp only [sh_rk, sh_cnt]
    rw [rk_cnt t p c k]
    by_cases q : 0 < t c ∧ 0 < t k ∧ k ≠ c ∧ sh_bf p k c
    · rw [if_pos q, if_pos (by rw [if_pos q]; omega)]
    · rw [if_neg q, if_neg (by rw [if_neg q]; omega), Nat.add_zero]
theorem ind_I {N n : Nat} {t p L : Nat → Nat} (h : sh_I N t p L n) : ∀ i, i ≤ n → ∃ u : Nat → Nat, (∀ d, 0 < u d ↔ ∃ j, j < i ∧ L j = d) ∧ sh_cnt u N = i
  | 0, _ => ⟨fun _ => 0, fun d => ⟨fun q => absurd q (Nat.lt_irrefl 0), fun ⟨j, hj, _⟩ => absurd hj (by omega)⟩, cnt_none N⟩
  | i + 1, hi => by
    obtain ⟨u, h1, h2⟩ := ind_I h i (by omega)
    have h0 : u (L i) = 0 := by
      rcases Nat.eq_zero_or_pos (u (L i)) with q | q
      · exact q
      · obtain ⟨j, hj, e⟩ := (h1 _).mp q
        have := I_inj h (by omega) (by omega) e
        omega
    refine ⟨sh_up u (L i) 1, fun d => ?_, by rw [cnt_in u h0 (by omega) N (h.2.1 i (by omega)).1, h2]⟩
    by_cases q : d = L i
    · subst q
      rw [sh_up_s]
      exact ⟨fun _ => ⟨i, by omega, rfl⟩, fun _ => by omega⟩
    · rw [sh_up_n u 1 q, h1]
      constructor
      · rintro ⟨j, hj, e⟩
        exact ⟨j, by omega, e⟩
      · rintro ⟨j, hj, e⟩
        refine ⟨j, ?_, e⟩
        rcases Nat.lt_or_ge j i with z | z
        · exact z
        · exact absurd (by rw [← e, show j = i by omega]) q
theorem rk_I {N n i : Nat} {t p L : Nat → Nat} (h : sh_I N t p L n) (hi : i < n) : sh_rk t p (L i) N = i := by
  obtain ⟨u, h1, h2⟩ := ind_I h i (by omega)
  rw [rk_cnt]
  refine Eq.trans (cnt_congr N (fun d hd => ?_)) h2
  rw [h1]
  constructor
  · intro q
    by_cases z : 0 < t (L i) ∧ 0 < t d ∧ d ≠ L i ∧ sh_bf p d (L i)
    · obtain ⟨j, hj, e⟩ := h.2.2.2 d hd z.2.1
      refine ⟨j, ?_, e⟩
      rcases Nat.lt_trichotomy j i with w | w | w
      · exact w
      · exact absurd (by rw [← e, w]) z.2.2.1
      · have := h.2.2.1 i j w hj
        rw [e] at this
        exact absurd z.2.2.2 (bf_asym this)
    · rw [if_neg z] at q
      omega
  · rintro ⟨j, hj, e⟩
    have hb := h.2.2.1 j i hj hi
    rw [e] at hb
    rw [if_pos ⟨(h.2.1 i hi).2, by rw [← e]; exact (h.2.1 j (by omega)).2, bf_ne hb, hb⟩]
    omega
/-- who stands at place k: one alone -/
theorem rk_un {N n k c d : Nat} {t p L : Nat → Nat} (h : sh_I N t p L n) (hc : c < N) (hct : 0 < t c) (hk : sh_rk t p c N = k) (hd : d < N) (hdt : 0 < t d) (hk2 : sh_rk t p d N = k) : c = d := by
  obtain ⟨i, hi, rfl⟩ := h.2.2.2 c hc hct
  obtain ⟨j, hj, rfl⟩ := h.2.2.2 d hd hdt
  rw [rk_I h hi] at hk
  rw [rk_I h hj] at hk2
  rw [hk, hk2]
theorem fi_n0 {N n : Nat} {t p L : Nat → Nat} (h : sh_I N t p L n) (hn : n = 0) : sh_fi t p N = 0 := by
  subst hn
  exact fi_I0 h
/-- who has the next turn, if it goes -/
def sp_go (N big : Nat) (ft fp : Nat → Nat) : Option Nat := match sh_fi ft fp N with
  | 0 => none
  | b + 1 => if 2147483647 < fp b + big / ft b then none else some b
def sp_no (N : Nat) (ft fp : Nat → Nat) : Int32 := if sh_fi ft fp N = 0 then -1 else -2
theorem no_neg (N : Nat) (ft fp : Nat → Nat) : sp_no N ft fp < 0 := by
  unfold sp_no
  split <;> decide
theorem go_0 {N big : Nat} {ft fp : Nat → Nat} (h : sh_fi ft fp N = 0) : sp_go N big ft fp = none ∧ sp_no N ft fp = -1 := by
  unfold sp_go sp_no
  rw [h]
  exact ⟨rfl, rfl⟩
theorem go_far {N big b : Nat} {ft fp : Nat → Nat} (h : sh_fi ft fp N = b + 1) (h2 : 2147483647 < fp b + big / ft b) : sp_go N big ft fp = none ∧ sp_no N ft fp = -2 := by
  unfold sp_go sp_no
  rw [h]
  exact ⟨if_pos h2, rfl⟩
theorem go_ok {N big b : Nat} {ft fp : Nat → Nat} (h : sh_fi ft fp N = b + 1) (h2 : fp b + big / ft b ≤ 2147483647) : sp_go N big ft fp = some b := by
  unfold sp_go
  rw [h]
  exact if_neg (by omega)
/-- so many turns: how many went, the passes and counts behind them -/
def sp_turn (N big : Nat) (ft : Nat → Nat) : Nat → (Nat → Nat) → (Nat → Nat) → Nat × (Nat → Nat) × (Nat → Nat)
  | 0, fp, fr => (0, fp, fr)
  | k + 1, fp, fr => match sp_go N big ft fp with
    | none => (0, fp, fr)
    | some b => ((sp_turn N big ft k (sh_up fp b (fp b + big / ft b)) (sh_up fr b (fr b + 1))).1 + 1, (sp_turn N big ft k (sh_up fp b (fp b + big / ft b)) (sh_up fr b (fr b + 1))).2)
theorem turn_none {N big : Nat} {ft fp fr : Nat → Nat} (h : sp_go N big ft fp = none) : ∀ k, sp_turn N big ft k fp fr = (0, fp, fr)
  | 0 => rfl
  | k + 1 => by simp only [sp_turn]; rw [h]
theorem turn_some {N big b : Nat} {ft fp fr : Nat → Nat} (h : sp_go N big ft fp = some b) (k : Nat) : sp_turn N big ft (k + 1) fp fr = ((sp_turn N big ft k (sh_up fp b (fp b + big / ft b)) (sh_up fr b (fr b + 1))).1 + 1, (sp_turn N big ft k (sh_up fp b (fp b + big / ft b)) (sh_up fr b (fr b + 1))).2) := by
  rw [sp_turn, h]
theorem le_1000 {x : Int32} : x ≤ nI 1000 ↔ ¬ nI 1001 ≤ x := by
  rw [Int32.le_iff_toInt_le, Int32.le_iff_toInt_le, nI_toInt (by decide), nI_toInt (by decide)]
  omega
def sp_ps (N lp : Nat) (ft fp : Nat → Nat) : Nat := match sh_fi ft fp N with
  | 0 => lp
  | b + 1 => fp b
theorem ps_lt {N lp : Nat} {ft fp : Nat → Nat} (h1 : lp < 2 ^ 31) (h2 : ∀ c, fp c < 2 ^ 31) : sp_ps N lp ft fp < 2 ^ 31 := by
  unfold sp_ps
  split
  · exact h1
  · exact h2 _
theorem ps_I {N n lp : Nat} {t p L : Nat → Nat} (h : sh_I N t p L n) : sp_ps N lp t p = if n = 0 then lp else p (L 0) := by
  unfold sp_ps
  by_cases q : n = 0
  · rw [fi_n0 h q, if_pos q]
  · rw [fi_I h (by omega), if_neg q]
def sp_join (N big : Nat) (ft : Nat → Nat) (x y : Int32) : Int32 × Option (Nat × Nat) := match sh_ix N x with
  | none => (-1, none)
  | some j => if 0 < ft j then (-2, none) else match sh_ix big y with
    | some (k + 1) => (1, some (j, k + 1))
    | _ => (-3, none)
def sp_leave (N : Nat) (ft : Nat → Nat) (x : Int32) : Int32 × Option Nat := match sh_ix N x with
  | none => (-1, none)
  | some j => if 0 < ft j then (1, some j) else (-2, none)
def sp_change (N big : Nat) (ft : Nat → Nat) (x y : Int32) : Int32 × Option (Nat × Nat) := match sh_ix N x with
  | none => (-1, none)
  | some j => if 0 < ft j then (match sh_ix big y with
    | some (k + 1) => (nI (ft j), some (j, k + 1))
    | _ => (-3, none)) else (-2, none)
theorem join_1 {N big : Nat} {ft : Nat → Nat} {x y : Int32} (h : sh_ix N x = none) : sp_join N big ft x y = (-1, none) := by
  unfold sp_join; rw [h]
theorem join_2 {N big j : Nat} {ft : Nat → Nat} {y : Int32} (hj : j < N) (hN : N ≤ 64) (h : 0 < ft j) : sp_join N big ft (nI j) y = (-2, none) := by
  unfold sp_join; rw [ix_in hj (by omega)]; exact if_pos h
theorem join_3 {N big j : Nat} {ft : Nat → Nat} {y : Int32} (hj : j < N) (hN : N ≤ 64) (h : ft j = 0) (hy : sh_ix big y = none ∨ sh_ix big y = some 0) : sp_join N big ft (nI j) y = (-3, none) := by
  unfold sp_join; rw [ix_in hj (by omega)]; simp only []; rw [if_neg (by omega)]
  rcases hy with q | q <;> rw [q]
theorem join_4 {N big j k : Nat} {ft : Nat → Nat} (hj : j < N) (hN : N ≤ 64) (h : ft j = 0) (hk : 0 < k) (hkb : k < big) (hb : big ≤ 32768) : sp_join N big ft (nI j) (nI k) = (1, some (j, k)) := by
  unfold sp_join; rw [ix_in hj (by omega)]; simp only []; rw [if_neg (by omega), ix_in hkb (by omega)]
  obtain ⟨k, rfl⟩ : ∃ z, k = z + 1 := ⟨k - 1, by omega⟩
  rfl
theorem leave_1 {N : Nat} {ft : Nat → Nat} {x : Int32} (h : sh_ix N x = none) : sp_leave N ft x = (-1, none) := by
  unfold sp_leave; rw [h]
theorem leave_2 {N j : Nat} {ft : Nat → Nat} (hj : j < N) (hN : N ≤ 64) (h : ft j = 0) : sp_leave N ft (nI j) = (-2, none) := by
  unfold sp_leave; rw [ix_in hj (by omega)]; exact if_neg (by omega)
theorem leave_3 {N j : Nat} {ft : Nat → Nat} (hj : j < N) (hN : N ≤ 64) (h : 0 < ft j) : sp_leave N ft (nI j) = (1, some j) := by
  unfold sp_leave; rw [ix_in hj (by omega)]; exact if_pos h
theorem change_1 {N big : Nat} {ft : Nat → Nat} {x y : Int32} (h : sh_ix N x = none) : sp_change N big ft x y = (-1, none) := by
  unfold sp_change; rw [h]
theorem change_2 {N big j : Nat} {ft : Nat → Nat} {y : Int32} (hj : j < N) (hN : N ≤ 64) (h : ft j = 0) : sp_change N big ft (nI j) y = (-2, none) := by
  unfold sp_change; rw [ix_in hj (by omega)]; exact if_neg (by omega)
theorem change_3 {N big j : Nat} {ft : Nat → Nat} {y : Int32} (hj : j < N) (hN : N ≤ 64) (h : 0 < ft j) (hy : sh_ix big y = none ∨ sh_ix big y = some 0) : sp_change N big ft (nI j) y = (-3, none) := by
  unfold sp_change; rw [ix_in hj (by omega)]; simp only []; rw [if_pos h]
  rcases hy with q | q <;> rw [q]
theorem change_4 {N big j k : Nat} {ft : Nat → Nat} (hj : j < N) (hN : N ≤ 64) (h : 0 < ft j) (hk : 0 < k) (hkb : k < big) (hb : big ≤ 32768) : sp_change N big ft (nI j) (nI k) = (nI (ft j), some (j, k)) := by
  unfold sp_change; rw [ix_in hj (by omega)]; simp only []; rw [if_pos h, ix_in hkb (by omega)]
  obtain ⟨k, rfl⟩ : ∃ z, k = z + 1 := ⟨k - 1, by omega⟩
  rfl
def sp_ran (N : Nat) (fr : Nat → Nat) (x : Int32) : Int32 := match sh_ix N x with
  | none => -1
  | some j => nI (fr j)
def sp_pass (N : Nat) (ft fp : Nat → Nat) (x : Int32) : Int32 := match sh_ix N x with
  | none => -1
  | some j => if 0 < ft j then nI (fp j) else -1
theorem ran_1 {N : Nat} {fr : Nat → Nat} {x : Int32} (h : sh_ix N x = none) : sp_ran N fr x = -1 := by
  unfold sp_ran; rw [h]
theorem ran_2 {N j : Nat} {fr : Nat → Nat} (hj : j < N) (hN : N ≤ 64) : sp_ran N fr (nI j) = nI (fr j) := by
  unfold sp_ran; rw [ix_in hj (by omega)]
theorem pass_1 {N : Nat} {ft fp : Nat → Nat} {x : Int32} (h : sh_ix N x = none) : sp_pass N ft fp x = -1 := by
  unfold sp_pass; rw [h]
theorem pass_2 {N j : Nat} {ft fp : Nat → Nat} (hj : j < N) (hN : N ≤ 64) (h : ft j = 0) : sp_pass N ft fp (nI j) = -1 := by
  unfold sp_pass; rw [ix_in hj (by omega)]; exact if_neg (by omega)
theorem pass_3 {N j : Nat} {ft fp : Nat → Nat} (hj : j < N) (hN : N ≤ 64) (h : 0 < ft j) : sp_pass N ft fp (nI j) = nI (fp j) := by
  unfold sp_pass; rw [ix_in hj (by omega)]; exact if_pos h
def sp_spread (N : Nat) (ft fp : Nat → Nat) : Int32 := match sh_fi ft fp N with
  | 0 => -1
  | b + 1 => nI (sh_mx ft fp N - fp b)
-- how the class's state goes on
theorem V_turn {N big n lp k x : Nat} {ft fs fp fl L2 : Nat → Nat} (h : sh_V N big n lp ft fs fp fl) (hx : x < 2 ^ 31) (hr : sh_rot (sh_up fp (fl 0) x) fl L2 n k) : sh_V N big n lp ft fs (sh_up fp (fl 0) x) L2 := by
  obtain ⟨h1, h2, h3, h4, h5, h6, h7, h8, h9⟩ := h
  refine ⟨h1, h2, h3, h4, h5, fun c => ?_, h7, h8, I_turn h9 hr⟩
  by_cases q : c = fl 0
  · rw [q, sh_up_s]; exact hx
  · rw [sh_up_n fp x q]; exact h6 c
theorem V_join {N big n lp k c tk x : Nat} {ft fs fp fl M L2 : Nat → Nat} (h : sh_V N big n lp ft fs fp fl) (hc : c < N) (h0 : ft c = 0) (htk : 0 < tk) (htb : tk < big) (hx : x < 2 ^ 31) (hM0 : M 0 = c) (hM : ∀ i, i < n → M (i + 1) = fl i) (hr : sh_rot (sh_up fp c x) M L2 (n + 1) k) : sh_V N big (n + 1) lp (sh_up ft c tk) (sh_up fs c (big / tk)) (sh_up fp c x) L2 := by
  obtain ⟨h1, h2, h3, h4, h5, h6, h7, h8, h9⟩ := h
  refine ⟨h1, h2, h3, h4, h5, fun d => ?_, fun d => ?_, fun d => ?_, I_join h9 hc h0 htk hM0 hM hr⟩
  · by_cases q : d = c
    · rw [q, sh_up_s]; exact hx
    · rw [sh_up_n fp x q]; exact h6 d
  · by_cases q : d = c
    · rw [q, sh_up_s]; exact htb
    · rw [sh_up_n ft tk q]; exact h7 d
  · by_cases q : d = c
    · rw [q, sh_up_s, sh_up_s]; exact fun _ => rfl
    · rw [sh_up_n ft tk q, sh_up_n fs _ q]; exact h8 d
theorem V_leave {N big n lp k c : Nat} {ft fs fp fl L2 : Nat → Nat} (h : sh_V N big (n + 1) lp ft fs fp fl) (hk : k < n + 1) (hc : fl k = c) (h1 : ∀ i, i < k → L2 i = fl i) (h2 : ∀ i, k ≤ i → i < n → L2 i = fl (i + 1)) : sh_V N big n (fp c) (sh_up ft c 0) fs fp L2 := by
  obtain ⟨g1, g2, g3, g4, g5, g6, g7, g8, g9⟩ := h
  refine ⟨g1, g2, g3, g4, g6 c, g6, fun d => ?_, fun d => ?_, I_leave g9 hk hc h1 h2⟩
  · by_cases q : d = c
    · rw [q, sh_up_s]; omega
    · rw [sh_up_n ft 0 q]; exact g7 d
  · by_cases q : d = c
    · rw [q, sh_up_s]; intro z; omega
    · rw [sh_up_n ft 0 q]; exact g8 d
theorem V_change {N big n lp c tk : Nat} {ft fs fp fl : Nat → Nat} (h : sh_V N big n lp ft fs fp fl) (h0 : 0 < ft c) (htk : 0 < tk) (htb : tk < big) : sh_V N big n lp (sh_up ft c tk) (sh_up fs c (big / tk)) fp fl := by
  obtain ⟨g1, g2, g3, g4, g5, g6, g7, g8, g9⟩ := h
  refine ⟨g1, g2, g3, g4, g5, g6, fun d => ?_, fun d => ?_, I_change g9 h0 htk⟩
  · by_cases q : d = c
    · rw [q, sh_up_s]; exact htb
    · rw [sh_up_n ft tk q]; exact g7 d
  · by_cases q : d = c
    · rw [q, sh_up_s, sh_up_s]; exact fun _ => rfl
    · rw [sh_up_n ft tk q, sh_up_n fs _ q]; exact g8 d
end
section
-- THE CLASS: turns
set_option maxHeartbeats 4000000 in
set_option maxRecDepth 100000 in
/-- giveTurn(): the first has a turn -/
theorem kX0_giveTurn (l : Launch) (dC : Nat → ClassId) (dI : Nat → Nat → Nat) (h0 aT aS aP aR aL : Nat) (cA cZ cJ : ClassId) (sz N big n lp : Nat) (ft fs fp fr fl : Nat → Nat) (hV : sh_V N big n lp ft fs fp fl) : Met l yX0_giveTurn wsX0_giveTurn ({ frames := 2, cells := 0, slots := 0, locals := 44 }) (va_Pc [.ref h0] (sB dC dI (ty3 cA cZ cJ) sz (sw h0 aT aS aP aR aL cA N big n lp ft fs fp fr fl))) (va_Qi (fun (r : Int32) (u : ((Nat → Nat) × (Nat → Nat) × (Nat → Nat))) => (sp_go N big ft fp = none ∧ r = sp_no N ft fp ∧ u = (fp, fr, fl)) ∨ (∃ b, sp_go N big ft fp = some b ∧ b < N ∧ r = nI b ∧ u.1 = sh_up fp b (fp b + big / ft b) ∧ u.2.1 = sh_up fr b (fr b + 1) ∧ sh_V N big n lp ft fs u.1 u.2.2)) (fun u => sE dC dI (va_A (sw h0 aT aS aP aR aL cA N big n lp ft fs fp fr fl) sz) (sw h0 aT aS aP aR aL cA N big n lp ft fs u.1 u.2.1 u.2.2)) (va_A (sw h0 aT aS aP aR aL cA N big n lp ft fs fp fr fl) sz)) 0 0 (va_A (sw h0 aT aS aP aR aL cA N big n lp ft fs fp fr fl) sz) := by
  refine Met.ofW (cc := cX0_giveTurn) (maxL := 4) (ret := (some .int)) (by decide) rfl ?_
  intro p e s m args below meth c s₁ B hml hv
  obtain ⟨rfl, hsz, hP, hK, hD0⟩ := hv
  have hx := B.exec
  have hb := B.bytes
  have hr := B.returns
  have hts := atoms_spec (ws := wsX0_giveTurn) B.pre
  have hown : s.vm.findClass RX0 = some m.cls := findClass_of_methodNamed B.named
  have hlocks := B.notSynchronized
  subst hsz
  have hD := hD0.self (sz := s.heap.size)
  generalize hAe : va_A (sw h0 aT aS aP aR aL cA N big n lp ft fs fp fr fl) s.heap.size = A at hD ⊢
  have hA : ∀ q : Nat, s.heap.size ≤ q → A q := fun q h => by rw [← hAe]; exact Or.inr h
  have hS : va_S A s.heap s.heap [] := va_S.rf
  have hl := lv_entry ([.ref h0]) (n := 4) (Nat.le_of_ble_eq_true rfl)
  rw [lg_entry_eq]
  generalize (lg_sl ([.ref h0]) ++ List.replicate (4 - (lg_sl ([.ref h0])).length) Slot.unset).toArray = ls at hl ⊢
  have hl : lv_has ls 4 [(0, .ref h0)] := hl
  obtain ⟨hN0, hN, hb2, hbig, hlp, hfp, hft, hfs, hI⟩ := id hV
  have hnN : n ≤ N := by rw [hI.1]; exact cnt_le ft N
  have hfl : ∀ i, i < n → fl i < N := fun i hi => (hI.2.1 i hi).1
  have hft2 : ∀ c, ft c < 2 ^ 31 := fun c => by have := hft c; omega
  refine lv_aload_n hx hb dX0_giveTurn_0 rfl (lv_at hl 0 rfl) ?_
  refine va_get (D := (dC, dI)) (ci := 0) (v := .int (nI n)) (C := RX0) (T := TX0) (N := 9) hx hb hts wiX0_giveTurn hown hK hP 0 rfl rfl 7 (by decide) (hts (.fieldLink RX0 38 "StrideHeap" "inLine" "I") (by decide +kernel)) (fun _ h9 => h9) rfl dX0_giveTurn_1 ?_
  refine sr_if_ne (tgt := 9) hx hb (by omega) dX0_giveTurn_4 (by decide) (fun c1 => ?_) (fun c1 => ?_)
  · skip
    have hfl0 : fl 0 < N := hfl 0 c1
    have hi0 : 0 < ft (fl 0) := (hI.2.1 0 c1).2
    have efs : fs (fl 0) = big / ft (fl 0) := hfs _ hi0
    have hle : big / ft (fl 0) ≤ big := Nat.div_le_self _ _
    have hp0 := hfp (fl 0)
    have hfi : sh_fi ft fp N = fl 0 + 1 := fi_I hI c1
    refine lv_aload_n hx hb dX0_giveTurn_9 rfl (lv_at hl 0 rfl) ?_
    refine va_get (D := (dC, dI)) (ci := 0) (v := .ref aL) (C := RX0) (T := TX0) (N := 9) hx hb hts wiX0_giveTurn hown hK hP 0 rfl rfl 6 (by decide) (hts (.fieldLink RX0 35 "StrideHeap" "line" "[I") (by decide +kernel)) (fun _ h9 => h9) rfl dX0_giveTurn_10 ?_
    refine lv_iconst (v := nI 0) hx hb dX0_giveTurn_13 (by decide) ?_
    refine sr_ald hx hb hK hP 5 0 rfl rfl (k := 0) (by omega) (by omega) dX0_giveTurn_14 ?_
    refine lv_istore_n (lv' := [(1, .int (nI (fl 0))), (0, .ref h0)]) hx hb dX0_giveTurn_15 rfl hl (by decide) rfl (fun ls hl => ?_)
    refine lv_aload_n hx hb dX0_giveTurn_16 rfl (lv_at hl 1 rfl) ?_
    refine va_get (D := (dC, dI)) (ci := 0) (v := .ref aP) (C := RX0) (T := TX0) (N := 9) hx hb hts wiX0_giveTurn hown hK hP 0 rfl rfl 4 (by decide) (hts (.fieldLink RX0 29 "StrideHeap" "passes" "[I") (by decide +kernel)) (fun _ h9 => h9) rfl dX0_giveTurn_17 ?_
    refine lv_iload_n hx hb dX0_giveTurn_20 rfl (lv_at hl 0 rfl) ?_
    refine sr_ald hx hb hK hP 3 0 rfl rfl (k := fl 0) (by omega) (by omega) dX0_giveTurn_21 ?_
    refine lv_i2l hx hb dX0_giveTurn_22 (nI_l (by omega)) ?_
    refine lv_aload_n hx hb dX0_giveTurn_23 rfl (lv_at hl 1 rfl) ?_
    refine va_get (D := (dC, dI)) (ci := 0) (v := .ref aS) (C := RX0) (T := TX0) (N := 9) hx hb hts wiX0_giveTurn hown hK hP 0 rfl rfl 3 (by decide) (hts (.fieldLink RX0 26 "StrideHeap" "strides" "[I") (by decide +kernel)) (fun _ h9 => h9) rfl dX0_giveTurn_24 ?_
    refine lv_iload_n hx hb dX0_giveTurn_27 rfl (lv_at hl 0 rfl) ?_
    refine sr_ald hx hb hK hP 2 0 rfl rfl (k := fl 0) (by omega) (by omega) dX0_giveTurn_28 ?_
    refine lv_i2l hx hb dX0_giveTurn_29 (nI_l (by omega)) ?_
    refine sr_ladd hx hb dX0_giveTurn_30 ?_
    refine lv_lstore_n (lv' := [(2, .long (lN ((fp (fl 0)) + (fs (fl 0))))), (1, .int (nI (fl 0))), (0, .ref h0)]) hx hb dX0_giveTurn_31 rfl hl (by decide) rfl (fun ls hl => ?_)
    refine lv_lload_n hx hb dX0_giveTurn_32 rfl (lv_at hl 0 rfl) ?_
    refine lv_ldc2 (v := lN 2147483647) hx hb hown (hts (.constantLong RX0 72 (2147483647)) (by decide +kernel)) dX0_giveTurn_33 ?_
    refine sr_lle (tgt := 43) hx hb (by omega) (by decide) dX0_giveTurn_36 dX0_giveTurn_37 (by decide) (fun c2 => ?_) (fun c2 => ?_)
    · skip
      refine lv_aload_n hx hb dX0_giveTurn_43 rfl (lv_at hl 2 rfl) ?_
      refine va_get (D := (dC, dI)) (ci := 0) (v := .ref aP) (C := RX0) (T := TX0) (N := 9) hx hb hts wiX0_giveTurn hown hK hP 0 rfl rfl 4 (by decide) (hts (.fieldLink RX0 29 "StrideHeap" "passes" "[I") (by decide +kernel)) (fun _ h9 => h9) rfl dX0_giveTurn_44 ?_
      refine lv_iload_n hx hb dX0_giveTurn_47 rfl (lv_at hl 1 rfl) ?_
      refine lv_lload_n hx hb dX0_giveTurn_48 rfl (lv_at hl 0 rfl) ?_
      refine lv_l2i hx hb dX0_giveTurn_49 (lN_i _) ?_
      refine sr_ast hx hb hK hP hD hS 3 0 rfl rfl (k := fl 0) (v := (fp (fl 0)) + (fs (fl 0))) (by omega) (by omega) dX0_giveTurn_50 (fun H locs hP hD hS => ?_)
      have hP : va_P (dC, dI) vwCl (sw h0 aT aS aP aR aL cA N big n lp ft fs (sh_up fp (fl 0) ((fp (fl 0)) + (fs (fl 0)))) fr fl) H := hP
      have hD : va_D A (sw h0 aT aS aP aR aL cA N big n lp ft fs (sh_up fp (fl 0) ((fp (fl 0)) + (fs (fl 0)))) fr fl) := hD
      refine lv_aload_n hx hb dX0_giveTurn_51 rfl (lv_at hl 2 rfl) ?_
      refine va_get (D := (dC, dI)) (ci := 0) (v := .ref aR) (C := RX0) (T := TX0) (N := 9) hx hb hts wiX0_giveTurn hown hK hP 0 rfl rfl 5 (by decide) (hts (.fieldLink RX0 32 "StrideHeap" "ran" "[I") (by decide +kernel)) (fun _ h9 => h9) rfl dX0_giveTurn_52 ?_
      refine lv_iload_n hx hb dX0_giveTurn_55 rfl (lv_at hl 1 rfl) ?_
      refine lv_dup2_11 hx hb dX0_giveTurn_56 rfl rfl ?_
      refine sr_ald hx hb hK hP 4 0 rfl rfl (k := fl 0) (by omega) (by omega) dX0_giveTurn_57 ?_
      refine lv_iconst (v := nI 1) hx hb dX0_giveTurn_58 (by decide) ?_
      refine sr_iadd hx hb dX0_giveTurn_59 ?_
      refine sr_ast hx hb hK hP hD hS 4 0 rfl rfl (k := fl 0) (v := (fr (fl 0)) + 1) (by omega) (by omega) dX0_giveTurn_60 (fun H locs hP hD hS => ?_)
      have hP : va_P (dC, dI) vwCl (sw h0 aT aS aP aR aL cA N big n lp ft fs (sh_up fp (fl 0) ((fp (fl 0)) + (fs (fl 0)))) (sh_up fr (fl 0) ((fr (fl 0)) + 1)) fl) H := hP
      have hD : va_D A (sw h0 aT aS aP aR aL cA N big n lp ft fs (sh_up fp (fl 0) ((fp (fl 0)) + (fs (fl 0)))) (sh_up fr (fl 0) ((fr (fl 0)) + 1)) fl) := hD
      refine lv_aload_n hx hb dX0_giveTurn_61 rfl (lv_at hl 2 rfl) ?_
      have hfp2 : ∀ d, sh_up fp (fl 0) (fp (fl 0) + fs (fl 0)) d < 2 ^ 31 := fun d => by
        by_cases q : d = fl 0
        · rw [q, sh_up_s]; omega
        · rw [sh_up_n fp _ q]; exact hfp d
      refine sc_v (wr := []) (wc := sw h0 aT aS aP aR aL cA N big n lp ft fs (sh_up fp (fl 0) ((fp (fl 0)) + (fs (fl 0)))) (sh_up fr (fl 0) ((fr (fl 0)) + 1)) fl) (As := []) (rest := []) ⟨hx, hb, hml, hown, hts⟩ (kX0_settleFirst l dC dI h0 aT aS aP aR aL cA cZ cJ H.size N big n lp ft fs (sh_up fp (fl 0) ((fp (fl 0)) + (fs (fl 0)))) (sh_up fr (fl 0) ((fr (fl 0)) + 1)) fl hN c1 hnN hfp2 hfl) (cwV 0 hts gX0_giveTurn_X0_settleFirst rfl rfl rfl (by decide +kernel) ⟨Nat.le_of_ble_eq_true rfl, Nat.le_of_ble_eq_true rfl⟩) hK hP hD hS hA (va_recv hK hP (ci := 0) (q0 := 0) rfl rfl) rfl hl.1 rfl (Nat.le_of_ble_eq_true rfl) dX0_giveTurn_62 ⟨Nat.zero_le _, Nat.zero_le _⟩ (fun u H locs hw hP hD hS => ?_)
      obtain ⟨k, hk⟩ := hw
      refine lv_iload_n hx hb dX0_giveTurn_65 rfl (lv_at hl 1 rfl) ?_
      exact W.iret (v := nI (fl 0)) hx hb hr (fun t ht hW => ⟨⟨nI (fl 0), (sh_up fp (fl 0) (fp (fl 0) + fs (fl 0)), sh_up fr (fl 0) (fr (fl 0) + 1), u), rfl, Or.inr ⟨fl 0, go_ok hfi (by omega), hfl0, rfl, by rw [efs], rfl, V_turn hV (by omega) hk⟩, by rw [ht]; exact hP, hD⟩, hS.F ht⟩) hS.2.2 dX0_giveTurn_66
    · skip
      refine lv_bipush (v := (-2)) hx hb dX0_giveTurn_40 (by decide) ?_
      exact W.iret (v := (-2)) hx hb hr (fun t ht hW => ⟨⟨(-2), (fp, fr, fl), rfl, Or.inl ⟨(go_far hfi (by omega)).1, (go_far (big := big) hfi (by omega)).2.symm, rfl⟩, by rw [ht]; exact hP, hD⟩, hS.F ht⟩) hS.2.2 dX0_giveTurn_42
  · skip
    refine lv_iconst (v := (-1)) hx hb dX0_giveTurn_7 (by decide) ?_
    exact W.iret (v := (-1)) hx hb hr (fun t ht hW => ⟨⟨(-1), (fp, fr, fl), rfl, Or.inl ⟨(go_0 (fi_n0 hI c1)).1, (go_0 (big := big) (fi_n0 hI c1)).2.symm, rfl⟩, by rw [ht]; exact hP, hD⟩, hS.F ht⟩) hS.2.2 dX0_giveTurn_8
set_option maxHeartbeats 4000000 in
set_option maxRecDepth 100000 in
/-- next() -/
theorem kX0_next (l : Launch) (dC : Nat → ClassId) (dI : Nat → Nat → Nat) (h0 aT aS aP aR aL : Nat) (cA cZ cJ : ClassId) (sz N big n lp : Nat) (ft fs fp fr fl : Nat → Nat) (hV : sh_V N big n lp ft fs fp fl) : Met l yX0_next wsX0_next ({ frames := 3, cells := 0, slots := 0, locals := 67 }) (va_Pc [.ref h0] (sB dC dI (ty3 cA cZ cJ) sz (sw h0 aT aS aP aR aL cA N big n lp ft fs fp fr fl))) (va_Qi (fun (r : Int32) (u : ((Nat → Nat) × (Nat → Nat) × (Nat → Nat))) => (sp_go N big ft fp = none ∧ r = sp_no N ft fp ∧ u = (fp, fr, fl)) ∨ (∃ b, sp_go N big ft fp = some b ∧ b < N ∧ r = nI b ∧ u.1 = sh_up fp b (fp b + big / ft b) ∧ u.2.1 = sh_up fr b (fr b + 1) ∧ sh_V N big n lp ft fs u.1 u.2.2)) (fun u => sE dC dI (va_A (sw h0 aT aS aP aR aL cA N big n lp ft fs fp fr fl) sz) (sw h0 aT aS aP aR aL cA N big n lp ft fs u.1 u.2.1 u.2.2)) (va_A (sw h0 aT aS aP aR aL cA N big n lp ft fs fp fr fl) sz)) 0 0 (va_A (sw h0 aT aS aP aR aL cA N big n lp ft fs fp fr fl) sz) := by
  refine Met.ofW (cc := cX0_next) (maxL := 1) (ret := (some .int)) (by decide) rfl ?_
  intro p e s m args below meth c s₁ B hml hv
  obtain ⟨rfl, hsz, hP, hK, hD0⟩ := hv
  have hx := B.exec
  have hb := B.bytes
  have hr := B.returns
  have hts := atoms_spec (ws := wsX0_next) B.pre
  have hown : s.vm.findClass RX0 = some m.cls := findClass_of_methodNamed B.named
  have hlocks := B.notSynchronized
  subst hsz
  have hD := hD0.self (sz := s.heap.size)
  generalize hAe : va_A (sw h0 aT aS aP aR aL cA N big n lp ft fs fp fr fl) s.heap.size = A at hD ⊢
  have hA : ∀ q : Nat, s.heap.size ≤ q → A q := fun q h => by rw [← hAe]; exact Or.inr h
  have hS : va_S A s.heap s.heap [] := va_S.rf
  have hl := lv_entry ([.ref h0]) (n := 1) (Nat.le_of_ble_eq_true rfl)
  rw [lg_entry_eq]
  generalize (lg_sl ([.ref h0]) ++ List.replicate (1 - (lg_sl ([.ref h0])).length) Slot.unset).toArray = ls at hl ⊢
  have hl : lv_has ls 1 [(0, .ref h0)] := hl
  refine lv_aload_n hx hb dX0_next_0 rfl (lv_at hl 0 rfl) ?_
  refine sc_i (wr := []) (wc := sw h0 aT aS aP aR aL cA N big n lp ft fs fp fr fl) (As := []) (rest := []) ⟨hx, hb, hml, hown, hts⟩ (kX0_giveTurn l dC dI h0 aT aS aP aR aL cA cZ cJ s.heap.size N big n lp ft fs fp fr fl hV) (cwV 0 hts gX0_next_X0_giveTurn rfl rfl rfl (by decide +kernel) ⟨Nat.le_of_ble_eq_true rfl, Nat.le_of_ble_eq_true rfl⟩) hK hP hD hS hA (va_recv hK hP (ci := 0) (q0 := 0) rfl rfl) rfl hl.1 rfl (Nat.le_of_ble_eq_true rfl) dX0_next_1 ⟨Nat.zero_le _, Nat.zero_le _⟩ (fun r u H locs hw hP hD hS => ?_)
  exact W.iret (v := r) hx hb hr (fun t ht hW => ⟨⟨r, u, rfl, hw, by rw [ht]; exact hP, hD⟩, hS.F ht⟩) hS.2.2 dX0_next_4
set_option maxHeartbeats 4000000 in
set_option maxRecDepth 100000 in
/-- turns(x) -/
theorem kX0_turns (l : Launch) (dC : Nat → ClassId) (dI : Nat → Nat → Nat) (h0 aT aS aP aR aL : Nat) (cA cZ cJ : ClassId) (sz N big n lp : Nat) (ft fs fp fr fl : Nat → Nat) (hV : sh_V N big n lp ft fs fp fl) (x : Int32) : Met l yX0_turns wsX0_turns ({ frames := 3, cells := 0, slots := 0, locals := 67 }) (va_Pc [.ref h0, .int x] (sB dC dI (ty3 cA cZ cJ) sz (sw h0 aT aS aP aR aL cA N big n lp ft fs fp fr fl))) (va_Qi (fun (r : Int32) (u : ((Nat → Nat) × (Nat → Nat) × (Nat → Nat))) => ((sh_ix 1001 x = none ∨ sh_ix 1001 x = some 0) ∧ r = (-1) ∧ u = (fp, fr, fl)) ∨ (∃ k, 0 < k ∧ k < 1001 ∧ x = nI k ∧ r = nI (sp_turn N big ft k fp fr).1 ∧ u.1 = (sp_turn N big ft k fp fr).2.1 ∧ u.2.1 = (sp_turn N big ft k fp fr).2.2 ∧ sh_V N big n lp ft fs u.1 u.2.2)) (fun u => sE dC dI (va_A (sw h0 aT aS aP aR aL cA N big n lp ft fs fp fr fl) sz) (sw h0 aT aS aP aR aL cA N big n lp ft fs u.1 u.2.1 u.2.2)) (va_A (sw h0 aT aS aP aR aL cA N big n lp ft fs fp fr fl) sz)) 0 0 (va_A (sw h0 aT aS aP aR aL cA N big n lp ft fs fp fr fl) sz) := by
  refine Met.ofW (cc := cX0_turns) (maxL := 3) (ret := (some .int)) (by decide) rfl ?_
  intro p e s m args below meth c s₁ B hml hv
  obtain ⟨rfl, hsz, hP, hK, hD0⟩ := hv
  have hx := B.exec
  have hb := B.bytes
  have hr := B.returns
  have hts := atoms_spec (ws := wsX0_turns) B.pre
  have hown : s.vm.findClass RX0 = some m.cls := findClass_of_methodNamed B.named
  have hlocks := B.notSynchronized
  subst hsz
  have hD := hD0.self (sz := s.heap.size)
  generalize hAe : va_A (sw h0 aT aS aP aR aL cA N big n lp ft fs fp fr fl) s.heap.size = A at hD ⊢
  have hA : ∀ q : Nat, s.heap.size ≤ q → A q := fun q h => by rw [← hAe]; exact Or.inr h
  have hS : va_S A s.heap s.heap [] := va_S.rf
  have hl := lv_entry ([.ref h0, .int x]) (n := 3) (Nat.le_of_ble_eq_true rfl)
  rw [lg_entry_eq]
  generalize (lg_sl ([.ref h0, .int x]) ++ List.replicate (3 - (lg_sl ([.ref h0, .int x])).length) Slot.unset).toArray = ls at hl ⊢
  have hl : lv_has ls 3 [(0, .ref h0), (1, .int x)] := hl
  refine lv_iload_n hx hb dX0_turns_0 rfl (lv_at hl 1 rfl) ?_
  refine lv_iconst (v := nI 1) hx hb dX0_turns_1 (by decide) ?_
  refine lv_icmp_lt (tgt := 12) hx hb dX0_turns_2 (by decide) (fun c1 => ?_) (fun c1 => ?_)
  · skip
    refine lv_iconst (v := (-1)) hx hb dX0_turns_12 (by decide) ?_
    exact W.iret (v := (-1)) hx hb hr (fun t ht hW => ⟨⟨(-1), (fp, fr, fl), rfl, Or.inl ⟨tk_lt (by decide) c1, rfl, rfl⟩, by rw [ht]; exact hP, hD⟩, hS.F ht⟩) hS.2.2 dX0_turns_13
  · skip
    refine lv_iload_n hx hb dX0_turns_5 rfl (lv_at hl 1 rfl) ?_
    refine lv_sipush (v := nI 1000) hx hb dX0_turns_6 (by decide) ?_
    refine lv_icmp_le (tgt := 14) hx hb dX0_turns_9 (by decide) (fun c2 => ?_) (fun c2 => ?_)
    · skip
      obtain ⟨k, hk0, hk1, rfl⟩ := tk_ok (by decide) c1 (le_1000.mp c2)
      refine lv_iconst (v := nI 0) hx hb dX0_turns_14 (by decide) ?_
      refine lv_istore_n (lv' := [(2, .int (nI 0)), (0, .ref h0), (1, .int (nI k))]) hx hb dX0_turns_15 rfl hl (by decide) rfl (fun ls hl => ?_)
      refine sl_loop (fun d (z : Nat × (Nat → Nat) × (Nat → Nat) × (Nat → Nat)) H locs ls => k + 1 ≤ z.1 + d ∧ z.1 ≤ k ∧ sp_turn N big ft k fp fr = (z.1 + (sp_turn N big ft (k - z.1) z.2.1 z.2.2.1).1, (sp_turn N big ft (k - z.1) z.2.1 z.2.2.1).2) ∧ sh_V N big n lp ft fs z.2.1 z.2.2.2 ∧ va_P (dC, dI) vwCl (sw h0 aT aS aP aR aL cA N big n lp ft fs z.2.1 z.2.2.1 z.2.2.2) H ∧ va_D A (sw h0 aT aS aP aR aL cA N big n lp ft fs z.2.1 z.2.2.1 z.2.2.2) ∧ va_S A s.heap H locs ∧ lv_has ls 3 [(2, .int (nI z.1)), (0, .ref h0), (1, .int (nI k))]) (fun z H locs ls h => by omega) ?_ (k + 1) (0, fp, fr, fl) _ _ _ ⟨by omega, by omega, by rw [Nat.sub_zero, Nat.zero_add], hV, hP, hD, hS, lv_sub hl [0, 1, 2] rfl⟩
      intro d z H locs ls ih hI
      obtain ⟨g, gp, gr, gl⟩ := z
      obtain ⟨h1, h2, h3, hV2, hP, hD, hS, hl⟩ := hI
      dsimp only at h1 h2 h3 hV2 hP hD hl
      refine lv_iload_n hx hb dX0_turns_16 rfl (lv_at hl 0 rfl) ?_
      refine lv_iload_n hx hb dX0_turns_17 rfl (lv_at hl 2 rfl) ?_
      refine sr_cmp_ge (tgt := 34) hx hb (by omega) (by omega) dX0_turns_18 (by decide) (fun c3 => ?_) (fun c3 => ?_)
      · skip
        refine lv_iload_n hx hb dX0_turns_34 rfl (lv_at hl 0 rfl) ?_
        exact W.iret (v := nI g) hx hb hr (fun t ht hW => ⟨⟨nI g, (gp, gr, gl), rfl, Or.inr ⟨k, hk0, hk1, rfl, by rw [h3, show k - g = 0 by omega]; rfl, by rw [h3, show k - g = 0 by omega]; rfl, by rw [h3, show k - g = 0 by omega]; rfl, hV2⟩, by rw [ht]; exact hP, hD⟩, hS.F ht⟩) hS.2.2 dX0_turns_35
      · skip
        refine lv_aload_n hx hb dX0_turns_21 rfl (lv_at hl 1 rfl) ?_
        refine sc_i (wr := []) (wc := sw h0 aT aS aP aR aL cA N big n lp ft fs gp gr gl) (As := []) (rest := []) ⟨hx, hb, hml, hown, hts⟩ (kX0_giveTurn l dC dI h0 aT aS aP aR aL cA cZ cJ H.size N big n lp ft fs gp gr gl hV2) (cwV 0 hts gX0_turns_X0_giveTurn rfl rfl rfl (by decide +kernel) ⟨Nat.le_of_ble_eq_true rfl, Nat.le_of_ble_eq_true rfl⟩) hK hP hD hS hA (va_recv hK hP (ci := 0) (q0 := 0) rfl rfl) rfl hl.1 rfl (Nat.le_of_ble_eq_true rfl) dX0_turns_22 ⟨Nat.zero_le _, Nat.zero_le _⟩ (fun r u H locs hw hP hD hS => ?_)
        rcases hw with ⟨hg, rfl, rfl⟩ | ⟨b, hg, hbN, rfl, e1, e2, hV3⟩
        · skip
          refine lv_if_lt (tgt := 34) hx hb dX0_turns_25 (by decide) (fun _ => ?_) (fun z => absurd (no_neg N ft gp) z)
          refine lv_iload_n hx hb dX0_turns_34 rfl (lv_at hl 0 rfl) ?_
          exact W.iret (v := nI g) hx hb hr (fun t ht hW => ⟨⟨nI g, (gp, gr, gl), rfl, Or.inr ⟨k, hk0, hk1, rfl, by rw [h3, turn_none hg]; rfl, by rw [h3, turn_none hg], by rw [h3, turn_none hg], hV2⟩, by rw [ht]; exact hP, hD⟩, hS.F ht⟩) hS.2.2 dX0_turns_35
        · skip
          obtain ⟨hN0, hN, -, -, -, -, -, -, -⟩ := id hV
          refine sr_if_lt (tgt := 34) hx hb (by omega) dX0_turns_25 (by decide) ?_
          refine lv_iinc (v := nI (g + 1)) (lv' := [(2, .int (nI (g + 1))), (0, .ref h0), (1, .int (nI k))]) hx hb dX0_turns_28 hl (k := 0) rfl (nI_1 _) (by decide) rfl (fun ls hl => ?_)
          refine lv_goto (tgt := 16) hx hb dX0_turns_31 (by decide) ?_
          exact ih (g + 1, u.1, u.2.1, u.2.2) _ _ _ ⟨by omega, by omega, by
            dsimp only
            rw [h3, show k - g = (k - (g + 1)) + 1 by omega, turn_some hg, e1, e2]
            dsimp only
            rw [Nat.add_assoc g 1, Nat.add_comm 1], hV3, hP, hD, hS, lv_sub hl [0, 1, 2] rfl⟩
    · skip
      refine lv_iconst (v := (-1)) hx hb dX0_turns_12 (by decide) ?_
      exact W.iret (v := (-1)) hx hb hr (fun t ht hW => ⟨⟨(-1), (fp, fr, fl), rfl, Or.inl ⟨Or.inl (ix_hi (Int32.not_lt.mp (fun z => c2 (le_1000.mpr (fun w => Int32.not_lt.mpr w z))))), rfl, rfl⟩, by rw [ht]; exact hP, hD⟩, hS.F ht⟩) hS.2.2 dX0_turns_13
end
section
-- THE CLASS: its public methods
theorem V_leave2 {N big n lp k c : Nat} {ft fs fp fl L2 : Nat → Nat} (h : sh_V N big n lp ft fs fp fl) (hk : k < n) (hc : fl k = c) (h1 : ∀ i, i < k → L2 i = fl i) (h2 : ∀ i, k ≤ i → i + 1 < n → L2 i = fl (i + 1)) : sh_V N big (n - 1) (fp c) (sh_up ft c 0) fs fp L2 := by
  obtain ⟨m, rfl⟩ : ∃ z, n = z + 1 := ⟨n - 1, by omega⟩
  exact V_leave h hk hc h1 (fun i q1 q2 => h2 i q1 (by omega))
theorem spread_I {N n : Nat} {t p L : Nat → Nat} (h : sh_I N t p L n) (hn : 0 < n) : p (L 0) ≤ p (L (n - 1)) ∧ sp_spread N t p = nI (p (L (n - 1)) - p (L 0)) := by
  obtain ⟨m, rfl⟩ : ∃ z, n = z + 1 := ⟨n - 1, by omega⟩
  refine ⟨?_, ?_⟩
  · rcases Nat.eq_zero_or_pos m with q | q
    · subst q
      exact Nat.le_refl _
    · exact bf_le (h.2.2.1 0 m q (by omega))
  · unfold sp_spread
    rw [fi_I h hn, mx_I h]
    rfl
theorem spread_0 {N n : Nat} {t p L : Nat → Nat} (h : sh_I N t p L n) (hn : n = 0) : sp_spread N t p = -1 := by
  unfold sp_spread
  rw [fi_n0 h hn]
set_option maxHeartbeats 4000000 in
set_option maxRecDepth 100000 in
/-- join(x, y) -/
theorem kX0_join (l : Launch) (dC : Nat → ClassId) (dI : Nat → Nat → Nat) (h0 aT aS aP aR aL : Nat) (cA cZ cJ : ClassId) (sz N big n lp : Nat) (ft fs fp fr fl : Nat → Nat) (hV : sh_V N big n lp ft fs fp fl) (x y : Int32) : Met l yX0_join wsX0_join ({ frames := 3, cells := 0, slots := 0, locals := 65 }) (va_Pc [.ref h0, .int x, .int y] (sB dC dI (ty3 cA cZ cJ) sz (sw h0 aT aS aP aR aL cA N big n lp ft fs fp fr fl))) (va_Qi (fun (r : Int32) (u : (Nat × (Nat → Nat) × (Nat → Nat) × (Nat → Nat) × (Nat → Nat))) => r = (sp_join N big ft x y).1 ∧ (((sp_join N big ft x y).2 = none ∧ u = (n, ft, fs, fp, fl)) ∨ ∃ j k, (sp_join N big ft x y).2 = some (j, k) ∧ j < N ∧ 0 < k ∧ k < big ∧ ft j = 0 ∧ u.1 = n + 1 ∧ u.2.1 = sh_up ft j k ∧ u.2.2.2.1 = sh_up fp j (sp_ps N lp ft fp) ∧ sh_V N big u.1 lp u.2.1 u.2.2.1 u.2.2.2.1 u.2.2.2.2)) (fun u => sE dC dI (va_A (sw h0 aT aS aP aR aL cA N big n lp ft fs fp fr fl) sz) (sw h0 aT aS aP aR aL cA N big u.1 lp u.2.1 u.2.2.1 u.2.2.2.1 fr u.2.2.2.2)) (va_A (sw h0 aT aS aP aR aL cA N big n lp ft fs fp fr fl) sz)) 0 0 (va_A (sw h0 aT aS aP aR aL cA N big n lp ft fs fp fr fl) sz) := by
  refine Met.ofW (cc := cX0_join) (maxL := 3) (ret := (some .int)) (by decide) rfl ?_
  intro p e s m args below meth c s₁ B hml hv
  obtain ⟨rfl, hsz, hP, hK, hD0⟩ := hv
  have hx := B.exec
  have hb := B.bytes
  have hr := B.returns
  have hts := atoms_spec (ws := wsX0_join) B.pre
  have hown : s.vm.findClass RX0 = some m.cls := findClass_of_methodNamed B.named
  have hlocks := B.notSynchronized
  subst hsz
  have hD := hD0.self (sz := s.heap.size)
  generalize hAe : va_A (sw h0 aT aS aP aR aL cA N big n lp ft fs fp fr fl) s.heap.size = A at hD ⊢
  have hA : ∀ q : Nat, s.heap.size ≤ q → A q := fun q h => by rw [← hAe]; exact Or.inr h
  have hS : va_S A s.heap s.heap [] := va_S.rf
  have hl := lv_entry ([.ref h0, .int x, .int y]) (n := 3) (Nat.le_of_ble_eq_true rfl)
  rw [lg_entry_eq]
  generalize (lg_sl ([.ref h0, .int x, .int y]) ++ List.replicate (3 - (lg_sl ([.ref h0, .int x, .int y])).length) Slot.unset).toArray = ls at hl ⊢
  have hl : lv_has ls 3 [(0, .ref h0), (1, .int x), (2, .int y)] := hl
  obtain ⟨hN0, hN, hb2, hbig, hlp, hfp, hft, hfs, hI⟩ := id hV
  have hnN : n ≤ N := by rw [hI.1]; exact cnt_le ft N
  have hfl : ∀ i, i < n → fl i < N := fun i hi => (hI.2.1 i hi).1
  have hft2 : ∀ c, ft c < 2 ^ 31 := fun c => by have := hft c; omega
  refine lv_aload_n hx hb dX0_join_0 rfl (lv_at hl 0 rfl) ?_
  refine lv_iload_n hx hb dX0_join_1 rfl (lv_at hl 1 rfl) ?_
  refine sc_i (wr := []) (wc := sw h0 aT aS aP aR aL cA N big n lp ft fs fp fr fl) (As := [.int x]) (rest := []) ⟨hx, hb, hml, hown, hts⟩ (kX0_isClient l dC dI h0 aT aS aP aR aL cA cZ cJ s.heap.size N big n lp ft fs fp fr fl hN x) (cwV 1 hts gX0_join_X0_isClient rfl rfl rfl (by decide +kernel) ⟨Nat.le_of_ble_eq_true rfl, Nat.le_of_ble_eq_true rfl⟩) hK hP hD hS hA (va_recv hK hP (ci := 0) (q0 := 0) rfl rfl) rfl hl.1 rfl (Nat.le_of_ble_eq_true rfl) dX0_join_2 ⟨Nat.zero_le _, Nat.zero_le _⟩ (fun r _ H locs hw hP hD hS => ?_)
  rcases hw with ⟨hnx, rfl⟩ | ⟨j, hj, rfl, rfl⟩
  · skip
    refine sr_if_ne (tgt := 10) hx hb (by decide) dX0_join_5 (by decide) (fun q => absurd q (by decide)) (fun _ => ?_)
    refine lv_iconst (v := (-1)) hx hb dX0_join_8 (by decide) ?_
    exact W.iret (v := (-1)) hx hb hr (fun t ht hW => ⟨⟨(-1), (n, ft, fs, fp, fl), rfl, ⟨by rw [join_1 hnx], Or.inl ⟨by rw [join_1 hnx], rfl⟩⟩, by rw [ht]; exact hP, hD⟩, hS.F ht⟩) hS.2.2 dX0_join_9
  · skip
    refine sr_if_ne (tgt := 10) hx hb (by decide) dX0_join_5 (by decide) (fun _ => ?_) (fun q => absurd q (by decide))
    refine lv_aload_n hx hb dX0_join_10 rfl (lv_at hl 0 rfl) ?_
    refine lv_iload_n hx hb dX0_join_11 rfl (lv_at hl 1 rfl) ?_
    refine sc_i (wr := []) (wc := sw h0 aT aS aP aR aL cA N big n lp ft fs fp fr fl) (As := [.int (nI j)]) (rest := []) ⟨hx, hb, hml, hown, hts⟩ (kX0_isIn l dC dI h0 aT aS aP aR aL cA cZ cJ H.size N big n lp ft fs fp fr fl hN hft2 j hj) (cwV 1 hts gX0_join_X0_isIn rfl rfl rfl (by decide +kernel) ⟨Nat.le_of_ble_eq_true rfl, Nat.le_of_ble_eq_true rfl⟩) hK hP hD hS hA (va_recv hK hP (ci := 0) (q0 := 0) rfl rfl) rfl hl.1 rfl (Nat.le_of_ble_eq_true rfl) dX0_join_12 ⟨Nat.zero_le _, Nat.zero_le _⟩ (fun r _ H locs hw hP hD hS => ?_)
    rcases hw with ⟨ht0, rfl⟩ | ⟨ht0, rfl⟩
    · skip
      refine sr_if_eq (tgt := 21) hx hb (by decide) dX0_join_15 (by decide) (fun _ => ?_) (fun q => absurd q (by decide))
      refine lv_aload_n hx hb dX0_join_21 rfl (lv_at hl 0 rfl) ?_
      refine lv_iload_n hx hb dX0_join_22 rfl (lv_at hl 2 rfl) ?_
      refine sc_i (wr := []) (wc := sw h0 aT aS aP aR aL cA N big n lp ft fs fp fr fl) (As := [.int y]) (rest := []) ⟨hx, hb, hml, hown, hts⟩ (kX0_areTickets l dC dI h0 aT aS aP aR aL cA cZ cJ H.size N big n lp ft fs fp fr fl hbig y) (cwV 1 hts gX0_join_X0_areTickets rfl rfl rfl (by decide +kernel) ⟨Nat.le_of_ble_eq_true rfl, Nat.le_of_ble_eq_true rfl⟩) hK hP hD hS hA (va_recv hK hP (ci := 0) (q0 := 0) rfl rfl) rfl hl.1 rfl (Nat.le_of_ble_eq_true rfl) dX0_join_23 ⟨Nat.zero_le _, Nat.zero_le _⟩ (fun r _ H locs hw hP hD hS => ?_)
      rcases hw with ⟨hny, rfl⟩ | ⟨k, hk0, hkb, rfl, rfl⟩
      · skip
        refine sr_if_ne (tgt := 32) hx hb (by decide) dX0_join_26 (by decide) (fun q => absurd q (by decide)) (fun _ => ?_)
        refine lv_bipush (v := (-3)) hx hb dX0_join_29 (by decide) ?_
        exact W.iret (v := (-3)) hx hb hr (fun t ht hW => ⟨⟨(-3), (n, ft, fs, fp, fl), rfl, ⟨by rw [join_3 hj hN ht0 hny], Or.inl ⟨by rw [join_3 hj hN ht0 hny], rfl⟩⟩, by rw [ht]; exact hP, hD⟩, hS.F ht⟩) hS.2.2 dX0_join_31
      · skip
        refine sr_if_ne (tgt := 32) hx hb (by decide) dX0_join_26 (by decide) (fun _ => ?_) (fun q => absurd q (by decide))
        refine lv_aload_n hx hb dX0_join_32 rfl (lv_at hl 0 rfl) ?_
        refine va_get (D := (dC, dI)) (ci := 0) (v := .ref aP) (C := RX0) (T := TX0) (N := 9) hx hb hts wiX0_join hown hK hP 0 rfl rfl 4 (by decide) (hts (.fieldLink RX0 29 "StrideHeap" "passes" "[I") (by decide +kernel)) (fun _ h9 => h9) rfl dX0_join_33 ?_
        refine lv_iload_n hx hb dX0_join_36 rfl (lv_at hl 1 rfl) ?_
        refine lv_aload_n hx hb dX0_join_37 rfl (lv_at hl 0 rfl) ?_
        refine sc_i (wr := []) (wc := sw h0 aT aS aP aR aL cA N big n lp ft fs fp fr fl) (As := []) (rest := [.int (nI j), .ref aP]) ⟨hx, hb, hml, hown, hts⟩ (kX0_joiningPass l dC dI h0 aT aS aP aR aL cA cZ cJ H.size N big n lp ft fs fp fr fl hN hnN (fun z => hfl 0 z)) (cwV 0 hts gX0_join_X0_joiningPass rfl rfl rfl (by decide +kernel) ⟨Nat.le_of_ble_eq_true rfl, Nat.le_of_ble_eq_true rfl⟩) hK hP hD hS hA (va_recv hK hP (ci := 0) (q0 := 0) rfl rfl) rfl hl.1 rfl (Nat.le_of_ble_eq_true rfl) dX0_join_38 ⟨Nat.zero_le _, Nat.zero_le _⟩ (fun r _ H locs hw hP hD hS => ?_)
        subst hw
        have hps : (if n = 0 then lp else fp (fl 0)) = sp_ps N lp ft fp := (ps_I hI).symm
        rw [hps]
        have hpl : sp_ps N lp ft fp < 2 ^ 31 := ps_lt hlp hfp
        have hnl : n < N := by rw [hI.1]; exact cnt_lt ft hj ht0
        have hfp2 : ∀ d, sh_up fp j (sp_ps N lp ft fp) d < 2 ^ 31 := fun d => by
          by_cases q : d = j
          · rw [q, sh_up_s]; exact hpl
          · rw [sh_up_n fp _ q]; exact hfp d
        refine sr_ast hx hb hK hP hD hS 3 0 rfl rfl (k := j) (v := sp_ps N lp ft fp) (by omega) (by omega) dX0_join_41 (fun H locs hP hD hS => ?_)
        have hP : va_P (dC, dI) vwCl (sw h0 aT aS aP aR aL cA N big n lp ft fs (sh_up fp j (sp_ps N lp ft fp)) fr fl) H := hP
        have hD : va_D A (sw h0 aT aS aP aR aL cA N big n lp ft fs (sh_up fp j (sp_ps N lp ft fp)) fr fl) := hD
        refine lv_aload_n hx hb dX0_join_42 rfl (lv_at hl 0 rfl) ?_
        refine lv_iload_n hx hb dX0_join_43 rfl (lv_at hl 1 rfl) ?_
        refine lv_iload_n hx hb dX0_join_44 rfl (lv_at hl 2 rfl) ?_
        refine sc_v (wr := []) (wc := sw h0 aT aS aP aR aL cA N big n lp ft fs (sh_up fp j (sp_ps N lp ft fp)) fr fl) (As := [.int (nI j), .int (nI k)]) (rest := []) ⟨hx, hb, hml, hown, hts⟩ (kX0_giveTickets l dC dI h0 aT aS aP aR aL cA cZ cJ H.size N big n lp ft fs (sh_up fp j (sp_ps N lp ft fp)) fr fl hN hbig j k hj hk0 (by omega)) (cwV 2 hts gX0_join_X0_giveTickets rfl rfl rfl (by decide +kernel) ⟨Nat.le_of_ble_eq_true rfl, Nat.le_of_ble_eq_true rfl⟩) hK hP hD hS hA (va_recv hK hP (ci := 0) (q0 := 0) rfl rfl) rfl hl.1 rfl (Nat.le_of_ble_eq_true rfl) dX0_join_45 ⟨Nat.zero_le _, Nat.zero_le _⟩ (fun _ H locs hw hP hD hS => ?_)
        refine lv_aload_n hx hb dX0_join_48 rfl (lv_at hl 0 rfl) ?_
        refine lv_iload_n hx hb dX0_join_49 rfl (lv_at hl 1 rfl) ?_
        refine sc_v (wr := []) (wc := sw h0 aT aS aP aR aL cA N big n lp (sh_up ft j k) (sh_up fs j (big / k)) (sh_up fp j (sp_ps N lp ft fp)) fr fl) (As := [.int (nI j)]) (rest := []) ⟨hx, hb, hml, hown, hts⟩ (kX0_enterLine l dC dI h0 aT aS aP aR aL cA cZ cJ H.size N big n lp (sh_up ft j k) (sh_up fs j (big / k)) (sh_up fp j (sp_ps N lp ft fp)) fr fl hN hnl hfp2 hfl j hj) (cwV 1 hts gX0_join_X0_enterLine rfl rfl rfl (by decide +kernel) ⟨Nat.le_of_ble_eq_true rfl, Nat.le_of_ble_eq_true rfl⟩) hK hP hD hS hA (va_recv hK hP (ci := 0) (q0 := 0) rfl rfl) rfl hl.1 rfl (Nat.le_of_ble_eq_true rfl) dX0_join_50 ⟨Nat.zero_le _, Nat.zero_le _⟩ (fun v H locs hw hP hD hS => ?_)
        obtain ⟨M, i, hM0, hM1, hrot⟩ := hw
        refine lv_iconst (v := nI 1) hx hb dX0_join_53 (by decide) ?_
        exact W.iret (v := nI 1) hx hb hr (fun t ht hW => ⟨⟨nI 1, (n + 1, sh_up ft j k, sh_up fs j (big / k), sh_up fp j (sp_ps N lp ft fp), v), rfl, ⟨by rw [join_4 hj hN ht0 hk0 hkb hbig]; rfl, Or.inr ⟨j, k, by rw [join_4 hj hN ht0 hk0 hkb hbig], hj, hk0, hkb, ht0, rfl, rfl, rfl, V_join hV hj ht0 hk0 hkb hpl hM0 hM1 hrot⟩⟩, by rw [ht]; exact hP, hD⟩, hS.F ht⟩) hS.2.2 dX0_join_54
    · skip
      refine sr_if_eq (tgt := 21) hx hb (by decide) dX0_join_15 (by decide) (fun q => absurd q (by decide)) (fun _ => ?_)
      refine lv_bipush (v := (-2)) hx hb dX0_join_18 (by decide) ?_
      exact W.iret (v := (-2)) hx hb hr (fun t ht hW => ⟨⟨(-2), (n, ft, fs, fp, fl), rfl, ⟨by rw [join_2 hj hN ht0], Or.inl ⟨by rw [join_2 hj hN ht0], rfl⟩⟩, by rw [ht]; exact hP, hD⟩, hS.F ht⟩) hS.2.2 dX0_join_20
set_option maxHeartbeats 4000000 in
set_option maxRecDepth 100000 in
/-- leave(x) -/
theorem kX0_leave (l : Launch) (dC : Nat → ClassId) (dI : Nat → Nat → Nat) (h0 aT aS aP aR aL : Nat) (cA cZ cJ : ClassId) (sz N big n lp : Nat) (ft fs fp fr fl : Nat → Nat) (hV : sh_V N big n lp ft fs fp fl) (x : Int32) : Met l yX0_leave wsX0_leave ({ frames := 2, cells := 0, slots := 0, locals := 44 }) (va_Pc [.ref h0, .int x] (sB dC dI (ty3 cA cZ cJ) sz (sw h0 aT aS aP aR aL cA N big n lp ft fs fp fr fl))) (va_Qi (fun (r : Int32) (u : (Nat × Nat × (Nat → Nat) × (Nat → Nat))) => r = (sp_leave N ft x).1 ∧ (((sp_leave N ft x).2 = none ∧ u = (n, lp, ft, fl)) ∨ ∃ j, (sp_leave N ft x).2 = some j ∧ j < N ∧ 0 < ft j ∧ u.1 = n - 1 ∧ u.2.1 = fp j ∧ u.2.2.1 = sh_up ft j 0 ∧ sh_V N big u.1 u.2.1 u.2.2.1 fs fp u.2.2.2)) (fun u => sE dC dI (va_A (sw h0 aT aS aP aR aL cA N big n lp ft fs fp fr fl) sz) (sw h0 aT aS aP aR aL cA N big u.1 u.2.1 u.2.2.1 fs fp fr u.2.2.2)) (va_A (sw h0 aT aS aP aR aL cA N big n lp ft fs fp fr fl) sz)) 0 0 (va_A (sw h0 aT aS aP aR aL cA N big n lp ft fs fp fr fl) sz) := by
  refine Met.ofW (cc := cX0_leave) (maxL := 2) (ret := (some .int)) (by decide) rfl ?_
  intro p e s m args below meth c s₁ B hml hv
  obtain ⟨rfl, hsz, hP, hK, hD0⟩ := hv
  have hx := B.exec
  have hb := B.bytes
  have hr := B.returns
  have hts := atoms_spec (ws := wsX0_leave) B.pre
  have hown : s.vm.findClass RX0 = some m.cls := findClass_of_methodNamed B.named
  have hlocks := B.notSynchronized
  subst hsz
  have hD := hD0.self (sz := s.heap.size)
  generalize hAe : va_A (sw h0 aT aS aP aR aL cA N big n lp ft fs fp fr fl) s.heap.size = A at hD ⊢
  have hA : ∀ q : Nat, s.heap.size ≤ q → A q := fun q h => by rw [← hAe]; exact Or.inr h
  have hS : va_S A s.heap s.heap [] := va_S.rf
  have hl := lv_entry ([.ref h0, .int x]) (n := 2) (Nat.le_of_ble_eq_true rfl)
  rw [lg_entry_eq]
  generalize (lg_sl ([.ref h0, .int x]) ++ List.replicate (2 - (lg_sl ([.ref h0, .int x])).length) Slot.unset).toArray = ls at hl ⊢
  have hl : lv_has ls 2 [(0, .ref h0), (1, .int x)] := hl
  obtain ⟨hN0, hN, hb2, hbig, hlp, hfp, hft, hfs, hI⟩ := id hV
  have hnN : n ≤ N := by rw [hI.1]; exact cnt_le ft N
  have hfl : ∀ i, i < n → fl i < N := fun i hi => (hI.2.1 i hi).1
  have hft2 : ∀ c, ft c < 2 ^ 31 := fun c => by have := hft c; omega
  refine lv_aload_n hx hb dX0_leave_0 rfl (lv_at hl 0 rfl) ?_
  refine lv_iload_n hx hb dX0_leave_1 rfl (lv_at hl 1 rfl) ?_
  refine sc_i (wr := []) (wc := sw h0 aT aS aP aR aL cA N big n lp ft fs fp fr fl) (As := [.int x]) (rest := []) ⟨hx, hb, hml, hown, hts⟩ (kX0_isClient l dC dI h0 aT aS aP aR aL cA cZ cJ s.heap.size N big n lp ft fs fp fr fl hN x) (cwV 1 hts gX0_leave_X0_isClient rfl rfl rfl (by decide +kernel) ⟨Nat.le_of_ble_eq_true rfl, Nat.le_of_ble_eq_true rfl⟩) hK hP hD hS hA (va_recv hK hP (ci := 0) (q0 := 0) rfl rfl) rfl hl.1 rfl (Nat.le_of_ble_eq_true rfl) dX0_leave_2 ⟨Nat.zero_le _, Nat.zero_le _⟩ (fun r _ H locs hw hP hD hS => ?_)
  rcases hw with ⟨hnx, rfl⟩ | ⟨j, hj, rfl, rfl⟩
  · skip
    refine sr_if_ne (tgt := 10) hx hb (by decide) dX0_leave_5 (by decide) (fun q => absurd q (by decide)) (fun _ => ?_)
    refine lv_iconst (v := (-1)) hx hb dX0_leave_8 (by decide) ?_
    exact W.iret (v := (-1)) hx hb hr (fun t ht hW => ⟨⟨(-1), (n, lp, ft, fl), rfl, ⟨by rw [leave_1 hnx], Or.inl ⟨by rw [leave_1 hnx], rfl⟩⟩, by rw [ht]; exact hP, hD⟩, hS.F ht⟩) hS.2.2 dX0_leave_9
  · skip
    refine sr_if_ne (tgt := 10) hx hb (by decide) dX0_leave_5 (by decide) (fun _ => ?_) (fun q => absurd q (by decide))
    refine lv_aload_n hx hb dX0_leave_10 rfl (lv_at hl 0 rfl) ?_
    refine lv_iload_n hx hb dX0_leave_11 rfl (lv_at hl 1 rfl) ?_
    refine sc_i (wr := []) (wc := sw h0 aT aS aP aR aL cA N big n lp ft fs fp fr fl) (As := [.int (nI j)]) (rest := []) ⟨hx, hb, hml, hown, hts⟩ (kX0_isIn l dC dI h0 aT aS aP aR aL cA cZ cJ H.size N big n lp ft fs fp fr fl hN hft2 j hj) (cwV 1 hts gX0_leave_X0_isIn rfl rfl rfl (by decide +kernel) ⟨Nat.le_of_ble_eq_true rfl, Nat.le_of_ble_eq_true rfl⟩) hK hP hD hS hA (va_recv hK hP (ci := 0) (q0 := 0) rfl rfl) rfl hl.1 rfl (Nat.le_of_ble_eq_true rfl) dX0_leave_12 ⟨Nat.zero_le _, Nat.zero_le _⟩ (fun r _ H locs hw hP hD hS => ?_)
    rcases hw with ⟨ht0, rfl⟩ | ⟨ht0, rfl⟩
    · skip
      refine sr_if_ne (tgt := 21) hx hb (by decide) dX0_leave_15 (by decide) (fun q => absurd q (by decide)) (fun _ => ?_)
      refine lv_bipush (v := (-2)) hx hb dX0_leave_18 (by decide) ?_
      exact W.iret (v := (-2)) hx hb hr (fun t ht hW => ⟨⟨(-2), (n, lp, ft, fl), rfl, ⟨by rw [leave_2 hj hN ht0], Or.inl ⟨by rw [leave_2 hj hN ht0], rfl⟩⟩, by rw [ht]; exact hP, hD⟩, hS.F ht⟩) hS.2.2 dX0_leave_20
    · skip
      refine sr_if_ne (tgt := 21) hx hb (by decide) dX0_leave_15 (by decide) (fun _ => ?_) (fun q => absurd q (by decide))
      obtain ⟨q0, hq0, rfl⟩ := hI.2.2.2 j hj ht0
      refine lv_aload_n hx hb dX0_leave_21 rfl (lv_at hl 0 rfl) ?_
      refine lv_aload_n hx hb dX0_leave_22 rfl (lv_at hl 0 rfl) ?_
      refine va_get (D := (dC, dI)) (ci := 0) (v := .ref aP) (C := RX0) (T := TX0) (N := 9) hx hb hts wiX0_leave hown hK hP 0 rfl rfl 4 (by decide) (hts (.fieldLink RX0 29 "StrideHeap" "passes" "[I") (by decide +kernel)) (fun _ h9 => h9) rfl dX0_leave_23 ?_
      refine lv_iload_n hx hb dX0_leave_26 rfl (lv_at hl 1 rfl) ?_
      refine sr_ald hx hb hK hP 3 0 rfl rfl (k := fl q0) (by omega) (by omega) dX0_leave_27 ?_
      refine va_put (D := (dC, dI)) (ci := 0) (v := .int (nI (fp (fl q0)))) (ty := .int) (C := RX0) (T := TX0) (N := 9) hx hb hts wiX0_leave tyX0 tyX0_ok nmX0 hown hK hP hD hS 0 rfl rfl 8 (by decide) (hts (.fieldLink RX0 41 "StrideHeap" "latestLeftPass" "I") (by decide +kernel)) (fun _ h9 => h9) rfl (by decide +kernel) rfl rfl (Nat.le_of_ble_eq_true rfl) dX0_leave_28 (fun H locs hP hD hS => ?_)
      have hP : va_P (dC, dI) vwCl (sw h0 aT aS aP aR aL cA N big n (fp (fl q0)) ft fs fp fr fl) H := hP
      have hD : va_D A (sw h0 aT aS aP aR aL cA N big n (fp (fl q0)) ft fs fp fr fl) := hD
      refine lv_aload_n hx hb dX0_leave_31 rfl (lv_at hl 0 rfl) ?_
      refine va_get (D := (dC, dI)) (ci := 0) (v := .ref aT) (C := RX0) (T := TX0) (N := 9) hx hb hts wiX0_leave hown hK hP 0 rfl rfl 2 (by decide) (hts (.fieldLink RX0 22 "StrideHeap" "ticketsOf" "[I") (by decide +kernel)) (fun _ h9 => h9) rfl dX0_leave_32 ?_
      refine lv_iload_n hx hb dX0_leave_35 rfl (lv_at hl 1 rfl) ?_
      refine lv_iconst (v := nI 0) hx hb dX0_leave_36 (by decide) ?_
      refine sr_ast hx hb hK hP hD hS 1 0 rfl rfl (k := fl q0) (v := 0) (by omega) (by omega) dX0_leave_37 (fun H locs hP hD hS => ?_)
      have hP : va_P (dC, dI) vwCl (sw h0 aT aS aP aR aL cA N big n (fp (fl q0)) (sh_up ft (fl q0) 0) fs fp fr fl) H := hP
      have hD : va_D A (sw h0 aT aS aP aR aL cA N big n (fp (fl q0)) (sh_up ft (fl q0) 0) fs fp fr fl) := hD
      refine lv_aload_n hx hb dX0_leave_38 rfl (lv_at hl 0 rfl) ?_
      refine lv_iload_n hx hb dX0_leave_39 rfl (lv_at hl 1 rfl) ?_
      refine sc_v (wr := []) (wc := sw h0 aT aS aP aR aL cA N big n (fp (fl q0)) (sh_up ft (fl q0) 0) fs fp fr fl) (As := [.int (nI (fl q0))]) (rest := []) ⟨hx, hb, hml, hown, hts⟩ (kX0_quitLine l dC dI h0 aT aS aP aR aL cA cZ cJ H.size N big n (fp (fl q0)) (sh_up ft (fl q0) 0) fs fp fr fl hN hnN hfl q0 hq0) (cwV 1 hts gX0_leave_X0_quitLine rfl rfl rfl (by decide +kernel) ⟨Nat.le_of_ble_eq_true rfl, Nat.le_of_ble_eq_true rfl⟩) hK hP hD hS hA (va_recv hK hP (ci := 0) (q0 := 0) rfl rfl) rfl hl.1 rfl (Nat.le_of_ble_eq_true rfl) dX0_leave_40 ⟨Nat.zero_le _, Nat.zero_le _⟩ (fun v H locs hw hP hD hS => ?_)
      obtain ⟨k, hk, ek, g1, g2⟩ := hw
      refine lv_iconst (v := nI 1) hx hb dX0_leave_43 (by decide) ?_
      exact W.iret (v := nI 1) hx hb hr (fun t ht hW => ⟨⟨nI 1, (n - 1, fp (fl q0), sh_up ft (fl q0) 0, v), rfl, ⟨by rw [leave_3 hj hN ht0]; rfl, Or.inr ⟨fl q0, by rw [leave_3 hj hN ht0], hj, ht0, rfl, rfl, rfl, V_leave2 hV hk ek g1 g2⟩⟩, by rw [ht]; exact hP, hD⟩, hS.F ht⟩) hS.2.2 dX0_leave_44
set_option maxHeartbeats 4000000 in
set_option maxRecDepth 100000 in
/-- change(x, y) -/
theorem kX0_change (l : Launch) (dC : Nat → ClassId) (dI : Nat → Nat → Nat) (h0 aT aS aP aR aL : Nat) (cA cZ cJ : ClassId) (sz N big n lp : Nat) (ft fs fp fr fl : Nat → Nat) (hV : sh_V N big n lp ft fs fp fl) (x y : Int32) : Met l yX0_change wsX0_change ({ frames := 1, cells := 0, slots := 0, locals := 22 }) (va_Pc [.ref h0, .int x, .int y] (sB dC dI (ty3 cA cZ cJ) sz (sw h0 aT aS aP aR aL cA N big n lp ft fs fp fr fl))) (va_Qi (fun (r : Int32) (u : ((Nat → Nat) × (Nat → Nat))) => r = (sp_change N big ft x y).1 ∧ (((sp_change N big ft x y).2 = none ∧ u = (ft, fs)) ∨ ∃ j k, (sp_change N big ft x y).2 = some (j, k) ∧ j < N ∧ 0 < k ∧ k < big ∧ 0 < ft j ∧ u.1 = sh_up ft j k ∧ sh_V N big n lp u.1 u.2 fp fl)) (fun u => sE dC dI (va_A (sw h0 aT aS aP aR aL cA N big n lp ft fs fp fr fl) sz) (sw h0 aT aS aP aR aL cA N big n lp u.1 u.2 fp fr fl)) (va_A (sw h0 aT aS aP aR aL cA N big n lp ft fs fp fr fl) sz)) 0 0 (va_A (sw h0 aT aS aP aR aL cA N big n lp ft fs fp fr fl) sz) := by
  refine Met.ofW (cc := cX0_change) (maxL := 4) (ret := (some .int)) (by decide) rfl ?_
  intro p e s m args below meth c s₁ B hml hv
  obtain ⟨rfl, hsz, hP, hK, hD0⟩ := hv
  have hx := B.exec
  have hb := B.bytes
  have hr := B.returns
  have hts := atoms_spec (ws := wsX0_change) B.pre
  have hown : s.vm.findClass RX0 = some m.cls := findClass_of_methodNamed B.named
  have hlocks := B.notSynchronized
  subst hsz
  have hD := hD0.self (sz := s.heap.size)
  generalize hAe : va_A (sw h0 aT aS aP aR aL cA N big n lp ft fs fp fr fl) s.heap.size = A at hD ⊢
  have hA : ∀ q : Nat, s.heap.size ≤ q → A q := fun q h => by rw [← hAe]; exact Or.inr h
  have hS : va_S A s.heap s.heap [] := va_S.rf
  have hl := lv_entry ([.ref h0, .int x, .int y]) (n := 4) (Nat.le_of_ble_eq_true rfl)
  rw [lg_entry_eq]
  generalize (lg_sl ([.ref h0, .int x, .int y]) ++ List.replicate (4 - (lg_sl ([.ref h0, .int x, .int y])).length) Slot.unset).toArray = ls at hl ⊢
  have hl : lv_has ls 4 [(0, .ref h0), (1, .int x), (2, .int y)] := hl
  obtain ⟨hN0, hN, hb2, hbig, hlp, hfp, hft, hfs, hI⟩ := id hV
  have hnN : n ≤ N := by rw [hI.1]; exact cnt_le ft N
  have hfl : ∀ i, i < n → fl i < N := fun i hi => (hI.2.1 i hi).1
  have hft2 : ∀ c, ft c < 2 ^ 31 := fun c => by have := hft c; omega
  refine lv_aload_n hx hb dX0_change_0 rfl (lv_at hl 0 rfl) ?_
  refine lv_iload_n hx hb dX0_change_1 rfl (lv_at hl 1 rfl) ?_
  refine sc_i (wr := []) (wc := sw h0 aT aS aP aR aL cA N big n lp ft fs fp fr fl) (As := [.int x]) (rest := []) ⟨hx, hb, hml, hown, hts⟩ (kX0_isClient l dC dI h0 aT aS aP aR aL cA cZ cJ s.heap.size N big n lp ft fs fp fr fl hN x) (cwV 1 hts gX0_change_X0_isClient rfl rfl rfl (by decide +kernel) ⟨Nat.le_of_ble_eq_true rfl, Nat.le_of_ble_eq_true rfl⟩) hK hP hD hS hA (va_recv hK hP (ci := 0) (q0 := 0) rfl rfl) rfl hl.1 rfl (Nat.le_of_ble_eq_true rfl) dX0_change_2 ⟨Nat.zero_le _, Nat.zero_le _⟩ (fun r _ H locs hw hP hD hS => ?_)
  rcases hw with ⟨hnx, rfl⟩ | ⟨j, hj, rfl, rfl⟩
  · skip
    refine sr_if_ne (tgt := 10) hx hb (by decide) dX0_change_5 (by decide) (fun q => absurd q (by decide)) (fun _ => ?_)
    refine lv_iconst (v := (-1)) hx hb dX0_change_8 (by decide) ?_
    exact W.iret (v := (-1)) hx hb hr (fun t ht hW => ⟨⟨(-1), (ft, fs), rfl, ⟨by rw [change_1 hnx], Or.inl ⟨by rw [change_1 hnx], rfl⟩⟩, by rw [ht]; exact hP, hD⟩, hS.F ht⟩) hS.2.2 dX0_change_9
  · skip
    refine sr_if_ne (tgt := 10) hx hb (by decide) dX0_change_5 (by decide) (fun _ => ?_) (fun q => absurd q (by decide))
    refine lv_aload_n hx hb dX0_change_10 rfl (lv_at hl 0 rfl) ?_
    refine lv_iload_n hx hb dX0_change_11 rfl (lv_at hl 1 rfl) ?_
    refine sc_i (wr := []) (wc := sw h0 aT aS aP aR aL cA N big n lp ft fs fp fr fl) (As := [.int (nI j)]) (rest := []) ⟨hx, hb, hml, hown, hts⟩ (kX0_isIn l dC dI h0 aT aS aP aR aL cA cZ cJ H.size N big n lp ft fs fp fr fl hN hft2 j hj) (cwV 1 hts gX0_change_X0_isIn rfl rfl rfl (by decide +kernel) ⟨Nat.le_of_ble_eq_true rfl, Nat.le_of_ble_eq_true rfl⟩) hK hP hD hS hA (va_recv hK hP (ci := 0) (q0 := 0) rfl rfl) rfl hl.1 rfl (Nat.le_of_ble_eq_true rfl) dX0_change_12 ⟨Nat.zero_le _, Nat.zero_le _⟩ (fun r _ H locs hw hP hD hS => ?_)
    rcases hw with ⟨ht0, rfl⟩ | ⟨ht0, rfl⟩
    · skip
      refine sr_if_ne (tgt := 21) hx hb (by decide) dX0_change_15 (by decide) (fun q => absurd q (by decide)) (fun _ => ?_)
      refine lv_bipush (v := (-2)) hx hb dX0_change_18 (by decide) ?_
      exact W.iret (v := (-2)) hx hb hr (fun t ht hW => ⟨⟨(-2), (ft, fs), rfl, ⟨by rw [change_2 hj hN ht0], Or.inl ⟨by rw [change_2 hj hN ht0], rfl⟩⟩, by rw [ht]; exact hP, hD⟩, hS.F ht⟩) hS.2.2 dX0_change_20
    · skip
      refine sr_if_ne (tgt := 21) hx hb (by decide) dX0_change_15 (by decide) (fun _ => ?_) (fun q => absurd q (by decide))
      refine lv_aload_n hx hb dX0_change_21 rfl (lv_at hl 0 rfl) ?_
      refine lv_iload_n hx hb dX0_change_22 rfl (lv_at hl 2 rfl) ?_
      refine sc_i (wr := []) (wc := sw h0 aT aS aP aR aL cA N big n lp ft fs fp fr fl) (As := [.int y]) (rest := []) ⟨hx, hb, hml, hown, hts⟩ (kX0_areTickets l dC dI h0 aT aS aP aR aL cA cZ cJ H.size N big n lp ft fs fp fr fl hbig y) (cwV 1 hts gX0_change_X0_areTickets rfl rfl rfl (by decide +kernel) ⟨Nat.le_of_ble_eq_true rfl, Nat.le_of_ble_eq_true rfl⟩) hK hP hD hS hA (va_recv hK hP (ci := 0) (q0 := 0) rfl rfl) rfl hl.1 rfl (Nat.le_of_ble_eq_true rfl) dX0_change_23 ⟨Nat.zero_le _, Nat.zero_le _⟩ (fun r _ H locs hw hP hD hS => ?_)
      rcases hw with ⟨hny, rfl⟩ | ⟨k, hk0, hkb, rfl, rfl⟩
      · skip
        refine sr_if_ne (tgt := 32) hx hb (by decide) dX0_change_26 (by decide) (fun q => absurd q (by decide)) (fun _ => ?_)
        refine lv_bipush (v := (-3)) hx hb dX0_change_29 (by decide) ?_
        exact W.iret (v := (-3)) hx hb hr (fun t ht hW => ⟨⟨(-3), (ft, fs), rfl, ⟨by rw [change_3 hj hN ht0 hny], Or.inl ⟨by rw [change_3 hj hN ht0 hny], rfl⟩⟩, by rw [ht]; exact hP, hD⟩, hS.F ht⟩) hS.2.2 dX0_change_31
      · skip
        refine sr_if_ne (tgt := 32) hx hb (by decide) dX0_change_26 (by decide) (fun _ => ?_) (fun q => absurd q (by decide))
        refine lv_aload_n hx hb dX0_change_32 rfl (lv_at hl 0 rfl) ?_
        refine va_get (D := (dC, dI)) (ci := 0) (v := .ref aT) (C := RX0) (T := TX0) (N := 9) hx hb hts wiX0_change hown hK hP 0 rfl rfl 2 (by decide) (hts (.fieldLink RX0 22 "StrideHeap" "ticketsOf" "[I") (by decide +kernel)) (fun _ h9 => h9) rfl dX0_change_33 ?_
        refine lv_iload_n hx hb dX0_change_36 rfl (lv_at hl 1 rfl) ?_
        refine sr_ald hx hb hK hP 1 0 rfl rfl (k := j) (by omega) (by omega) dX0_change_37 ?_
        refine lv_istore_n (lv' := [(3, .int (nI (ft j))), (0, .ref h0), (1, .int (nI j)), (2, .int (nI k))]) hx hb dX0_change_38 rfl hl (by decide) rfl (fun ls hl => ?_)
        refine lv_aload_n hx hb dX0_change_39 rfl (lv_at hl 1 rfl) ?_
        refine lv_iload_n hx hb dX0_change_40 rfl (lv_at hl 2 rfl) ?_
        refine lv_iload_n hx hb dX0_change_41 rfl (lv_at hl 3 rfl) ?_
        refine sc_v (wr := []) (wc := sw h0 aT aS aP aR aL cA N big n lp ft fs fp fr fl) (As := [.int (nI j), .int (nI k)]) (rest := []) ⟨hx, hb, hml, hown, hts⟩ (kX0_giveTickets l dC dI h0 aT aS aP aR aL cA cZ cJ H.size N big n lp ft fs fp fr fl hN hbig j k hj hk0 (by omega)) (cwV 2 hts gX0_change_X0_giveTickets rfl rfl rfl (by decide +kernel) ⟨Nat.le_of_ble_eq_true rfl, Nat.le_of_ble_eq_true rfl⟩) hK hP hD hS hA (va_recv hK hP (ci := 0) (q0 := 0) rfl rfl) rfl hl.1 rfl (Nat.le_of_ble_eq_true rfl) dX0_change_42 ⟨Nat.zero_le _, Nat.zero_le _⟩ (fun _ H locs hw hP hD hS => ?_)
        refine lv_iload_n hx hb dX0_change_45 rfl (lv_at hl 0 rfl) ?_
        exact W.iret (v := nI (ft j)) hx hb hr (fun t ht hW => ⟨⟨nI (ft j), (sh_up ft j k, sh_up fs j (big / k)), rfl, ⟨by rw [change_4 hj hN ht0 hk0 hkb hbig], Or.inr ⟨j, k, by rw [change_4 hj hN ht0 hk0 hkb hbig], hj, hk0, hkb, ht0, rfl, V_change hV ht0 hk0 hkb⟩⟩, by rw [ht]; exact hP, hD⟩, hS.F ht⟩) hS.2.2 dX0_change_46
set_option maxHeartbeats 4000000 in
set_option maxRecDepth 100000 in
/-- ranOf(x) -/
theorem kX0_ranOf (l : Launch) (dC : Nat → ClassId) (dI : Nat → Nat → Nat) (h0 aT aS aP aR aL : Nat) (cA cZ cJ : ClassId) (sz N big n lp : Nat) (ft fs fp fr fl : Nat → Nat) (hV : sh_V N big n lp ft fs fp fl) (x : Int32) : Met l yX0_ranOf wsX0_ranOf ({ frames := 1, cells := 0, slots := 0, locals := 21 }) (va_Pc [.ref h0, .int x] (sB dC dI (ty3 cA cZ cJ) sz (sw h0 aT aS aP aR aL cA N big n lp ft fs fp fr fl))) (va_Qi (fun (r : Int32) (_ : Unit) => r = sp_ran N fr x) (fun _ => sE dC dI (va_A (sw h0 aT aS aP aR aL cA N big n lp ft fs fp fr fl) sz) (sw h0 aT aS aP aR aL cA N big n lp ft fs fp fr fl)) (va_A (sw h0 aT aS aP aR aL cA N big n lp ft fs fp fr fl) sz)) 0 0 (va_A (sw h0 aT aS aP aR aL cA N big n lp ft fs fp fr fl) sz) := by
  refine Met.ofW (cc := cX0_ranOf) (maxL := 2) (ret := (some .int)) (by decide) rfl ?_
  intro p e s m args below meth c s₁ B hml hv
  obtain ⟨rfl, hsz, hP, hK, hD0⟩ := hv
  have hx := B.exec
  have hb := B.bytes
  have hr := B.returns
  have hts := atoms_spec (ws := wsX0_ranOf) B.pre
  have hown : s.vm.findClass RX0 = some m.cls := findClass_of_methodNamed B.named
  have hlocks := B.notSynchronized
  subst hsz
  have hD := hD0.self (sz := s.heap.size)
  generalize hAe : va_A (sw h0 aT aS aP aR aL cA N big n lp ft fs fp fr fl) s.heap.size = A at hD ⊢
  have hA : ∀ q : Nat, s.heap.size ≤ q → A q := fun q h => by rw [← hAe]; exact Or.inr h
  have hS : va_S A s.heap s.heap [] := va_S.rf
  have hl := lv_entry ([.ref h0, .int x]) (n := 2) (Nat.le_of_ble_eq_true rfl)
  rw [lg_entry_eq]
  generalize (lg_sl ([.ref h0, .int x]) ++ List.replicate (2 - (lg_sl ([.ref h0, .int x])).length) Slot.unset).toArray = ls at hl ⊢
  have hl : lv_has ls 2 [(0, .ref h0), (1, .int x)] := hl
  obtain ⟨hN0, hN, hb2, hbig, hlp, hfp, hft, hfs, hI⟩ := id hV
  have hnN : n ≤ N := by rw [hI.1]; exact cnt_le ft N
  have hfl : ∀ i, i < n → fl i < N := fun i hi => (hI.2.1 i hi).1
  have hft2 : ∀ c, ft c < 2 ^ 31 := fun c => by have := hft c; omega
  refine lv_aload_n hx hb dX0_ranOf_0 rfl (lv_at hl 0 rfl) ?_
  refine lv_iload_n hx hb dX0_ranOf_1 rfl (lv_at hl 1 rfl) ?_
  refine sc_i (wr := []) (wc := sw h0 aT aS aP aR aL cA N big n lp ft fs fp fr fl) (As := [.int x]) (rest := []) ⟨hx, hb, hml, hown, hts⟩ (kX0_isClient l dC dI h0 aT aS aP aR aL cA cZ cJ s.heap.size N big n lp ft fs fp fr fl hN x) (cwV 1 hts gX0_ranOf_X0_isClient rfl rfl rfl (by decide +kernel) ⟨Nat.le_of_ble_eq_true rfl, Nat.le_of_ble_eq_true rfl⟩) hK hP hD hS hA (va_recv hK hP (ci := 0) (q0 := 0) rfl rfl) rfl hl.1 rfl (Nat.le_of_ble_eq_true rfl) dX0_ranOf_2 ⟨Nat.zero_le _, Nat.zero_le _⟩ (fun r _ H locs hw hP hD hS => ?_)
  rcases hw with ⟨hnx, rfl⟩ | ⟨j, hj, rfl, rfl⟩
  · skip
    refine sr_if_eq (tgt := 17) hx hb (by decide) dX0_ranOf_5 (by decide) (fun _ => ?_) (fun q => absurd q (by decide))
    refine lv_iconst (v := (-1)) hx hb dX0_ranOf_17 (by decide) ?_
    exact W.iret (v := (-1)) hx hb hr (fun t ht hW => ⟨⟨(-1), (), rfl, (ran_1 hnx).symm, by rw [ht]; exact hP, hD⟩, hS.F ht⟩) hS.2.2 dX0_ranOf_18
  · skip
    refine sr_if_eq (tgt := 17) hx hb (by decide) dX0_ranOf_5 (by decide) (fun q => absurd q (by decide)) (fun _ => ?_)
    refine lv_aload_n hx hb dX0_ranOf_8 rfl (lv_at hl 0 rfl) ?_
    refine va_get (D := (dC, dI)) (ci := 0) (v := .ref aR) (C := RX0) (T := TX0) (N := 9) hx hb hts wiX0_ranOf hown hK hP 0 rfl rfl 5 (by decide) (hts (.fieldLink RX0 32 "StrideHeap" "ran" "[I") (by decide +kernel)) (fun _ h9 => h9) rfl dX0_ranOf_9 ?_
    refine lv_iload_n hx hb dX0_ranOf_12 rfl (lv_at hl 1 rfl) ?_
    refine sr_ald hx hb hK hP 4 0 rfl rfl (k := j) (by omega) (by omega) dX0_ranOf_13 ?_
    refine lv_goto (tgt := 18) hx hb dX0_ranOf_14 (by decide) ?_
    exact W.iret (v := nI (fr j)) hx hb hr (fun t ht hW => ⟨⟨nI (fr j), (), rfl, (ran_2 hj hN).symm, by rw [ht]; exact hP, hD⟩, hS.F ht⟩) hS.2.2 dX0_ranOf_18
set_option maxHeartbeats 4000000 in
set_option maxRecDepth 100000 in
/-- passOf(x) -/
theorem kX0_passOf (l : Launch) (dC : Nat → ClassId) (dI : Nat → Nat → Nat) (h0 aT aS aP aR aL : Nat) (cA cZ cJ : ClassId) (sz N big n lp : Nat) (ft fs fp fr fl : Nat → Nat) (hV : sh_V N big n lp ft fs fp fl) (x : Int32) : Met l yX0_passOf wsX0_passOf ({ frames := 1, cells := 0, slots := 0, locals := 21 }) (va_Pc [.ref h0, .int x] (sB dC dI (ty3 cA cZ cJ) sz (sw h0 aT aS aP aR aL cA N big n lp ft fs fp fr fl))) (va_Qi (fun (r : Int32) (_ : Unit) => r = sp_pass N ft fp x) (fun _ => sE dC dI (va_A (sw h0 aT aS aP aR aL cA N big n lp ft fs fp fr fl) sz) (sw h0 aT aS aP aR aL cA N big n lp ft fs fp fr fl)) (va_A (sw h0 aT aS aP aR aL cA N big n lp ft fs fp fr fl) sz)) 0 0 (va_A (sw h0 aT aS aP aR aL cA N big n lp ft fs fp fr fl) sz) := by
  refine Met.ofW (cc := cX0_passOf) (maxL := 2) (ret := (some .int)) (by decide) rfl ?_
  intro p e s m args below meth c s₁ B hml hv
  obtain ⟨rfl, hsz, hP, hK, hD0⟩ := hv
  have hx := B.exec
  have hb := B.bytes
  have hr := B.returns
  have hts := atoms_spec (ws := wsX0_passOf) B.pre
  have hown : s.vm.findClass RX0 = some m.cls := findClass_of_methodNamed B.named
  have hlocks := B.notSynchronized
  subst hsz
  have hD := hD0.self (sz := s.heap.size)
  generalize hAe : va_A (sw h0 aT aS aP aR aL cA N big n lp ft fs fp fr fl) s.heap.size = A at hD ⊢
  have hA : ∀ q : Nat, s.heap.size ≤ q → A q := fun q h => by rw [← hAe]; exact Or.inr h
  have hS : va_S A s.heap s.heap [] := va_S.rf
  have hl := lv_entry ([.ref h0, .int x]) (n := 2) (Nat.le_of_ble_eq_true rfl)
  rw [lg_entry_eq]
  generalize (lg_sl ([.ref h0, .int x]) ++ List.replicate (2 - (lg_sl ([.ref h0, .int x])).length) Slot.unset).toArray = ls at hl ⊢
  have hl : lv_has ls 2 [(0, .ref h0), (1, .int x)] := hl
  obtain ⟨hN0, hN, hb2, hbig, hlp, hfp, hft, hfs, hI⟩ := id hV
  have hnN : n ≤ N := by rw [hI.1]; exact cnt_le ft N
  have hfl : ∀ i, i < n → fl i < N := fun i hi => (hI.2.1 i hi).1
  have hft2 : ∀ c, ft c < 2 ^ 31 := fun c => by have := hft c; omega
  refine lv_aload_n hx hb dX0_passOf_0 rfl (lv_at hl 0 rfl) ?_
  refine lv_iload_n hx hb dX0_passOf_1 rfl (lv_at hl 1 rfl) ?_
  refine sc_i (wr := []) (wc := sw h0 aT aS aP aR aL cA N big n lp ft fs fp fr fl) (As := [.int x]) (rest := []) ⟨hx, hb, hml, hown, hts⟩ (kX0_isClient l dC dI h0 aT aS aP aR aL cA cZ cJ s.heap.size N big n lp ft fs fp fr fl hN x) (cwV 1 hts gX0_passOf_X0_isClient rfl rfl rfl (by decide +kernel) ⟨Nat.le_of_ble_eq_true rfl, Nat.le_of_ble_eq_true rfl⟩) hK hP hD hS hA (va_recv hK hP (ci := 0) (q0 := 0) rfl rfl) rfl hl.1 rfl (Nat.le_of_ble_eq_true rfl) dX0_passOf_2 ⟨Nat.zero_le _, Nat.zero_le _⟩ (fun r _ H locs hw hP hD hS => ?_)
  rcases hw with ⟨hnx, rfl⟩ | ⟨j, hj, rfl, rfl⟩
  · skip
    refine sr_if_eq (tgt := 25) hx hb (by decide) dX0_passOf_5 (by decide) (fun _ => ?_) (fun q => absurd q (by decide))
    refine lv_iconst (v := (-1)) hx hb dX0_passOf_25 (by decide) ?_
    exact W.iret (v := (-1)) hx hb hr (fun t ht hW => ⟨⟨(-1), (), rfl, (pass_1 hnx).symm, by rw [ht]; exact hP, hD⟩, hS.F ht⟩) hS.2.2 dX0_passOf_26
  · skip
    refine sr_if_eq (tgt := 25) hx hb (by decide) dX0_passOf_5 (by decide) (fun q => absurd q (by decide)) (fun _ => ?_)
    refine lv_aload_n hx hb dX0_passOf_8 rfl (lv_at hl 0 rfl) ?_
    refine lv_iload_n hx hb dX0_passOf_9 rfl (lv_at hl 1 rfl) ?_
    refine sc_i (wr := []) (wc := sw h0 aT aS aP aR aL cA N big n lp ft fs fp fr fl) (As := [.int (nI j)]) (rest := []) ⟨hx, hb, hml, hown, hts⟩ (kX0_isIn l dC dI h0 aT aS aP aR aL cA cZ cJ H.size N big n lp ft fs fp fr fl hN hft2 j hj) (cwV 1 hts gX0_passOf_X0_isIn rfl rfl rfl (by decide +kernel) ⟨Nat.le_of_ble_eq_true rfl, Nat.le_of_ble_eq_true rfl⟩) hK hP hD hS hA (va_recv hK hP (ci := 0) (q0 := 0) rfl rfl) rfl hl.1 rfl (Nat.le_of_ble_eq_true rfl) dX0_passOf_10 ⟨Nat.zero_le _, Nat.zero_le _⟩ (fun r _ H locs hw hP hD hS => ?_)
    rcases hw with ⟨ht0, rfl⟩ | ⟨ht0, rfl⟩
    · skip
      refine sr_if_eq (tgt := 25) hx hb (by decide) dX0_passOf_13 (by decide) (fun _ => ?_) (fun q => absurd q (by decide))
      refine lv_iconst (v := (-1)) hx hb dX0_passOf_25 (by decide) ?_
      exact W.iret (v := (-1)) hx hb hr (fun t ht hW => ⟨⟨(-1), (), rfl, (pass_2 hj hN ht0).symm, by rw [ht]; exact hP, hD⟩, hS.F ht⟩) hS.2.2 dX0_passOf_26
    · skip
      refine sr_if_eq (tgt := 25) hx hb (by decide) dX0_passOf_13 (by decide) (fun q => absurd q (by decide)) (fun _ => ?_)
      refine lv_aload_n hx hb dX0_passOf_16 rfl (lv_at hl 0 rfl) ?_
      refine va_get (D := (dC, dI)) (ci := 0) (v := .ref aP) (C := RX0) (T := TX0) (N := 9) hx hb hts wiX0_passOf hown hK hP 0 rfl rfl 4 (by decide) (hts (.fieldLink RX0 29 "StrideHeap" "passes" "[I") (by decide +kernel)) (fun _ h9 => h9) rfl dX0_passOf_17 ?_
      refine lv_iload_n hx hb dX0_passOf_20 rfl (lv_at hl 1 rfl) ?_
      refine sr_ald hx hb hK hP 3 0 rfl rfl (k := j) (by omega) (by omega) dX0_passOf_21 ?_
      refine lv_goto (tgt := 26) hx hb dX0_passOf_22 (by decide) ?_
      exact W.iret (v := nI (fp j)) hx hb hr (fun t ht hW => ⟨⟨nI (fp j), (), rfl, (pass_3 hj hN ht0).symm, by rw [ht]; exact hP, hD⟩, hS.F ht⟩) hS.2.2 dX0_passOf_26
set_option maxHeartbeats 4000000 in
set_option maxRecDepth 100000 in
/-- strideOf(x) -/
theorem kX0_strideOf (l : Launch) (dC : Nat → ClassId) (dI : Nat → Nat → Nat) (h0 aT aS aP aR aL : Nat) (cA cZ cJ : ClassId) (sz N big n lp : Nat) (ft fs fp fr fl : Nat → Nat) (hV : sh_V N big n lp ft fs fp fl) (x : Int32) : Met l yX0_strideOf wsX0_strideOf ({ frames := 1, cells := 0, slots := 0, locals := 21 }) (va_Pc [.ref h0, .int x] (sB dC dI (ty3 cA cZ cJ) sz (sw h0 aT aS aP aR aL cA N big n lp ft fs fp fr fl))) (va_Qi (fun (r : Int32) (_ : Unit) => r = sp_pass N ft (fun c => big / ft c) x) (fun _ => sE dC dI (va_A (sw h0 aT aS aP aR aL cA N big n lp ft fs fp fr fl) sz) (sw h0 aT aS aP aR aL cA N big n lp ft fs fp fr fl)) (va_A (sw h0 aT aS aP aR aL cA N big n lp ft fs fp fr fl) sz)) 0 0 (va_A (sw h0 aT aS aP aR aL cA N big n lp ft fs fp fr fl) sz) := by
  refine Met.ofW (cc := cX0_strideOf) (maxL := 2) (ret := (some .int)) (by decide) rfl ?_
  intro p e s m args below meth c s₁ B hml hv
  obtain ⟨rfl, hsz, hP, hK, hD0⟩ := hv
  have hx := B.exec
  have hb := B.bytes
  have hr := B.returns
  have hts := atoms_spec (ws := wsX0_strideOf) B.pre
  have hown : s.vm.findClass RX0 = some m.cls := findClass_of_methodNamed B.named
  have hlocks := B.notSynchronized
  subst hsz
  have hD := hD0.self (sz := s.heap.size)
  generalize hAe : va_A (sw h0 aT aS aP aR aL cA N big n lp ft fs fp fr fl) s.heap.size = A at hD ⊢
  have hA : ∀ q : Nat, s.heap.size ≤ q → A q := fun q h => by rw [← hAe]; exact Or.inr h
  have hS : va_S A s.heap s.heap [] := va_S.rf
  have hl := lv_entry ([.ref h0, .int x]) (n := 2) (Nat.le_of_ble_eq_true rfl)
  rw [lg_entry_eq]
  generalize (lg_sl ([.ref h0, .int x]) ++ List.replicate (2 - (lg_sl ([.ref h0, .int x])).length) Slot.unset).toArray = ls at hl ⊢
  have hl : lv_has ls 2 [(0, .ref h0), (1, .int x)] := hl
  obtain ⟨hN0, hN, hb2, hbig, hlp, hfp, hft, hfs, hI⟩ := id hV
  have hnN : n ≤ N := by rw [hI.1]; exact cnt_le ft N
  have hfl : ∀ i, i < n → fl i < N := fun i hi => (hI.2.1 i hi).1
  have hft2 : ∀ c, ft c < 2 ^ 31 := fun c => by have := hft c; omega
  refine lv_aload_n hx hb dX0_strideOf_0 rfl (lv_at hl 0 rfl) ?_
  refine lv_iload_n hx hb dX0_strideOf_1 rfl (lv_at hl 1 rfl) ?_
  refine sc_i (wr := []) (wc := sw h0 aT aS aP aR aL cA N big n lp ft fs fp fr fl) (As := [.int x]) (rest := []) ⟨hx, hb, hml, hown, hts⟩ (kX0_isClient l dC dI h0 aT aS aP aR aL cA cZ cJ s.heap.size N big n lp ft fs fp fr fl hN x) (cwV 1 hts gX0_strideOf_X0_isClient rfl rfl rfl (by decide +kernel) ⟨Nat.le_of_ble_eq_true rfl, Nat.le_of_ble_eq_true rfl⟩) hK hP hD hS hA (va_recv hK hP (ci := 0) (q0 := 0) rfl rfl) rfl hl.1 rfl (Nat.le_of_ble_eq_true rfl) dX0_strideOf_2 ⟨Nat.zero_le _, Nat.zero_le _⟩ (fun r _ H locs hw hP hD hS => ?_)
  rcases hw with ⟨hnx, rfl⟩ | ⟨j, hj, rfl, rfl⟩
  · skip
    refine sr_if_eq (tgt := 25) hx hb (by decide) dX0_strideOf_5 (by decide) (fun _ => ?_) (fun q => absurd q (by decide))
    refine lv_iconst (v := (-1)) hx hb dX0_strideOf_25 (by decide) ?_
    exact W.iret (v := (-1)) hx hb hr (fun t ht hW => ⟨⟨(-1), (), rfl, (pass_1 hnx).symm, by rw [ht]; exact hP, hD⟩, hS.F ht⟩) hS.2.2 dX0_strideOf_26
  · skip
    refine sr_if_eq (tgt := 25) hx hb (by decide) dX0_strideOf_5 (by decide) (fun q => absurd q (by decide)) (fun _ => ?_)
    refine lv_aload_n hx hb dX0_strideOf_8 rfl (lv_at hl 0 rfl) ?_
    refine lv_iload_n hx hb dX0_strideOf_9 rfl (lv_at hl 1 rfl) ?_
    refine sc_i (wr := []) (wc := sw h0 aT aS aP aR aL cA N big n lp ft fs fp fr fl) (As := [.int (nI j)]) (rest := []) ⟨hx, hb, hml, hown, hts⟩ (kX0_isIn l dC dI h0 aT aS aP aR aL cA cZ cJ H.size N big n lp ft fs fp fr fl hN hft2 j hj) (cwV 1 hts gX0_strideOf_X0_isIn rfl rfl rfl (by decide +kernel) ⟨Nat.le_of_ble_eq_true rfl, Nat.le_of_ble_eq_true rfl⟩) hK hP hD hS hA (va_recv hK hP (ci := 0) (q0 := 0) rfl rfl) rfl hl.1 rfl (Nat.le_of_ble_eq_true rfl) dX0_strideOf_10 ⟨Nat.zero_le _, Nat.zero_le _⟩ (fun r _ H locs hw hP hD hS => ?_)
    rcases hw with ⟨ht0, rfl⟩ | ⟨ht0, rfl⟩
    · skip
      refine sr_if_eq (tgt := 25) hx hb (by decide) dX0_strideOf_13 (by decide) (fun _ => ?_) (fun q => absurd q (by decide))
      refine lv_iconst (v := (-1)) hx hb dX0_strideOf_25 (by decide) ?_
      exact W.iret (v := (-1)) hx hb hr (fun t ht hW => ⟨⟨(-1), (), rfl, (pass_2 hj hN ht0).symm, by rw [ht]; exact hP, hD⟩, hS.F ht⟩) hS.2.2 dX0_strideOf_26
    · skip
      refine sr_if_eq (tgt := 25) hx hb (by decide) dX0_strideOf_13 (by decide) (fun q => absurd q (by decide)) (fun _ => ?_)
      refine lv_aload_n hx hb dX0_strideOf_16 rfl (lv_at hl 0 rfl) ?_
      refine va_get (D := (dC, dI)) (ci := 0) (v := .ref aS) (C := RX0) (T := TX0) (N := 9) hx hb hts wiX0_strideOf hown hK hP 0 rfl rfl 3 (by decide) (hts (.fieldLink RX0 26 "StrideHeap" "strides" "[I") (by decide +kernel)) (fun _ h9 => h9) rfl dX0_strideOf_17 ?_
      refine lv_iload_n hx hb dX0_strideOf_20 rfl (lv_at hl 1 rfl) ?_
      refine sr_ald hx hb hK hP 2 0 rfl rfl (k := j) (by omega) (by omega) dX0_strideOf_21 ?_
      refine lv_goto (tgt := 26) hx hb dX0_strideOf_22 (by decide) ?_
      exact W.iret (v := nI (fs j)) hx hb hr (fun t ht hW => ⟨⟨nI (fs j), (), rfl, (by rw [pass_3 hj hN ht0, hfs j ht0]), by rw [ht]; exact hP, hD⟩, hS.F ht⟩) hS.2.2 dX0_strideOf_26
set_option maxHeartbeats 4000000 in
set_option maxRecDepth 100000 in
/-- clients() -/
theorem kX0_clients (l : Launch) (dC : Nat → ClassId) (dI : Nat → Nat → Nat) (h0 aT aS aP aR aL : Nat) (cA cZ cJ : ClassId) (sz N big n lp : Nat) (ft fs fp fr fl : Nat → Nat) (hV : sh_V N big n lp ft fs fp fl) : Met l yX0_clients wsX0_clients ({ frames := 0, cells := 0, slots := 0, locals := 0 }) (va_Pc [.ref h0] (sB dC dI (ty3 cA cZ cJ) sz (sw h0 aT aS aP aR aL cA N big n lp ft fs fp fr fl))) (va_Qi (fun (r : Int32) (_ : Unit) => r = nI n) (fun _ => sE dC dI (va_A (sw h0 aT aS aP aR aL cA N big n lp ft fs fp fr fl) sz) (sw h0 aT aS aP aR aL cA N big n lp ft fs fp fr fl)) (va_A (sw h0 aT aS aP aR aL cA N big n lp ft fs fp fr fl) sz)) 0 0 (va_A (sw h0 aT aS aP aR aL cA N big n lp ft fs fp fr fl) sz) := by
  refine Met.ofW (cc := cX0_clients) (maxL := 1) (ret := (some .int)) (by decide) rfl ?_
  intro p e s m args below meth c s₁ B hml hv
  obtain ⟨rfl, hsz, hP, hK, hD0⟩ := hv
  have hx := B.exec
  have hb := B.bytes
  have hr := B.returns
  have hts := atoms_spec (ws := wsX0_clients) B.pre
  have hown : s.vm.findClass RX0 = some m.cls := findClass_of_methodNamed B.named
  have hlocks := B.notSynchronized
  subst hsz
  have hD := hD0.self (sz := s.heap.size)
  generalize hAe : va_A (sw h0 aT aS aP aR aL cA N big n lp ft fs fp fr fl) s.heap.size = A at hD ⊢
  have hA : ∀ q : Nat, s.heap.size ≤ q → A q := fun q h => by rw [← hAe]; exact Or.inr h
  have hS : va_S A s.heap s.heap [] := va_S.rf
  have hl := lv_entry ([.ref h0]) (n := 1) (Nat.le_of_ble_eq_true rfl)
  rw [lg_entry_eq]
  generalize (lg_sl ([.ref h0]) ++ List.replicate (1 - (lg_sl ([.ref h0])).length) Slot.unset).toArray = ls at hl ⊢
  have hl : lv_has ls 1 [(0, .ref h0)] := hl
  refine lv_aload_n hx hb dX0_clients_0 rfl (lv_at hl 0 rfl) ?_
  refine va_get (D := (dC, dI)) (ci := 0) (v := .int (nI n)) (C := RX0) (T := TX0) (N := 9) hx hb hts wiX0_clients hown hK hP 0 rfl rfl 7 (by decide) (hts (.fieldLink RX0 38 "StrideHeap" "inLine" "I") (by decide +kernel)) (fun _ h9 => h9) rfl dX0_clients_1 ?_
  exact W.iret (v := nI n) hx hb hr (fun t ht hW => ⟨⟨nI n, (), rfl, rfl, by rw [ht]; exact hP, hD⟩, hS.F ht⟩) hS.2.2 dX0_clients_4
set_option maxHeartbeats 4000000 in
set_option maxRecDepth 100000 in
/-- spread() -/
theorem kX0_spread (l : Launch) (dC : Nat → ClassId) (dI : Nat → Nat → Nat) (h0 aT aS aP aR aL : Nat) (cA cZ cJ : ClassId) (sz N big n lp : Nat) (ft fs fp fr fl : Nat → Nat) (hV : sh_V N big n lp ft fs fp fl) : Met l yX0_spread wsX0_spread ({ frames := 0, cells := 0, slots := 0, locals := 0 }) (va_Pc [.ref h0] (sB dC dI (ty3 cA cZ cJ) sz (sw h0 aT aS aP aR aL cA N big n lp ft fs fp fr fl))) (va_Qi (fun (r : Int32) (_ : Unit) => r = sp_spread N ft fp) (fun _ => sE dC dI (va_A (sw h0 aT aS aP aR aL cA N big n lp ft fs fp fr fl) sz) (sw h0 aT aS aP aR aL cA N big n lp ft fs fp fr fl)) (va_A (sw h0 aT aS aP aR aL cA N big n lp ft fs fp fr fl) sz)) 0 0 (va_A (sw h0 aT aS aP aR aL cA N big n lp ft fs fp fr fl) sz) := by
  refine Met.ofW (cc := cX0_spread) (maxL := 1) (ret := (some .int)) (by decide) rfl ?_
  intro p e s m args below meth c s₁ B hml hv
  obtain ⟨rfl, hsz, hP, hK, hD0⟩ := hv
  have hx := B.exec
  have hb := B.bytes
  have hr := B.returns
  have hts := atoms_spec (ws := wsX0_spread) B.pre
  have hown : s.vm.findClass RX0 = some m.cls := findClass_of_methodNamed B.named
  have hlocks := B.notSynchronized
  subst hsz
  have hD := hD0.self (sz := s.heap.size)
  generalize hAe : va_A (sw h0 aT aS aP aR aL cA N big n lp ft fs fp fr fl) s.heap.size = A at hD ⊢
  have hA : ∀ q : Nat, s.heap.size ≤ q → A q := fun q h => by rw [← hAe]; exact Or.inr h
  have hS : va_S A s.heap s.heap [] := va_S.rf
  have hl := lv_entry ([.ref h0]) (n := 1) (Nat.le_of_ble_eq_true rfl)
  rw [lg_entry_eq]
  generalize (lg_sl ([.ref h0]) ++ List.replicate (1 - (lg_sl ([.ref h0])).length) Slot.unset).toArray = ls at hl ⊢
  have hl : lv_has ls 1 [(0, .ref h0)] := hl
  obtain ⟨hN0, hN, hb2, hbig, hlp, hfp, hft, hfs, hI⟩ := id hV
  have hnN : n ≤ N := by rw [hI.1]; exact cnt_le ft N
  have hfl : ∀ i, i < n → fl i < N := fun i hi => (hI.2.1 i hi).1
  have hft2 : ∀ c, ft c < 2 ^ 31 := fun c => by have := hft c; omega
  refine lv_aload_n hx hb dX0_spread_0 rfl (lv_at hl 0 rfl) ?_
  refine va_get (D := (dC, dI)) (ci := 0) (v := .int (nI n)) (C := RX0) (T := TX0) (N := 9) hx hb hts wiX0_spread hown hK hP 0 rfl rfl 7 (by decide) (hts (.fieldLink RX0 38 "StrideHeap" "inLine" "I") (by decide +kernel)) (fun _ h9 => h9) rfl dX0_spread_1 ?_
  refine sr_if_ne (tgt := 9) hx hb (by omega) dX0_spread_4 (by decide) (fun c1 => ?_) (fun c1 => ?_)
  · skip
    have hsp := spread_I hI c1
    have hm1 : fl (n - 1) < N := hfl _ (by omega)
    have hm0 : fl 0 < N := hfl _ c1
    refine lv_aload_n hx hb dX0_spread_9 rfl (lv_at hl 0 rfl) ?_
    refine va_get (D := (dC, dI)) (ci := 0) (v := .ref aP) (C := RX0) (T := TX0) (N := 9) hx hb hts wiX0_spread hown hK hP 0 rfl rfl 4 (by decide) (hts (.fieldLink RX0 29 "StrideHeap" "passes" "[I") (by decide +kernel)) (fun _ h9 => h9) rfl dX0_spread_10 ?_
    refine lv_aload_n hx hb dX0_spread_13 rfl (lv_at hl 0 rfl) ?_
    refine va_get (D := (dC, dI)) (ci := 0) (v := .ref aL) (C := RX0) (T := TX0) (N := 9) hx hb hts wiX0_spread hown hK hP 0 rfl rfl 6 (by decide) (hts (.fieldLink RX0 35 "StrideHeap" "line" "[I") (by decide +kernel)) (fun _ h9 => h9) rfl dX0_spread_14 ?_
    refine lv_aload_n hx hb dX0_spread_17 rfl (lv_at hl 0 rfl) ?_
    refine va_get (D := (dC, dI)) (ci := 0) (v := .int (nI n)) (C := RX0) (T := TX0) (N := 9) hx hb hts wiX0_spread hown hK hP 0 rfl rfl 7 (by decide) (hts (.fieldLink RX0 38 "StrideHeap" "inLine" "I") (by decide +kernel)) (fun _ h9 => h9) rfl dX0_spread_18 ?_
    refine lv_iconst (v := nI 1) hx hb dX0_spread_21 (by decide) ?_
    refine sr_isub hx hb (by omega) dX0_spread_22 ?_
    refine sr_ald hx hb hK hP 5 0 rfl rfl (k := n - 1) (by omega) (by omega) dX0_spread_23 ?_
    refine sr_ald hx hb hK hP 3 0 rfl rfl (k := fl (n - 1)) (by omega) (by omega) dX0_spread_24 ?_
    refine lv_aload_n hx hb dX0_spread_25 rfl (lv_at hl 0 rfl) ?_
    refine va_get (D := (dC, dI)) (ci := 0) (v := .ref aP) (C := RX0) (T := TX0) (N := 9) hx hb hts wiX0_spread hown hK hP 0 rfl rfl 4 (by decide) (hts (.fieldLink RX0 29 "StrideHeap" "passes" "[I") (by decide +kernel)) (fun _ h9 => h9) rfl dX0_spread_26 ?_
    refine lv_aload_n hx hb dX0_spread_29 rfl (lv_at hl 0 rfl) ?_
    refine va_get (D := (dC, dI)) (ci := 0) (v := .ref aL) (C := RX0) (T := TX0) (N := 9) hx hb hts wiX0_spread hown hK hP 0 rfl rfl 6 (by decide) (hts (.fieldLink RX0 35 "StrideHeap" "line" "[I") (by decide +kernel)) (fun _ h9 => h9) rfl dX0_spread_30 ?_
    refine lv_iconst (v := nI 0) hx hb dX0_spread_33 (by decide) ?_
    refine sr_ald hx hb hK hP 5 0 rfl rfl (k := 0) (by omega) (by omega) dX0_spread_34 ?_
    refine sr_ald hx hb hK hP 3 0 rfl rfl (k := fl 0) (by omega) (by omega) dX0_spread_35 ?_
    refine sr_isub hx hb hsp.1 dX0_spread_36 ?_
    exact W.iret (v := nI ((fp (fl (n - 1))) - (fp (fl 0)))) hx hb hr (fun t ht hW => ⟨⟨nI ((fp (fl (n - 1))) - (fp (fl 0))), (), rfl, hsp.2.symm, by rw [ht]; exact hP, hD⟩, hS.F ht⟩) hS.2.2 dX0_spread_37
  · skip
    refine lv_iconst (v := (-1)) hx hb dX0_spread_7 (by decide) ?_
    exact W.iret (v := (-1)) hx hb hr (fun t ht hW => ⟨⟨(-1), (), rfl, (spread_0 hI c1).symm, by rw [ht]; exact hP, hD⟩, hS.F ht⟩) hS.2.2 dX0_spread_8
set_option maxHeartbeats 4000000 in
set_option maxRecDepth 100000 in
/-- order(x) -/
theorem kX0_order (l : Launch) (dC : Nat → ClassId) (dI : Nat → Nat → Nat) (h0 aT aS aP aR aL : Nat) (cA cZ cJ : ClassId) (sz N big n lp : Nat) (ft fs fp fr fl : Nat → Nat) (hV : sh_V N big n lp ft fs fp fl) (x : Int32) : Met l yX0_order wsX0_order ({ frames := 0, cells := 0, slots := 0, locals := 0 }) (va_Pc [.ref h0, .int x] (sB dC dI (ty3 cA cZ cJ) sz (sw h0 aT aS aP aR aL cA N big n lp ft fs fp fr fl))) (va_Qi (fun (r : Int32) (_ : Unit) => (sh_ix n x = none ∧ r = (-1)) ∨ ∃ k c, k < n ∧ x = nI k ∧ c < N ∧ 0 < ft c ∧ sh_rk ft fp c N = k ∧ r = nI c) (fun _ => sE dC dI (va_A (sw h0 aT aS aP aR aL cA N big n lp ft fs fp fr fl) sz) (sw h0 aT aS aP aR aL cA N big n lp ft fs fp fr fl)) (va_A (sw h0 aT aS aP aR aL cA N big n lp ft fs fp fr fl) sz)) 0 0 (va_A (sw h0 aT aS aP aR aL cA N big n lp ft fs fp fr fl) sz) := by
  refine Met.ofW (cc := cX0_order) (maxL := 2) (ret := (some .int)) (by decide) rfl ?_
  intro p e s m args below meth c s₁ B hml hv
  obtain ⟨rfl, hsz, hP, hK, hD0⟩ := hv
  have hx := B.exec
  have hb := B.bytes
  have hr := B.returns
  have hts := atoms_spec (ws := wsX0_order) B.pre
  have hown : s.vm.findClass RX0 = some m.cls := findClass_of_methodNamed B.named
  have hlocks := B.notSynchronized
  subst hsz
  have hD := hD0.self (sz := s.heap.size)
  generalize hAe : va_A (sw h0 aT aS aP aR aL cA N big n lp ft fs fp fr fl) s.heap.size = A at hD ⊢
  have hA : ∀ q : Nat, s.heap.size ≤ q → A q := fun q h => by rw [← hAe]; exact Or.inr h
  have hS : va_S A s.heap s.heap [] := va_S.rf
  have hl := lv_entry ([.ref h0, .int x]) (n := 2) (Nat.le_of_ble_eq_true rfl)
  rw [lg_entry_eq]
  generalize (lg_sl ([.ref h0, .int x]) ++ List.replicate (2 - (lg_sl ([.ref h0, .int x])).length) Slot.unset).toArray = ls at hl ⊢
  have hl : lv_has ls 2 [(0, .ref h0), (1, .int x)] := hl
  obtain ⟨hN0, hN, hb2, hbig, hlp, hfp, hft, hfs, hI⟩ := id hV
  have hnN : n ≤ N := by rw [hI.1]; exact cnt_le ft N
  have hfl : ∀ i, i < n → fl i < N := fun i hi => (hI.2.1 i hi).1
  have hft2 : ∀ c, ft c < 2 ^ 31 := fun c => by have := hft c; omega
  refine lv_iload_n hx hb dX0_order_0 rfl (lv_at hl 1 rfl) ?_
  refine lv_if_lt (tgt := 21) hx hb dX0_order_1 (by decide) (fun c1 => ?_) (fun c1 => ?_)
  · skip
    refine lv_iconst (v := (-1)) hx hb dX0_order_21 (by decide) ?_
    exact W.iret (v := (-1)) hx hb hr (fun t ht hW => ⟨⟨(-1), (), rfl, Or.inl ⟨ix_lo c1, rfl⟩, by rw [ht]; exact hP, hD⟩, hS.F ht⟩) hS.2.2 dX0_order_22
  · skip
    refine lv_iload_n hx hb dX0_order_4 rfl (lv_at hl 1 rfl) ?_
    refine lv_aload_n hx hb dX0_order_5 rfl (lv_at hl 0 rfl) ?_
    refine va_get (D := (dC, dI)) (ci := 0) (v := .int (nI n)) (C := RX0) (T := TX0) (N := 9) hx hb hts wiX0_order hown hK hP 0 rfl rfl 7 (by decide) (hts (.fieldLink RX0 38 "StrideHeap" "inLine" "I") (by decide +kernel)) (fun _ h9 => h9) rfl dX0_order_6 ?_
    refine lv_icmp_ge (tgt := 21) hx hb dX0_order_9 (by decide) (fun c2 => ?_) (fun c2 => ?_)
    · skip
      refine lv_iconst (v := (-1)) hx hb dX0_order_21 (by decide) ?_
      exact W.iret (v := (-1)) hx hb hr (fun t ht hW => ⟨⟨(-1), (), rfl, Or.inl ⟨ix_hi c2, rfl⟩, by rw [ht]; exact hP, hD⟩, hS.F ht⟩) hS.2.2 dX0_order_22
    · skip
      obtain ⟨k, hk, rfl⟩ := ix_yes c1 c2 (by omega)
      refine lv_aload_n hx hb dX0_order_12 rfl (lv_at hl 0 rfl) ?_
      refine va_get (D := (dC, dI)) (ci := 0) (v := .ref aL) (C := RX0) (T := TX0) (N := 9) hx hb hts wiX0_order hown hK hP 0 rfl rfl 6 (by decide) (hts (.fieldLink RX0 35 "StrideHeap" "line" "[I") (by decide +kernel)) (fun _ h9 => h9) rfl dX0_order_13 ?_
      refine lv_iload_n hx hb dX0_order_16 rfl (lv_at hl 1 rfl) ?_
      refine sr_ald hx hb hK hP 5 0 rfl rfl (k := k) (by omega) (by omega) dX0_order_17 ?_
      refine lv_goto (tgt := 22) hx hb dX0_order_18 (by decide) ?_
      exact W.iret (v := nI (fl k)) hx hb hr (fun t ht hW => ⟨⟨nI (fl k), (), rfl, Or.inr ⟨k, fl k, hk, rfl, (hI.2.1 k hk).1, (hI.2.1 k hk).2, rk_I hI hk, rfl⟩, by rw [ht]; exact hP, hD⟩, hS.F ht⟩) hS.2.2 dX0_order_22
end
section
-- THE REFERENCE: its private methods
theorem fi_s0 {t p : Nat → Nat} {c : Nat} (h : t c = 0) : sh_fi t p (c + 1) = sh_fi t p c := by
  simp only [sh_fi]
  exact if_neg (by omega)
theorem fi_s1 {t p : Nat → Nat} {c : Nat} (h : 0 < t c) (h1 : sh_fi t p c = 0) : sh_fi t p (c + 1) = c + 1 := by
  simp only [sh_fi]
  exact if_pos ⟨h, Or.inl h1⟩
theorem fi_s2 {t p : Nat → Nat} {c b : Nat} (h : 0 < t c) (h1 : sh_fi t p c = b + 1) (h2 : sh_bf p c b) : sh_fi t p (c + 1) = c + 1 := by
  simp only [sh_fi]
  rw [h1]
  exact if_pos ⟨h, Or.inr h2⟩
theorem fi_s3 {t p : Nat → Nat} {c b : Nat} (h1 : sh_fi t p c = b + 1) (h2 : ¬ sh_bf p c b) : sh_fi t p (c + 1) = sh_fi t p c := by
  simp only [sh_fi]
  rw [h1]
  refine if_neg (fun q => ?_)
  rcases q.2 with z | z
  · omega
  · exact h2 z
def sf_i (v : Nat) : Int32 := if v = 0 then -1 else nI (v - 1)
theorem sf_0 : sf_i 0 = -1 := rfl
theorem sf_s (b : Nat) : sf_i (b + 1) = nI b := rfl
theorem M_turn {N big n lp b x : Nat} {ft fk fp : Nat → Nat} (h : sh_M N big n lp ft fk fp) (hx : x < 2 ^ 31) : sh_M N big n lp ft fk (sh_up fp b x) := by
  obtain ⟨h1, h2, h3, h4, h5, h6, h7, h8, h9⟩ := h
  refine ⟨h1, h2, h3, h4, h5, fun c => ?_, h7, h8, h9⟩
  by_cases q : c = b
  · rw [q, sh_up_s]; exact hx
  · rw [sh_up_n fp x q]; exact h6 c
theorem M_join {N big n lp c tk x : Nat} {ft fk fp : Nat → Nat} (h : sh_M N big n lp ft fk fp) (hc : c < N) (h0 : ft c = 0) (htk : 0 < tk) (htb : tk < big) (hx : x < 2 ^ 31) : sh_M N big (n + 1) lp (sh_up ft c tk) (sh_up fk c tk) (sh_up fp c x) := by
  obtain ⟨h1, h2, h3, h4, h5, h6, h7, h8, h9⟩ := h
  refine ⟨h1, h2, h3, h4, h5, fun d => ?_, fun d => ?_, fun d => ?_, by rw [cnt_in ft h0 htk N hc, ← h9]⟩
  · by_cases q : d = c
    · rw [q, sh_up_s]; exact hx
    · rw [sh_up_n fp x q]; exact h6 d
  · by_cases q : d = c
    · rw [q, sh_up_s]; exact htb
    · rw [sh_up_n ft tk q]; exact h7 d
  · by_cases q : d = c
    · rw [q, sh_up_s, sh_up_s]; exact fun _ => rfl
    · rw [sh_up_n ft tk q, sh_up_n fk _ q]; exact h8 d
theorem M_leave {N big n lp c : Nat} {ft fk fp : Nat → Nat} (h : sh_M N big n lp ft fk fp) (hc : c < N) (h0 : 0 < ft c) : sh_M N big (n - 1) (fp c) (sh_up ft c 0) fk fp := by
  obtain ⟨h1, h2, h3, h4, h5, h6, h7, h8, h9⟩ := h
  refine ⟨h1, h2, h3, h4, h6 c, h6, fun d => ?_, fun d => ?_, ?_⟩
  · by_cases q : d = c
    · rw [q, sh_up_s]; omega
    · rw [sh_up_n ft 0 q]; exact h7 d
  · by_cases q : d = c
    · rw [q, sh_up_s]; intro z; omega
    · rw [sh_up_n ft 0 q]; exact h8 d
  · have := cnt_off ft h0 N hc
    omega
theorem M_change {N big n lp c tk : Nat} {ft fk fp : Nat → Nat} (h : sh_M N big n lp ft fk fp) (h0 : 0 < ft c) (htk : 0 < tk) (htb : tk < big) : sh_M N big n lp (sh_up ft c tk) (sh_up fk c tk) fp := by
  obtain ⟨h1, h2, h3, h4, h5, h6, h7, h8, h9⟩ := h
  refine ⟨h1, h2, h3, h4, h5, h6, fun d => ?_, fun d => ?_, by rw [cnt_same ft h0 htk N]; exact h9⟩
  · by_cases q : d = c
    · rw [q, sh_up_s]; exact htb
    · rw [sh_up_n ft tk q]; exact h7 d
  · by_cases q : d = c
    · rw [q, sh_up_s, sh_up_s]; exact fun _ => rfl
    · rw [sh_up_n ft tk q, sh_up_n fk _ q]; exact h8 d
set_option maxHeartbeats 4000000 in
set_option maxRecDepth 100000 in
/-- isClient(x) -/
theorem kX1_isClient (l : Launch) (dC : Nat → ClassId) (dI : Nat → Nat → Nat) (k0 bI bT bP bR : Nat) (cA cZ cJ : ClassId) (sz N big n lp : Nat) (ft fk fp fr : Nat → Nat) (hN : N ≤ 64) (x : Int32) : Met l yX1_isClient wsX1_isClient ({ frames := 0, cells := 0, slots := 0, locals := 0 }) (va_Pc [.ref k0, .int x] (sB dC dI (ty3 cA cZ cJ) sz (mw k0 bI bT bP bR cA cZ cJ N big n lp ft fk fp fr))) (va_Qi (fun (r : Int32) (_ : Unit) => (sh_ix N x = none ∧ r = nI 0) ∨ ∃ j, j < N ∧ x = nI j ∧ r = nI 1) (fun _ => sE dC dI (va_A (mw k0 bI bT bP bR cA cZ cJ N big n lp ft fk fp fr) sz) (mw k0 bI bT bP bR cA cZ cJ N big n lp ft fk fp fr)) (va_A (mw k0 bI bT bP bR cA cZ cJ N big n lp ft fk fp fr) sz)) 0 0 (va_A (mw k0 bI bT bP bR cA cZ cJ N big n lp ft fk fp fr) sz) := by
  refine Met.ofW (cc := cX1_isClient) (maxL := 2) (ret := (some .boolean)) (by decide) rfl ?_
  intro p e s m args below meth c s₁ B hml hv
  obtain ⟨rfl, hsz, hP, hK, hD0⟩ := hv
  have hx := B.exec
  have hb := B.bytes
  have hr := B.returns
  have hts := atoms_spec (ws := wsX1_isClient) B.pre
  have hown : s.vm.findClass RX1 = some m.cls := findClass_of_methodNamed B.named
  have hlocks := B.notSynchronized
  subst hsz
  have hD := hD0.self (sz := s.heap.size)
  generalize hAe : va_A (mw k0 bI bT bP bR cA cZ cJ N big n lp ft fk fp fr) s.heap.size = A at hD ⊢
  have hA : ∀ q : Nat, s.heap.size ≤ q → A q := fun q h => by rw [← hAe]; exact Or.inr h
  have hS : va_S A s.heap s.heap [] := va_S.rf
  have hl := lv_entry ([.ref k0, .int x]) (n := 2) (Nat.le_of_ble_eq_true rfl)
  rw [lg_entry_eq]
  generalize (lg_sl ([.ref k0, .int x]) ++ List.replicate (2 - (lg_sl ([.ref k0, .int x])).length) Slot.unset).toArray = ls at hl ⊢
  have hl : lv_has ls 2 [(0, .ref k0), (1, .int x)] := hl
  refine lv_iload_n hx hb dX1_isClient_0 rfl (lv_at hl 1 rfl) ?_
  refine lv_if_lt (tgt := 16) hx hb dX1_isClient_1 (by decide) (fun c1 => ?_) (fun c1 => ?_)
  · skip
    refine lv_iconst (v := nI 0) hx hb dX1_isClient_16 (by decide) ?_
    exact W.zret (v := nI 0) hx hb hr (by rfl) (fun t ht hW => ⟨⟨nI 0, (), rfl, Or.inl ⟨ix_lo c1, rfl⟩, by rw [ht]; exact hP, hD⟩, hS.F ht⟩) hS.2.2 dX1_isClient_17
  · skip
    refine lv_iload_n hx hb dX1_isClient_4 rfl (lv_at hl 1 rfl) ?_
    refine lv_aload_n hx hb dX1_isClient_5 rfl (lv_at hl 0 rfl) ?_
    refine va_get (D := (dC, dI)) (ci := 1) (v := .int (nI N)) (C := RX1) (T := TX1) (N := 8) hx hb hts wiX1_isClient hown hK hP 0 rfl rfl 0 (by decide) (hts (.fieldLink RX1 24 "StrideHeapModel" "cap" "I") (by decide +kernel)) (fun _ h9 => h9) rfl dX1_isClient_6 ?_
    refine lv_icmp_ge (tgt := 16) hx hb dX1_isClient_9 (by decide) (fun c2 => ?_) (fun c2 => ?_)
    · skip
      refine lv_iconst (v := nI 0) hx hb dX1_isClient_16 (by decide) ?_
      exact W.zret (v := nI 0) hx hb hr (by rfl) (fun t ht hW => ⟨⟨nI 0, (), rfl, Or.inl ⟨ix_hi c2, rfl⟩, by rw [ht]; exact hP, hD⟩, hS.F ht⟩) hS.2.2 dX1_isClient_17
    · skip
      refine lv_iconst (v := nI 1) hx hb dX1_isClient_12 (by decide) ?_
      refine lv_goto (tgt := 17) hx hb dX1_isClient_13 (by decide) ?_
      exact W.zret (v := nI 1) hx hb hr (by rfl) (fun t ht hW => ⟨⟨nI 1, (), rfl, (by obtain ⟨j, hj, e⟩ := ix_yes c1 c2 (by omega); exact Or.inr ⟨j, hj, e, rfl⟩), by rw [ht]; exact hP, hD⟩, hS.F ht⟩) hS.2.2 dX1_isClient_17
set_option maxHeartbeats 4000000 in
set_option maxRecDepth 100000 in
/-- isIn(x) -/
theorem kX1_isIn (l : Launch) (dC : Nat → ClassId) (dI : Nat → Nat → Nat) (k0 bI bT bP bR : Nat) (cA cZ cJ : ClassId) (sz N big n lp : Nat) (ft fk fp fr : Nat → Nat) (hN : N ≤ 64) (x : Int32) : Met l yX1_isIn wsX1_isIn ({ frames := 1, cells := 0, slots := 0, locals := 21 }) (va_Pc [.ref k0, .int x] (sB dC dI (ty3 cA cZ cJ) sz (mw k0 bI bT bP bR cA cZ cJ N big n lp ft fk fp fr))) (va_Qi (fun (r : Int32) (_ : Unit) => (sh_ix N x = none ∧ r = nI 0) ∨ ∃ j, j < N ∧ x = nI j ∧ ((ft j = 0 ∧ r = nI 0) ∨ (0 < ft j ∧ r = nI 1))) (fun _ => sE dC dI (va_A (mw k0 bI bT bP bR cA cZ cJ N big n lp ft fk fp fr) sz) (mw k0 bI bT bP bR cA cZ cJ N big n lp ft fk fp fr)) (va_A (mw k0 bI bT bP bR cA cZ cJ N big n lp ft fk fp fr) sz)) 0 0 (va_A (mw k0 bI bT bP bR cA cZ cJ N big n lp ft fk fp fr) sz) := by
  refine Met.ofW (cc := cX1_isIn) (maxL := 2) (ret := (some .boolean)) (by decide) rfl ?_
  intro p e s m args below meth c s₁ B hml hv
  obtain ⟨rfl, hsz, hP, hK, hD0⟩ := hv
  have hx := B.exec
  have hb := B.bytes
  have hr := B.returns
  have hts := atoms_spec (ws := wsX1_isIn) B.pre
  have hown : s.vm.findClass RX1 = some m.cls := findClass_of_methodNamed B.named
  have hlocks := B.notSynchronized
  subst hsz
  have hD := hD0.self (sz := s.heap.size)
  generalize hAe : va_A (mw k0 bI bT bP bR cA cZ cJ N big n lp ft fk fp fr) s.heap.size = A at hD ⊢
  have hA : ∀ q : Nat, s.heap.size ≤ q → A q := fun q h => by rw [← hAe]; exact Or.inr h
  have hS : va_S A s.heap s.heap [] := va_S.rf
  have hl := lv_entry ([.ref k0, .int x]) (n := 2) (Nat.le_of_ble_eq_true rfl)
  rw [lg_entry_eq]
  generalize (lg_sl ([.ref k0, .int x]) ++ List.replicate (2 - (lg_sl ([.ref k0, .int x])).length) Slot.unset).toArray = ls at hl ⊢
  have hl : lv_has ls 2 [(0, .ref k0), (1, .int x)] := hl
  refine lv_aload_n hx hb dX1_isIn_0 rfl (lv_at hl 0 rfl) ?_
  refine lv_iload_n hx hb dX1_isIn_1 rfl (lv_at hl 1 rfl) ?_
  refine sc_i (wr := []) (wc := mw k0 bI bT bP bR cA cZ cJ N big n lp ft fk fp fr) (As := [.int x]) (rest := []) ⟨hx, hb, hml, hown, hts⟩ (kX1_isClient l dC dI k0 bI bT bP bR cA cZ cJ s.heap.size N big n lp ft fk fp fr hN x) (cwV 1 hts gX1_isIn_X1_isClient rfl rfl rfl (by decide +kernel) ⟨Nat.le_of_ble_eq_true rfl, Nat.le_of_ble_eq_true rfl⟩) hK hP hD hS hA (va_recv hK hP (ci := 1) (q0 := 0) rfl rfl) rfl hl.1 rfl (Nat.le_of_ble_eq_true rfl) dX1_isIn_2 ⟨Nat.zero_le _, Nat.zero_le _⟩ (fun r _ H locs hw hP hD hS => ?_)
  rcases hw with ⟨hnx, rfl⟩ | ⟨j, hj, rfl, rfl⟩
  · skip
    refine sr_if_eq (tgt := 21) hx hb (by decide) dX1_isIn_5 (by decide) (fun _ => ?_) (fun q => absurd q (by decide))
    refine lv_iconst (v := nI 0) hx hb dX1_isIn_21 (by decide) ?_
    exact W.zret (v := nI 0) hx hb hr (by rfl) (fun t ht hW => ⟨⟨nI 0, (), rfl, Or.inl ⟨hnx, rfl⟩, by rw [ht]; exact hP, hD⟩, hS.F ht⟩) hS.2.2 dX1_isIn_22
  · skip
    refine sr_if_eq (tgt := 21) hx hb (by decide) dX1_isIn_5 (by decide) (fun q => absurd q (by decide)) (fun _ => ?_)
    refine lv_aload_n hx hb dX1_isIn_8 rfl (lv_at hl 0 rfl) ?_
    refine va_get (D := (dC, dI)) (ci := 1) (v := .ref bI) (C := RX1) (T := TX1) (N := 8) hx hb hts wiX1_isIn hown hK hP 0 rfl rfl 2 (by decide) (hts (.fieldLink RX1 7 "StrideHeapModel" "in" "[Z") (by decide +kernel)) (fun _ h9 => h9) rfl dX1_isIn_9 ?_
    refine lv_iload_n hx hb dX1_isIn_12 rfl (lv_at hl 1 rfl) ?_
    refine sr_zald hx hb hK hP 1 1 rfl rfl (k := j) (by omega) (by omega) dX1_isIn_13 ?_
    refine sr_if_eq (tgt := 21) hx hb (in_lt ft j) dX1_isIn_14 (by decide) (fun c1 => ?_) (fun c1 => ?_)
    · skip
      refine lv_iconst (v := nI 0) hx hb dX1_isIn_21 (by decide) ?_
      exact W.zret (v := nI 0) hx hb hr (by rfl) (fun t ht hW => ⟨⟨nI 0, (), rfl, Or.inr ⟨j, hj, rfl, Or.inl ⟨in_0.mp c1, rfl⟩⟩, by rw [ht]; exact hP, hD⟩, hS.F ht⟩) hS.2.2 dX1_isIn_22
    · skip
      refine lv_iconst (v := nI 1) hx hb dX1_isIn_17 (by decide) ?_
      refine lv_goto (tgt := 22) hx hb dX1_isIn_18 (by decide) ?_
      exact W.zret (v := nI 1) hx hb hr (by rfl) (fun t ht hW => ⟨⟨nI 1, (), rfl, Or.inr ⟨j, hj, rfl, Or.inr ⟨in_p.mp c1, rfl⟩⟩, by rw [ht]; exact hP, hD⟩, hS.F ht⟩) hS.2.2 dX1_isIn_22
set_option maxHeartbeats 4000000 in
set_option maxRecDepth 100000 in
/-- areTickets(y) -/
theorem kX1_areTickets (l : Launch) (dC : Nat → ClassId) (dI : Nat → Nat → Nat) (k0 bI bT bP bR : Nat) (cA cZ cJ : ClassId) (sz N big n lp : Nat) (ft fk fp fr : Nat → Nat) (hbig : big ≤ 32768) (y : Int32) : Met l yX1_areTickets wsX1_areTickets ({ frames := 0, cells := 0, slots := 0, locals := 0 }) (va_Pc [.ref k0, .int y] (sB dC dI (ty3 cA cZ cJ) sz (mw k0 bI bT bP bR cA cZ cJ N big n lp ft fk fp fr))) (va_Qi (fun (r : Int32) (_ : Unit) => ((sh_ix big y = none ∨ sh_ix big y = some 0) ∧ r = nI 0) ∨ ∃ k, 0 < k ∧ k < big ∧ y = nI k ∧ r = nI 1) (fun _ => sE dC dI (va_A (mw k0 bI bT bP bR cA cZ cJ N big n lp ft fk fp fr) sz) (mw k0 bI bT bP bR cA cZ cJ N big n lp ft fk fp fr)) (va_A (mw k0 bI bT bP bR cA cZ cJ N big n lp ft fk fp fr) sz)) 0 0 (va_A (mw k0 bI bT bP bR cA cZ cJ N big n lp ft fk fp fr) sz) := by
  refine Met.ofW (cc := cX1_areTickets) (maxL := 2) (ret := (some .boolean)) (by decide) rfl ?_
  intro p e s m args below meth c s₁ B hml hv
  obtain ⟨rfl, hsz, hP, hK, hD0⟩ := hv
  have hx := B.exec
  have hb := B.bytes
  have hr := B.returns
  have hts := atoms_spec (ws := wsX1_areTickets) B.pre
  have hown : s.vm.findClass RX1 = some m.cls := findClass_of_methodNamed B.named
  have hlocks := B.notSynchronized
  subst hsz
  have hD := hD0.self (sz := s.heap.size)
  generalize hAe : va_A (mw k0 bI bT bP bR cA cZ cJ N big n lp ft fk fp fr) s.heap.size = A at hD ⊢
  have hA : ∀ q : Nat, s.heap.size ≤ q → A q := fun q h => by rw [← hAe]; exact Or.inr h
  have hS : va_S A s.heap s.heap [] := va_S.rf
  have hl := lv_entry ([.ref k0, .int y]) (n := 2) (Nat.le_of_ble_eq_true rfl)
  rw [lg_entry_eq]
  generalize (lg_sl ([.ref k0, .int y]) ++ List.replicate (2 - (lg_sl ([.ref k0, .int y])).length) Slot.unset).toArray = ls at hl ⊢
  have hl : lv_has ls 2 [(0, .ref k0), (1, .int y)] := hl
  refine lv_iload_n hx hb dX1_areTickets_0 rfl (lv_at hl 1 rfl) ?_
  refine lv_if_le (tgt := 16) hx hb dX1_areTickets_1 (by decide) (fun c1 => ?_) (fun c1 => ?_)
  · skip
    refine lv_iconst (v := nI 0) hx hb dX1_areTickets_16 (by decide) ?_
    exact W.zret (v := nI 0) hx hb hr (by rfl) (fun t ht hW => ⟨⟨nI 0, (), rfl, Or.inl ⟨tk_le (by omega) c1, rfl⟩, by rw [ht]; exact hP, hD⟩, hS.F ht⟩) hS.2.2 dX1_areTickets_17
  · skip
    refine lv_iload_n hx hb dX1_areTickets_4 rfl (lv_at hl 1 rfl) ?_
    refine lv_aload_n hx hb dX1_areTickets_5 rfl (lv_at hl 0 rfl) ?_
    refine va_get (D := (dC, dI)) (ci := 1) (v := .int (nI big)) (C := RX1) (T := TX1) (N := 8) hx hb hts wiX1_areTickets hown hK hP 0 rfl rfl 1 (by decide) (hts (.fieldLink RX1 28 "StrideHeapModel" "big" "I") (by decide +kernel)) (fun _ h9 => h9) rfl dX1_areTickets_6 ?_
    refine lv_icmp_ge (tgt := 16) hx hb dX1_areTickets_9 (by decide) (fun c2 => ?_) (fun c2 => ?_)
    · skip
      refine lv_iconst (v := nI 0) hx hb dX1_areTickets_16 (by decide) ?_
      exact W.zret (v := nI 0) hx hb hr (by rfl) (fun t ht hW => ⟨⟨nI 0, (), rfl, Or.inl ⟨Or.inl (ix_hi c2), rfl⟩, by rw [ht]; exact hP, hD⟩, hS.F ht⟩) hS.2.2 dX1_areTickets_17
    · skip
      refine lv_iconst (v := nI 1) hx hb dX1_areTickets_12 (by decide) ?_
      refine lv_goto (tgt := 17) hx hb dX1_areTickets_13 (by decide) ?_
      exact W.zret (v := nI 1) hx hb hr (by rfl) (fun t ht hW => ⟨⟨nI 1, (), rfl, (by obtain ⟨k, h1, h2, e⟩ := tk_ok2 (by omega) c1 c2; exact Or.inr ⟨k, h1, h2, e, rfl⟩), by rw [ht]; exact hP, hD⟩, hS.F ht⟩) hS.2.2 dX1_areTickets_17
set_option maxHeartbeats 4000000 in
set_option maxRecDepth 100000 in
/-- isBefore(i, j) -/
theorem kX1_isBefore (l : Launch) (dC : Nat → ClassId) (dI : Nat → Nat → Nat) (k0 bI bT bP bR : Nat) (cA cZ cJ : ClassId) (sz N big n lp : Nat) (ft fk fp fr : Nat → Nat) (hN : N ≤ 64) (hfp : ∀ c, fp c < 2 ^ 31) (i j : Nat) (hi : i < N) (hj : j < N) : Met l yX1_isBefore wsX1_isBefore ({ frames := 0, cells := 0, slots := 0, locals := 0 }) (va_Pc [.ref k0, .int (nI i), .int (nI j)] (sB dC dI (ty3 cA cZ cJ) sz (mw k0 bI bT bP bR cA cZ cJ N big n lp ft fk fp fr))) (va_Qi (fun (r : Int32) (_ : Unit) => (sh_bf fp i j ∧ r = nI 1) ∨ (¬ sh_bf fp i j ∧ r = nI 0)) (fun _ => sE dC dI (va_A (mw k0 bI bT bP bR cA cZ cJ N big n lp ft fk fp fr) sz) (mw k0 bI bT bP bR cA cZ cJ N big n lp ft fk fp fr)) (va_A (mw k0 bI bT bP bR cA cZ cJ N big n lp ft fk fp fr) sz)) 0 0 (va_A (mw k0 bI bT bP bR cA cZ cJ N big n lp ft fk fp fr) sz) := by
  refine Met.ofW (cc := cX1_isBefore) (maxL := 3) (ret := (some .boolean)) (by decide) rfl ?_
  intro p e s m args below meth c s₁ B hml hv
  obtain ⟨rfl, hsz, hP, hK, hD0⟩ := hv
  have hx := B.exec
  have hb := B.bytes
  have hr := B.returns
  have hts := atoms_spec (ws := wsX1_isBefore) B.pre
  have hown : s.vm.findClass RX1 = some m.cls := findClass_of_methodNamed B.named
  have hlocks := B.notSynchronized
  subst hsz
  have hD := hD0.self (sz := s.heap.size)
  generalize hAe : va_A (mw k0 bI bT bP bR cA cZ cJ N big n lp ft fk fp fr) s.heap.size = A at hD ⊢
  have hA : ∀ q : Nat, s.heap.size ≤ q → A q := fun q h => by rw [← hAe]; exact Or.inr h
  have hS : va_S A s.heap s.heap [] := va_S.rf
  have hl := lv_entry ([.ref k0, .int (nI i), .int (nI j)]) (n := 3) (Nat.le_of_ble_eq_true rfl)
  rw [lg_entry_eq]
  generalize (lg_sl ([.ref k0, .int (nI i), .int (nI j)]) ++ List.replicate (3 - (lg_sl ([.ref k0, .int (nI i), .int (nI j)])).length) Slot.unset).toArray = ls at hl ⊢
  have hl : lv_has ls 3 [(0, .ref k0), (1, .int (nI i)), (2, .int (nI j))] := hl
  have hpi := hfp i
  have hpj := hfp j
  refine lv_aload_n hx hb dX1_isBefore_0 rfl (lv_at hl 0 rfl) ?_
  refine va_get (D := (dC, dI)) (ci := 1) (v := .ref bP) (C := RX1) (T := TX1) (N := 8) hx hb hts wiX1_isBefore hown hK hP 0 rfl rfl 4 (by decide) (hts (.fieldLink RX1 17 "StrideHeapModel" "pass" "[J") (by decide +kernel)) (fun _ h9 => h9) rfl dX1_isBefore_1 ?_
  refine lv_iload_n hx hb dX1_isBefore_4 rfl (lv_at hl 1 rfl) ?_
  refine sr_lald hx hb hK hP 3 2 rfl rfl (k := i) (by omega) (by omega) dX1_isBefore_5 ?_
  refine lv_aload_n hx hb dX1_isBefore_6 rfl (lv_at hl 0 rfl) ?_
  refine va_get (D := (dC, dI)) (ci := 1) (v := .ref bP) (C := RX1) (T := TX1) (N := 8) hx hb hts wiX1_isBefore hown hK hP 0 rfl rfl 4 (by decide) (hts (.fieldLink RX1 17 "StrideHeapModel" "pass" "[J") (by decide +kernel)) (fun _ h9 => h9) rfl dX1_isBefore_7 ?_
  refine lv_iload_n hx hb dX1_isBefore_10 rfl (lv_at hl 2 rfl) ?_
  refine sr_lald hx hb hK hP 3 2 rfl rfl (k := j) (by omega) (by omega) dX1_isBefore_11 ?_
  refine sr_llt (tgt := 37) hx hb (by omega) (by omega) dX1_isBefore_12 dX1_isBefore_13 (by decide) (fun c1 => ?_) (fun c1 => ?_)
  · skip
    refine lv_iconst (v := nI 1) hx hb dX1_isBefore_37 (by decide) ?_
    refine lv_goto (tgt := 42) hx hb dX1_isBefore_38 (by decide) ?_
    exact W.zret (v := nI 1) hx hb hr (by rfl) (fun t ht hW => ⟨⟨nI 1, (), rfl, Or.inl ⟨Or.inl c1, rfl⟩, by rw [ht]; exact hP, hD⟩, hS.F ht⟩) hS.2.2 dX1_isBefore_42
  · skip
    refine lv_aload_n hx hb dX1_isBefore_16 rfl (lv_at hl 0 rfl) ?_
    refine va_get (D := (dC, dI)) (ci := 1) (v := .ref bP) (C := RX1) (T := TX1) (N := 8) hx hb hts wiX1_isBefore hown hK hP 0 rfl rfl 4 (by decide) (hts (.fieldLink RX1 17 "StrideHeapModel" "pass" "[J") (by decide +kernel)) (fun _ h9 => h9) rfl dX1_isBefore_17 ?_
    refine lv_iload_n hx hb dX1_isBefore_20 rfl (lv_at hl 1 rfl) ?_
    refine sr_lald hx hb hK hP 3 2 rfl rfl (k := i) (by omega) (by omega) dX1_isBefore_21 ?_
    refine lv_aload_n hx hb dX1_isBefore_22 rfl (lv_at hl 0 rfl) ?_
    refine va_get (D := (dC, dI)) (ci := 1) (v := .ref bP) (C := RX1) (T := TX1) (N := 8) hx hb hts wiX1_isBefore hown hK hP 0 rfl rfl 4 (by decide) (hts (.fieldLink RX1 17 "StrideHeapModel" "pass" "[J") (by decide +kernel)) (fun _ h9 => h9) rfl dX1_isBefore_23 ?_
    refine lv_iload_n hx hb dX1_isBefore_26 rfl (lv_at hl 2 rfl) ?_
    refine sr_lald hx hb hK hP 3 2 rfl rfl (k := j) (by omega) (by omega) dX1_isBefore_27 ?_
    refine sr_lne (tgt := 41) hx hb (by omega) (by omega) dX1_isBefore_28 dX1_isBefore_29 (by decide) (fun c2 => ?_) (fun c2 => ?_)
    · skip
      refine lv_iconst (v := nI 0) hx hb dX1_isBefore_41 (by decide) ?_
      exact W.zret (v := nI 0) hx hb hr (by rfl) (fun t ht hW => ⟨⟨nI 0, (), rfl, Or.inr ⟨by unfold sh_bf; omega, rfl⟩, by rw [ht]; exact hP, hD⟩, hS.F ht⟩) hS.2.2 dX1_isBefore_42
    · skip
      refine lv_iload_n hx hb dX1_isBefore_32 rfl (lv_at hl 1 rfl) ?_
      refine lv_iload_n hx hb dX1_isBefore_33 rfl (lv_at hl 2 rfl) ?_
      refine sr_cmp_ge (tgt := 41) hx hb (by omega) (by omega) dX1_isBefore_34 (by decide) (fun c3 => ?_) (fun c3 => ?_)
      · skip
        refine lv_iconst (v := nI 0) hx hb dX1_isBefore_41 (by decide) ?_
        exact W.zret (v := nI 0) hx hb hr (by rfl) (fun t ht hW => ⟨⟨nI 0, (), rfl, Or.inr ⟨by unfold sh_bf; omega, rfl⟩, by rw [ht]; exact hP, hD⟩, hS.F ht⟩) hS.2.2 dX1_isBefore_42
      · skip
        refine lv_iconst (v := nI 1) hx hb dX1_isBefore_37 (by decide) ?_
        refine lv_goto (tgt := 42) hx hb dX1_isBefore_38 (by decide) ?_
        exact W.zret (v := nI 1) hx hb hr (by rfl) (fun t ht hW => ⟨⟨nI 1, (), rfl, Or.inl ⟨Or.inr ⟨c2, c3⟩, rfl⟩, by rw [ht]; exact hP, hD⟩, hS.F ht⟩) hS.2.2 dX1_isBefore_42
set_option maxHeartbeats 4000000 in
set_option maxRecDepth 100000 in
/-- first() -/
theorem kX1_first (l : Launch) (dC : Nat → ClassId) (dI : Nat → Nat → Nat) (k0 bI bT bP bR : Nat) (cA cZ cJ : ClassId) (sz N big n lp : Nat) (ft fk fp fr : Nat → Nat) (hN : N ≤ 64) (hfp : ∀ c, fp c < 2 ^ 31) : Met l yX1_first wsX1_first ({ frames := 1, cells := 0, slots := 0, locals := 22 }) (va_Pc [.ref k0] (sB dC dI (ty3 cA cZ cJ) sz (mw k0 bI bT bP bR cA cZ cJ N big n lp ft fk fp fr))) (va_Qi (fun (r : Int32) (_ : Unit) => r = sf_i (sh_fi ft fp N)) (fun _ => sE dC dI (va_A (mw k0 bI bT bP bR cA cZ cJ N big n lp ft fk fp fr) sz) (mw k0 bI bT bP bR cA cZ cJ N big n lp ft fk fp fr)) (va_A (mw k0 bI bT bP bR cA cZ cJ N big n lp ft fk fp fr) sz)) 0 0 (va_A (mw k0 bI bT bP bR cA cZ cJ N big n lp ft fk fp fr) sz) := by
  refine Met.ofW (cc := cX1_first) (maxL := 3) (ret := (some .int)) (by decide) rfl ?_
  intro p e s m args below meth c s₁ B hml hv
  obtain ⟨rfl, hsz, hP, hK, hD0⟩ := hv
  have hx := B.exec
  have hb := B.bytes
  have hr := B.returns
  have hts := atoms_spec (ws := wsX1_first) B.pre
  have hown : s.vm.findClass RX1 = some m.cls := findClass_of_methodNamed B.named
  have hlocks := B.notSynchronized
  subst hsz
  have hD := hD0.self (sz := s.heap.size)
  generalize hAe : va_A (mw k0 bI bT bP bR cA cZ cJ N big n lp ft fk fp fr) s.heap.size = A at hD ⊢
  have hA : ∀ q : Nat, s.heap.size ≤ q → A q := fun q h => by rw [← hAe]; exact Or.inr h
  have hS : va_S A s.heap s.heap [] := va_S.rf
  have hl := lv_entry ([.ref k0]) (n := 3) (Nat.le_of_ble_eq_true rfl)
  rw [lg_entry_eq]
  generalize (lg_sl ([.ref k0]) ++ List.replicate (3 - (lg_sl ([.ref k0])).length) Slot.unset).toArray = ls at hl ⊢
  have hl : lv_has ls 3 [(0, .ref k0)] := hl
  refine lv_iconst (v := (-1)) hx hb dX1_first_0 (by decide) ?_
  refine lv_istore_n (lv' := [(1, .int (-1)), (0, .ref k0)]) hx hb dX1_first_1 rfl hl (by decide) rfl (fun ls hl => ?_)
  refine lv_iconst (v := nI 0) hx hb dX1_first_2 (by decide) ?_
  refine lv_istore_n (lv' := [(2, .int (nI 0)), (1, .int (-1)), (0, .ref k0)]) hx hb dX1_first_3 rfl hl (by decide) rfl (fun ls hl => ?_)
  refine sl_loop (fun d (x : Nat) H locs ls => N + 1 ≤ x + d ∧ x ≤ N ∧ va_P (dC, dI) vwCl (mw k0 bI bT bP bR cA cZ cJ N big n lp ft fk fp fr) H ∧ va_D A (mw k0 bI bT bP bR cA cZ cJ N big n lp ft fk fp fr) ∧ va_S A s.heap H locs ∧ lv_has ls 3 [(2, .int (nI x)), (1, .int (sf_i (sh_fi ft fp x))), (0, .ref k0)]) (fun x H locs ls h => by omega) ?_ (N + 1) 0 _ _ _ ⟨by omega, by omega, hP, hD, hS, lv_sub hl [0, 1, 2] rfl⟩
  intro d x H locs ls ih hI
  obtain ⟨h1, h2, hP, hD, hS, hl⟩ := hI
  refine lv_iload_n hx hb dX1_first_4 rfl (lv_at hl 0 rfl) ?_
  refine lv_aload_n hx hb dX1_first_5 rfl (lv_at hl 2 rfl) ?_
  refine va_get (D := (dC, dI)) (ci := 1) (v := .int (nI N)) (C := RX1) (T := TX1) (N := 8) hx hb hts wiX1_first hown hK hP 0 rfl rfl 0 (by decide) (hts (.fieldLink RX1 24 "StrideHeapModel" "cap" "I") (by decide +kernel)) (fun _ h9 => h9) rfl dX1_first_6 ?_
  refine sr_cmp_ge (tgt := 42) hx hb (by omega) (by omega) dX1_first_9 (by decide) (fun c1 => ?_) (fun c1 => ?_)
  · skip
    refine lv_iload_n hx hb dX1_first_42 rfl (lv_at hl 1 rfl) ?_
    exact W.iret (v := sf_i (sh_fi ft fp x)) hx hb hr (fun t ht hW => ⟨⟨sf_i (sh_fi ft fp x), (), rfl, (by rw [show x = N by omega]), by rw [ht]; exact hP, hD⟩, hS.F ht⟩) hS.2.2 dX1_first_43
  · skip
    refine lv_aload_n hx hb dX1_first_12 rfl (lv_at hl 2 rfl) ?_
    refine va_get (D := (dC, dI)) (ci := 1) (v := .ref bI) (C := RX1) (T := TX1) (N := 8) hx hb hts wiX1_first hown hK hP 0 rfl rfl 2 (by decide) (hts (.fieldLink RX1 7 "StrideHeapModel" "in" "[Z") (by decide +kernel)) (fun _ h9 => h9) rfl dX1_first_13 ?_
    refine lv_iload_n hx hb dX1_first_16 rfl (lv_at hl 0 rfl) ?_
    refine sr_zald hx hb hK hP 1 1 rfl rfl (k := x) (by omega) (by omega) dX1_first_17 ?_
    refine sr_if_eq (tgt := 36) hx hb (in_lt ft x) dX1_first_18 (by decide) (fun c2 => ?_) (fun c2 => ?_)
    · skip
      refine lv_iinc (v := nI (x + 1)) (lv' := [(2, .int (nI (x + 1))), (1, .int (sf_i (sh_fi ft fp x))), (0, .ref k0)]) hx hb dX1_first_36 hl (k := 0) rfl (nI_1 _) (by decide) rfl (fun ls hl => ?_)
      refine lv_goto (tgt := 4) hx hb dX1_first_39 (by decide) ?_
      exact ih (x + 1) _ _ _ ⟨by omega, by omega, hP, hD, hS, by rw [fi_s0 (in_0.mp c2)]; exact lv_sub hl [0, 1, 2] rfl⟩
    · skip
      have htx : 0 < ft x := in_p.mp c2
      rcases fi_spec ft fp x with ⟨hf, -⟩ | ⟨b, hf, hbx, -, -⟩
      · skip
        rw [hf, sf_0] at hl
        refine lv_iload_n hx hb dX1_first_21 rfl (lv_at hl 1 rfl) ?_
        refine lv_if_lt (tgt := 34) hx hb dX1_first_22 (by decide) (fun _ => ?_) (fun z => absurd (by decide) z)
        refine lv_iload_n hx hb dX1_first_34 rfl (lv_at hl 0 rfl) ?_
        refine lv_istore_n (lv' := [(1, .int (nI x)), (2, .int (nI x)), (0, .ref k0)]) hx hb dX1_first_35 rfl hl (by decide) rfl (fun ls hl => ?_)
        refine lv_iinc (v := nI (x + 1)) (lv' := [(2, .int (nI (x + 1))), (1, .int (nI x)), (0, .ref k0)]) hx hb dX1_first_36 hl (k := 1) rfl (nI_1 _) (by decide) rfl (fun ls hl => ?_)
        refine lv_goto (tgt := 4) hx hb dX1_first_39 (by decide) ?_
        exact ih (x + 1) _ _ _ ⟨by omega, by omega, hP, hD, hS, by rw [fi_s1 htx hf]; exact lv_sub hl [0, 1, 2] rfl⟩
      · skip
        rw [hf, sf_s] at hl
        refine lv_iload_n hx hb dX1_first_21 rfl (lv_at hl 1 rfl) ?_
        refine sr_if_lt (tgt := 34) hx hb (by omega) dX1_first_22 (by decide) ?_
        refine lv_aload_n hx hb dX1_first_25 rfl (lv_at hl 2 rfl) ?_
        refine lv_iload_n hx hb dX1_first_26 rfl (lv_at hl 0 rfl) ?_
        refine lv_iload_n hx hb dX1_first_27 rfl (lv_at hl 1 rfl) ?_
        refine sc_i (wr := []) (wc := mw k0 bI bT bP bR cA cZ cJ N big n lp ft fk fp fr) (As := [.int (nI x), .int (nI b)]) (rest := []) ⟨hx, hb, hml, hown, hts⟩ (kX1_isBefore l dC dI k0 bI bT bP bR cA cZ cJ H.size N big n lp ft fk fp fr hN hfp x b c1 (by omega)) (cwV 2 hts gX1_first_X1_isBefore rfl rfl rfl (by decide +kernel) ⟨Nat.le_of_ble_eq_true rfl, Nat.le_of_ble_eq_true rfl⟩) hK hP hD hS hA (va_recv hK hP (ci := 1) (q0 := 0) rfl rfl) rfl hl.1 rfl (Nat.le_of_ble_eq_true rfl) dX1_first_28 ⟨Nat.zero_le _, Nat.zero_le _⟩ (fun r _ H locs hw hP hD hS => ?_)
        rcases hw with ⟨hbf, rfl⟩ | ⟨hbf, rfl⟩
        · skip
          refine sr_if_eq (tgt := 36) hx hb (by decide) dX1_first_31 (by decide) (fun q => absurd q (by decide)) (fun _ => ?_)
          refine lv_iload_n hx hb dX1_first_34 rfl (lv_at hl 0 rfl) ?_
          refine lv_istore_n (lv' := [(1, .int (nI x)), (2, .int (nI x)), (0, .ref k0)]) hx hb dX1_first_35 rfl hl (by decide) rfl (fun ls hl => ?_)
          refine lv_iinc (v := nI (x + 1)) (lv' := [(2, .int (nI (x + 1))), (1, .int (nI x)), (0, .ref k0)]) hx hb dX1_first_36 hl (k := 1) rfl (nI_1 _) (by decide) rfl (fun ls hl => ?_)
          refine lv_goto (tgt := 4) hx hb dX1_first_39 (by decide) ?_
          exact ih (x + 1) _ _ _ ⟨by omega, by omega, hP, hD, hS, by rw [fi_s2 htx hf hbf]; exact lv_sub hl [0, 1, 2] rfl⟩
        · skip
          refine sr_if_eq (tgt := 36) hx hb (by decide) dX1_first_31 (by decide) (fun _ => ?_) (fun q => absurd q (by decide))
          refine lv_iinc (v := nI (x + 1)) (lv' := [(2, .int (nI (x + 1))), (1, .int (nI b)), (0, .ref k0)]) hx hb dX1_first_36 hl (k := 0) rfl (nI_1 _) (by decide) rfl (fun ls hl => ?_)
          refine lv_goto (tgt := 4) hx hb dX1_first_39 (by decide) ?_
          exact ih (x + 1) _ _ _ ⟨by omega, by omega, hP, hD, hS, by rw [fi_s3 hf hbf, hf, sf_s]; exact lv_sub hl [0, 1, 2] rfl⟩
end
section
-- THE REFERENCE: its public methods
theorem mw_congr {k0 bI bT bP bR : Nat} {cA cZ cJ : ClassId} {N big n lp : Nat} {ft f2 fk fp fr : Nat → Nat} (h : sh_in ft = sh_in f2) : mw k0 bI bT bP bR cA cZ cJ N big n lp ft fk fp fr = mw k0 bI bT bP bR cA cZ cJ N big n lp f2 fk fp fr := by
  unfold mw
  rw [h]
set_option maxHeartbeats 4000000 in
set_option maxRecDepth 100000 in
/-- next() -/
theorem kX1_next (l : Launch) (dC : Nat → ClassId) (dI : Nat → Nat → Nat) (k0 bI bT bP bR : Nat) (cA cZ cJ : ClassId) (sz N big n lp : Nat) (ft fk fp fr : Nat → Nat) (hM : sh_M N big n lp ft fk fp) : Met l yX1_next wsX1_next ({ frames := 2, cells := 0, slots := 0, locals := 44 }) (va_Pc [.ref k0] (sB dC dI (ty3 cA cZ cJ) sz (mw k0 bI bT bP bR cA cZ cJ N big n lp ft fk fp fr))) (va_Qi (fun (r : Int32) (u : ((Nat → Nat) × (Nat → Nat))) => (sp_go N big ft fp = none ∧ r = sp_no N ft fp ∧ u = (fp, fr)) ∨ (∃ b, sp_go N big ft fp = some b ∧ b < N ∧ r = nI b ∧ u.1 = sh_up fp b (fp b + big / ft b) ∧ u.2 = sh_up fr b (fr b + 1) ∧ sh_M N big n lp ft fk u.1)) (fun u => sE dC dI (va_A (mw k0 bI bT bP bR cA cZ cJ N big n lp ft fk fp fr) sz) (mw k0 bI bT bP bR cA cZ cJ N big n lp ft fk u.1 u.2)) (va_A (mw k0 bI bT bP bR cA cZ cJ N big n lp ft fk fp fr) sz)) 0 0 (va_A (mw k0 bI bT bP bR cA cZ cJ N big n lp ft fk fp fr) sz) := by
  refine Met.ofW (cc := cX1_next) (maxL := 4) (ret := (some .int)) (by decide) rfl ?_
  intro p e s m args below meth c s₁ B hml hv
  obtain ⟨rfl, hsz, hP, hK, hD0⟩ := hv
  have hx := B.exec
  have hb := B.bytes
  have hr := B.returns
  have hts := atoms_spec (ws := wsX1_next) B.pre
  have hown : s.vm.findClass RX1 = some m.cls := findClass_of_methodNamed B.named
  have hlocks := B.notSynchronized
  subst hsz
  have hD := hD0.self (sz := s.heap.size)
  generalize hAe : va_A (mw k0 bI bT bP bR cA cZ cJ N big n lp ft fk fp fr) s.heap.size = A at hD ⊢
  have hA : ∀ q : Nat, s.heap.size ≤ q → A q := fun q h => by rw [← hAe]; exact Or.inr h
  have hS : va_S A s.heap s.heap [] := va_S.rf
  have hl := lv_entry ([.ref k0]) (n := 4) (Nat.le_of_ble_eq_true rfl)
  rw [lg_entry_eq]
  generalize (lg_sl ([.ref k0]) ++ List.replicate (4 - (lg_sl ([.ref k0])).length) Slot.unset).toArray = ls at hl ⊢
  have hl : lv_has ls 4 [(0, .ref k0)] := hl
  obtain ⟨hN0, hN, hb2, hbig, hlp, hfp, hft, hfk, hnc⟩ := id hM
  have hnN : n ≤ N := by rw [hnc]; exact cnt_le ft N
  refine lv_aload_n hx hb dX1_next_0 rfl (lv_at hl 0 rfl) ?_
  refine sc_i (wr := []) (wc := mw k0 bI bT bP bR cA cZ cJ N big n lp ft fk fp fr) (As := []) (rest := []) ⟨hx, hb, hml, hown, hts⟩ (kX1_first l dC dI k0 bI bT bP bR cA cZ cJ s.heap.size N big n lp ft fk fp fr hN hfp) (cwV 0 hts gX1_next_X1_first rfl rfl rfl (by decide +kernel) ⟨Nat.le_of_ble_eq_true rfl, Nat.le_of_ble_eq_true rfl⟩) hK hP hD hS hA (va_recv hK hP (ci := 1) (q0 := 0) rfl rfl) rfl hl.1 rfl (Nat.le_of_ble_eq_true rfl) dX1_next_1 ⟨Nat.zero_le _, Nat.zero_le _⟩ (fun r _ H locs hw hP hD hS => ?_)
  subst hw
  rcases fi_spec ft fp N with ⟨hf, -⟩ | ⟨b, hf, hbN, hbt, -⟩
  · skip
    rw [hf, sf_0]
    refine lv_istore_n (lv' := [(1, .int (-1)), (0, .ref k0)]) hx hb dX1_next_4 rfl hl (by decide) rfl (fun ls hl => ?_)
    refine lv_iload_n hx hb dX1_next_5 rfl (lv_at hl 0 rfl) ?_
    refine lv_if_ge (tgt := 11) hx hb dX1_next_6 (by decide) (fun z => absurd z (by decide)) (fun _ => ?_)
    refine lv_iconst (v := (-1)) hx hb dX1_next_9 (by decide) ?_
    exact W.iret (v := (-1)) hx hb hr (fun t ht hW => ⟨⟨(-1), (fp, fr), rfl, Or.inl ⟨(go_0 hf).1, (go_0 (big := big) hf).2.symm, rfl⟩, by rw [ht]; exact hP, hD⟩, hS.F ht⟩) hS.2.2 dX1_next_10
  · skip
    rw [hf, sf_s]
    refine lv_istore_n (lv' := [(1, .int (nI b)), (0, .ref k0)]) hx hb dX1_next_4 rfl hl (by decide) rfl (fun ls hl => ?_)
    refine lv_iload_n hx hb dX1_next_5 rfl (lv_at hl 0 rfl) ?_
    refine sr_if_ge (tgt := 11) hx hb (by omega) dX1_next_6 (by decide) ?_
    have efk : fk b = ft b := hfk b hbt
    have hftb := hft b
    have hpb := hfp b
    have hle : big / fk b ≤ big := Nat.div_le_self _ _
    refine lv_aload_n hx hb dX1_next_11 rfl (lv_at hl 1 rfl) ?_
    refine va_get (D := (dC, dI)) (ci := 1) (v := .ref bP) (C := RX1) (T := TX1) (N := 8) hx hb hts wiX1_next hown hK hP 0 rfl rfl 4 (by decide) (hts (.fieldLink RX1 17 "StrideHeapModel" "pass" "[J") (by decide +kernel)) (fun _ h9 => h9) rfl dX1_next_12 ?_
    refine lv_iload_n hx hb dX1_next_15 rfl (lv_at hl 0 rfl) ?_
    refine sr_lald hx hb hK hP 3 2 rfl rfl (k := b) (by omega) (by omega) dX1_next_16 ?_
    refine lv_aload_n hx hb dX1_next_17 rfl (lv_at hl 1 rfl) ?_
    refine va_get (D := (dC, dI)) (ci := 1) (v := .int (nI big)) (C := RX1) (T := TX1) (N := 8) hx hb hts wiX1_next hown hK hP 0 rfl rfl 1 (by decide) (hts (.fieldLink RX1 28 "StrideHeapModel" "big" "I") (by decide +kernel)) (fun _ h9 => h9) rfl dX1_next_18 ?_
    refine lv_aload_n hx hb dX1_next_21 rfl (lv_at hl 1 rfl) ?_
    refine va_get (D := (dC, dI)) (ci := 1) (v := .ref bT) (C := RX1) (T := TX1) (N := 8) hx hb hts wiX1_next hown hK hP 0 rfl rfl 3 (by decide) (hts (.fieldLink RX1 13 "StrideHeapModel" "tickets" "[I") (by decide +kernel)) (fun _ h9 => h9) rfl dX1_next_22 ?_
    refine lv_iload_n hx hb dX1_next_25 rfl (lv_at hl 0 rfl) ?_
    refine sr_ald hx hb hK hP 2 0 rfl rfl (k := b) (by omega) (by omega) dX1_next_26 ?_
    refine sr_idiv hx hb (by omega) (by omega) (by omega) dX1_next_27 ?_
    refine lv_i2l hx hb dX1_next_28 (nI_l (by omega)) ?_
    refine sr_ladd hx hb dX1_next_29 ?_
    refine lv_lstore_n (lv' := [(2, .long (lN ((fp b) + (big / (fk b))))), (1, .int (nI b)), (0, .ref k0)]) hx hb dX1_next_30 rfl hl (by decide) rfl (fun ls hl => ?_)
    refine lv_lload_n hx hb dX1_next_31 rfl (lv_at hl 0 rfl) ?_
    refine lv_ldc2 (v := lN 2147483647) hx hb hown (hts (.constantLong RX1 53 (2147483647)) (by decide +kernel)) dX1_next_32 ?_
    refine sr_lle (tgt := 42) hx hb (by omega) (by decide) dX1_next_35 dX1_next_36 (by decide) (fun c1 => ?_) (fun c1 => ?_)
    · skip
      refine lv_aload_n hx hb dX1_next_42 rfl (lv_at hl 2 rfl) ?_
      refine va_get (D := (dC, dI)) (ci := 1) (v := .ref bP) (C := RX1) (T := TX1) (N := 8) hx hb hts wiX1_next hown hK hP 0 rfl rfl 4 (by decide) (hts (.fieldLink RX1 17 "StrideHeapModel" "pass" "[J") (by decide +kernel)) (fun _ h9 => h9) rfl dX1_next_43 ?_
      refine lv_iload_n hx hb dX1_next_46 rfl (lv_at hl 1 rfl) ?_
      refine lv_lload_n hx hb dX1_next_47 rfl (lv_at hl 0 rfl) ?_
      refine sr_last hx hb hK hP hD hS 3 2 rfl rfl (k := b) (v := (fp b) + (big / (fk b))) (by omega) (by omega) dX1_next_48 (fun H locs hP hD hS => ?_)
      have hP : va_P (dC, dI) vwCl (mw k0 bI bT bP bR cA cZ cJ N big n lp ft fk (sh_up fp b ((fp b) + (big / (fk b)))) fr) H := hP
      have hD : va_D A (mw k0 bI bT bP bR cA cZ cJ N big n lp ft fk (sh_up fp b ((fp b) + (big / (fk b)))) fr) := hD
      refine lv_aload_n hx hb dX1_next_49 rfl (lv_at hl 2 rfl) ?_
      refine va_get (D := (dC, dI)) (ci := 1) (v := .ref bR) (C := RX1) (T := TX1) (N := 8) hx hb hts wiX1_next hown hK hP 0 rfl rfl 5 (by decide) (hts (.fieldLink RX1 21 "StrideHeapModel" "ran" "[I") (by decide +kernel)) (fun _ h9 => h9) rfl dX1_next_50 ?_
      refine lv_iload_n hx hb dX1_next_53 rfl (lv_at hl 1 rfl) ?_
      refine lv_dup2_11 hx hb dX1_next_54 rfl rfl ?_
      refine sr_ald hx hb hK hP 4 0 rfl rfl (k := b) (by omega) (by omega) dX1_next_55 ?_
      refine lv_iconst (v := nI 1) hx hb dX1_next_56 (by decide) ?_
      refine sr_iadd hx hb dX1_next_57 ?_
      refine sr_ast hx hb hK hP hD hS 4 0 rfl rfl (k := b) (v := (fr b) + 1) (by omega) (by omega) dX1_next_58 (fun H locs hP hD hS => ?_)
      have hP : va_P (dC, dI) vwCl (mw k0 bI bT bP bR cA cZ cJ N big n lp ft fk (sh_up fp b ((fp b) + (big / (fk b)))) (sh_up fr b ((fr b) + 1))) H := hP
      have hD : va_D A (mw k0 bI bT bP bR cA cZ cJ N big n lp ft fk (sh_up fp b ((fp b) + (big / (fk b)))) (sh_up fr b ((fr b) + 1))) := hD
      refine lv_iload_n hx hb dX1_next_59 rfl (lv_at hl 1 rfl) ?_
      exact W.iret (v := nI b) hx hb hr (fun t ht hW => ⟨⟨nI b, (sh_up fp b (fp b + big / fk b), sh_up fr b (fr b + 1)), rfl, Or.inr ⟨b, go_ok hf (by rw [← efk]; exact c1), hbN, rfl, by rw [efk], rfl, M_turn hM (by omega)⟩, by rw [ht]; exact hP, hD⟩, hS.F ht⟩) hS.2.2 dX1_next_60
    · skip
      refine lv_bipush (v := (-2)) hx hb dX1_next_39 (by decide) ?_
      exact W.iret (v := (-2)) hx hb hr (fun t ht hW => ⟨⟨(-2), (fp, fr), rfl, Or.inl ⟨(go_far hf (by rw [← efk]; exact c1)).1, (go_far (big := big) hf (by rw [← efk]; exact c1)).2.symm, rfl⟩, by rw [ht]; exact hP, hD⟩, hS.F ht⟩) hS.2.2 dX1_next_41
set_option maxHeartbeats 4000000 in
set_option maxRecDepth 100000 in
/-- turns(x) -/
theorem kX1_turns (l : Launch) (dC : Nat → ClassId) (dI : Nat → Nat → Nat) (k0 bI bT bP bR : Nat) (cA cZ cJ : ClassId) (sz N big n lp : Nat) (ft fk fp fr : Nat → Nat) (hM : sh_M N big n lp ft fk fp) (x : Int32) : Met l yX1_turns wsX1_turns ({ frames := 3, cells := 0, slots := 0, locals := 67 }) (va_Pc [.ref k0, .int x] (sB dC dI (ty3 cA cZ cJ) sz (mw k0 bI bT bP bR cA cZ cJ N big n lp ft fk fp fr))) (va_Qi (fun (r : Int32) (u : ((Nat → Nat) × (Nat → Nat))) => ((sh_ix 1001 x = none ∨ sh_ix 1001 x = some 0) ∧ r = (-1) ∧ u = (fp, fr)) ∨ (∃ k, 0 < k ∧ k < 1001 ∧ x = nI k ∧ r = nI (sp_turn N big ft k fp fr).1 ∧ u.1 = (sp_turn N big ft k fp fr).2.1 ∧ u.2 = (sp_turn N big ft k fp fr).2.2 ∧ sh_M N big n lp ft fk u.1)) (fun u => sE dC dI (va_A (mw k0 bI bT bP bR cA cZ cJ N big n lp ft fk fp fr) sz) (mw k0 bI bT bP bR cA cZ cJ N big n lp ft fk u.1 u.2)) (va_A (mw k0 bI bT bP bR cA cZ cJ N big n lp ft fk fp fr) sz)) 0 0 (va_A (mw k0 bI bT bP bR cA cZ cJ N big n lp ft fk fp fr) sz) := by
  refine Met.ofW (cc := cX1_turns) (maxL := 4) (ret := (some .int)) (by decide) rfl ?_
  intro p e s m args below meth c s₁ B hml hv
  obtain ⟨rfl, hsz, hP, hK, hD0⟩ := hv
  have hx := B.exec
  have hb := B.bytes
  have hr := B.returns
  have hts := atoms_spec (ws := wsX1_turns) B.pre
  have hown : s.vm.findClass RX1 = some m.cls := findClass_of_methodNamed B.named
  have hlocks := B.notSynchronized
  subst hsz
  have hD := hD0.self (sz := s.heap.size)
  generalize hAe : va_A (mw k0 bI bT bP bR cA cZ cJ N big n lp ft fk fp fr) s.heap.size = A at hD ⊢
  have hA : ∀ q : Nat, s.heap.size ≤ q → A q := fun q h => by rw [← hAe]; exact Or.inr h
  have hS : va_S A s.heap s.heap [] := va_S.rf
  have hl := lv_entry ([.ref k0, .int x]) (n := 4) (Nat.le_of_ble_eq_true rfl)
  rw [lg_entry_eq]
  generalize (lg_sl ([.ref k0, .int x]) ++ List.replicate (4 - (lg_sl ([.ref k0, .int x])).length) Slot.unset).toArray = ls at hl ⊢
  have hl : lv_has ls 4 [(0, .ref k0), (1, .int x)] := hl
  refine lv_iload_n hx hb dX1_turns_0 rfl (lv_at hl 1 rfl) ?_
  refine lv_iconst (v := nI 1) hx hb dX1_turns_1 (by decide) ?_
  refine lv_icmp_lt (tgt := 12) hx hb dX1_turns_2 (by decide) (fun c1 => ?_) (fun c1 => ?_)
  · skip
    refine lv_iconst (v := (-1)) hx hb dX1_turns_12 (by decide) ?_
    exact W.iret (v := (-1)) hx hb hr (fun t ht hW => ⟨⟨(-1), (fp, fr), rfl, Or.inl ⟨tk_lt (by decide) c1, rfl, rfl⟩, by rw [ht]; exact hP, hD⟩, hS.F ht⟩) hS.2.2 dX1_turns_13
  · skip
    refine lv_iload_n hx hb dX1_turns_5 rfl (lv_at hl 1 rfl) ?_
    refine lv_sipush (v := nI 1000) hx hb dX1_turns_6 (by decide) ?_
    refine lv_icmp_le (tgt := 14) hx hb dX1_turns_9 (by decide) (fun c2 => ?_) (fun c2 => ?_)
    · skip
      obtain ⟨k, hk0, hk1, rfl⟩ := tk_ok (by decide) c1 (le_1000.mp c2)
      refine lv_iconst (v := nI 0) hx hb dX1_turns_14 (by decide) ?_
      refine lv_istore_n (lv' := [(2, .int (nI 0)), (0, .ref k0), (1, .int (nI k))]) hx hb dX1_turns_15 rfl hl (by decide) rfl (fun ls hl => ?_)
      refine lv_iconst (v := nI 1) hx hb dX1_turns_16 (by decide) ?_
      refine lv_istore_n (lv' := [(3, .int (nI 1)), (2, .int (nI 0)), (0, .ref k0), (1, .int (nI k))]) hx hb dX1_turns_17 rfl hl (by decide) rfl (fun ls hl => ?_)
      refine sl_loop (fun d (z : Nat × Nat × (Nat → Nat) × (Nat → Nat)) H locs ls => ((z.2.1 = 1 ∧ k + 2 ≤ z.1 + d ∧ z.1 ≤ k ∧ sp_turn N big ft k fp fr = (z.1 + (sp_turn N big ft (k - z.1) z.2.2.1 z.2.2.2).1, (sp_turn N big ft (k - z.1) z.2.2.1 z.2.2.2).2)) ∨ (z.2.1 = 0 ∧ 1 ≤ d ∧ sp_turn N big ft k fp fr = (z.1, z.2.2.1, z.2.2.2))) ∧ sh_M N big n lp ft fk z.2.2.1 ∧ va_P (dC, dI) vwCl (mw k0 bI bT bP bR cA cZ cJ N big n lp ft fk z.2.2.1 z.2.2.2) H ∧ va_D A (mw k0 bI bT bP bR cA cZ cJ N big n lp ft fk z.2.2.1 z.2.2.2) ∧ va_S A s.heap H locs ∧ lv_has ls 4 [(3, .int (nI z.2.1)), (2, .int (nI z.1)), (0, .ref k0), (1, .int (nI k))]) (fun z H locs ls h => by rcases h.1 with q | q <;> omega) ?_ (k + 2) (0, 1, fp, fr) _ _ _ ⟨Or.inl ⟨rfl, by omega, by omega, by rw [Nat.sub_zero, Nat.zero_add]⟩, hM, hP, hD, hS, lv_sub hl [0, 1, 2, 3] rfl⟩
      intro d z H locs ls ih hI
      obtain ⟨g, o, gp, gr⟩ := z
      obtain ⟨hc, hM2, hP, hD, hS, hl⟩ := hI
      dsimp only at hc hM2 hP hD hl
      rcases hc with ⟨rfl, h1, h2, h3⟩ | ⟨rfl, h1, h3⟩
      · skip
        refine lv_iload_n hx hb dX1_turns_18 rfl (lv_at hl 0 rfl) ?_
        refine sr_if_eq (tgt := 55) hx hb (by decide) dX1_turns_19 (by decide) (fun q => absurd q (by decide)) (fun _ => ?_)
        refine lv_iload_n hx hb dX1_turns_22 rfl (lv_at hl 1 rfl) ?_
        refine lv_iload_n hx hb dX1_turns_23 rfl (lv_at hl 3 rfl) ?_
        refine sr_cmp_ge (tgt := 55) hx hb (by omega) (by omega) dX1_turns_24 (by decide) (fun c3 => ?_) (fun c3 => ?_)
        · skip
          refine lv_iload_n hx hb dX1_turns_55 rfl (lv_at hl 1 rfl) ?_
          exact W.iret (v := nI g) hx hb hr (fun t ht hW => ⟨⟨nI g, (gp, gr), rfl, Or.inr ⟨k, hk0, hk1, rfl, by rw [h3, show k - g = 0 by omega]; rfl, by rw [h3, show k - g = 0 by omega]; rfl, by rw [h3, show k - g = 0 by omega]; rfl, hM2⟩, by rw [ht]; exact hP, hD⟩, hS.F ht⟩) hS.2.2 dX1_turns_56
        · skip
          refine lv_aload_n hx hb dX1_turns_27 rfl (lv_at hl 2 rfl) ?_
          refine sc_i (wr := []) (wc := mw k0 bI bT bP bR cA cZ cJ N big n lp ft fk gp gr) (As := []) (rest := []) ⟨hx, hb, hml, hown, hts⟩ (kX1_next l dC dI k0 bI bT bP bR cA cZ cJ H.size N big n lp ft fk gp gr hM2) (cwV 0 hts gX1_turns_X1_next rfl rfl rfl (by decide +kernel) ⟨Nat.le_of_ble_eq_true rfl, Nat.le_of_ble_eq_true rfl⟩) hK hP hD hS hA (va_recv hK hP (ci := 1) (q0 := 0) rfl rfl) rfl hl.1 rfl (Nat.le_of_ble_eq_true rfl) dX1_turns_28 ⟨Nat.zero_le _, Nat.zero_le _⟩ (fun r u H locs hw hP hD hS => ?_)
          rcases hw with ⟨hg, rfl, rfl⟩ | ⟨b, hg, hbN, rfl, e1, e2, hM3⟩
          · skip
            refine lv_if_lt (tgt := 38) hx hb dX1_turns_31 (by decide) (fun _ => ?_) (fun z => absurd (no_neg N ft gp) z)
            refine lv_iconst (v := nI 0) hx hb dX1_turns_38 (by decide) ?_
            refine lv_istore_n (lv' := [(3, .int (nI 0)), (2, .int (nI g)), (0, .ref k0), (1, .int (nI k))]) hx hb dX1_turns_39 rfl hl (by decide) rfl (fun ls hl => ?_)
            refine lv_iload_n hx hb dX1_turns_40 rfl (lv_at hl 0 rfl) ?_
            refine sr_if_eq (tgt := 50) hx hb (by decide) dX1_turns_41 (by decide) (fun _ => ?_) (fun q => absurd q (by decide))
            refine lv_iload_n hx hb dX1_turns_50 rfl (lv_at hl 1 rfl) ?_
            refine lv_istore_n (lv' := [(2, .int (nI g)), (3, .int (nI 0)), (0, .ref k0), (1, .int (nI k))]) hx hb dX1_turns_51 rfl hl (by decide) rfl (fun ls hl => ?_)
            refine lv_goto (tgt := 18) hx hb dX1_turns_52 (by decide) ?_
            exact ih (g, 0, gp, gr) _ _ _ ⟨Or.inr ⟨rfl, by omega, by rw [h3, turn_none hg]; rfl⟩, hM2, hP, hD, hS, lv_sub hl [1, 0, 2, 3] rfl⟩
          · skip
            obtain ⟨hN0, hN, -, -, -, -, -, -, -⟩ := id hM
            refine sr_if_lt (tgt := 38) hx hb (by omega) dX1_turns_31 (by decide) ?_
            refine lv_iconst (v := nI 1) hx hb dX1_turns_34 (by decide) ?_
            refine lv_goto (tgt := 39) hx hb dX1_turns_35 (by decide) ?_
            refine lv_istore_n (lv' := [(3, .int (nI 1)), (2, .int (nI g)), (0, .ref k0), (1, .int (nI k))]) hx hb dX1_turns_39 rfl hl (by decide) rfl (fun ls hl => ?_)
            refine lv_iload_n hx hb dX1_turns_40 rfl (lv_at hl 0 rfl) ?_
            refine sr_if_eq (tgt := 50) hx hb (by decide) dX1_turns_41 (by decide) (fun q => absurd q (by decide)) (fun _ => ?_)
            refine lv_iload_n hx hb dX1_turns_44 rfl (lv_at hl 1 rfl) ?_
            refine lv_iconst (v := nI 1) hx hb dX1_turns_45 (by decide) ?_
            refine sr_iadd hx hb dX1_turns_46 ?_
            refine lv_goto (tgt := 51) hx hb dX1_turns_47 (by decide) ?_
            refine lv_istore_n (lv' := [(2, .int (nI (g + 1))), (3, .int (nI 1)), (0, .ref k0), (1, .int (nI k))]) hx hb dX1_turns_51 rfl hl (by decide) rfl (fun ls hl => ?_)
            refine lv_goto (tgt := 18) hx hb dX1_turns_52 (by decide) ?_
            exact ih (g + 1, 1, u.1, u.2) _ _ _ ⟨Or.inl ⟨rfl, by omega, by omega, by
              dsimp only
              rw [h3, show k - g = (k - (g + 1)) + 1 by omega, turn_some hg, e1, e2]
              dsimp only
              rw [Nat.add_assoc g 1, Nat.add_comm 1]⟩, hM3, hP, hD, hS, lv_sub hl [1, 0, 2, 3] rfl⟩
      · skip
        refine lv_iload_n hx hb dX1_turns_18 rfl (lv_at hl 0 rfl) ?_
        refine sr_if_eq (tgt := 55) hx hb (by decide) dX1_turns_19 (by decide) (fun _ => ?_) (fun q => absurd q (by decide))
        refine lv_iload_n hx hb dX1_turns_55 rfl (lv_at hl 1 rfl) ?_
        exact W.iret (v := nI g) hx hb hr (fun t ht hW => ⟨⟨nI g, (gp, gr), rfl, Or.inr ⟨k, hk0, hk1, rfl, by rw [h3], by rw [h3], by rw [h3], hM2⟩, by rw [ht]; exact hP, hD⟩, hS.F ht⟩) hS.2.2 dX1_turns_56
    · skip
      refine lv_iconst (v := (-1)) hx hb dX1_turns_12 (by decide) ?_
      exact W.iret (v := (-1)) hx hb hr (fun t ht hW => ⟨⟨(-1), (fp, fr), rfl, Or.inl ⟨Or.inl (ix_hi (Int32.not_lt.mp (fun z => c2 (le_1000.mpr (fun w => Int32.not_lt.mpr w z))))), rfl, rfl⟩, by rw [ht]; exact hP, hD⟩, hS.F ht⟩) hS.2.2 dX1_turns_13
set_option maxHeartbeats 4000000 in
set_option maxRecDepth 100000 in
/-- join(x, y) -/
theorem kX1_join (l : Launch) (dC : Nat → ClassId) (dI : Nat → Nat → Nat) (k0 bI bT bP bR : Nat) (cA cZ cJ : ClassId) (sz N big n lp : Nat) (ft fk fp fr : Nat → Nat) (hM : sh_M N big n lp ft fk fp) (x y : Int32) : Met l yX1_join wsX1_join ({ frames := 2, cells := 0, slots := 0, locals := 44 }) (va_Pc [.ref k0, .int x, .int y] (sB dC dI (ty3 cA cZ cJ) sz (mw k0 bI bT bP bR cA cZ cJ N big n lp ft fk fp fr))) (va_Qi (fun (r : Int32) (u : (Nat × (Nat → Nat) × (Nat → Nat) × (Nat → Nat))) => r = (sp_join N big ft x y).1 ∧ (((sp_join N big ft x y).2 = none ∧ u = (n, ft, fk, fp)) ∨ ∃ j k, (sp_join N big ft x y).2 = some (j, k) ∧ u.1 = n + 1 ∧ u.2.1 = sh_up ft j k ∧ u.2.2.2 = sh_up fp j (sp_ps N lp ft fp) ∧ sh_M N big u.1 lp u.2.1 u.2.2.1 u.2.2.2)) (fun u => sE dC dI (va_A (mw k0 bI bT bP bR cA cZ cJ N big n lp ft fk fp fr) sz) (mw k0 bI bT bP bR cA cZ cJ N big u.1 lp u.2.1 u.2.2.1 u.2.2.2 fr)) (va_A (mw k0 bI bT bP bR cA cZ cJ N big n lp ft fk fp fr) sz)) 0 0 (va_A (mw k0 bI bT bP bR cA cZ cJ N big n lp ft fk fp fr) sz) := by
  refine Met.ofW (cc := cX1_join) (maxL := 4) (ret := (some .int)) (by decide) rfl ?_
  intro p e s m args below meth c s₁ B hml hv
  obtain ⟨rfl, hsz, hP, hK, hD0⟩ := hv
  have hx := B.exec
  have hb := B.bytes
  have hr := B.returns
  have hts := atoms_spec (ws := wsX1_join) B.pre
  have hown : s.vm.findClass RX1 = some m.cls := findClass_of_methodNamed B.named
  have hlocks := B.notSynchronized
  subst hsz
  have hD := hD0.self (sz := s.heap.size)
  generalize hAe : va_A (mw k0 bI bT bP bR cA cZ cJ N big n lp ft fk fp fr) s.heap.size = A at hD ⊢
  have hA : ∀ q : Nat, s.heap.size ≤ q → A q := fun q h => by rw [← hAe]; exact Or.inr h
  have hS : va_S A s.heap s.heap [] := va_S.rf
  have hl := lv_entry ([.ref k0, .int x, .int y]) (n := 4) (Nat.le_of_ble_eq_true rfl)
  rw [lg_entry_eq]
  generalize (lg_sl ([.ref k0, .int x, .int y]) ++ List.replicate (4 - (lg_sl ([.ref k0, .int x, .int y])).length) Slot.unset).toArray = ls at hl ⊢
  have hl : lv_has ls 4 [(0, .ref k0), (1, .int x), (2, .int y)] := hl
  obtain ⟨hN0, hN, hb2, hbig, hlp, hfp, hft, hfk, hnc⟩ := id hM
  have hnN : n ≤ N := by rw [hnc]; exact cnt_le ft N
  refine lv_aload_n hx hb dX1_join_0 rfl (lv_at hl 0 rfl) ?_
  refine lv_iload_n hx hb dX1_join_1 rfl (lv_at hl 1 rfl) ?_
  refine sc_i (wr := []) (wc := mw k0 bI bT bP bR cA cZ cJ N big n lp ft fk fp fr) (As := [.int x]) (rest := []) ⟨hx, hb, hml, hown, hts⟩ (kX1_isClient l dC dI k0 bI bT bP bR cA cZ cJ s.heap.size N big n lp ft fk fp fr hN x) (cwV 1 hts gX1_join_X1_isClient rfl rfl rfl (by decide +kernel) ⟨Nat.le_of_ble_eq_true rfl, Nat.le_of_ble_eq_true rfl⟩) hK hP hD hS hA (va_recv hK hP (ci := 1) (q0 := 0) rfl rfl) rfl hl.1 rfl (Nat.le_of_ble_eq_true rfl) dX1_join_2 ⟨Nat.zero_le _, Nat.zero_le _⟩ (fun r _ H locs hw hP hD hS => ?_)
  rcases hw with ⟨hnx, rfl⟩ | ⟨j, hj, rfl, rfl⟩
  · skip
    refine sr_if_ne (tgt := 10) hx hb (by decide) dX1_join_5 (by decide) (fun q => absurd q (by decide)) (fun _ => ?_)
    refine lv_iconst (v := (-1)) hx hb dX1_join_8 (by decide) ?_
    exact W.iret (v := (-1)) hx hb hr (fun t ht hW => ⟨⟨(-1), (n, ft, fk, fp), rfl, ⟨by rw [join_1 hnx], Or.inl ⟨by rw [join_1 hnx], rfl⟩⟩, by rw [ht]; exact hP, hD⟩, hS.F ht⟩) hS.2.2 dX1_join_9
  · skip
    refine sr_if_ne (tgt := 10) hx hb (by decide) dX1_join_5 (by decide) (fun _ => ?_) (fun q => absurd q (by decide))
    refine lv_aload_n hx hb dX1_join_10 rfl (lv_at hl 0 rfl) ?_
    refine va_get (D := (dC, dI)) (ci := 1) (v := .ref bI) (C := RX1) (T := TX1) (N := 8) hx hb hts wiX1_join hown hK hP 0 rfl rfl 2 (by decide) (hts (.fieldLink RX1 7 "StrideHeapModel" "in" "[Z") (by decide +kernel)) (fun _ h9 => h9) rfl dX1_join_11 ?_
    refine lv_iload_n hx hb dX1_join_14 rfl (lv_at hl 1 rfl) ?_
    refine sr_zald hx hb hK hP 1 1 rfl rfl (k := j) (by omega) (by omega) dX1_join_15 ?_
    refine sr_if_eq (tgt := 22) hx hb (in_lt ft j) dX1_join_16 (by decide) (fun ht0 => ?_) (fun ht0 => ?_)
    · skip
      have ht0 : ft j = 0 := in_0.mp ht0
      refine lv_aload_n hx hb dX1_join_22 rfl (lv_at hl 0 rfl) ?_
      refine lv_iload_n hx hb dX1_join_23 rfl (lv_at hl 2 rfl) ?_
      refine sc_i (wr := []) (wc := mw k0 bI bT bP bR cA cZ cJ N big n lp ft fk fp fr) (As := [.int y]) (rest := []) ⟨hx, hb, hml, hown, hts⟩ (kX1_areTickets l dC dI k0 bI bT bP bR cA cZ cJ H.size N big n lp ft fk fp fr hbig y) (cwV 1 hts gX1_join_X1_areTickets rfl rfl rfl (by decide +kernel) ⟨Nat.le_of_ble_eq_true rfl, Nat.le_of_ble_eq_true rfl⟩) hK hP hD hS hA (va_recv hK hP (ci := 1) (q0 := 0) rfl rfl) rfl hl.1 rfl (Nat.le_of_ble_eq_true rfl) dX1_join_24 ⟨Nat.zero_le _, Nat.zero_le _⟩ (fun r _ H locs hw hP hD hS => ?_)
      rcases hw with ⟨hny, rfl⟩ | ⟨k, hk0, hkb, rfl, rfl⟩
      · skip
        refine sr_if_ne (tgt := 33) hx hb (by decide) dX1_join_27 (by decide) (fun q => absurd q (by decide)) (fun _ => ?_)
        refine lv_bipush (v := (-3)) hx hb dX1_join_30 (by decide) ?_
        exact W.iret (v := (-3)) hx hb hr (fun t ht hW => ⟨⟨(-3), (n, ft, fk, fp), rfl, ⟨by rw [join_3 hj hN ht0 hny], Or.inl ⟨by rw [join_3 hj hN ht0 hny], rfl⟩⟩, by rw [ht]; exact hP, hD⟩, hS.F ht⟩) hS.2.2 dX1_join_32
      · skip
        refine sr_if_ne (tgt := 33) hx hb (by decide) dX1_join_27 (by decide) (fun _ => ?_) (fun q => absurd q (by decide))
        refine lv_aload_n hx hb dX1_join_33 rfl (lv_at hl 0 rfl) ?_
        refine sc_i (wr := []) (wc := mw k0 bI bT bP bR cA cZ cJ N big n lp ft fk fp fr) (As := []) (rest := []) ⟨hx, hb, hml, hown, hts⟩ (kX1_first l dC dI k0 bI bT bP bR cA cZ cJ H.size N big n lp ft fk fp fr hN hfp) (cwV 0 hts gX1_join_X1_first rfl rfl rfl (by decide +kernel) ⟨Nat.le_of_ble_eq_true rfl, Nat.le_of_ble_eq_true rfl⟩) hK hP hD hS hA (va_recv hK hP (ci := 1) (q0 := 0) rfl rfl) rfl hl.1 rfl (Nat.le_of_ble_eq_true rfl) dX1_join_34 ⟨Nat.zero_le _, Nat.zero_le _⟩ (fun r _ H locs hw hP hD hS => ?_)
        subst hw
        have hpl : sp_ps N lp ft fp < 2 ^ 31 := ps_lt hlp hfp
        rcases fi_spec ft fp N with ⟨hf, -⟩ | ⟨b, hf, hbN, hbt, -⟩
        · skip
          have hps : sp_ps N lp ft fp = lp := by unfold sp_ps; rw [hf]
          rw [hf, sf_0]
          refine lv_istore_n (lv' := [(3, .int (-1)), (0, .ref k0), (1, .int (nI j)), (2, .int (nI k))]) hx hb dX1_join_37 rfl hl (by decide) rfl (fun ls hl => ?_)
          refine lv_aload_n hx hb dX1_join_38 rfl (lv_at hl 1 rfl) ?_
          refine va_get (D := (dC, dI)) (ci := 1) (v := .ref bP) (C := RX1) (T := TX1) (N := 8) hx hb hts wiX1_join hown hK hP 0 rfl rfl 4 (by decide) (hts (.fieldLink RX1 17 "StrideHeapModel" "pass" "[J") (by decide +kernel)) (fun _ h9 => h9) rfl dX1_join_39 ?_
          refine lv_iload_n hx hb dX1_join_42 rfl (lv_at hl 2 rfl) ?_
          refine lv_iload_n hx hb dX1_join_43 rfl (lv_at hl 0 rfl) ?_
          refine lv_if_ge (tgt := 54) hx hb dX1_join_44 (by decide) (fun z => absurd z (by decide)) (fun _ => ?_)
          refine lv_aload_n hx hb dX1_join_47 rfl (lv_at hl 1 rfl) ?_
          refine va_get (D := (dC, dI)) (ci := 1) (v := .long (lN lp)) (C := RX1) (T := TX1) (N := 8) hx hb hts wiX1_join hown hK hP 0 rfl rfl 7 (by decide) (hts (.fieldLink RX1 46 "StrideHeapModel" "latest" "J") (by decide +kernel)) (fun _ h9 => h9) rfl dX1_join_48 ?_
          refine lv_goto (tgt := 60) hx hb dX1_join_51 (by decide) ?_
          refine lv_topl (fun yy eyy => ?_)
          have eyy : yy = lN (sp_ps N lp ft fp) := by rw [eyy, hps]
          subst eyy
          refine sr_last hx hb hK hP hD hS 3 2 rfl rfl (k := j) (v := sp_ps N lp ft fp) (by omega) (by omega) dX1_join_60 (fun H locs hP hD hS => ?_)
          have hP : va_P (dC, dI) vwCl (mw k0 bI bT bP bR cA cZ cJ N big n lp ft fk (sh_up fp j (sp_ps N lp ft fp)) fr) H := hP
          have hD : va_D A (mw k0 bI bT bP bR cA cZ cJ N big n lp ft fk (sh_up fp j (sp_ps N lp ft fp)) fr) := hD
          refine lv_aload_n hx hb dX1_join_61 rfl (lv_at hl 1 rfl) ?_
          refine va_get (D := (dC, dI)) (ci := 1) (v := .ref bI) (C := RX1) (T := TX1) (N := 8) hx hb hts wiX1_join hown hK hP 0 rfl rfl 2 (by decide) (hts (.fieldLink RX1 7 "StrideHeapModel" "in" "[Z") (by decide +kernel)) (fun _ h9 => h9) rfl dX1_join_62 ?_
          refine lv_iload_n hx hb dX1_join_65 rfl (lv_at hl 2 rfl) ?_
          refine lv_iconst (v := nI 1) hx hb dX1_join_66 (by decide) ?_
          refine sr_zast hx hb hK hP hD hS 1 1 rfl rfl (k := j) (v := 1) (by omega) (by omega) rfl dX1_join_67 (fun H locs hP hD hS => ?_)
          rw [show sh_up (sh_in ft) j 1 = sh_in (sh_up ft j k) from in_up1 ft j k hk0] at hP hD
          have hP : va_P (dC, dI) vwCl (mw k0 bI bT bP bR cA cZ cJ N big n lp (sh_up ft j k) fk (sh_up fp j (sp_ps N lp ft fp)) fr) H := hP
          have hD : va_D A (mw k0 bI bT bP bR cA cZ cJ N big n lp (sh_up ft j k) fk (sh_up fp j (sp_ps N lp ft fp)) fr) := hD
          refine lv_aload_n hx hb dX1_join_68 rfl (lv_at hl 1 rfl) ?_
          refine va_get (D := (dC, dI)) (ci := 1) (v := .ref bT) (C := RX1) (T := TX1) (N := 8) hx hb hts wiX1_join hown hK hP 0 rfl rfl 3 (by decide) (hts (.fieldLink RX1 13 "StrideHeapModel" "tickets" "[I") (by decide +kernel)) (fun _ h9 => h9) rfl dX1_join_69 ?_
          refine lv_iload_n hx hb dX1_join_72 rfl (lv_at hl 2 rfl) ?_
          refine lv_iload_n hx hb dX1_join_73 rfl (lv_at hl 3 rfl) ?_
          refine sr_ast hx hb hK hP hD hS 2 0 rfl rfl (k := j) (v := k) (by omega) (by omega) dX1_join_74 (fun H locs hP hD hS => ?_)
          have hP : va_P (dC, dI) vwCl (mw k0 bI bT bP bR cA cZ cJ N big n lp (sh_up ft j k) (sh_up fk j k) (sh_up fp j (sp_ps N lp ft fp)) fr) H := hP
          have hD : va_D A (mw k0 bI bT bP bR cA cZ cJ N big n lp (sh_up ft j k) (sh_up fk j k) (sh_up fp j (sp_ps N lp ft fp)) fr) := hD
          refine lv_aload_n hx hb dX1_join_75 rfl (lv_at hl 1 rfl) ?_
          refine lv_dup hx hb dX1_join_76 rfl ?_
          refine va_get (D := (dC, dI)) (ci := 1) (v := .int (nI n)) (C := RX1) (T := TX1) (N := 8) hx hb hts wiX1_join hown hK hP 0 rfl rfl 6 (by decide) (hts (.fieldLink RX1 50 "StrideHeapModel" "many" "I") (by decide +kernel)) (fun _ h9 => h9) rfl dX1_join_77 ?_
          refine lv_iconst (v := nI 1) hx hb dX1_join_80 (by decide) ?_
          refine sr_iadd hx hb dX1_join_81 ?_
          refine va_put (D := (dC, dI)) (ci := 1) (v := .int (nI (n + 1))) (ty := .int) (C := RX1) (T := TX1) (N := 8) hx hb hts wiX1_join tyX1 tyX1_ok nmX1 hown hK hP hD hS 0 rfl rfl 6 (by decide) (hts (.fieldLink RX1 50 "StrideHeapModel" "many" "I") (by decide +kernel)) (fun _ h9 => h9) rfl (by decide +kernel) rfl rfl (Nat.le_of_ble_eq_true rfl) dX1_join_82 (fun H locs hP hD hS => ?_)
          have hP : va_P (dC, dI) vwCl (mw k0 bI bT bP bR cA cZ cJ N big (n + 1) lp (sh_up ft j k) (sh_up fk j k) (sh_up fp j (sp_ps N lp ft fp)) fr) H := hP
          have hD : va_D A (mw k0 bI bT bP bR cA cZ cJ N big (n + 1) lp (sh_up ft j k) (sh_up fk j k) (sh_up fp j (sp_ps N lp ft fp)) fr) := hD
          refine lv_iconst (v := nI 1) hx hb dX1_join_85 (by decide) ?_
          exact W.iret (v := nI 1) hx hb hr (fun t ht hW => ⟨⟨nI 1, (n + 1, sh_up ft j k, sh_up fk j k, sh_up fp j (sp_ps N lp ft fp)), rfl, ⟨by rw [join_4 hj hN ht0 hk0 hkb hbig]; rfl, Or.inr ⟨j, k, by rw [join_4 hj hN ht0 hk0 hkb hbig], rfl, rfl, rfl, M_join hM hj ht0 hk0 hkb hpl⟩⟩, by rw [ht]; exact hP, hD⟩, hS.F ht⟩) hS.2.2 dX1_join_86
        · skip
          have hps : sp_ps N lp ft fp = fp b := by unfold sp_ps; rw [hf]
          rw [hf, sf_s]
          refine lv_istore_n (lv' := [(3, .int (nI b)), (0, .ref k0), (1, .int (nI j)), (2, .int (nI k))]) hx hb dX1_join_37 rfl hl (by decide) rfl (fun ls hl => ?_)
          refine lv_aload_n hx hb dX1_join_38 rfl (lv_at hl 1 rfl) ?_
          refine va_get (D := (dC, dI)) (ci := 1) (v := .ref bP) (C := RX1) (T := TX1) (N := 8) hx hb hts wiX1_join hown hK hP 0 rfl rfl 4 (by decide) (hts (.fieldLink RX1 17 "StrideHeapModel" "pass" "[J") (by decide +kernel)) (fun _ h9 => h9) rfl dX1_join_39 ?_
          refine lv_iload_n hx hb dX1_join_42 rfl (lv_at hl 2 rfl) ?_
          refine lv_iload_n hx hb dX1_join_43 rfl (lv_at hl 0 rfl) ?_
          refine sr_if_ge (tgt := 54) hx hb (by omega) dX1_join_44 (by decide) ?_
          refine lv_aload_n hx hb dX1_join_54 rfl (lv_at hl 1 rfl) ?_
          refine va_get (D := (dC, dI)) (ci := 1) (v := .ref bP) (C := RX1) (T := TX1) (N := 8) hx hb hts wiX1_join hown hK hP 0 rfl rfl 4 (by decide) (hts (.fieldLink RX1 17 "StrideHeapModel" "pass" "[J") (by decide +kernel)) (fun _ h9 => h9) rfl dX1_join_55 ?_
          refine lv_iload_n hx hb dX1_join_58 rfl (lv_at hl 0 rfl) ?_
          refine sr_lald hx hb hK hP 3 2 rfl rfl (k := b) (by omega) (by omega) dX1_join_59 ?_
          refine lv_topl (fun yy eyy => ?_)
          have eyy : yy = lN (sp_ps N lp ft fp) := by rw [eyy, hps]
          subst eyy
          refine sr_last hx hb hK hP hD hS 3 2 rfl rfl (k := j) (v := sp_ps N lp ft fp) (by omega) (by omega) dX1_join_60 (fun H locs hP hD hS => ?_)
          have hP : va_P (dC, dI) vwCl (mw k0 bI bT bP bR cA cZ cJ N big n lp ft fk (sh_up fp j (sp_ps N lp ft fp)) fr) H := hP
          have hD : va_D A (mw k0 bI bT bP bR cA cZ cJ N big n lp ft fk (sh_up fp j (sp_ps N lp ft fp)) fr) := hD
          refine lv_aload_n hx hb dX1_join_61 rfl (lv_at hl 1 rfl) ?_
          refine va_get (D := (dC, dI)) (ci := 1) (v := .ref bI) (C := RX1) (T := TX1) (N := 8) hx hb hts wiX1_join hown hK hP 0 rfl rfl 2 (by decide) (hts (.fieldLink RX1 7 "StrideHeapModel" "in" "[Z") (by decide +kernel)) (fun _ h9 => h9) rfl dX1_join_62 ?_
          refine lv_iload_n hx hb dX1_join_65 rfl (lv_at hl 2 rfl) ?_
          refine lv_iconst (v := nI 1) hx hb dX1_join_66 (by decide) ?_
          refine sr_zast hx hb hK hP hD hS 1 1 rfl rfl (k := j) (v := 1) (by omega) (by omega) rfl dX1_join_67 (fun H locs hP hD hS => ?_)
          rw [show sh_up (sh_in ft) j 1 = sh_in (sh_up ft j k) from in_up1 ft j k hk0] at hP hD
          have hP : va_P (dC, dI) vwCl (mw k0 bI bT bP bR cA cZ cJ N big n lp (sh_up ft j k) fk (sh_up fp j (sp_ps N lp ft fp)) fr) H := hP
          have hD : va_D A (mw k0 bI bT bP bR cA cZ cJ N big n lp (sh_up ft j k) fk (sh_up fp j (sp_ps N lp ft fp)) fr) := hD
          refine lv_aload_n hx hb dX1_join_68 rfl (lv_at hl 1 rfl) ?_
          refine va_get (D := (dC, dI)) (ci := 1) (v := .ref bT) (C := RX1) (T := TX1) (N := 8) hx hb hts wiX1_join hown hK hP 0 rfl rfl 3 (by decide) (hts (.fieldLink RX1 13 "StrideHeapModel" "tickets" "[I") (by decide +kernel)) (fun _ h9 => h9) rfl dX1_join_69 ?_
          refine lv_iload_n hx hb dX1_join_72 rfl (lv_at hl 2 rfl) ?_
          refine lv_iload_n hx hb dX1_join_73 rfl (lv_at hl 3 rfl) ?_
          refine sr_ast hx hb hK hP hD hS 2 0 rfl rfl (k := j) (v := k) (by omega) (by omega) dX1_join_74 (fun H locs hP hD hS => ?_)
          have hP : va_P (dC, dI) vwCl (mw k0 bI bT bP bR cA cZ cJ N big n lp (sh_up ft j k) (sh_up fk j k) (sh_up fp j (sp_ps N lp ft fp)) fr) H := hP
          have hD : va_D A (mw k0 bI bT bP bR cA cZ cJ N big n lp (sh_up ft j k) (sh_up fk j k) (sh_up fp j (sp_ps N lp ft fp)) fr) := hD
          refine lv_aload_n hx hb dX1_join_75 rfl (lv_at hl 1 rfl) ?_
          refine lv_dup hx hb dX1_join_76 rfl ?_
          refine va_get (D := (dC, dI)) (ci := 1) (v := .int (nI n)) (C := RX1) (T := TX1) (N := 8) hx hb hts wiX1_join hown hK hP 0 rfl rfl 6 (by decide) (hts (.fieldLink RX1 50 "StrideHeapModel" "many" "I") (by decide +kernel)) (fun _ h9 => h9) rfl dX1_join_77 ?_
          refine lv_iconst (v := nI 1) hx hb dX1_join_80 (by decide) ?_
          refine sr_iadd hx hb dX1_join_81 ?_
          refine va_put (D := (dC, dI)) (ci := 1) (v := .int (nI (n + 1))) (ty := .int) (C := RX1) (T := TX1) (N := 8) hx hb hts wiX1_join tyX1 tyX1_ok nmX1 hown hK hP hD hS 0 rfl rfl 6 (by decide) (hts (.fieldLink RX1 50 "StrideHeapModel" "many" "I") (by decide +kernel)) (fun _ h9 => h9) rfl (by decide +kernel) rfl rfl (Nat.le_of_ble_eq_true rfl) dX1_join_82 (fun H locs hP hD hS => ?_)
          have hP : va_P (dC, dI) vwCl (mw k0 bI bT bP bR cA cZ cJ N big (n + 1) lp (sh_up ft j k) (sh_up fk j k) (sh_up fp j (sp_ps N lp ft fp)) fr) H := hP
          have hD : va_D A (mw k0 bI bT bP bR cA cZ cJ N big (n + 1) lp (sh_up ft j k) (sh_up fk j k) (sh_up fp j (sp_ps N lp ft fp)) fr) := hD
          refine lv_iconst (v := nI 1) hx hb dX1_join_85 (by decide) ?_
          exact W.iret (v := nI 1) hx hb hr (fun t ht hW => ⟨⟨nI 1, (n + 1, sh_up ft j k, sh_up fk j k, sh_up fp j (sp_ps N lp ft fp)), rfl, ⟨by rw [join_4 hj hN ht0 hk0 hkb hbig]; rfl, Or.inr ⟨j, k, by rw [join_4 hj hN ht0 hk0 hkb hbig], rfl, rfl, rfl, M_join hM hj ht0 hk0 hkb hpl⟩⟩, by rw [ht]; exact hP, hD⟩, hS.F ht⟩) hS.2.2 dX1_join_86
    · skip
      have ht0 : 0 < ft j := in_p.mp ht0
      refine lv_bipush (v := (-2)) hx hb dX1_join_19 (by decide) ?_
      exact W.iret (v := (-2)) hx hb hr (fun t ht hW => ⟨⟨(-2), (n, ft, fk, fp), rfl, ⟨by rw [join_2 hj hN ht0], Or.inl ⟨by rw [join_2 hj hN ht0], rfl⟩⟩, by rw [ht]; exact hP, hD⟩, hS.F ht⟩) hS.2.2 dX1_join_21
set_option maxHeartbeats 4000000 in
set_option maxRecDepth 100000 in
/-- leave(x) -/
theorem kX1_leave (l : Launch) (dC : Nat → ClassId) (dI : Nat → Nat → Nat) (k0 bI bT bP bR : Nat) (cA cZ cJ : ClassId) (sz N big n lp : Nat) (ft fk fp fr : Nat → Nat) (hM : sh_M N big n lp ft fk fp) (x : Int32) : Met l yX1_leave wsX1_leave ({ frames := 1, cells := 0, slots := 0, locals := 21 }) (va_Pc [.ref k0, .int x] (sB dC dI (ty3 cA cZ cJ) sz (mw k0 bI bT bP bR cA cZ cJ N big n lp ft fk fp fr))) (va_Qi (fun (r : Int32) (u : (Nat × Nat × (Nat → Nat))) => r = (sp_leave N ft x).1 ∧ (((sp_leave N ft x).2 = none ∧ u = (n, lp, ft)) ∨ ∃ j, (sp_leave N ft x).2 = some j ∧ u.1 = n - 1 ∧ u.2.1 = fp j ∧ u.2.2 = sh_up ft j 0 ∧ sh_M N big u.1 u.2.1 u.2.2 fk fp)) (fun u => sE dC dI (va_A (mw k0 bI bT bP bR cA cZ cJ N big n lp ft fk fp fr) sz) (mw k0 bI bT bP bR cA cZ cJ N big u.1 u.2.1 u.2.2 fk fp fr)) (va_A (mw k0 bI bT bP bR cA cZ cJ N big n lp ft fk fp fr) sz)) 0 0 (va_A (mw k0 bI bT bP bR cA cZ cJ N big n lp ft fk fp fr) sz) := by
  refine Met.ofW (cc := cX1_leave) (maxL := 2) (ret := (some .int)) (by decide) rfl ?_
  intro p e s m args below meth c s₁ B hml hv
  obtain ⟨rfl, hsz, hP, hK, hD0⟩ := hv
  have hx := B.exec
  have hb := B.bytes
  have hr := B.returns
  have hts := atoms_spec (ws := wsX1_leave) B.pre
  have hown : s.vm.findClass RX1 = some m.cls := findClass_of_methodNamed B.named
  have hlocks := B.notSynchronized
  subst hsz
  have hD := hD0.self (sz := s.heap.size)
  generalize hAe : va_A (mw k0 bI bT bP bR cA cZ cJ N big n lp ft fk fp fr) s.heap.size = A at hD ⊢
  have hA : ∀ q : Nat, s.heap.size ≤ q → A q := fun q h => by rw [← hAe]; exact Or.inr h
  have hS : va_S A s.heap s.heap [] := va_S.rf
  have hl := lv_entry ([.ref k0, .int x]) (n := 2) (Nat.le_of_ble_eq_true rfl)
  rw [lg_entry_eq]
  generalize (lg_sl ([.ref k0, .int x]) ++ List.replicate (2 - (lg_sl ([.ref k0, .int x])).length) Slot.unset).toArray = ls at hl ⊢
  have hl : lv_has ls 2 [(0, .ref k0), (1, .int x)] := hl
  obtain ⟨hN0, hN, hb2, hbig, hlp, hfp, hft, hfk, hnc⟩ := id hM
  have hnN : n ≤ N := by rw [hnc]; exact cnt_le ft N
  refine lv_aload_n hx hb dX1_leave_0 rfl (lv_at hl 0 rfl) ?_
  refine lv_iload_n hx hb dX1_leave_1 rfl (lv_at hl 1 rfl) ?_
  refine sc_i (wr := []) (wc := mw k0 bI bT bP bR cA cZ cJ N big n lp ft fk fp fr) (As := [.int x]) (rest := []) ⟨hx, hb, hml, hown, hts⟩ (kX1_isClient l dC dI k0 bI bT bP bR cA cZ cJ s.heap.size N big n lp ft fk fp fr hN x) (cwV 1 hts gX1_leave_X1_isClient rfl rfl rfl (by decide +kernel) ⟨Nat.le_of_ble_eq_true rfl, Nat.le_of_ble_eq_true rfl⟩) hK hP hD hS hA (va_recv hK hP (ci := 1) (q0 := 0) rfl rfl) rfl hl.1 rfl (Nat.le_of_ble_eq_true rfl) dX1_leave_2 ⟨Nat.zero_le _, Nat.zero_le _⟩ (fun r _ H locs hw hP hD hS => ?_)
  rcases hw with ⟨hnx, rfl⟩ | ⟨j, hj, rfl, rfl⟩
  · skip
    refine sr_if_ne (tgt := 10) hx hb (by decide) dX1_leave_5 (by decide) (fun q => absurd q (by decide)) (fun _ => ?_)
    refine lv_iconst (v := (-1)) hx hb dX1_leave_8 (by decide) ?_
    exact W.iret (v := (-1)) hx hb hr (fun t ht hW => ⟨⟨(-1), (n, lp, ft), rfl, ⟨by rw [leave_1 hnx], Or.inl ⟨by rw [leave_1 hnx], rfl⟩⟩, by rw [ht]; exact hP, hD⟩, hS.F ht⟩) hS.2.2 dX1_leave_9
  · skip
    refine sr_if_ne (tgt := 10) hx hb (by decide) dX1_leave_5 (by decide) (fun _ => ?_) (fun q => absurd q (by decide))
    refine lv_aload_n hx hb dX1_leave_10 rfl (lv_at hl 0 rfl) ?_
    refine va_get (D := (dC, dI)) (ci := 1) (v := .ref bI) (C := RX1) (T := TX1) (N := 8) hx hb hts wiX1_leave hown hK hP 0 rfl rfl 2 (by decide) (hts (.fieldLink RX1 7 "StrideHeapModel" "in" "[Z") (by decide +kernel)) (fun _ h9 => h9) rfl dX1_leave_11 ?_
    refine lv_iload_n hx hb dX1_leave_14 rfl (lv_at hl 1 rfl) ?_
    refine sr_zald hx hb hK hP 1 1 rfl rfl (k := j) (by omega) (by omega) dX1_leave_15 ?_
    refine sr_if_ne (tgt := 22) hx hb (in_lt ft j) dX1_leave_16 (by decide) (fun ht0 => ?_) (fun ht0 => ?_)
    · skip
      have ht0 : 0 < ft j := in_p.mp ht0
      have hn1 : 0 < n := by rw [hnc]; exact cnt_pos ft hj ht0
      refine lv_aload_n hx hb dX1_leave_22 rfl (lv_at hl 0 rfl) ?_
      refine va_get (D := (dC, dI)) (ci := 1) (v := .ref bI) (C := RX1) (T := TX1) (N := 8) hx hb hts wiX1_leave hown hK hP 0 rfl rfl 2 (by decide) (hts (.fieldLink RX1 7 "StrideHeapModel" "in" "[Z") (by decide +kernel)) (fun _ h9 => h9) rfl dX1_leave_23 ?_
      refine lv_iload_n hx hb dX1_leave_26 rfl (lv_at hl 1 rfl) ?_
      refine lv_iconst (v := nI 0) hx hb dX1_leave_27 (by decide) ?_
      refine sr_zast hx hb hK hP hD hS 1 1 rfl rfl (k := j) (v := 0) (by omega) (by omega) rfl dX1_leave_28 (fun H locs hP hD hS => ?_)
      rw [show sh_up (sh_in ft) j 0 = sh_in (sh_up ft j 0) from in_up0 ft j] at hP hD
      have hP : va_P (dC, dI) vwCl (mw k0 bI bT bP bR cA cZ cJ N big n lp (sh_up ft j 0) fk fp fr) H := hP
      have hD : va_D A (mw k0 bI bT bP bR cA cZ cJ N big n lp (sh_up ft j 0) fk fp fr) := hD
      refine lv_aload_n hx hb dX1_leave_29 rfl (lv_at hl 0 rfl) ?_
      refine lv_aload_n hx hb dX1_leave_30 rfl (lv_at hl 0 rfl) ?_
      refine va_get (D := (dC, dI)) (ci := 1) (v := .ref bP) (C := RX1) (T := TX1) (N := 8) hx hb hts wiX1_leave hown hK hP 0 rfl rfl 4 (by decide) (hts (.fieldLink RX1 17 "StrideHeapModel" "pass" "[J") (by decide +kernel)) (fun _ h9 => h9) rfl dX1_leave_31 ?_
      refine lv_iload_n hx hb dX1_leave_34 rfl (lv_at hl 1 rfl) ?_
      refine sr_lald hx hb hK hP 3 2 rfl rfl (k := j) (by omega) (by omega) dX1_leave_35 ?_
      refine va_put (D := (dC, dI)) (ci := 1) (v := .long (lN (fp j))) (ty := .long) (C := RX1) (T := TX1) (N := 8) hx hb hts wiX1_leave tyX1 tyX1_ok nmX1 hown hK hP hD hS 0 rfl rfl 7 (by decide) (hts (.fieldLink RX1 46 "StrideHeapModel" "latest" "J") (by decide +kernel)) (fun _ h9 => h9) rfl (by decide +kernel) rfl rfl (Nat.le_of_ble_eq_true rfl) dX1_leave_36 (fun H locs hP hD hS => ?_)
      have hP : va_P (dC, dI) vwCl (mw k0 bI bT bP bR cA cZ cJ N big n (fp j) (sh_up ft j 0) fk fp fr) H := hP
      have hD : va_D A (mw k0 bI bT bP bR cA cZ cJ N big n (fp j) (sh_up ft j 0) fk fp fr) := hD
      refine lv_aload_n hx hb dX1_leave_39 rfl (lv_at hl 0 rfl) ?_
      refine lv_dup hx hb dX1_leave_40 rfl ?_
      refine va_get (D := (dC, dI)) (ci := 1) (v := .int (nI n)) (C := RX1) (T := TX1) (N := 8) hx hb hts wiX1_leave hown hK hP 0 rfl rfl 6 (by decide) (hts (.fieldLink RX1 50 "StrideHeapModel" "many" "I") (by decide +kernel)) (fun _ h9 => h9) rfl dX1_leave_41 ?_
      refine lv_iconst (v := nI 1) hx hb dX1_leave_44 (by decide) ?_
      refine sr_isub hx hb (by omega) dX1_leave_45 ?_
      refine va_put (D := (dC, dI)) (ci := 1) (v := .int (nI (n - 1))) (ty := .int) (C := RX1) (T := TX1) (N := 8) hx hb hts wiX1_leave tyX1 tyX1_ok nmX1 hown hK hP hD hS 0 rfl rfl 6 (by decide) (hts (.fieldLink RX1 50 "StrideHeapModel" "many" "I") (by decide +kernel)) (fun _ h9 => h9) rfl (by decide +kernel) rfl rfl (Nat.le_of_ble_eq_true rfl) dX1_leave_46 (fun H locs hP hD hS => ?_)
      have hP : va_P (dC, dI) vwCl (mw k0 bI bT bP bR cA cZ cJ N big (n - 1) (fp j) (sh_up ft j 0) fk fp fr) H := hP
      have hD : va_D A (mw k0 bI bT bP bR cA cZ cJ N big (n - 1) (fp j) (sh_up ft j 0) fk fp fr) := hD
      refine lv_iconst (v := nI 1) hx hb dX1_leave_49 (by decide) ?_
      exact W.iret (v := nI 1) hx hb hr (fun t ht hW => ⟨⟨nI 1, (n - 1, fp j, sh_up ft j 0), rfl, ⟨by rw [leave_3 hj hN ht0]; rfl, Or.inr ⟨j, by rw [leave_3 hj hN ht0], rfl, rfl, rfl, M_leave hM hj ht0⟩⟩, by rw [ht]; exact hP, hD⟩, hS.F ht⟩) hS.2.2 dX1_leave_50
    · skip
      have ht0 : ft j = 0 := in_0.mp ht0
      refine lv_bipush (v := (-2)) hx hb dX1_leave_19 (by decide) ?_
      exact W.iret (v := (-2)) hx hb hr (fun t ht hW => ⟨⟨(-2), (n, lp, ft), rfl, ⟨by rw [leave_2 hj hN ht0], Or.inl ⟨by rw [leave_2 hj hN ht0], rfl⟩⟩, by rw [ht]; exact hP, hD⟩, hS.F ht⟩) hS.2.2 dX1_leave_21
set_option maxHeartbeats 4000000 in
set_option maxRecDepth 100000 in
/-- change(x, y) -/
theorem kX1_change (l : Launch) (dC : Nat → ClassId) (dI : Nat → Nat → Nat) (k0 bI bT bP bR : Nat) (cA cZ cJ : ClassId) (sz N big n lp : Nat) (ft fk fp fr : Nat → Nat) (hM : sh_M N big n lp ft fk fp) (x y : Int32) : Met l yX1_change wsX1_change ({ frames := 1, cells := 0, slots := 0, locals := 21 }) (va_Pc [.ref k0, .int x, .int y] (sB dC dI (ty3 cA cZ cJ) sz (mw k0 bI bT bP bR cA cZ cJ N big n lp ft fk fp fr))) (va_Qi (fun (r : Int32) (u : ((Nat → Nat) × (Nat → Nat))) => r = (sp_change N big ft x y).1 ∧ (((sp_change N big ft x y).2 = none ∧ u = (ft, fk)) ∨ ∃ j k, (sp_change N big ft x y).2 = some (j, k) ∧ u.1 = sh_up ft j k ∧ sh_M N big n lp u.1 u.2 fp)) (fun u => sE dC dI (va_A (mw k0 bI bT bP bR cA cZ cJ N big n lp ft fk fp fr) sz) (mw k0 bI bT bP bR cA cZ cJ N big n lp u.1 u.2 fp fr)) (va_A (mw k0 bI bT bP bR cA cZ cJ N big n lp ft fk fp fr) sz)) 0 0 (va_A (mw k0 bI bT bP bR cA cZ cJ N big n lp ft fk fp fr) sz) := by
  refine Met.ofW (cc := cX1_change) (maxL := 4) (ret := (some .int)) (by decide) rfl ?_
  intro p e s m args below meth c s₁ B hml hv
  obtain ⟨rfl, hsz, hP, hK, hD0⟩ := hv
  have hx := B.exec
  have hb := B.bytes
  have hr := B.returns
  have hts := atoms_spec (ws := wsX1_change) B.pre
  have hown : s.vm.findClass RX1 = some m.cls := findClass_of_methodNamed B.named
  have hlocks := B.notSynchronized
  subst hsz
  have hD := hD0.self (sz := s.heap.size)
  generalize hAe : va_A (mw k0 bI bT bP bR cA cZ cJ N big n lp ft fk fp fr) s.heap.size = A at hD ⊢
  have hA : ∀ q : Nat, s.heap.size ≤ q → A q := fun q h => by rw [← hAe]; exact Or.inr h
  have hS : va_S A s.heap s.heap [] := va_S.rf
  have hl := lv_entry ([.ref k0, .int x, .int y]) (n := 4) (Nat.le_of_ble_eq_true rfl)
  rw [lg_entry_eq]
  generalize (lg_sl ([.ref k0, .int x, .int y]) ++ List.replicate (4 - (lg_sl ([.ref k0, .int x, .int y])).length) Slot.unset).toArray = ls at hl ⊢
  have hl : lv_has ls 4 [(0, .ref k0), (1, .int x), (2, .int y)] := hl
  obtain ⟨hN0, hN, hb2, hbig, hlp, hfp, hft, hfk, hnc⟩ := id hM
  have hnN : n ≤ N := by rw [hnc]; exact cnt_le ft N
  refine lv_aload_n hx hb dX1_change_0 rfl (lv_at hl 0 rfl) ?_
  refine lv_iload_n hx hb dX1_change_1 rfl (lv_at hl 1 rfl) ?_
  refine sc_i (wr := []) (wc := mw k0 bI bT bP bR cA cZ cJ N big n lp ft fk fp fr) (As := [.int x]) (rest := []) ⟨hx, hb, hml, hown, hts⟩ (kX1_isClient l dC dI k0 bI bT bP bR cA cZ cJ s.heap.size N big n lp ft fk fp fr hN x) (cwV 1 hts gX1_change_X1_isClient rfl rfl rfl (by decide +kernel) ⟨Nat.le_of_ble_eq_true rfl, Nat.le_of_ble_eq_true rfl⟩) hK hP hD hS hA (va_recv hK hP (ci := 1) (q0 := 0) rfl rfl) rfl hl.1 rfl (Nat.le_of_ble_eq_true rfl) dX1_change_2 ⟨Nat.zero_le _, Nat.zero_le _⟩ (fun r _ H locs hw hP hD hS => ?_)
  rcases hw with ⟨hnx, rfl⟩ | ⟨j, hj, rfl, rfl⟩
  · skip
    refine sr_if_ne (tgt := 10) hx hb (by decide) dX1_change_5 (by decide) (fun q => absurd q (by decide)) (fun _ => ?_)
    refine lv_iconst (v := (-1)) hx hb dX1_change_8 (by decide) ?_
    exact W.iret (v := (-1)) hx hb hr (fun t ht hW => ⟨⟨(-1), (ft, fk), rfl, ⟨by rw [change_1 hnx], Or.inl ⟨by rw [change_1 hnx], rfl⟩⟩, by rw [ht]; exact hP, hD⟩, hS.F ht⟩) hS.2.2 dX1_change_9
  · skip
    refine sr_if_ne (tgt := 10) hx hb (by decide) dX1_change_5 (by decide) (fun _ => ?_) (fun q => absurd q (by decide))
    refine lv_aload_n hx hb dX1_change_10 rfl (lv_at hl 0 rfl) ?_
    refine va_get (D := (dC, dI)) (ci := 1) (v := .ref bI) (C := RX1) (T := TX1) (N := 8) hx hb hts wiX1_change hown hK hP 0 rfl rfl 2 (by decide) (hts (.fieldLink RX1 7 "StrideHeapModel" "in" "[Z") (by decide +kernel)) (fun _ h9 => h9) rfl dX1_change_11 ?_
    refine lv_iload_n hx hb dX1_change_14 rfl (lv_at hl 1 rfl) ?_
    refine sr_zald hx hb hK hP 1 1 rfl rfl (k := j) (by omega) (by omega) dX1_change_15 ?_
    refine sr_if_ne (tgt := 22) hx hb (in_lt ft j) dX1_change_16 (by decide) (fun ht0 => ?_) (fun ht0 => ?_)
    · skip
      have ht0 : 0 < ft j := in_p.mp ht0
      refine lv_aload_n hx hb dX1_change_22 rfl (lv_at hl 0 rfl) ?_
      refine lv_iload_n hx hb dX1_change_23 rfl (lv_at hl 2 rfl) ?_
      refine sc_i (wr := []) (wc := mw k0 bI bT bP bR cA cZ cJ N big n lp ft fk fp fr) (As := [.int y]) (rest := []) ⟨hx, hb, hml, hown, hts⟩ (kX1_areTickets l dC dI k0 bI bT bP bR cA cZ cJ H.size N big n lp ft fk fp fr hbig y) (cwV 1 hts gX1_change_X1_areTickets rfl rfl rfl (by decide +kernel) ⟨Nat.le_of_ble_eq_true rfl, Nat.le_of_ble_eq_true rfl⟩) hK hP hD hS hA (va_recv hK hP (ci := 1) (q0 := 0) rfl rfl) rfl hl.1 rfl (Nat.le_of_ble_eq_true rfl) dX1_change_24 ⟨Nat.zero_le _, Nat.zero_le _⟩ (fun r _ H locs hw hP hD hS => ?_)
      rcases hw with ⟨hny, rfl⟩ | ⟨k, hk0, hkb, rfl, rfl⟩
      · skip
        refine sr_if_ne (tgt := 33) hx hb (by decide) dX1_change_27 (by decide) (fun q => absurd q (by decide)) (fun _ => ?_)
        refine lv_bipush (v := (-3)) hx hb dX1_change_30 (by decide) ?_
        exact W.iret (v := (-3)) hx hb hr (fun t ht hW => ⟨⟨(-3), (ft, fk), rfl, ⟨by rw [change_3 hj hN ht0 hny], Or.inl ⟨by rw [change_3 hj hN ht0 hny], rfl⟩⟩, by rw [ht]; exact hP, hD⟩, hS.F ht⟩) hS.2.2 dX1_change_32
      · skip
        refine sr_if_ne (tgt := 33) hx hb (by decide) dX1_change_27 (by decide) (fun _ => ?_) (fun q => absurd q (by decide))
        refine lv_aload_n hx hb dX1_change_33 rfl (lv_at hl 0 rfl) ?_
        refine va_get (D := (dC, dI)) (ci := 1) (v := .ref bT) (C := RX1) (T := TX1) (N := 8) hx hb hts wiX1_change hown hK hP 0 rfl rfl 3 (by decide) (hts (.fieldLink RX1 13 "StrideHeapModel" "tickets" "[I") (by decide +kernel)) (fun _ h9 => h9) rfl dX1_change_34 ?_
        refine lv_iload_n hx hb dX1_change_37 rfl (lv_at hl 1 rfl) ?_
        refine sr_ald hx hb hK hP 2 0 rfl rfl (k := j) (by omega) (by omega) dX1_change_38 ?_
        refine lv_istore_n (lv' := [(3, .int (nI (fk j))), (0, .ref k0), (1, .int (nI j)), (2, .int (nI k))]) hx hb dX1_change_39 rfl hl (by decide) rfl (fun ls hl => ?_)
        refine lv_aload_n hx hb dX1_change_40 rfl (lv_at hl 1 rfl) ?_
        refine va_get (D := (dC, dI)) (ci := 1) (v := .ref bT) (C := RX1) (T := TX1) (N := 8) hx hb hts wiX1_change hown hK hP 0 rfl rfl 3 (by decide) (hts (.fieldLink RX1 13 "StrideHeapModel" "tickets" "[I") (by decide +kernel)) (fun _ h9 => h9) rfl dX1_change_41 ?_
        refine lv_iload_n hx hb dX1_change_44 rfl (lv_at hl 2 rfl) ?_
        refine lv_iload_n hx hb dX1_change_45 rfl (lv_at hl 3 rfl) ?_
        refine sr_ast hx hb hK hP hD hS 2 0 rfl rfl (k := j) (v := k) (by omega) (by omega) dX1_change_46 (fun H locs hP hD hS => ?_)
        have hP : va_P (dC, dI) vwCl (mw k0 bI bT bP bR cA cZ cJ N big n lp ft (sh_up fk j k) fp fr) H := hP
        have hD : va_D A (mw k0 bI bT bP bR cA cZ cJ N big n lp ft (sh_up fk j k) fp fr) := hD
        refine lv_iload_n hx hb dX1_change_47 rfl (lv_at hl 0 rfl) ?_
        rw [mw_congr (in_upS ft j k ht0 hk0)] at hP hD
        have hP : va_P (dC, dI) vwCl (mw k0 bI bT bP bR cA cZ cJ N big n lp (sh_up ft j k) (sh_up fk j k) fp fr) H := hP
        have hD : va_D A (mw k0 bI bT bP bR cA cZ cJ N big n lp (sh_up ft j k) (sh_up fk j k) fp fr) := hD
        exact W.iret (v := nI (fk j)) hx hb hr (fun t ht hW => ⟨⟨nI (fk j), (sh_up ft j k, sh_up fk j k), rfl, ⟨by rw [change_4 hj hN ht0 hk0 hkb hbig, hfk j ht0], Or.inr ⟨j, k, by rw [change_4 hj hN ht0 hk0 hkb hbig], rfl, M_change hM ht0 hk0 hkb⟩⟩, by rw [ht]; exact hP, hD⟩, hS.F ht⟩) hS.2.2 dX1_change_48
    · skip
      have ht0 : ft j = 0 := in_0.mp ht0
      refine lv_bipush (v := (-2)) hx hb dX1_change_19 (by decide) ?_
      exact W.iret (v := (-2)) hx hb hr (fun t ht hW => ⟨⟨(-2), (ft, fk), rfl, ⟨by rw [change_2 hj hN ht0], Or.inl ⟨by rw [change_2 hj hN ht0], rfl⟩⟩, by rw [ht]; exact hP, hD⟩, hS.F ht⟩) hS.2.2 dX1_change_21
set_option maxHeartbeats 4000000 in
set_option maxRecDepth 100000 in
/-- ranOf(x) -/
theorem kX1_ranOf (l : Launch) (dC : Nat → ClassId) (dI : Nat → Nat → Nat) (k0 bI bT bP bR : Nat) (cA cZ cJ : ClassId) (sz N big n lp : Nat) (ft fk fp fr : Nat → Nat) (hM : sh_M N big n lp ft fk fp) (x : Int32) : Met l yX1_ranOf wsX1_ranOf ({ frames := 1, cells := 0, slots := 0, locals := 21 }) (va_Pc [.ref k0, .int x] (sB dC dI (ty3 cA cZ cJ) sz (mw k0 bI bT bP bR cA cZ cJ N big n lp ft fk fp fr))) (va_Qi (fun (r : Int32) (_ : Unit) => r = sp_ran N fr x) (fun _ => sE dC dI (va_A (mw k0 bI bT bP bR cA cZ cJ N big n lp ft fk fp fr) sz) (mw k0 bI bT bP bR cA cZ cJ N big n lp ft fk fp fr)) (va_A (mw k0 bI bT bP bR cA cZ cJ N big n lp ft fk fp fr) sz)) 0 0 (va_A (mw k0 bI bT bP bR cA cZ cJ N big n lp ft fk fp fr) sz) := by
  refine Met.ofW (cc := cX1_ranOf) (maxL := 2) (ret := (some .int)) (by decide) rfl ?_
  intro p e s m args below meth c s₁ B hml hv
  obtain ⟨rfl, hsz, hP, hK, hD0⟩ := hv
  have hx := B.exec
  have hb := B.bytes
  have hr := B.returns
  have hts := atoms_spec (ws := wsX1_ranOf) B.pre
  have hown : s.vm.findClass RX1 = some m.cls := findClass_of_methodNamed B.named
  have hlocks := B.notSynchronized
  subst hsz
  have hD := hD0.self (sz := s.heap.size)
  generalize hAe : va_A (mw k0 bI bT bP bR cA cZ cJ N big n lp ft fk fp fr) s.heap.size = A at hD ⊢
  have hA : ∀ q : Nat, s.heap.size ≤ q → A q := fun q h => by rw [← hAe]; exact Or.inr h
  have hS : va_S A s.heap s.heap [] := va_S.rf
  have hl := lv_entry ([.ref k0, .int x]) (n := 2) (Nat.le_of_ble_eq_true rfl)
  rw [lg_entry_eq]
  generalize (lg_sl ([.ref k0, .int x]) ++ List.replicate (2 - (lg_sl ([.ref k0, .int x])).length) Slot.unset).toArray = ls at hl ⊢
  have hl : lv_has ls 2 [(0, .ref k0), (1, .int x)] := hl
  obtain ⟨hN0, hN, hb2, hbig, hlp, hfp, hft, hfk, hnc⟩ := id hM
  have hnN : n ≤ N := by rw [hnc]; exact cnt_le ft N
  refine lv_aload_n hx hb dX1_ranOf_0 rfl (lv_at hl 0 rfl) ?_
  refine lv_iload_n hx hb dX1_ranOf_1 rfl (lv_at hl 1 rfl) ?_
  refine sc_i (wr := []) (wc := mw k0 bI bT bP bR cA cZ cJ N big n lp ft fk fp fr) (As := [.int x]) (rest := []) ⟨hx, hb, hml, hown, hts⟩ (kX1_isClient l dC dI k0 bI bT bP bR cA cZ cJ s.heap.size N big n lp ft fk fp fr hN x) (cwV 1 hts gX1_ranOf_X1_isClient rfl rfl rfl (by decide +kernel) ⟨Nat.le_of_ble_eq_true rfl, Nat.le_of_ble_eq_true rfl⟩) hK hP hD hS hA (va_recv hK hP (ci := 1) (q0 := 0) rfl rfl) rfl hl.1 rfl (Nat.le_of_ble_eq_true rfl) dX1_ranOf_2 ⟨Nat.zero_le _, Nat.zero_le _⟩ (fun r _ H locs hw hP hD hS => ?_)
  rcases hw with ⟨hnx, rfl⟩ | ⟨j, hj, rfl, rfl⟩
  · skip
    refine sr_if_eq (tgt := 17) hx hb (by decide) dX1_ranOf_5 (by decide) (fun _ => ?_) (fun q => absurd q (by decide))
    refine lv_iconst (v := (-1)) hx hb dX1_ranOf_17 (by decide) ?_
    exact W.iret (v := (-1)) hx hb hr (fun t ht hW => ⟨⟨(-1), (), rfl, (ran_1 hnx).symm, by rw [ht]; exact hP, hD⟩, hS.F ht⟩) hS.2.2 dX1_ranOf_18
  · skip
    refine sr_if_eq (tgt := 17) hx hb (by decide) dX1_ranOf_5 (by decide) (fun q => absurd q (by decide)) (fun _ => ?_)
    refine lv_aload_n hx hb dX1_ranOf_8 rfl (lv_at hl 0 rfl) ?_
    refine va_get (D := (dC, dI)) (ci := 1) (v := .ref bR) (C := RX1) (T := TX1) (N := 8) hx hb hts wiX1_ranOf hown hK hP 0 rfl rfl 5 (by decide) (hts (.fieldLink RX1 21 "StrideHeapModel" "ran" "[I") (by decide +kernel)) (fun _ h9 => h9) rfl dX1_ranOf_9 ?_
    refine lv_iload_n hx hb dX1_ranOf_12 rfl (lv_at hl 1 rfl) ?_
    refine sr_ald hx hb hK hP 4 0 rfl rfl (k := j) (by omega) (by omega) dX1_ranOf_13 ?_
    refine lv_goto (tgt := 18) hx hb dX1_ranOf_14 (by decide) ?_
    exact W.iret (v := nI (fr j)) hx hb hr (fun t ht hW => ⟨⟨nI (fr j), (), rfl, (ran_2 hj hN).symm, by rw [ht]; exact hP, hD⟩, hS.F ht⟩) hS.2.2 dX1_ranOf_18
set_option maxHeartbeats 4000000 in
set_option maxRecDepth 100000 in
/-- passOf(x) -/
theorem kX1_passOf (l : Launch) (dC : Nat → ClassId) (dI : Nat → Nat → Nat) (k0 bI bT bP bR : Nat) (cA cZ cJ : ClassId) (sz N big n lp : Nat) (ft fk fp fr : Nat → Nat) (hM : sh_M N big n lp ft fk fp) (x : Int32) : Met l yX1_passOf wsX1_passOf ({ frames := 2, cells := 0, slots := 0, locals := 42 }) (va_Pc [.ref k0, .int x] (sB dC dI (ty3 cA cZ cJ) sz (mw k0 bI bT bP bR cA cZ cJ N big n lp ft fk fp fr))) (va_Qi (fun (r : Int32) (_ : Unit) => r = sp_pass N ft fp x) (fun _ => sE dC dI (va_A (mw k0 bI bT bP bR cA cZ cJ N big n lp ft fk fp fr) sz) (mw k0 bI bT bP bR cA cZ cJ N big n lp ft fk fp fr)) (va_A (mw k0 bI bT bP bR cA cZ cJ N big n lp ft fk fp fr) sz)) 0 0 (va_A (mw k0 bI bT bP bR cA cZ cJ N big n lp ft fk fp fr) sz) := by
  refine Met.ofW (cc := cX1_passOf) (maxL := 2) (ret := (some .int)) (by decide) rfl ?_
  intro p e s m args below meth c s₁ B hml hv
  obtain ⟨rfl, hsz, hP, hK, hD0⟩ := hv
  have hx := B.exec
  have hb := B.bytes
  have hr := B.returns
  have hts := atoms_spec (ws := wsX1_passOf) B.pre
  have hown : s.vm.findClass RX1 = some m.cls := findClass_of_methodNamed B.named
  have hlocks := B.notSynchronized
  subst hsz
  have hD := hD0.self (sz := s.heap.size)
  generalize hAe : va_A (mw k0 bI bT bP bR cA cZ cJ N big n lp ft fk fp fr) s.heap.size = A at hD ⊢
  have hA : ∀ q : Nat, s.heap.size ≤ q → A q := fun q h => by rw [← hAe]; exact Or.inr h
  have hS : va_S A s.heap s.heap [] := va_S.rf
  have hl := lv_entry ([.ref k0, .int x]) (n := 2) (Nat.le_of_ble_eq_true rfl)
  rw [lg_entry_eq]
  generalize (lg_sl ([.ref k0, .int x]) ++ List.replicate (2 - (lg_sl ([.ref k0, .int x])).length) Slot.unset).toArray = ls at hl ⊢
  have hl : lv_has ls 2 [(0, .ref k0), (1, .int x)] := hl
  obtain ⟨hN0, hN, hb2, hbig, hlp, hfp, hft, hfk, hnc⟩ := id hM
  have hnN : n ≤ N := by rw [hnc]; exact cnt_le ft N
  refine lv_aload_n hx hb dX1_passOf_0 rfl (lv_at hl 0 rfl) ?_
  refine lv_iload_n hx hb dX1_passOf_1 rfl (lv_at hl 1 rfl) ?_
  refine sc_i (wr := []) (wc := mw k0 bI bT bP bR cA cZ cJ N big n lp ft fk fp fr) (As := [.int x]) (rest := []) ⟨hx, hb, hml, hown, hts⟩ (kX1_isIn l dC dI k0 bI bT bP bR cA cZ cJ s.heap.size N big n lp ft fk fp fr hN x) (cwV 1 hts gX1_passOf_X1_isIn rfl rfl rfl (by decide +kernel) ⟨Nat.le_of_ble_eq_true rfl, Nat.le_of_ble_eq_true rfl⟩) hK hP hD hS hA (va_recv hK hP (ci := 1) (q0 := 0) rfl rfl) rfl hl.1 rfl (Nat.le_of_ble_eq_true rfl) dX1_passOf_2 ⟨Nat.zero_le _, Nat.zero_le _⟩ (fun r _ H locs hw hP hD hS => ?_)
  rcases hw with ⟨hnx, rfl⟩ | ⟨j, hj, rfl, ⟨ht0, rfl⟩ | ⟨ht0, rfl⟩⟩
  · skip
    refine sr_if_eq (tgt := 18) hx hb (by decide) dX1_passOf_5 (by decide) (fun _ => ?_) (fun q => absurd q (by decide))
    refine lv_iconst (v := (-1)) hx hb dX1_passOf_18 (by decide) ?_
    exact W.iret (v := (-1)) hx hb hr (fun t ht hW => ⟨⟨(-1), (), rfl, (pass_1 hnx).symm, by rw [ht]; exact hP, hD⟩, hS.F ht⟩) hS.2.2 dX1_passOf_19
  · skip
    refine sr_if_eq (tgt := 18) hx hb (by decide) dX1_passOf_5 (by decide) (fun _ => ?_) (fun q => absurd q (by decide))
    refine lv_iconst (v := (-1)) hx hb dX1_passOf_18 (by decide) ?_
    exact W.iret (v := (-1)) hx hb hr (fun t ht hW => ⟨⟨(-1), (), rfl, (pass_2 hj hN ht0).symm, by rw [ht]; exact hP, hD⟩, hS.F ht⟩) hS.2.2 dX1_passOf_19
  · skip
    refine sr_if_eq (tgt := 18) hx hb (by decide) dX1_passOf_5 (by decide) (fun q => absurd q (by decide)) (fun _ => ?_)
    have efk : fk j = ft j := hfk j ht0
    have hftj := hft j
    refine lv_aload_n hx hb dX1_passOf_8 rfl (lv_at hl 0 rfl) ?_
    refine va_get (D := (dC, dI)) (ci := 1) (v := .ref bP) (C := RX1) (T := TX1) (N := 8) hx hb hts wiX1_passOf hown hK hP 0 rfl rfl 4 (by decide) (hts (.fieldLink RX1 17 "StrideHeapModel" "pass" "[J") (by decide +kernel)) (fun _ h9 => h9) rfl dX1_passOf_9 ?_
    refine lv_iload_n hx hb dX1_passOf_12 rfl (lv_at hl 1 rfl) ?_
    refine sr_lald hx hb hK hP 3 2 rfl rfl (k := j) (by omega) (by omega) dX1_passOf_13 ?_
    refine lv_l2i hx hb dX1_passOf_14 (lN_i _) ?_
    refine lv_goto (tgt := 19) hx hb dX1_passOf_15 (by decide) ?_
    exact W.iret (v := nI (fp j)) hx hb hr (fun t ht hW => ⟨⟨nI (fp j), (), rfl, (pass_3 hj hN ht0).symm, by rw [ht]; exact hP, hD⟩, hS.F ht⟩) hS.2.2 dX1_passOf_19
set_option maxHeartbeats 4000000 in
set_option maxRecDepth 100000 in
/-- strideOf(x) -/
theorem kX1_strideOf (l : Launch) (dC : Nat → ClassId) (dI : Nat → Nat → Nat) (k0 bI bT bP bR : Nat) (cA cZ cJ : ClassId) (sz N big n lp : Nat) (ft fk fp fr : Nat → Nat) (hM : sh_M N big n lp ft fk fp) (x : Int32) : Met l yX1_strideOf wsX1_strideOf ({ frames := 2, cells := 0, slots := 0, locals := 42 }) (va_Pc [.ref k0, .int x] (sB dC dI (ty3 cA cZ cJ) sz (mw k0 bI bT bP bR cA cZ cJ N big n lp ft fk fp fr))) (va_Qi (fun (r : Int32) (_ : Unit) => r = sp_pass N ft (fun c => big / ft c) x) (fun _ => sE dC dI (va_A (mw k0 bI bT bP bR cA cZ cJ N big n lp ft fk fp fr) sz) (mw k0 bI bT bP bR cA cZ cJ N big n lp ft fk fp fr)) (va_A (mw k0 bI bT bP bR cA cZ cJ N big n lp ft fk fp fr) sz)) 0 0 (va_A (mw k0 bI bT bP bR cA cZ cJ N big n lp ft fk fp fr) sz) := by
  refine Met.ofW (cc := cX1_strideOf) (maxL := 2) (ret := (some .int)) (by decide) rfl ?_
  intro p e s m args below meth c s₁ B hml hv
  obtain ⟨rfl, hsz, hP, hK, hD0⟩ := hv
  have hx := B.exec
  have hb := B.bytes
  have hr := B.returns
  have hts := atoms_spec (ws := wsX1_strideOf) B.pre
  have hown : s.vm.findClass RX1 = some m.cls := findClass_of_methodNamed B.named
  have hlocks := B.notSynchronized
  subst hsz
  have hD := hD0.self (sz := s.heap.size)
  generalize hAe : va_A (mw k0 bI bT bP bR cA cZ cJ N big n lp ft fk fp fr) s.heap.size = A at hD ⊢
  have hA : ∀ q : Nat, s.heap.size ≤ q → A q := fun q h => by rw [← hAe]; exact Or.inr h
  have hS : va_S A s.heap s.heap [] := va_S.rf
  have hl := lv_entry ([.ref k0, .int x]) (n := 2) (Nat.le_of_ble_eq_true rfl)
  rw [lg_entry_eq]
  generalize (lg_sl ([.ref k0, .int x]) ++ List.replicate (2 - (lg_sl ([.ref k0, .int x])).length) Slot.unset).toArray = ls at hl ⊢
  have hl : lv_has ls 2 [(0, .ref k0), (1, .int x)] := hl
  obtain ⟨hN0, hN, hb2, hbig, hlp, hfp, hft, hfk, hnc⟩ := id hM
  have hnN : n ≤ N := by rw [hnc]; exact cnt_le ft N
  refine lv_aload_n hx hb dX1_strideOf_0 rfl (lv_at hl 0 rfl) ?_
  refine lv_iload_n hx hb dX1_strideOf_1 rfl (lv_at hl 1 rfl) ?_
  refine sc_i (wr := []) (wc := mw k0 bI bT bP bR cA cZ cJ N big n lp ft fk fp fr) (As := [.int x]) (rest := []) ⟨hx, hb, hml, hown, hts⟩ (kX1_isIn l dC dI k0 bI bT bP bR cA cZ cJ s.heap.size N big n lp ft fk fp fr hN x) (cwV 1 hts gX1_strideOf_X1_isIn rfl rfl rfl (by decide +kernel) ⟨Nat.le_of_ble_eq_true rfl, Nat.le_of_ble_eq_true rfl⟩) hK hP hD hS hA (va_recv hK hP (ci := 1) (q0 := 0) rfl rfl) rfl hl.1 rfl (Nat.le_of_ble_eq_true rfl) dX1_strideOf_2 ⟨Nat.zero_le _, Nat.zero_le _⟩ (fun r _ H locs hw hP hD hS => ?_)
  rcases hw with ⟨hnx, rfl⟩ | ⟨j, hj, rfl, ⟨ht0, rfl⟩ | ⟨ht0, rfl⟩⟩
  · skip
    refine sr_if_eq (tgt := 22) hx hb (by decide) dX1_strideOf_5 (by decide) (fun _ => ?_) (fun q => absurd q (by decide))
    refine lv_iconst (v := (-1)) hx hb dX1_strideOf_22 (by decide) ?_
    exact W.iret (v := (-1)) hx hb hr (fun t ht hW => ⟨⟨(-1), (), rfl, (pass_1 hnx).symm, by rw [ht]; exact hP, hD⟩, hS.F ht⟩) hS.2.2 dX1_strideOf_23
  · skip
    refine sr_if_eq (tgt := 22) hx hb (by decide) dX1_strideOf_5 (by decide) (fun _ => ?_) (fun q => absurd q (by decide))
    refine lv_iconst (v := (-1)) hx hb dX1_strideOf_22 (by decide) ?_
    exact W.iret (v := (-1)) hx hb hr (fun t ht hW => ⟨⟨(-1), (), rfl, (pass_2 hj hN ht0).symm, by rw [ht]; exact hP, hD⟩, hS.F ht⟩) hS.2.2 dX1_strideOf_23
  · skip
    refine sr_if_eq (tgt := 22) hx hb (by decide) dX1_strideOf_5 (by decide) (fun q => absurd q (by decide)) (fun _ => ?_)
    have efk : fk j = ft j := hfk j ht0
    have hftj := hft j
    refine lv_aload_n hx hb dX1_strideOf_8 rfl (lv_at hl 0 rfl) ?_
    refine va_get (D := (dC, dI)) (ci := 1) (v := .int (nI big)) (C := RX1) (T := TX1) (N := 8) hx hb hts wiX1_strideOf hown hK hP 0 rfl rfl 1 (by decide) (hts (.fieldLink RX1 28 "StrideHeapModel" "big" "I") (by decide +kernel)) (fun _ h9 => h9) rfl dX1_strideOf_9 ?_
    refine lv_aload_n hx hb dX1_strideOf_12 rfl (lv_at hl 0 rfl) ?_
    refine va_get (D := (dC, dI)) (ci := 1) (v := .ref bT) (C := RX1) (T := TX1) (N := 8) hx hb hts wiX1_strideOf hown hK hP 0 rfl rfl 3 (by decide) (hts (.fieldLink RX1 13 "StrideHeapModel" "tickets" "[I") (by decide +kernel)) (fun _ h9 => h9) rfl dX1_strideOf_13 ?_
    refine lv_iload_n hx hb dX1_strideOf_16 rfl (lv_at hl 1 rfl) ?_
    refine sr_ald hx hb hK hP 2 0 rfl rfl (k := j) (by omega) (by omega) dX1_strideOf_17 ?_
    refine sr_idiv hx hb (by omega) (by omega) (by omega) dX1_strideOf_18 ?_
    refine lv_goto (tgt := 23) hx hb dX1_strideOf_19 (by decide) ?_
    exact W.iret (v := nI (big / (fk j))) hx hb hr (fun t ht hW => ⟨⟨nI (big / (fk j)), (), rfl, (by rw [pass_3 hj hN ht0, efk]), by rw [ht]; exact hP, hD⟩, hS.F ht⟩) hS.2.2 dX1_strideOf_23
set_option maxHeartbeats 4000000 in
set_option maxRecDepth 100000 in
/-- clients() -/
theorem kX1_clients (l : Launch) (dC : Nat → ClassId) (dI : Nat → Nat → Nat) (k0 bI bT bP bR : Nat) (cA cZ cJ : ClassId) (sz N big n lp : Nat) (ft fk fp fr : Nat → Nat) (hM : sh_M N big n lp ft fk fp) : Met l yX1_clients wsX1_clients ({ frames := 0, cells := 0, slots := 0, locals := 0 }) (va_Pc [.ref k0] (sB dC dI (ty3 cA cZ cJ) sz (mw k0 bI bT bP bR cA cZ cJ N big n lp ft fk fp fr))) (va_Qi (fun (r : Int32) (_ : Unit) => r = nI n) (fun _ => sE dC dI (va_A (mw k0 bI bT bP bR cA cZ cJ N big n lp ft fk fp fr) sz) (mw k0 bI bT bP bR cA cZ cJ N big n lp ft fk fp fr)) (va_A (mw k0 bI bT bP bR cA cZ cJ N big n lp ft fk fp fr) sz)) 0 0 (va_A (mw k0 bI bT bP bR cA cZ cJ N big n lp ft fk fp fr) sz) := by
  refine Met.ofW (cc := cX1_clients) (maxL := 1) (ret := (some .int)) (by decide) rfl ?_
  intro p e s m args below meth c s₁ B hml hv
  obtain ⟨rfl, hsz, hP, hK, hD0⟩ := hv
  have hx := B.exec
  have hb := B.bytes
  have hr := B.returns
  have hts := atoms_spec (ws := wsX1_clients) B.pre
  have hown : s.vm.findClass RX1 = some m.cls := findClass_of_methodNamed B.named
  have hlocks := B.notSynchronized
  subst hsz
  have hD := hD0.self (sz := s.heap.size)
  generalize hAe : va_A (mw k0 bI bT bP bR cA cZ cJ N big n lp ft fk fp fr) s.heap.size = A at hD ⊢
  have hA : ∀ q : Nat, s.heap.size ≤ q → A q := fun q h => by rw [← hAe]; exact Or.inr h
  have hS : va_S A s.heap s.heap [] := va_S.rf
  have hl := lv_entry ([.ref k0]) (n := 1) (Nat.le_of_ble_eq_true rfl)
  rw [lg_entry_eq]
  generalize (lg_sl ([.ref k0]) ++ List.replicate (1 - (lg_sl ([.ref k0])).length) Slot.unset).toArray = ls at hl ⊢
  have hl : lv_has ls 1 [(0, .ref k0)] := hl
  refine lv_aload_n hx hb dX1_clients_0 rfl (lv_at hl 0 rfl) ?_
  refine va_get (D := (dC, dI)) (ci := 1) (v := .int (nI n)) (C := RX1) (T := TX1) (N := 8) hx hb hts wiX1_clients hown hK hP 0 rfl rfl 6 (by decide) (hts (.fieldLink RX1 50 "StrideHeapModel" "many" "I") (by decide +kernel)) (fun _ h9 => h9) rfl dX1_clients_1 ?_
  exact W.iret (v := nI n) hx hb hr (fun t ht hW => ⟨⟨nI n, (), rfl, rfl, by rw [ht]; exact hP, hD⟩, hS.F ht⟩) hS.2.2 dX1_clients_4
end
section
-- THE REFERENCE: spread, order
theorem mx_s0 {t p : Nat → Nat} {c : Nat} (h : t c = 0) : sh_mx t p (c + 1) = sh_mx t p c := by
  simp only [sh_mx]
  exact if_neg (by omega)
theorem mx_s1 {t p : Nat → Nat} {c : Nat} (h : p c ≤ sh_mx t p c) : sh_mx t p (c + 1) = sh_mx t p c := by
  simp only [sh_mx]
  exact if_neg (by omega)
theorem mx_s2 {t p : Nat → Nat} {c : Nat} (h0 : 0 < t c) (h : sh_mx t p c < p c) : sh_mx t p (c + 1) = p c := by
  simp only [sh_mx]
  exact if_pos ⟨h0, h⟩
theorem rk_s1 {t p : Nat → Nat} {c k : Nat} (h : 0 < t c ∧ 0 < t k ∧ k ≠ c ∧ sh_bf p k c) : sh_rk t p c (k + 1) = sh_rk t p c k + 1 := by
  simp only [sh_rk]
  exact if_pos h
theorem rk_s0 {t p : Nat → Nat} {c k : Nat} (h : ¬ (0 < t c ∧ 0 < t k ∧ k ≠ c ∧ sh_bf p k c)) : sh_rk t p c (k + 1) = sh_rk t p c k := by
  simp only [sh_rk]
  exact if_neg h
theorem rk_le (t p : Nat → Nat) (c : Nat) : ∀ k, sh_rk t p c k ≤ k
  | 0 => Nat.le_refl 0
  | k + 1 => by
    have := rk_le t p c k
    simp only [sh_rk]
    split <;> omega
set_option maxHeartbeats 4000000 in
set_option maxRecDepth 100000 in
/-- spread() -/
theorem kX1_spread (l : Launch) (dC : Nat → ClassId) (dI : Nat → Nat → Nat) (k0 bI bT bP bR : Nat) (cA cZ cJ : ClassId) (sz N big n lp : Nat) (ft fk fp fr : Nat → Nat) (hM : sh_M N big n lp ft fk fp) : Met l yX1_spread wsX1_spread ({ frames := 2, cells := 0, slots := 0, locals := 44 }) (va_Pc [.ref k0] (sB dC dI (ty3 cA cZ cJ) sz (mw k0 bI bT bP bR cA cZ cJ N big n lp ft fk fp fr))) (va_Qi (fun (r : Int32) (_ : Unit) => r = sp_spread N ft fp) (fun _ => sE dC dI (va_A (mw k0 bI bT bP bR cA cZ cJ N big n lp ft fk fp fr) sz) (mw k0 bI bT bP bR cA cZ cJ N big n lp ft fk fp fr)) (va_A (mw k0 bI bT bP bR cA cZ cJ N big n lp ft fk fp fr) sz)) 0 0 (va_A (mw k0 bI bT bP bR cA cZ cJ N big n lp ft fk fp fr) sz) := by
  refine Met.ofW (cc := cX1_spread) (maxL := 5) (ret := (some .int)) (by decide) rfl ?_
  intro p e s m args below meth c s₁ B hml hv
  obtain ⟨rfl, hsz, hP, hK, hD0⟩ := hv
  have hx := B.exec
  have hb := B.bytes
  have hr := B.returns
  have hts := atoms_spec (ws := wsX1_spread) B.pre
  have hown : s.vm.findClass RX1 = some m.cls := findClass_of_methodNamed B.named
  have hlocks := B.notSynchronized
  subst hsz
  have hD := hD0.self (sz := s.heap.size)
  generalize hAe : va_A (mw k0 bI bT bP bR cA cZ cJ N big n lp ft fk fp fr) s.heap.size = A at hD ⊢
  have hA : ∀ q : Nat, s.heap.size ≤ q → A q := fun q h => by rw [← hAe]; exact Or.inr h
  have hS : va_S A s.heap s.heap [] := va_S.rf
  have hl := lv_entry ([.ref k0]) (n := 5) (Nat.le_of_ble_eq_true rfl)
  rw [lg_entry_eq]
  generalize (lg_sl ([.ref k0]) ++ List.replicate (5 - (lg_sl ([.ref k0])).length) Slot.unset).toArray = ls at hl ⊢
  have hl : lv_has ls 5 [(0, .ref k0)] := hl
  obtain ⟨hN0, hN, hb2, hbig, hlp, hfp, hft, hfk, hnc⟩ := id hM
  have hnN : n ≤ N := by rw [hnc]; exact cnt_le ft N
  refine lv_aload_n hx hb dX1_spread_0 rfl (lv_at hl 0 rfl) ?_
  refine sc_i (wr := []) (wc := mw k0 bI bT bP bR cA cZ cJ N big n lp ft fk fp fr) (As := []) (rest := []) ⟨hx, hb, hml, hown, hts⟩ (kX1_first l dC dI k0 bI bT bP bR cA cZ cJ s.heap.size N big n lp ft fk fp fr hN hfp) (cwV 0 hts gX1_spread_X1_first rfl rfl rfl (by decide +kernel) ⟨Nat.le_of_ble_eq_true rfl, Nat.le_of_ble_eq_true rfl⟩) hK hP hD hS hA (va_recv hK hP (ci := 1) (q0 := 0) rfl rfl) rfl hl.1 rfl (Nat.le_of_ble_eq_true rfl) dX1_spread_1 ⟨Nat.zero_le _, Nat.zero_le _⟩ (fun r _ H locs hw hP hD hS => ?_)
  subst hw
  refine lv_istore_n (lv' := [(1, .int (sf_i (sh_fi ft fp N))), (0, .ref k0)]) hx hb dX1_spread_4 rfl hl (by decide) rfl (fun ls hl => ?_)
  refine lv_lconst (v := lN 0) hx hb dX1_spread_5 (by decide) ?_
  refine lv_lstore_n (lv' := [(2, .long (lN 0)), (1, .int (sf_i (sh_fi ft fp N))), (0, .ref k0)]) hx hb dX1_spread_6 rfl hl (by decide) rfl (fun ls hl => ?_)
  refine lv_iconst (v := nI 0) hx hb dX1_spread_7 (by decide) ?_
  refine lv_istore (lv' := [(4, .int (nI 0)), (2, .long (lN 0)), (1, .int (sf_i (sh_fi ft fp N))), (0, .ref k0)]) hx hb dX1_spread_8 hl (by decide) rfl (fun ls hl => ?_)
  refine sl_loop (fun d (x : Nat) H locs ls => N + 1 ≤ x + d ∧ x ≤ N ∧ va_P (dC, dI) vwCl (mw k0 bI bT bP bR cA cZ cJ N big n lp ft fk fp fr) H ∧ va_D A (mw k0 bI bT bP bR cA cZ cJ N big n lp ft fk fp fr) ∧ va_S A s.heap H locs ∧ lv_has ls 5 [(4, .int (nI x)), (2, .long (lN (sh_mx ft fp x))), (1, .int (sf_i (sh_fi ft fp N))), (0, .ref k0)]) (fun x H locs ls h => by omega) ?_ (N + 1) 0 _ _ _ ⟨by omega, by omega, hP, hD, hS, lv_sub hl [0, 1, 2, 3] rfl⟩
  intro d x H locs ls ih hI
  obtain ⟨h1, h2, hP, hD, hS, hl⟩ := hI
  have hmx := mx_le (t := ft) hfp (by decide) x
  refine lv_iload hx hb dX1_spread_10 (lv_at hl 0 rfl) ?_
  refine lv_aload_n hx hb dX1_spread_12 rfl (lv_at hl 3 rfl) ?_
  refine va_get (D := (dC, dI)) (ci := 1) (v := .int (nI N)) (C := RX1) (T := TX1) (N := 8) hx hb hts wiX1_spread hown hK hP 0 rfl rfl 0 (by decide) (hts (.fieldLink RX1 24 "StrideHeapModel" "cap" "I") (by decide +kernel)) (fun _ h9 => h9) rfl dX1_spread_13 ?_
  refine sr_cmp_ge (tgt := 59) hx hb (by omega) (by omega) dX1_spread_16 (by decide) (fun c1 => ?_) (fun c1 => ?_)
  · skip
    rcases fi_spec ft fp N with ⟨hf, -⟩ | ⟨b, hf, hbN, hbt, -⟩
    · skip
      rw [hf, sf_0] at hl
      refine lv_iload_n hx hb dX1_spread_59 rfl (lv_at hl 2 rfl) ?_
      refine lv_if_ge (tgt := 67) hx hb dX1_spread_60 (by decide) (fun z => absurd z (by decide)) (fun _ => ?_)
      refine lv_iconst (v := (-1)) hx hb dX1_spread_63 (by decide) ?_
      refine lv_goto (tgt := 76) hx hb dX1_spread_64 (by decide) ?_
      exact W.iret (v := (-1)) hx hb hr (fun t ht hW => ⟨⟨(-1), (), rfl, (by unfold sp_spread; rw [hf]), by rw [ht]; exact hP, hD⟩, hS.F ht⟩) hS.2.2 dX1_spread_76
    · skip
      rw [hf, sf_s] at hl
      refine lv_iload_n hx hb dX1_spread_59 rfl (lv_at hl 2 rfl) ?_
      refine sr_if_ge (tgt := 67) hx hb (by omega) dX1_spread_60 (by decide) ?_
      have hub : fp b ≤ sh_mx ft fp x := by rw [show x = N by omega]; exact mx_ub ft fp N b hbN hbt
      refine lv_lload_n hx hb dX1_spread_67 rfl (lv_at hl 1 rfl) ?_
      refine lv_aload_n hx hb dX1_spread_68 rfl (lv_at hl 3 rfl) ?_
      refine va_get (D := (dC, dI)) (ci := 1) (v := .ref bP) (C := RX1) (T := TX1) (N := 8) hx hb hts wiX1_spread hown hK hP 0 rfl rfl 4 (by decide) (hts (.fieldLink RX1 17 "StrideHeapModel" "pass" "[J") (by decide +kernel)) (fun _ h9 => h9) rfl dX1_spread_69 ?_
      refine lv_iload_n hx hb dX1_spread_72 rfl (lv_at hl 2 rfl) ?_
      refine sr_lald hx hb hK hP 3 2 rfl rfl (k := b) (by omega) (by omega) dX1_spread_73 ?_
      refine sr_lsub hx hb (by omega) dX1_spread_74 ?_
      refine lv_l2i hx hb dX1_spread_75 (lN_i _) ?_
      exact W.iret (v := nI ((sh_mx ft fp x) - (fp b))) hx hb hr (fun t ht hW => ⟨⟨nI ((sh_mx ft fp x) - (fp b)), (), rfl, (by unfold sp_spread; rw [hf, show x = N by omega]), by rw [ht]; exact hP, hD⟩, hS.F ht⟩) hS.2.2 dX1_spread_76
  · skip
    refine lv_aload_n hx hb dX1_spread_19 rfl (lv_at hl 3 rfl) ?_
    refine va_get (D := (dC, dI)) (ci := 1) (v := .ref bI) (C := RX1) (T := TX1) (N := 8) hx hb hts wiX1_spread hown hK hP 0 rfl rfl 2 (by decide) (hts (.fieldLink RX1 7 "StrideHeapModel" "in" "[Z") (by decide +kernel)) (fun _ h9 => h9) rfl dX1_spread_20 ?_
    refine lv_iload hx hb dX1_spread_23 (lv_at hl 0 rfl) ?_
    refine sr_zald hx hb hK hP 1 1 rfl rfl (k := x) (by omega) (by omega) dX1_spread_25 ?_
    refine sr_if_eq (tgt := 51) hx hb (in_lt ft x) dX1_spread_26 (by decide) (fun c2 => ?_) (fun c2 => ?_)
    · skip
      refine lv_lload_n hx hb dX1_spread_51 rfl (lv_at hl 1 rfl) ?_
      refine lv_lstore_n (lv' := [(2, .long (lN (sh_mx ft fp x))), (4, .int (nI x)), (1, .int (sf_i (sh_fi ft fp N))), (0, .ref k0)]) hx hb dX1_spread_52 rfl hl (by decide) rfl (fun ls hl => ?_)
      refine lv_iinc (v := nI (x + 1)) (lv' := [(4, .int (nI (x + 1))), (2, .long (lN (sh_mx ft fp x))), (1, .int (sf_i (sh_fi ft fp N))), (0, .ref k0)]) hx hb dX1_spread_53 hl (k := 1) rfl (nI_1 _) (by decide) rfl (fun ls hl => ?_)
      refine lv_goto (tgt := 10) hx hb dX1_spread_56 (by decide) ?_
      exact ih (x + 1) _ _ _ ⟨by omega, by omega, hP, hD, hS, by rw [mx_s0 (in_0.mp c2)]; exact lv_sub hl [0, 1, 2, 3] rfl⟩
    · skip
      have hpx := hfp x
      refine lv_aload_n hx hb dX1_spread_29 rfl (lv_at hl 3 rfl) ?_
      refine va_get (D := (dC, dI)) (ci := 1) (v := .ref bP) (C := RX1) (T := TX1) (N := 8) hx hb hts wiX1_spread hown hK hP 0 rfl rfl 4 (by decide) (hts (.fieldLink RX1 17 "StrideHeapModel" "pass" "[J") (by decide +kernel)) (fun _ h9 => h9) rfl dX1_spread_30 ?_
      refine lv_iload hx hb dX1_spread_33 (lv_at hl 0 rfl) ?_
      refine sr_lald hx hb hK hP 3 2 rfl rfl (k := x) (by omega) (by omega) dX1_spread_35 ?_
      refine lv_lload_n hx hb dX1_spread_36 rfl (lv_at hl 1 rfl) ?_
      refine sr_lle (tgt := 51) hx hb (by omega) (by omega) dX1_spread_37 dX1_spread_38 (by decide) (fun c3 => ?_) (fun c3 => ?_)
      · skip
        refine lv_lload_n hx hb dX1_spread_51 rfl (lv_at hl 1 rfl) ?_
        refine lv_lstore_n (lv' := [(2, .long (lN (sh_mx ft fp x))), (4, .int (nI x)), (1, .int (sf_i (sh_fi ft fp N))), (0, .ref k0)]) hx hb dX1_spread_52 rfl hl (by decide) rfl (fun ls hl => ?_)
        refine lv_iinc (v := nI (x + 1)) (lv' := [(4, .int (nI (x + 1))), (2, .long (lN (sh_mx ft fp x))), (1, .int (sf_i (sh_fi ft fp N))), (0, .ref k0)]) hx hb dX1_spread_53 hl (k := 1) rfl (nI_1 _) (by decide) rfl (fun ls hl => ?_)
        refine lv_goto (tgt := 10) hx hb dX1_spread_56 (by decide) ?_
        exact ih (x + 1) _ _ _ ⟨by omega, by omega, hP, hD, hS, by rw [mx_s1 c3]; exact lv_sub hl [0, 1, 2, 3] rfl⟩
      · skip
        refine lv_aload_n hx hb dX1_spread_41 rfl (lv_at hl 3 rfl) ?_
        refine va_get (D := (dC, dI)) (ci := 1) (v := .ref bP) (C := RX1) (T := TX1) (N := 8) hx hb hts wiX1_spread hown hK hP 0 rfl rfl 4 (by decide) (hts (.fieldLink RX1 17 "StrideHeapModel" "pass" "[J") (by decide +kernel)) (fun _ h9 => h9) rfl dX1_spread_42 ?_
        refine lv_iload hx hb dX1_spread_45 (lv_at hl 0 rfl) ?_
        refine sr_lald hx hb hK hP 3 2 rfl rfl (k := x) (by omega) (by omega) dX1_spread_47 ?_
        refine lv_goto (tgt := 52) hx hb dX1_spread_48 (by decide) ?_
        refine lv_lstore_n (lv' := [(2, .long (lN (fp x))), (4, .int (nI x)), (1, .int (sf_i (sh_fi ft fp N))), (0, .ref k0)]) hx hb dX1_spread_52 rfl hl (by decide) rfl (fun ls hl => ?_)
        refine lv_iinc (v := nI (x + 1)) (lv' := [(4, .int (nI (x + 1))), (2, .long (lN (fp x))), (1, .int (sf_i (sh_fi ft fp N))), (0, .ref k0)]) hx hb dX1_spread_53 hl (k := 1) rfl (nI_1 _) (by decide) rfl (fun ls hl => ?_)
        refine lv_goto (tgt := 10) hx hb dX1_spread_56 (by decide) ?_
        exact ih (x + 1) _ _ _ ⟨by omega, by omega, hP, hD, hS, by rw [mx_s2 (in_p.mp c2) c3]; exact lv_sub hl [0, 1, 2, 3] rfl⟩
set_option maxHeartbeats 4000000 in
set_option maxRecDepth 100000 in
/-- order(x) -/
theorem kX1_order (l : Launch) (dC : Nat → ClassId) (dI : Nat → Nat → Nat) (k0 bI bT bP bR : Nat) (cA cZ cJ : ClassId) (sz N big n lp : Nat) (ft fk fp fr : Nat → Nat) (hM : sh_M N big n lp ft fk fp) (hex : ∀ k, k < n → ∃ c, c < N ∧ 0 < ft c ∧ sh_rk ft fp c N = k) (x : Int32) : Met l yX1_order wsX1_order ({ frames := 1, cells := 0, slots := 0, locals := 22 }) (va_Pc [.ref k0, .int x] (sB dC dI (ty3 cA cZ cJ) sz (mw k0 bI bT bP bR cA cZ cJ N big n lp ft fk fp fr))) (va_Qi (fun (r : Int32) (_ : Unit) => (sh_ix n x = none ∧ r = (-1)) ∨ ∃ k c, k < n ∧ x = nI k ∧ c < N ∧ 0 < ft c ∧ sh_rk ft fp c N = k ∧ r = nI c) (fun _ => sE dC dI (va_A (mw k0 bI bT bP bR cA cZ cJ N big n lp ft fk fp fr) sz) (mw k0 bI bT bP bR cA cZ cJ N big n lp ft fk fp fr)) (va_A (mw k0 bI bT bP bR cA cZ cJ N big n lp ft fk fp fr) sz)) 0 0 (va_A (mw k0 bI bT bP bR cA cZ cJ N big n lp ft fk fp fr) sz) := by
  refine Met.ofW (cc := cX1_order) (maxL := 5) (ret := (some .int)) (by decide) rfl ?_
  intro p e s m args below meth c s₁ B hml hv
  obtain ⟨rfl, hsz, hP, hK, hD0⟩ := hv
  have hx := B.exec
  have hb := B.bytes
  have hr := B.returns
  have hts := atoms_spec (ws := wsX1_order) B.pre
  have hown : s.vm.findClass RX1 = some m.cls := findClass_of_methodNamed B.named
  have hlocks := B.notSynchronized
  subst hsz
  have hD := hD0.self (sz := s.heap.size)
  generalize hAe : va_A (mw k0 bI bT bP bR cA cZ cJ N big n lp ft fk fp fr) s.heap.size = A at hD ⊢
  have hA : ∀ q : Nat, s.heap.size ≤ q → A q := fun q h => by rw [← hAe]; exact Or.inr h
  have hS : va_S A s.heap s.heap [] := va_S.rf
  have hl := lv_entry ([.ref k0, .int x]) (n := 5) (Nat.le_of_ble_eq_true rfl)
  rw [lg_entry_eq]
  generalize (lg_sl ([.ref k0, .int x]) ++ List.replicate (5 - (lg_sl ([.ref k0, .int x])).length) Slot.unset).toArray = ls at hl ⊢
  have hl : lv_has ls 5 [(0, .ref k0), (1, .int x)] := hl
  obtain ⟨hN0, hN, hb2, hbig, hlp, hfp, hft, hfk, hnc⟩ := id hM
  have hnN : n ≤ N := by rw [hnc]; exact cnt_le ft N
  refine lv_iload_n hx hb dX1_order_0 rfl (lv_at hl 1 rfl) ?_
  refine lv_if_lt (tgt := 12) hx hb dX1_order_1 (by decide) (fun c1 => ?_) (fun c1 => ?_)
  · skip
    refine lv_iconst (v := (-1)) hx hb dX1_order_12 (by decide) ?_
    exact W.iret (v := (-1)) hx hb hr (fun t ht hW => ⟨⟨(-1), (), rfl, Or.inl ⟨ix_lo c1, rfl⟩, by rw [ht]; exact hP, hD⟩, hS.F ht⟩) hS.2.2 dX1_order_13
  · skip
    refine lv_iload_n hx hb dX1_order_4 rfl (lv_at hl 1 rfl) ?_
    refine lv_aload_n hx hb dX1_order_5 rfl (lv_at hl 0 rfl) ?_
    refine va_get (D := (dC, dI)) (ci := 1) (v := .int (nI n)) (C := RX1) (T := TX1) (N := 8) hx hb hts wiX1_order hown hK hP 0 rfl rfl 6 (by decide) (hts (.fieldLink RX1 50 "StrideHeapModel" "many" "I") (by decide +kernel)) (fun _ h9 => h9) rfl dX1_order_6 ?_
    refine lv_icmp_lt (tgt := 14) hx hb dX1_order_9 (by decide) (fun c2 => ?_) (fun c2 => ?_)
    · skip
      obtain ⟨k, hk, rfl⟩ := ix_yes c1 (fun z => Int32.not_lt.mpr z c2) (by omega)
      refine lv_iconst (v := nI 0) hx hb dX1_order_14 (by decide) ?_
      refine lv_istore_n (lv' := [(2, .int (nI 0)), (0, .ref k0), (1, .int (nI k))]) hx hb dX1_order_15 rfl hl (by decide) rfl (fun ls hl => ?_)
      refine sl_loop (fun d (x : Nat) H locs ls => N + 1 ≤ x + d ∧ x ≤ N ∧ (∀ c, c < x → 0 < ft c → sh_rk ft fp c N ≠ k) ∧ va_P (dC, dI) vwCl (mw k0 bI bT bP bR cA cZ cJ N big n lp ft fk fp fr) H ∧ va_D A (mw k0 bI bT bP bR cA cZ cJ N big n lp ft fk fp fr) ∧ va_S A s.heap H locs ∧ lv_has ls 5 [(2, .int (nI x)), (0, .ref k0), (1, .int (nI k))]) (fun x H locs ls h => by omega) ?_ (N + 1) 0 _ _ _ ⟨by omega, by omega, fun c h => absurd h (Nat.not_lt_zero _), hP, hD, hS, lv_sub hl [0, 1, 2] rfl⟩
      intro d x H locs ls ih hI
      obtain ⟨h1, h2, h3, hP, hD, hS, hl⟩ := hI
      refine lv_iload_n hx hb dX1_order_16 rfl (lv_at hl 0 rfl) ?_
      refine lv_aload_n hx hb dX1_order_17 rfl (lv_at hl 1 rfl) ?_
      refine va_get (D := (dC, dI)) (ci := 1) (v := .int (nI N)) (C := RX1) (T := TX1) (N := 8) hx hb hts wiX1_order hown hK hP 0 rfl rfl 0 (by decide) (hts (.fieldLink RX1 24 "StrideHeapModel" "cap" "I") (by decide +kernel)) (fun _ h9 => h9) rfl dX1_order_18 ?_
      refine sr_cmp_ge (tgt := 109) hx hb (by omega) (by omega) dX1_order_21 (by decide) (fun c3 => ?_) (fun c3 => ?_)
      · skip
        obtain ⟨z, hz1, hz2, hz3⟩ := hex k hk
        exact absurd hz3 (h3 z (by omega) hz2)
      · skip
        refine lv_iconst (v := nI 0) hx hb dX1_order_24 (by decide) ?_
        refine lv_istore_n (lv' := [(3, .int (nI 0)), (2, .int (nI x)), (0, .ref k0), (1, .int (nI k))]) hx hb dX1_order_25 rfl hl (by decide) rfl (fun ls hl => ?_)
        refine lv_iconst (v := nI 0) hx hb dX1_order_26 (by decide) ?_
        refine lv_istore (lv' := [(4, .int (nI 0)), (3, .int (nI 0)), (2, .int (nI x)), (0, .ref k0), (1, .int (nI k))]) hx hb dX1_order_27 hl (by decide) rfl (fun ls hl => ?_)
        refine sl_loop (fun d (y : Nat) H locs ls => N + 1 ≤ y + d ∧ y ≤ N ∧ va_P (dC, dI) vwCl (mw k0 bI bT bP bR cA cZ cJ N big n lp ft fk fp fr) H ∧ va_D A (mw k0 bI bT bP bR cA cZ cJ N big n lp ft fk fp fr) ∧ va_S A s.heap H locs ∧ lv_has ls 5 [(4, .int (nI y)), (3, .int (nI (sh_rk ft fp x y))), (2, .int (nI x)), (0, .ref k0), (1, .int (nI k))]) (fun y H locs ls h => by omega) ?_ (N + 1) 0 _ _ _ ⟨by omega, by omega, hP, hD, hS, lv_sub hl [0, 1, 2, 3, 4] rfl⟩
        intro d2 y H locs ls ih2 hI2
        obtain ⟨g1, g2, hP, hD, hS, hl⟩ := hI2
        have hrk := rk_le ft fp x y
        refine lv_iload hx hb dX1_order_29 (lv_at hl 0 rfl) ?_
        refine lv_aload_n hx hb dX1_order_31 rfl (lv_at hl 3 rfl) ?_
        refine va_get (D := (dC, dI)) (ci := 1) (v := .int (nI N)) (C := RX1) (T := TX1) (N := 8) hx hb hts wiX1_order hown hK hP 0 rfl rfl 0 (by decide) (hts (.fieldLink RX1 24 "StrideHeapModel" "cap" "I") (by decide +kernel)) (fun _ h9 => h9) rfl dX1_order_32 ?_
        refine sr_cmp_ge (tgt := 87) hx hb (by omega) (by omega) dX1_order_35 (by decide) (fun c4 => ?_) (fun c4 => ?_)
        · skip
          refine lv_aload_n hx hb dX1_order_87 rfl (lv_at hl 3 rfl) ?_
          refine va_get (D := (dC, dI)) (ci := 1) (v := .ref bI) (C := RX1) (T := TX1) (N := 8) hx hb hts wiX1_order hown hK hP 0 rfl rfl 2 (by decide) (hts (.fieldLink RX1 7 "StrideHeapModel" "in" "[Z") (by decide +kernel)) (fun _ h9 => h9) rfl dX1_order_88 ?_
          refine lv_iload_n hx hb dX1_order_91 rfl (lv_at hl 2 rfl) ?_
          refine sr_zald hx hb hK hP 1 1 rfl rfl (k := x) (by omega) (by omega) dX1_order_92 ?_
          refine sr_if_eq (tgt := 103) hx hb (in_lt ft x) dX1_order_93 (by decide) (fun c5 => ?_) (fun c5 => ?_)
          · skip
            refine lv_iinc (v := nI (x + 1)) (lv' := [(2, .int (nI (x + 1))), (4, .int (nI y)), (3, .int (nI (sh_rk ft fp x y))), (0, .ref k0), (1, .int (nI k))]) hx hb dX1_order_103 hl (k := 2) rfl (nI_1 _) (by decide) rfl (fun ls hl => ?_)
            refine lv_goto (tgt := 16) hx hb dX1_order_106 (by decide) ?_
            exact ih (x + 1) _ _ _ ⟨by omega, by omega, fun z hz hz2 => by
              rcases Nat.lt_or_ge z x with q | q
              · exact h3 z q hz2
              · have hzx : z = x := by omega
                subst hzx
                exact absurd (in_0.mp c5) (by omega), hP, hD, hS, lv_sub hl [0, 3, 4] rfl⟩
          · skip
            refine lv_iload_n hx hb dX1_order_96 rfl (lv_at hl 1 rfl) ?_
            refine lv_iload_n hx hb dX1_order_97 rfl (lv_at hl 4 rfl) ?_
            refine sr_cmp_ne (tgt := 103) hx hb (by omega) (by omega) dX1_order_98 (by decide) (fun c6 => ?_) (fun c6 => ?_)
            · skip
              refine lv_iinc (v := nI (x + 1)) (lv' := [(2, .int (nI (x + 1))), (4, .int (nI y)), (3, .int (nI (sh_rk ft fp x y))), (0, .ref k0), (1, .int (nI k))]) hx hb dX1_order_103 hl (k := 2) rfl (nI_1 _) (by decide) rfl (fun ls hl => ?_)
              refine lv_goto (tgt := 16) hx hb dX1_order_106 (by decide) ?_
              exact ih (x + 1) _ _ _ ⟨by omega, by omega, fun z hz hz2 => by
                rcases Nat.lt_or_ge z x with q | q
                · exact h3 z q hz2
                · have hzx : z = x := by omega
                  subst hzx
                  rw [← show y = N by omega]; exact c6, hP, hD, hS, lv_sub hl [0, 3, 4] rfl⟩
            · skip
              refine lv_iload_n hx hb dX1_order_101 rfl (lv_at hl 2 rfl) ?_
              exact W.iret (v := nI x) hx hb hr (fun t ht hW => ⟨⟨nI x, (), rfl, Or.inr ⟨k, x, hk, rfl, c3, in_p.mp c5, by rw [← show y = N by omega]; exact c6, rfl⟩, by rw [ht]; exact hP, hD⟩, hS.F ht⟩) hS.2.2 dX1_order_102
        · skip
          refine lv_aload_n hx hb dX1_order_38 rfl (lv_at hl 3 rfl) ?_
          refine va_get (D := (dC, dI)) (ci := 1) (v := .ref bI) (C := RX1) (T := TX1) (N := 8) hx hb hts wiX1_order hown hK hP 0 rfl rfl 2 (by decide) (hts (.fieldLink RX1 7 "StrideHeapModel" "in" "[Z") (by decide +kernel)) (fun _ h9 => h9) rfl dX1_order_39 ?_
          refine lv_iload_n hx hb dX1_order_42 rfl (lv_at hl 2 rfl) ?_
          refine sr_zald hx hb hK hP 1 1 rfl rfl (k := x) (by omega) (by omega) dX1_order_43 ?_
          refine sr_if_eq (tgt := 79) hx hb (in_lt ft x) dX1_order_44 (by decide) (fun c5 => ?_) (fun c5 => ?_)
          · skip
            refine lv_iload_n hx hb dX1_order_79 rfl (lv_at hl 1 rfl) ?_
            refine lv_istore_n (lv' := [(3, .int (nI (sh_rk ft fp x y))), (4, .int (nI y)), (2, .int (nI x)), (0, .ref k0), (1, .int (nI k))]) hx hb dX1_order_80 rfl hl (by decide) rfl (fun ls hl => ?_)
            refine lv_iinc (v := nI (y + 1)) (lv' := [(4, .int (nI (y + 1))), (3, .int (nI (sh_rk ft fp x y))), (2, .int (nI x)), (0, .ref k0), (1, .int (nI k))]) hx hb dX1_order_81 hl (k := 1) rfl (nI_1 _) (by decide) rfl (fun ls hl => ?_)
            refine lv_goto (tgt := 29) hx hb dX1_order_84 (by decide) ?_
            exact ih2 (y + 1) _ _ _ ⟨by omega, by omega, hP, hD, hS, by rw [rk_s0 (fun z => absurd (in_0.mp c5) (by omega))]; exact lv_sub hl [0, 1, 2, 3, 4] rfl⟩
          · skip
            refine lv_aload_n hx hb dX1_order_47 rfl (lv_at hl 3 rfl) ?_
            refine va_get (D := (dC, dI)) (ci := 1) (v := .ref bI) (C := RX1) (T := TX1) (N := 8) hx hb hts wiX1_order hown hK hP 0 rfl rfl 2 (by decide) (hts (.fieldLink RX1 7 "StrideHeapModel" "in" "[Z") (by decide +kernel)) (fun _ h9 => h9) rfl dX1_order_48 ?_
            refine lv_iload hx hb dX1_order_51 (lv_at hl 0 rfl) ?_
            refine sr_zald hx hb hK hP 1 1 rfl rfl (k := y) (by omega) (by omega) dX1_order_53 ?_
            refine sr_if_eq (tgt := 79) hx hb (in_lt ft y) dX1_order_54 (by decide) (fun c6 => ?_) (fun c6 => ?_)
            · skip
              refine lv_iload_n hx hb dX1_order_79 rfl (lv_at hl 1 rfl) ?_
              refine lv_istore_n (lv' := [(3, .int (nI (sh_rk ft fp x y))), (4, .int (nI y)), (2, .int (nI x)), (0, .ref k0), (1, .int (nI k))]) hx hb dX1_order_80 rfl hl (by decide) rfl (fun ls hl => ?_)
              refine lv_iinc (v := nI (y + 1)) (lv' := [(4, .int (nI (y + 1))), (3, .int (nI (sh_rk ft fp x y))), (2, .int (nI x)), (0, .ref k0), (1, .int (nI k))]) hx hb dX1_order_81 hl (k := 1) rfl (nI_1 _) (by decide) rfl (fun ls hl => ?_)
              refine lv_goto (tgt := 29) hx hb dX1_order_84 (by decide) ?_
              exact ih2 (y + 1) _ _ _ ⟨by omega, by omega, hP, hD, hS, by rw [rk_s0 (fun z => absurd (in_0.mp c6) (by omega))]; exact lv_sub hl [0, 1, 2, 3, 4] rfl⟩
            · skip
              refine lv_iload hx hb dX1_order_57 (lv_at hl 0 rfl) ?_
              refine lv_iload_n hx hb dX1_order_59 rfl (lv_at hl 2 rfl) ?_
              refine sr_cmp_eq (tgt := 79) hx hb (by omega) (by omega) dX1_order_60 (by decide) (fun c7 => ?_) (fun c7 => ?_)
              · skip
                refine lv_iload_n hx hb dX1_order_79 rfl (lv_at hl 1 rfl) ?_
                refine lv_istore_n (lv' := [(3, .int (nI (sh_rk ft fp x y))), (4, .int (nI y)), (2, .int (nI x)), (0, .ref k0), (1, .int (nI k))]) hx hb dX1_order_80 rfl hl (by decide) rfl (fun ls hl => ?_)
                refine lv_iinc (v := nI (y + 1)) (lv' := [(4, .int (nI (y + 1))), (3, .int (nI (sh_rk ft fp x y))), (2, .int (nI x)), (0, .ref k0), (1, .int (nI k))]) hx hb dX1_order_81 hl (k := 1) rfl (nI_1 _) (by decide) rfl (fun ls hl => ?_)
                refine lv_goto (tgt := 29) hx hb dX1_order_84 (by decide) ?_
                exact ih2 (y + 1) _ _ _ ⟨by omega, by omega, hP, hD, hS, by rw [rk_s0 (fun z => z.2.2.1 c7)]; exact lv_sub hl [0, 1, 2, 3, 4] rfl⟩
              · skip
                refine lv_aload_n hx hb dX1_order_63 rfl (lv_at hl 3 rfl) ?_
                refine lv_iload hx hb dX1_order_64 (lv_at hl 0 rfl) ?_
                refine lv_iload_n hx hb dX1_order_66 rfl (lv_at hl 2 rfl) ?_
                refine sc_i (wr := []) (wc := mw k0 bI bT bP bR cA cZ cJ N big n lp ft fk fp fr) (As := [.int (nI y), .int (nI x)]) (rest := []) ⟨hx, hb, hml, hown, hts⟩ (kX1_isBefore l dC dI k0 bI bT bP bR cA cZ cJ H.size N big n lp ft fk fp fr hN hfp y x c4 c3) (cwV 2 hts gX1_order_X1_isBefore rfl rfl rfl (by decide +kernel) ⟨Nat.le_of_ble_eq_true rfl, Nat.le_of_ble_eq_true rfl⟩) hK hP hD hS hA (va_recv hK hP (ci := 1) (q0 := 0) rfl rfl) rfl hl.1 rfl (Nat.le_of_ble_eq_true rfl) dX1_order_67 ⟨Nat.zero_le _, Nat.zero_le _⟩ (fun r _ H locs hw hP hD hS => ?_)
                rcases hw with ⟨hbf, rfl⟩ | ⟨hbf, rfl⟩
                · skip
                  refine sr_if_eq (tgt := 79) hx hb (by decide) dX1_order_70 (by decide) (fun q => absurd q (by decide)) (fun _ => ?_)
                  refine lv_iload_n hx hb dX1_order_73 rfl (lv_at hl 1 rfl) ?_
                  refine lv_iconst (v := nI 1) hx hb dX1_order_74 (by decide) ?_
                  refine sr_iadd hx hb dX1_order_75 ?_
                  refine lv_goto (tgt := 80) hx hb dX1_order_76 (by decide) ?_
                  refine lv_istore_n (lv' := [(3, .int (nI ((sh_rk ft fp x y) + 1))), (4, .int (nI y)), (2, .int (nI x)), (0, .ref k0), (1, .int (nI k))]) hx hb dX1_order_80 rfl hl (by decide) rfl (fun ls hl => ?_)
                  refine lv_iinc (v := nI (y + 1)) (lv' := [(4, .int (nI (y + 1))), (3, .int (nI ((sh_rk ft fp x y) + 1))), (2, .int (nI x)), (0, .ref k0), (1, .int (nI k))]) hx hb dX1_order_81 hl (k := 1) rfl (nI_1 _) (by decide) rfl (fun ls hl => ?_)
                  refine lv_goto (tgt := 29) hx hb dX1_order_84 (by decide) ?_
                  exact ih2 (y + 1) _ _ _ ⟨by omega, by omega, hP, hD, hS, by rw [rk_s1 ⟨in_p.mp c5, in_p.mp c6, c7, hbf⟩]; exact lv_sub hl [0, 1, 2, 3, 4] rfl⟩
                · skip
                  refine sr_if_eq (tgt := 79) hx hb (by decide) dX1_order_70 (by decide) (fun _ => ?_) (fun q => absurd q (by decide))
                  refine lv_iload_n hx hb dX1_order_79 rfl (lv_at hl 1 rfl) ?_
                  refine lv_istore_n (lv' := [(3, .int (nI (sh_rk ft fp x y))), (4, .int (nI y)), (2, .int (nI x)), (0, .ref k0), (1, .int (nI k))]) hx hb dX1_order_80 rfl hl (by decide) rfl (fun ls hl => ?_)
                  refine lv_iinc (v := nI (y + 1)) (lv' := [(4, .int (nI (y + 1))), (3, .int (nI (sh_rk ft fp x y))), (2, .int (nI x)), (0, .ref k0), (1, .int (nI k))]) hx hb dX1_order_81 hl (k := 1) rfl (nI_1 _) (by decide) rfl (fun ls hl => ?_)
                  refine lv_goto (tgt := 29) hx hb dX1_order_84 (by decide) ?_
                  exact ih2 (y + 1) _ _ _ ⟨by omega, by omega, hP, hD, hS, by rw [rk_s0 (fun z => hbf z.2.2.2)]; exact lv_sub hl [0, 1, 2, 3, 4] rfl⟩
    · skip
      refine lv_iconst (v := (-1)) hx hb dX1_order_12 (by decide) ?_
      exact W.iret (v := (-1)) hx hb hr (fun t ht hW => ⟨⟨(-1), (), rfl, Or.inl ⟨ix_hi (Int32.not_lt.mp c2), rfl⟩, by rw [ht]; exact hP, hD⟩, hS.F ht⟩) hS.2.2 dX1_order_13
end
section
-- floorMod, static calls, new arrays
def sh_fm (x : Int32) (d : Nat) : Nat := (x.toInt % (d : Int)).toNat
theorem fm_lt (x : Int32) {d : Nat} (h0 : 0 < d) : sh_fm x d < d := by
  have h1 := Int.emod_nonneg x.toInt (b := (d : Int)) (by omega)
  have h2 := Int.emod_lt_of_pos x.toInt (b := (d : Int)) (by omega)
  unfold sh_fm
  omega
theorem fm_facts (x : Int32) {d : Nat} (h0 : 0 < d) (hd : d < 2 ^ 31) : (¬ x < 0 → ¬ (x - x / nI d * nI d) < 0) ∧ (x < 0 → ¬ (x - x / nI d * nI d) = 0 → (x - x / nI d * nI d) < 0) ∧ (¬ (x - x / nI d * nI d) < 0 → (x - x / nI d * nI d) = nI (sh_fm x d)) ∧ ((x - x / nI d * nI d) < 0 → (x - x / nI d * nI d) + nI d = nI (sh_fm x d)) := by
  have hq : (x - x / nI d * nI d).toInt = x.toInt.tmod d := by rw [rem_toInt, nI_toInt hd]
  have hb := tmod_bounds (a := x.toInt) (M := (d : Int)) (by omega)
  have hdef := Int.tmod_def x.toInt d
  have he : x.toInt % (d : Int) = x.toInt.tmod d % (d : Int) := by
    rw [hdef, Int.sub_mul_emod_self_left]
  have hfl := fm_lt x h0
  have hfi : ((sh_fm x d : Nat) : Int) = x.toInt % (d : Int) := by
    have h1 := Int.emod_nonneg x.toInt (b := (d : Int)) (by omega)
    unfold sh_fm
    omega
  have z0 : (0 : Int32).toInt = 0 := by decide
  refine ⟨fun h => ?_, fun h hn => ?_, fun h => ?_, fun h => ?_⟩
  · rw [Int32.lt_iff_toInt_lt, z0] at h ⊢
    rw [hq]
    have := Int.tmod_nonneg (d : Int) (a := x.toInt) (by omega)
    omega
  · rw [Int32.lt_iff_toInt_lt, z0] at h ⊢
    have hn2 : ¬ (x - x / nI d * nI d).toInt = 0 := fun z => hn (Int32.toInt_inj.mp (by rw [z, z0]))
    rw [hq] at hn2 ⊢
    have h1 : x.toInt.tmod d = -((-x.toInt).tmod d) := by rw [Int.neg_tmod, Int.neg_neg]
    have := Int.tmod_nonneg (d : Int) (a := -x.toInt) (by omega)
    omega
  · rw [Int32.lt_iff_toInt_lt, z0, hq] at h
    apply Int32.toInt_inj.mp
    rw [hq, nI_toInt (by omega), hfi, he, Int.emod_eq_of_lt (by omega) hb.2]
  · rw [Int32.lt_iff_toInt_lt, z0, hq] at h
    apply Int32.toInt_inj.mp
    rw [Int32.toInt_add, hq, nI_toInt hd, nI_toInt (by omega), hfi, he, ← Int.add_emod_right, Int.emod_eq_of_lt (by omega) (by omega)]
    exact Int.bmod_eq_of_le (by omega) (by omega)
theorem xor_sg (x : Int32) {d : Nat} (hd : d < 2 ^ 31) : (0 ≤ x ^^^ nI d) ↔ ¬ x < 0 := by
  have z0 : (0 : Int32).toInt = 0 := by decide
  rw [Int32.le_iff_toInt_le, Int32.lt_iff_toInt_lt, z0]
  have h1 : (x ^^^ nI d).toBitVec.msb = (x.toBitVec.msb ^^ (nI d).toBitVec.msb) := by
    rw [Int32.toBitVec_xor, BitVec.msb_xor]
  rw [BitVec.msb_eq_toInt, BitVec.msb_eq_toInt, BitVec.msb_eq_toInt] at h1
  have h2 := nI_toInt hd
  have e1 : (x ^^^ nI d).toBitVec.toInt = (x ^^^ nI d).toInt := rfl
  have e2 : x.toBitVec.toInt = x.toInt := rfl
  have e3 : (nI d).toBitVec.toInt = (nI d).toInt := rfl
  rw [e1, e2, e3, h2] at h1
  have h4 : decide ((d : Int) < 0) = false := decide_eq_false (by omega)
  rw [h4, Bool.xor_false] at h1
  have := decide_eq_decide.mp h1
  omega
theorem fm_and (x : Int32) : x &&& nI 63 = nI (sh_fm x 64) := by
  rw [pk_and x 6 (by decide)]
  congr 1
  unfold sh_fm
  have e : x.toInt = x.toBitVec.toInt := rfl
  rw [e, BitVec.toInt_eq_toNat_cond]
  split <;> omega
section SS
variable {p : Program} {l : Launch} {e : Env} {R : Room} {s : State} {m : MethodId} {args : Array Value} {below : List Frame} {meth : Method} {c : Code} {H : Heap} {locs : List Loc} {cells slots : Nat} {Q : State → Prop}
variable {cc : ByteArray} {pc nL n index maxL : Nat} {ls : Array Slot} {rest As st0 : List Value} {A : Nat → Prop} {b : Nat} {tys : List (ClassId × FieldType)} {ws : va_W} {H0 : Heap} {dC : Nat → ClassId} {dI : Nat → Nat → Nat} {Ts wy : List Cond} {own C : String} {y : MethodName} {bytes : ByteArray} {ret : Option FieldType} {rm : Room}
/-- a static method that answers an int and changes nothing -/
theorem sc_s {post : Int32 → Unit → Prop} {B : State → Prop} (F : CallFix p m c cc nL s args Ts own) (hM : Met l y wy rm (va_Pc As B) (va_Qi post (fun _ _ => True) (va_A [] H.size)) 0 0 (va_A [] H.size)) (cw : CallB R s args own index y bytes maxL ret wy rm 0 0 n ∧ (Cond.static y).before args s = true) (hp : PreS s H (va_Pc As B) As)
    (hP : va_P (dC, dI) vwCl ws H) (hD : va_D A ws) (hS : va_S A H0 H locs) (hA : ∀ q, H0.size ≤ q → A q) (hn : As.length = n) (hsize : ls.size = nL) (hst : st0 = As.reverse ++ rest) (hW : (rest.map fun v => v.category).sum ≤ 8) (hdg : decode cc pc = .ok (.invokestatic index, 3)) (hcs : cells ≤ R.cells ∧ slots ≤ R.slots)
    (kk : ∀ (r : Int32) (H1 : Heap) (locs1 : List Loc), post r () → va_P (dC, dI) vwCl ws H1 → va_D A ws → va_S A H0 H1 locs1 → W p l e R s m args below meth c H1 locs1 cells slots Q (F0 m (pc + 3) ls (.int r :: rest))) : W p l e R s m args below meth c H locs cells slots Q (F0 m pc ls st0) := by
  have hP' : va_P (dC, dI) vwCl (ws ++ []) H := by rw [List.append_nil]; exact hP
  have hD' : va_D A (ws ++ []) := by rw [List.append_nil]; exact hD
  have hF := sj_free hD' hS hA
  refine va_calli (va_runS (As := As) (rest := rest) F hM cw hp rfl hn hsize hst (lv_room hW) hdg hcs) hS (fun q _ h => hF q h) hF (fun r u t H1 locs1 ht hvm hw hB hz1 hk1 hS1 => ?_)
  obtain ⟨hP2, hD2⟩ := sj_join (w1 := []) hP' hD' hk1 hF (fun k q h => by simp at h) ⟨fun i j p q h => by simp at h, fun k q h => by simp at h⟩
  rw [List.append_nil] at hP2 hD2
  exact kk r H1 locs1 hw hP2 hD2 hS1
theorem sr_newI {D : va_G} {cl : List vw_C} (hx : p.tables.exec = Jvm.exec) (hb : c.code = cc) (harr : (Cond.arrayClass .int).before args s = true) (hK : va_K D cl tys s) (hP : va_P D cl ws H) (hD : va_D A ws) (hS : va_S A H0 H locs) (hA : ∀ q, H0.size ≤ q → A q) {n : Nat} (hn : n ≤ 64) (hcells : cells + 1 ≤ R.cells) (hslots : slots + n ≤ R.slots) (hdg : decode cc pc = .ok (.newarray .int, 2))
    (kk : ∀ (q : Nat) (cA : ClassId) (H1 : Heap), va_K D cl (tys ++ [(cA, .int)]) s → va_P D cl (ws ++ [(q, .inl (cA, n, .inl (sh_a (fun _ => 0))))]) H1 → va_D A (ws ++ [(q, .inl (cA, n, .inl (sh_a (fun _ => 0))))]) → va_S A H0 H1 locs → W p l e R s m args below meth c H1 locs (cells + 1) (slots + n) Q (F0 m (pc + 2) ls (.ref q :: rest))) : W p l e R s m args below meth c H locs cells slots Q (F0 m pc ls (.int (nI n) :: rest)) :=
  va_newa hx hb (atype := .int) harr rfl hK hP hD hS hA (a0 := (n, .inl (sh_a (fun _ => 0)))) (fun _ => rfl) (nI_pos (by omega)) (nI_clamp (by omega)) (by show n * 4 ≤ 536870912; omega) hcells hslots hdg kk
theorem sr_newZ {D : va_G} {cl : List vw_C} (hx : p.tables.exec = Jvm.exec) (hb : c.code = cc) (harr : (Cond.arrayClass .boolean).before args s = true) (hK : va_K D cl tys s) (hP : va_P D cl ws H) (hD : va_D A ws) (hS : va_S A H0 H locs) (hA : ∀ q, H0.size ≤ q → A q) {n : Nat} (hn : n ≤ 64) (hcells : cells + 1 ≤ R.cells) (hslots : slots + n ≤ R.slots) (hdg : decode cc pc = .ok (.newarray .boolean, 2))
    (kk : ∀ (q : Nat) (cA : ClassId) (H1 : Heap), va_K D cl (tys ++ [(cA, .boolean)]) s → va_P D cl (ws ++ [(q, .inl (cA, n, .inl (sh_a (sh_in (fun _ => 0)))))]) H1 → va_D A (ws ++ [(q, .inl (cA, n, .inl (sh_a (sh_in (fun _ => 0)))))]) → va_S A H0 H1 locs → W p l e R s m args below meth c H1 locs (cells + 1) (slots + n) Q (F0 m (pc + 2) ls (.ref q :: rest))) : W p l e R s m args below meth c H locs cells slots Q (F0 m pc ls (.int (nI n) :: rest)) :=
  va_newa hx hb (atype := .boolean) harr rfl hK hP hD hS hA (a0 := (n, .inl (sh_a (sh_in (fun _ => 0))))) (fun _ => rfl) (nI_pos (by omega)) (nI_clamp (by omega)) (by show n * 1 ≤ 536870912; omega) hcells hslots hdg kk
theorem sr_newJ {D : va_G} {cl : List vw_C} (hx : p.tables.exec = Jvm.exec) (hb : c.code = cc) (harr : (Cond.arrayClass .long).before args s = true) (hK : va_K D cl tys s) (hP : va_P D cl ws H) (hD : va_D A ws) (hS : va_S A H0 H locs) (hA : ∀ q, H0.size ≤ q → A q) {n : Nat} (hn : n ≤ 64) (hcells : cells + 1 ≤ R.cells) (hslots : slots + n ≤ R.slots) (hdg : decode cc pc = .ok (.newarray .long, 2))
    (kk : ∀ (q : Nat) (cA : ClassId) (H1 : Heap), va_K D cl (tys ++ [(cA, .long)]) s → va_P D cl (ws ++ [(q, .inl (cA, n, .inr (.inl (sl_a (fun _ => 0)))))]) H1 → va_D A (ws ++ [(q, .inl (cA, n, .inr (.inl (sl_a (fun _ => 0)))))]) → va_S A H0 H1 locs → W p l e R s m args below meth c H1 locs (cells + 1) (slots + n) Q (F0 m (pc + 2) ls (.ref q :: rest))) : W p l e R s m args below meth c H locs cells slots Q (F0 m pc ls (.int (nI n) :: rest)) :=
  va_newa hx hb (atype := .long) harr rfl hK hP hD hS hA (a0 := (n, .inr (.inl (sl_a (fun _ => 0))))) (fun _ => rfl) (nI_pos (by omega)) (nI_clamp (by omega)) (by show n * 8 ≤ 536870912; omega) hcells hslots hdg kk
end SS
/-- the class of the int arrays is one -/
theorem K_one {D : va_G} {cl : List vw_C} {tys : List (ClassId × FieldType)} {U : State} {cA cB : ClassId} (h : va_K D cl tys U) (i j : Nat) (hi : tys[i]? = some (cA, .int)) (hj : tys[j]? = some (cB, .int)) : cB = cA := by
  have h1 : U.vm.findClass ("[" ++ (FieldType.int).toString) = some cA := (h.2 i _ hi).2
  have h2 : U.vm.findClass ("[" ++ (FieldType.int).toString) = some cB := (h.2 j _ hj).2
  exact Option.some.inj (h2.symm.trans h1)
/-- as Met.ofW, for a method of a class that has natives, where this method has no row among them -/
theorem sm_ofWF {l : Launch} {y : MethodName} {ws ws' : List Cond} {rm : Room} {Pc : Array Value → State → Prop} {Qc : Array Value → State → Outcome → State → Prop} {mc ms : Nat} {free : Addr → Prop} {cc : ByteArray} {maxL : Nat} {ret : Option FieldType}
    (hy : plainFor y = true) (hw : ws = Cond.code y cc maxL ret :: ws')
    (body : ∀ p e s m args below meth c s₁, BodyLoose p l y (headSpec ws rm) cc maxL ret e s m args below meth c s₁ → c.maxLocals = maxL → Pc args s →
      W p l e (headSpec ws rm).room s m args below meth c s.heap [] 0 0 (MQ below Qc args s mc ms free) (entryFrame m args maxL)) : Met l y ws rm Pc Qc mc ms free := by
  refine MetFree.of_bodySF (code := cc) (maxLocals := maxL) (ret := ret) hy ?_ ?_
  · intro args s m h hn
    obtain ⟨meth, c, h1, h2, h3, h4, h5, h6, -, -⟩ := Cond.code_spec hn (atoms_spec (ws := ws) h _ (by rw [hw]; exact List.mem_cons_self))
    exact ⟨meth, c, h1, h2, h3, h4, h5, h6⟩
  · intro p e s m args below meth c s₁ B hml hP _
    have hh0 : s₁.heap = s.heap := by rw [B.state]; rfl
    obtain ⟨t, a1, o, b1, b2, b3⟩ := body p e s m args below meth c s₁ B hml hP s₁ hh0 (Stand.of_body B)
    exact ⟨t, o, a1, b1, b2, ⟨b3.1, b3.2⟩⟩
set_option maxHeartbeats 4000000 in
set_option maxRecDepth 100000 in
/-- Math.floorMod(x, d), d above 0 -/
theorem kJ9_floorMod (l : Launch) (sz : Nat) (x : Int32) (d : Nat) (hd0 : 0 < d) (hd : d < 2 ^ 31) : Met l yJ9_floorMod_7cf53 wsJ9_floorMod_7cf53 ({ frames := 0, cells := 0, slots := 0, locals := 0 }) (va_Pc [.int x, .int (nI d)] (fun U => U.heap.size = sz)) (va_Qi (fun (r : Int32) (_ : Unit) => r = nI (sh_fm x d)) (fun _ _ => True) (va_A [] sz)) 0 0 (va_A [] sz) := by
  refine sm_ofWF (cc := cJ9_floorMod_7cf53) (maxL := 3) (ret := (some .int)) (by decide +kernel) rfl ?_
  intro p e s m args below meth c s₁ B hml hv
  obtain ⟨rfl, hsz⟩ := hv
  have hx := B.exec
  have hb := B.bytes
  have hr := B.returns
  have hlocks := B.notSynchronized
  subst hsz
  have hS : va_S (va_A [] s.heap.size) s.heap s.heap [] := va_S.rf
  have hl := lv_entry ([.int x, .int (nI d)]) (n := 3) (Nat.le_of_ble_eq_true rfl)
  rw [lg_entry_eq]
  generalize (lg_sl ([.int x, .int (nI d)]) ++ List.replicate (3 - (lg_sl ([.int x, .int (nI d)])).length) Slot.unset).toArray = ls at hl ⊢
  have hl : lv_has ls 3 [(0, .int x), (1, .int (nI d))] := hl
  obtain ⟨f1, f2, f3, f4⟩ := fm_facts x hd0 hd
  refine lv_iload_n hx hb dJ9_floorMod_7cf53_0 rfl (lv_at hl 0 rfl) ?_
  refine lv_iload_n hx hb dJ9_floorMod_7cf53_1 rfl (lv_at hl 1 rfl) ?_
  refine lv_irem hx hb dJ9_floorMod_7cf53_2 (nI_ne0 hd0 hd) ?_
  refine lv_topi (fun q eq => ?_)
  rw [← eq] at f1 f2 f3 f4
  refine lv_istore_n (lv' := [(2, .int q), (0, .int x), (1, .int (nI d))]) hx hb dJ9_floorMod_7cf53_3 rfl hl (by decide) rfl (fun ls hl => ?_)
  refine lv_iload_n hx hb dJ9_floorMod_7cf53_4 rfl (lv_at hl 1 rfl) ?_
  refine lv_iload_n hx hb dJ9_floorMod_7cf53_5 rfl (lv_at hl 2 rfl) ?_
  refine lv_ixor hx hb dJ9_floorMod_7cf53_6 ?_
  refine lv_if_ge (tgt := 18) hx hb dJ9_floorMod_7cf53_7 (by decide) (fun c1 => ?_) (fun c1 => ?_)
  · refine lv_iload_n hx hb dJ9_floorMod_7cf53_18 rfl (lv_at hl 0 rfl) ?_
    exact W.iret (v := q) hx hb hr (fun t ht hW => ⟨⟨q, (), rfl, f3 (f1 ((xor_sg x hd).mp c1)), trivial⟩, hS.F ht⟩) hS.2.2 dJ9_floorMod_7cf53_19
  · have hneg : x < 0 := by
      by_cases z : x < 0
      · exact z
      · exact absurd ((xor_sg x hd).mpr z) c1
    refine lv_iload_n hx hb dJ9_floorMod_7cf53_10 rfl (lv_at hl 0 rfl) ?_
    refine lv_if_eq (tgt := 18) hx hb dJ9_floorMod_7cf53_11 (by decide) (fun c2 => ?_) (fun c2 => ?_)
    · refine lv_iload_n hx hb dJ9_floorMod_7cf53_18 rfl (lv_at hl 0 rfl) ?_
      exact W.iret (v := q) hx hb hr (fun t ht hW => ⟨⟨q, (), rfl, f3 (by rw [c2]; decide), trivial⟩, hS.F ht⟩) hS.2.2 dJ9_floorMod_7cf53_19
    · refine lv_iload_n hx hb dJ9_floorMod_7cf53_14 rfl (lv_at hl 0 rfl) ?_
      refine lv_iload_n hx hb dJ9_floorMod_7cf53_15 rfl (lv_at hl 2 rfl) ?_
      refine lv_iadd hx hb dJ9_floorMod_7cf53_16 ?_
      exact W.iret (v := q + nI d) hx hb hr (fun t ht hW => ⟨⟨q + nI d, (), rfl, f4 (f2 hneg c2), trivial⟩, hS.F ht⟩) hS.2.2 dJ9_floorMod_7cf53_17
end
section
-- THE CONSTRUCTORS
set_option maxHeartbeats 4000000 in
set_option maxRecDepth 100000 in
/-- StrideHeap(x, y): nobody is in -/
theorem kX0_init (l : Launch) (dC : Nat → ClassId) (dI : Nat → Nat → Nat) (h0 sz : Nat) (x y : Int32) : Met l yX0_init wsX0_init ({ frames := 1, cells := 5, slots := 320, locals := 22 }) (va_Pc [.ref h0, .int x, .int y] (sB dC dI [] sz [(h0, .inr (0, [.int (nI 0), .int (nI 0), .null, .null, .null, .null, .null, .int (nI 0), .int (nI 0)]))])) (va_Qv (fun _ : Unit => True) (fun _ t => ∃ (aT aS aP aR aL : Nat) (cA : ClassId), va_P (dC, dI) vwCl (sw h0 aT aS aP aR aL cA (1 + sh_fm x 64) (2 + sh_fm y 32767) 0 0 (fun _ => 0) (fun _ => 0) (fun _ => 0) (fun _ => 0) (fun _ => 0)) t.heap ∧ va_K (dC, dI) vwCl [(cA, .int)] t ∧ va_D (va_A [(h0, .inr (0, [.int (nI 0), .int (nI 0), .null, .null, .null, .null, .null, .int (nI 0), .int (nI 0)]))] sz) (sw h0 aT aS aP aR aL cA (1 + sh_fm x 64) (2 + sh_fm y 32767) 0 0 (fun _ => 0) (fun _ => 0) (fun _ => 0) (fun _ => 0) (fun _ => 0))) (va_A [(h0, .inr (0, [.int (nI 0), .int (nI 0), .null, .null, .null, .null, .null, .int (nI 0), .int (nI 0)]))] sz)) 5 320 (va_A [(h0, .inr (0, [.int (nI 0), .int (nI 0), .null, .null, .null, .null, .null, .int (nI 0), .int (nI 0)]))] sz) := by
  refine Met.ofW (cc := cX0_init) (maxL := 3) (ret := none) (by decide) rfl ?_
  intro p e s m args below meth c s₁ B hml hv
  obtain ⟨rfl, hsz, hP, hK, hD0⟩ := hv
  have hx := B.exec
  have hb := B.bytes
  have hr := B.returns
  have hts := atoms_spec (ws := wsX0_init) B.pre
  have hown : s.vm.findClass RX0 = some m.cls := findClass_of_methodNamed B.named
  have hlocks := B.notSynchronized
  have hin : meth.name = "<init>" := (name_of_methodNamed B.named B.method).1
  subst hsz
  have hD := hD0.self (sz := s.heap.size)
  generalize hAe : va_A [(h0, .inr (0, [.int (nI 0), .int (nI 0), .null, .null, .null, .null, .null, .int (nI 0), .int (nI 0)]))] s.heap.size = A at hD ⊢
  have hA : ∀ q : Nat, s.heap.size ≤ q → A q := fun q h => by rw [← hAe]; exact Or.inr h
  have hS : va_S A s.heap s.heap [] := va_S.rf
  have hl := lv_entry ([.ref h0, .int x, .int y]) (n := 3) (Nat.le_of_ble_eq_true rfl)
  rw [lg_entry_eq]
  generalize (lg_sl ([.ref h0, .int x, .int y]) ++ List.replicate (3 - (lg_sl ([.ref h0, .int x, .int y])).length) Slot.unset).toArray = ls at hl ⊢
  have hl : lv_has ls 3 [(0, .ref h0), (1, .int x), (2, .int y)] := hl
  have hf64 : 1 + sh_fm x 64 ≤ 64 := by have := fm_lt x (d := 64) (by decide); omega
  refine lv_aload_n hx hb dX0_init_0 rfl (lv_at hl 0 rfl) ?_
  refine W.objInit hx hb hown (hts (.methodLink RX0 1 objectInit) (by decide +kernel)) (hts (.instanceMethod objectInit) (by decide +kernel)) (hts _ (List.mem_cons_of_mem _ (List.mem_append_left _ (List.mem_of_getElem? (i := 2) rfl)))) rfl (by rw [hml]; exact hl.1) rfl dX0_init_1 (Nat.le_of_ble_eq_true rfl) (Nat.le_of_ble_eq_true rfl) ?_
  refine W.eq (g2 := F0 m 4 ls []) rfl ?_
  refine lv_aload_n hx hb dX0_init_4 rfl (lv_at hl 0 rfl) ?_
  refine lv_iconst (v := nI 1) hx hb dX0_init_5 (by decide) ?_
  refine lv_iload_n hx hb dX0_init_6 rfl (lv_at hl 1 rfl) ?_
  refine lv_bipush (v := nI 64) hx hb dX0_init_7 (by decide) ?_
  refine sc_s (As := [.int x, .int (nI 64)]) (rest := [.int (nI 1), .ref h0]) ⟨hx, hb, hml, hown, hts⟩ (kJ9_floorMod l s.heap.size x 64 (by decide) (by decide)) (va_cwS 2 hts gX0_init_J9_floorMod_7cf53 rfl rfl rfl (by decide +kernel) ⟨Nat.le_of_ble_eq_true rfl, Nat.le_of_ble_eq_true rfl⟩) ⟨fun a U g mk q => q, fun U hU hW => ⟨rfl, congrArg Array.size hU⟩⟩ hP hD hS hA rfl hl.1 rfl (Nat.le_of_ble_eq_true rfl) dX0_init_9 ⟨Nat.le_of_ble_eq_true rfl, Nat.le_of_ble_eq_true rfl⟩ (fun r H locs hw hP hD hS => ?_)
  subst hw
  refine sr_iadd hx hb dX0_init_12 ?_
  refine va_putF (D := (dC, dI)) (ci := 0) (v := .int (nI (1 + sh_fm x 64))) (ty := .int) (C := RX0) (T := TX0) (N := 9) hx hb hts wiX0_init tyX0 tyX0_ok nmX0 hown hK hP hD hS 0 rfl rfl 0 (by decide) (hts (.fieldLink RX0 15 "StrideHeap" "cap" "I") (by decide +kernel)) (fun _ h9 => h9) rfl hin rfl (by decide +kernel) rfl rfl (Nat.le_of_ble_eq_true rfl) dX0_init_13 (fun H locs hP hD hS => ?_)
  have hP : va_P (dC, dI) vwCl [(h0, .inr (0, [.int (nI (1 + sh_fm x 64)), .int (nI 0), .null, .null, .null, .null, .null, .int (nI 0), .int (nI 0)]))] H := hP
  have hD : va_D A [(h0, .inr (0, [.int (nI (1 + sh_fm x 64)), .int (nI 0), .null, .null, .null, .null, .null, .int (nI 0), .int (nI 0)]))] := hD
  refine lv_aload_n hx hb dX0_init_16 rfl (lv_at hl 0 rfl) ?_
  refine lv_iconst (v := nI 2) hx hb dX0_init_17 (by decide) ?_
  refine lv_iload_n hx hb dX0_init_18 rfl (lv_at hl 2 rfl) ?_
  refine lv_sipush (v := nI 32767) hx hb dX0_init_19 (by decide) ?_
  refine sc_s (As := [.int y, .int (nI 32767)]) (rest := [.int (nI 2), .ref h0]) ⟨hx, hb, hml, hown, hts⟩ (kJ9_floorMod l H.size y 32767 (by decide) (by decide)) (va_cwS 2 hts gX0_init_J9_floorMod_7cf53 rfl rfl rfl (by decide +kernel) ⟨Nat.le_of_ble_eq_true rfl, Nat.le_of_ble_eq_true rfl⟩) ⟨fun a U g mk q => q, fun U hU hW => ⟨rfl, congrArg Array.size hU⟩⟩ hP hD hS hA rfl hl.1 rfl (Nat.le_of_ble_eq_true rfl) dX0_init_22 ⟨Nat.le_of_ble_eq_true rfl, Nat.le_of_ble_eq_true rfl⟩ (fun r H locs hw hP hD hS => ?_)
  subst hw
  refine sr_iadd hx hb dX0_init_25 ?_
  refine va_putF (D := (dC, dI)) (ci := 0) (v := .int (nI (2 + sh_fm y 32767))) (ty := .int) (C := RX0) (T := TX0) (N := 9) hx hb hts wiX0_init tyX0 tyX0_ok nmX0 hown hK hP hD hS 0 rfl rfl 1 (by decide) (hts (.fieldLink RX0 19 "StrideHeap" "big" "I") (by decide +kernel)) (fun _ h9 => h9) rfl hin rfl (by decide +kernel) rfl rfl (Nat.le_of_ble_eq_true rfl) dX0_init_26 (fun H locs hP hD hS => ?_)
  have hP : va_P (dC, dI) vwCl [(h0, .inr (0, [.int (nI (1 + sh_fm x 64)), .int (nI (2 + sh_fm y 32767)), .null, .null, .null, .null, .null, .int (nI 0), .int (nI 0)]))] H := hP
  have hD : va_D A [(h0, .inr (0, [.int (nI (1 + sh_fm x 64)), .int (nI (2 + sh_fm y 32767)), .null, .null, .null, .null, .null, .int (nI 0), .int (nI 0)]))] := hD
  refine lv_aload_n hx hb dX0_init_29 rfl (lv_at hl 0 rfl) ?_
  refine lv_aload_n hx hb dX0_init_30 rfl (lv_at hl 0 rfl) ?_
  refine va_get (D := (dC, dI)) (ci := 0) (v := .int (nI (1 + sh_fm x 64))) (C := RX0) (T := TX0) (N := 9) hx hb hts wiX0_init hown hK hP 0 rfl rfl 0 (by decide) (hts (.fieldLink RX0 15 "StrideHeap" "cap" "I") (by decide +kernel)) (fun _ h9 => h9) rfl dX0_init_31 ?_
  refine sr_newI hx hb (hts (.arrayClass .int) (by decide +kernel)) hK hP hD hS hA (n := 1 + sh_fm x 64) hf64 (Nat.le_of_ble_eq_true rfl) (Nat.le_trans (Nat.add_le_add_left hf64 _) (Nat.le_of_ble_eq_true rfl)) dX0_init_34 (fun aT caT H hK hP hD hS => ?_)
  refine W.widen (k := 1) (n := 64) (by omega) (by omega) ?_
  have hK : va_K (dC, dI) vwCl [(caT, .int)] s := hK
  have hP : va_P (dC, dI) vwCl [(h0, .inr (0, [.int (nI (1 + sh_fm x 64)), .int (nI (2 + sh_fm y 32767)), .null, .null, .null, .null, .null, .int (nI 0), .int (nI 0)])), (aT, .inl (caT, 1 + sh_fm x 64, .inl (sh_a (fun _ => 0))))] H := hP
  have hD : va_D A [(h0, .inr (0, [.int (nI (1 + sh_fm x 64)), .int (nI (2 + sh_fm y 32767)), .null, .null, .null, .null, .null, .int (nI 0), .int (nI 0)])), (aT, .inl (caT, 1 + sh_fm x 64, .inl (sh_a (fun _ => 0))))] := hD
  refine va_putF (D := (dC, dI)) (ci := 0) (v := .ref aT) (ty := .array .int) (C := RX0) (T := TX0) (N := 9) hx hb hts wiX0_init tyX0 tyX0_ok nmX0 hown hK hP hD hS 0 rfl rfl 2 (by decide) (hts (.fieldLink RX0 22 "StrideHeap" "ticketsOf" "[I") (by decide +kernel)) (fun _ h9 => h9) rfl hin rfl (by decide +kernel) rfl rfl (Nat.le_of_ble_eq_true rfl) dX0_init_36 (fun H locs hP hD hS => ?_)
  have hP : va_P (dC, dI) vwCl [(h0, .inr (0, [.int (nI (1 + sh_fm x 64)), .int (nI (2 + sh_fm y 32767)), .ref aT, .null, .null, .null, .null, .int (nI 0), .int (nI 0)])), (aT, .inl (caT, 1 + sh_fm x 64, .inl (sh_a (fun _ => 0))))] H := hP
  have hD : va_D A [(h0, .inr (0, [.int (nI (1 + sh_fm x 64)), .int (nI (2 + sh_fm y 32767)), .ref aT, .null, .null, .null, .null, .int (nI 0), .int (nI 0)])), (aT, .inl (caT, 1 + sh_fm x 64, .inl (sh_a (fun _ => 0))))] := hD
  refine lv_aload_n hx hb dX0_init_39 rfl (lv_at hl 0 rfl) ?_
  refine lv_aload_n hx hb dX0_init_40 rfl (lv_at hl 0 rfl) ?_
  refine va_get (D := (dC, dI)) (ci := 0) (v := .int (nI (1 + sh_fm x 64))) (C := RX0) (T := TX0) (N := 9) hx hb hts wiX0_init hown hK hP 0 rfl rfl 0 (by decide) (hts (.fieldLink RX0 15 "StrideHeap" "cap" "I") (by decide +kernel)) (fun _ h9 => h9) rfl dX0_init_41 ?_
  refine sr_newI hx hb (hts (.arrayClass .int) (by decide +kernel)) hK hP hD hS hA (n := 1 + sh_fm x 64) hf64 (Nat.le_of_ble_eq_true rfl) (Nat.le_trans (Nat.add_le_add_left hf64 _) (Nat.le_of_ble_eq_true rfl)) dX0_init_44 (fun aS caS H hK hP hD hS => ?_)
  refine W.widen (k := 2) (n := 128) (by omega) (by omega) ?_
  obtain rfl := K_one hK 0 1 rfl rfl
  have hK : va_K (dC, dI) vwCl [(caS, .int)] s := hK.sub [0] rfl
  have hP : va_P (dC, dI) vwCl [(h0, .inr (0, [.int (nI (1 + sh_fm x 64)), .int (nI (2 + sh_fm y 32767)), .ref aT, .null, .null, .null, .null, .int (nI 0), .int (nI 0)])), (aT, .inl (caS, 1 + sh_fm x 64, .inl (sh_a (fun _ => 0)))), (aS, .inl (caS, 1 + sh_fm x 64, .inl (sh_a (fun _ => 0))))] H := hP
  have hD : va_D A [(h0, .inr (0, [.int (nI (1 + sh_fm x 64)), .int (nI (2 + sh_fm y 32767)), .ref aT, .null, .null, .null, .null, .int (nI 0), .int (nI 0)])), (aT, .inl (caS, 1 + sh_fm x 64, .inl (sh_a (fun _ => 0)))), (aS, .inl (caS, 1 + sh_fm x 64, .inl (sh_a (fun _ => 0))))] := hD
  refine va_putF (D := (dC, dI)) (ci := 0) (v := .ref aS) (ty := .array .int) (C := RX0) (T := TX0) (N := 9) hx hb hts wiX0_init tyX0 tyX0_ok nmX0 hown hK hP hD hS 0 rfl rfl 3 (by decide) (hts (.fieldLink RX0 26 "StrideHeap" "strides" "[I") (by decide +kernel)) (fun _ h9 => h9) rfl hin rfl (by decide +kernel) rfl rfl (Nat.le_of_ble_eq_true rfl) dX0_init_46 (fun H locs hP hD hS => ?_)
  have hP : va_P (dC, dI) vwCl [(h0, .inr (0, [.int (nI (1 + sh_fm x 64)), .int (nI (2 + sh_fm y 32767)), .ref aT, .ref aS, .null, .null, .null, .int (nI 0), .int (nI 0)])), (aT, .inl (caS, 1 + sh_fm x 64, .inl (sh_a (fun _ => 0)))), (aS, .inl (caS, 1 + sh_fm x 64, .inl (sh_a (fun _ => 0))))] H := hP
  have hD : va_D A [(h0, .inr (0, [.int (nI (1 + sh_fm x 64)), .int (nI (2 + sh_fm y 32767)), .ref aT, .ref aS, .null, .null, .null, .int (nI 0), .int (nI 0)])), (aT, .inl (caS, 1 + sh_fm x 64, .inl (sh_a (fun _ => 0)))), (aS, .inl (caS, 1 + sh_fm x 64, .inl (sh_a (fun _ => 0))))] := hD
  refine lv_aload_n hx hb dX0_init_49 rfl (lv_at hl 0 rfl) ?_
  refine lv_aload_n hx hb dX0_init_50 rfl (lv_at hl 0 rfl) ?_
  refine va_get (D := (dC, dI)) (ci := 0) (v := .int (nI (1 + sh_fm x 64))) (C := RX0) (T := TX0) (N := 9) hx hb hts wiX0_init hown hK hP 0 rfl rfl 0 (by decide) (hts (.fieldLink RX0 15 "StrideHeap" "cap" "I") (by decide +kernel)) (fun _ h9 => h9) rfl dX0_init_51 ?_
  refine sr_newI hx hb (hts (.arrayClass .int) (by decide +kernel)) hK hP hD hS hA (n := 1 + sh_fm x 64) hf64 (Nat.le_of_ble_eq_true rfl) (Nat.le_trans (Nat.add_le_add_left hf64 _) (Nat.le_of_ble_eq_true rfl)) dX0_init_54 (fun aP caP H hK hP hD hS => ?_)
  refine W.widen (k := 3) (n := 192) (by omega) (by omega) ?_
  obtain rfl := K_one hK 0 1 rfl rfl
  have hK : va_K (dC, dI) vwCl [(caP, .int)] s := hK.sub [0] rfl
  have hP : va_P (dC, dI) vwCl [(h0, .inr (0, [.int (nI (1 + sh_fm x 64)), .int (nI (2 + sh_fm y 32767)), .ref aT, .ref aS, .null, .null, .null, .int (nI 0), .int (nI 0)])), (aT, .inl (caP, 1 + sh_fm x 64, .inl (sh_a (fun _ => 0)))), (aS, .inl (caP, 1 + sh_fm x 64, .inl (sh_a (fun _ => 0)))), (aP, .inl (caP, 1 + sh_fm x 64, .inl (sh_a (fun _ => 0))))] H := hP
  have hD : va_D A [(h0, .inr (0, [.int (nI (1 + sh_fm x 64)), .int (nI (2 + sh_fm y 32767)), .ref aT, .ref aS, .null, .null, .null, .int (nI 0), .int (nI 0)])), (aT, .inl (caP, 1 + sh_fm x 64, .inl (sh_a (fun _ => 0)))), (aS, .inl (caP, 1 + sh_fm x 64, .inl (sh_a (fun _ => 0)))), (aP, .inl (caP, 1 + sh_fm x 64, .inl (sh_a (fun _ => 0))))] := hD
  refine va_putF (D := (dC, dI)) (ci := 0) (v := .ref aP) (ty := .array .int) (C := RX0) (T := TX0) (N := 9) hx hb hts wiX0_init tyX0 tyX0_ok nmX0 hown hK hP hD hS 0 rfl rfl 4 (by decide) (hts (.fieldLink RX0 29 "StrideHeap" "passes" "[I") (by decide +kernel)) (fun _ h9 => h9) rfl hin rfl (by decide +kernel) rfl rfl (Nat.le_of_ble_eq_true rfl) dX0_init_56 (fun H locs hP hD hS => ?_)
  have hP : va_P (dC, dI) vwCl [(h0, .inr (0, [.int (nI (1 + sh_fm x 64)), .int (nI (2 + sh_fm y 32767)), .ref aT, .ref aS, .ref aP, .null, .null, .int (nI 0), .int (nI 0)])), (aT, .inl (caP, 1 + sh_fm x 64, .inl (sh_a (fun _ => 0)))), (aS, .inl (caP, 1 + sh_fm x 64, .inl (sh_a (fun _ => 0)))), (aP, .inl (caP, 1 + sh_fm x 64, .inl (sh_a (fun _ => 0))))] H := hP
  have hD : va_D A [(h0, .inr (0, [.int (nI (1 + sh_fm x 64)), .int (nI (2 + sh_fm y 32767)), .ref aT, .ref aS, .ref aP, .null, .null, .int (nI 0), .int (nI 0)])), (aT, .inl (caP, 1 + sh_fm x 64, .inl (sh_a (fun _ => 0)))), (aS, .inl (caP, 1 + sh_fm x 64, .inl (sh_a (fun _ => 0)))), (aP, .inl (caP, 1 + sh_fm x 64, .inl (sh_a (fun _ => 0))))] := hD
  refine lv_aload_n hx hb dX0_init_59 rfl (lv_at hl 0 rfl) ?_
  refine lv_aload_n hx hb dX0_init_60 rfl (lv_at hl 0 rfl) ?_
  refine va_get (D := (dC, dI)) (ci := 0) (v := .int (nI (1 + sh_fm x 64))) (C := RX0) (T := TX0) (N := 9) hx hb hts wiX0_init hown hK hP 0 rfl rfl 0 (by decide) (hts (.fieldLink RX0 15 "StrideHeap" "cap" "I") (by decide +kernel)) (fun _ h9 => h9) rfl dX0_init_61 ?_
  refine sr_newI hx hb (hts (.arrayClass .int) (by decide +kernel)) hK hP hD hS hA (n := 1 + sh_fm x 64) hf64 (Nat.le_of_ble_eq_true rfl) (Nat.le_trans (Nat.add_le_add_left hf64 _) (Nat.le_of_ble_eq_true rfl)) dX0_init_64 (fun aR caR H hK hP hD hS => ?_)
  refine W.widen (k := 4) (n := 256) (by omega) (by omega) ?_
  obtain rfl := K_one hK 0 1 rfl rfl
  have hK : va_K (dC, dI) vwCl [(caR, .int)] s := hK.sub [0] rfl
  have hP : va_P (dC, dI) vwCl [(h0, .inr (0, [.int (nI (1 + sh_fm x 64)), .int (nI (2 + sh_fm y 32767)), .ref aT, .ref aS, .ref aP, .null, .null, .int (nI 0), .int (nI 0)])), (aT, .inl (caR, 1 + sh_fm x 64, .inl (sh_a (fun _ => 0)))), (aS, .inl (caR, 1 + sh_fm x 64, .inl (sh_a (fun _ => 0)))), (aP, .inl (caR, 1 + sh_fm x 64, .inl (sh_a (fun _ => 0)))), (aR, .inl (caR, 1 + sh_fm x 64, .inl (sh_a (fun _ => 0))))] H := hP
  have hD : va_D A [(h0, .inr (0, [.int (nI (1 + sh_fm x 64)), .int (nI (2 + sh_fm y 32767)), .ref aT, .ref aS, .ref aP, .null, .null, .int (nI 0), .int (nI 0)])), (aT, .inl (caR, 1 + sh_fm x 64, .inl (sh_a (fun _ => 0)))), (aS, .inl (caR, 1 + sh_fm x 64, .inl (sh_a (fun _ => 0)))), (aP, .inl (caR, 1 + sh_fm x 64, .inl (sh_a (fun _ => 0)))), (aR, .inl (caR, 1 + sh_fm x 64, .inl (sh_a (fun _ => 0))))] := hD
  refine va_putF (D := (dC, dI)) (ci := 0) (v := .ref aR) (ty := .array .int) (C := RX0) (T := TX0) (N := 9) hx hb hts wiX0_init tyX0 tyX0_ok nmX0 hown hK hP hD hS 0 rfl rfl 5 (by decide) (hts (.fieldLink RX0 32 "StrideHeap" "ran" "[I") (by decide +kernel)) (fun _ h9 => h9) rfl hin rfl (by decide +kernel) rfl rfl (Nat.le_of_ble_eq_true rfl) dX0_init_66 (fun H locs hP hD hS => ?_)
  have hP : va_P (dC, dI) vwCl [(h0, .inr (0, [.int (nI (1 + sh_fm x 64)), .int (nI (2 + sh_fm y 32767)), .ref aT, .ref aS, .ref aP, .ref aR, .null, .int (nI 0), .int (nI 0)])), (aT, .inl (caR, 1 + sh_fm x 64, .inl (sh_a (fun _ => 0)))), (aS, .inl (caR, 1 + sh_fm x 64, .inl (sh_a (fun _ => 0)))), (aP, .inl (caR, 1 + sh_fm x 64, .inl (sh_a (fun _ => 0)))), (aR, .inl (caR, 1 + sh_fm x 64, .inl (sh_a (fun _ => 0))))] H := hP
  have hD : va_D A [(h0, .inr (0, [.int (nI (1 + sh_fm x 64)), .int (nI (2 + sh_fm y 32767)), .ref aT, .ref aS, .ref aP, .ref aR, .null, .int (nI 0), .int (nI 0)])), (aT, .inl (caR, 1 + sh_fm x 64, .inl (sh_a (fun _ => 0)))), (aS, .inl (caR, 1 + sh_fm x 64, .inl (sh_a (fun _ => 0)))), (aP, .inl (caR, 1 + sh_fm x 64, .inl (sh_a (fun _ => 0)))), (aR, .inl (caR, 1 + sh_fm x 64, .inl (sh_a (fun _ => 0))))] := hD
  refine lv_aload_n hx hb dX0_init_69 rfl (lv_at hl 0 rfl) ?_
  refine lv_aload_n hx hb dX0_init_70 rfl (lv_at hl 0 rfl) ?_
  refine va_get (D := (dC, dI)) (ci := 0) (v := .int (nI (1 + sh_fm x 64))) (C := RX0) (T := TX0) (N := 9) hx hb hts wiX0_init hown hK hP 0 rfl rfl 0 (by decide) (hts (.fieldLink RX0 15 "StrideHeap" "cap" "I") (by decide +kernel)) (fun _ h9 => h9) rfl dX0_init_71 ?_
  refine sr_newI hx hb (hts (.arrayClass .int) (by decide +kernel)) hK hP hD hS hA (n := 1 + sh_fm x 64) hf64 (Nat.le_of_ble_eq_true rfl) (Nat.le_trans (Nat.add_le_add_left hf64 _) (Nat.le_of_ble_eq_true rfl)) dX0_init_74 (fun aL caL H hK hP hD hS => ?_)
  refine W.widen (k := 5) (n := 320) (by omega) (by omega) ?_
  obtain rfl := K_one hK 0 1 rfl rfl
  have hK : va_K (dC, dI) vwCl [(caL, .int)] s := hK.sub [0] rfl
  have hP : va_P (dC, dI) vwCl [(h0, .inr (0, [.int (nI (1 + sh_fm x 64)), .int (nI (2 + sh_fm y 32767)), .ref aT, .ref aS, .ref aP, .ref aR, .null, .int (nI 0), .int (nI 0)])), (aT, .inl (caL, 1 + sh_fm x 64, .inl (sh_a (fun _ => 0)))), (aS, .inl (caL, 1 + sh_fm x 64, .inl (sh_a (fun _ => 0)))), (aP, .inl (caL, 1 + sh_fm x 64, .inl (sh_a (fun _ => 0)))), (aR, .inl (caL, 1 + sh_fm x 64, .inl (sh_a (fun _ => 0)))), (aL, .inl (caL, 1 + sh_fm x 64, .inl (sh_a (fun _ => 0))))] H := hP
  have hD : va_D A [(h0, .inr (0, [.int (nI (1 + sh_fm x 64)), .int (nI (2 + sh_fm y 32767)), .ref aT, .ref aS, .ref aP, .ref aR, .null, .int (nI 0), .int (nI 0)])), (aT, .inl (caL, 1 + sh_fm x 64, .inl (sh_a (fun _ => 0)))), (aS, .inl (caL, 1 + sh_fm x 64, .inl (sh_a (fun _ => 0)))), (aP, .inl (caL, 1 + sh_fm x 64, .inl (sh_a (fun _ => 0)))), (aR, .inl (caL, 1 + sh_fm x 64, .inl (sh_a (fun _ => 0)))), (aL, .inl (caL, 1 + sh_fm x 64, .inl (sh_a (fun _ => 0))))] := hD
  refine va_putF (D := (dC, dI)) (ci := 0) (v := .ref aL) (ty := .array .int) (C := RX0) (T := TX0) (N := 9) hx hb hts wiX0_init tyX0 tyX0_ok nmX0 hown hK hP hD hS 0 rfl rfl 6 (by decide) (hts (.fieldLink RX0 35 "StrideHeap" "line" "[I") (by decide +kernel)) (fun _ h9 => h9) rfl hin rfl (by decide +kernel) rfl rfl (Nat.le_of_ble_eq_true rfl) dX0_init_76 (fun H locs hP hD hS => ?_)
  have hP : va_P (dC, dI) vwCl [(h0, .inr (0, [.int (nI (1 + sh_fm x 64)), .int (nI (2 + sh_fm y 32767)), .ref aT, .ref aS, .ref aP, .ref aR, .ref aL, .int (nI 0), .int (nI 0)])), (aT, .inl (caL, 1 + sh_fm x 64, .inl (sh_a (fun _ => 0)))), (aS, .inl (caL, 1 + sh_fm x 64, .inl (sh_a (fun _ => 0)))), (aP, .inl (caL, 1 + sh_fm x 64, .inl (sh_a (fun _ => 0)))), (aR, .inl (caL, 1 + sh_fm x 64, .inl (sh_a (fun _ => 0)))), (aL, .inl (caL, 1 + sh_fm x 64, .inl (sh_a (fun _ => 0))))] H := hP
  have hD : va_D A [(h0, .inr (0, [.int (nI (1 + sh_fm x 64)), .int (nI (2 + sh_fm y 32767)), .ref aT, .ref aS, .ref aP, .ref aR, .ref aL, .int (nI 0), .int (nI 0)])), (aT, .inl (caL, 1 + sh_fm x 64, .inl (sh_a (fun _ => 0)))), (aS, .inl (caL, 1 + sh_fm x 64, .inl (sh_a (fun _ => 0)))), (aP, .inl (caL, 1 + sh_fm x 64, .inl (sh_a (fun _ => 0)))), (aR, .inl (caL, 1 + sh_fm x 64, .inl (sh_a (fun _ => 0)))), (aL, .inl (caL, 1 + sh_fm x 64, .inl (sh_a (fun _ => 0))))] := hD
  refine lv_aload_n hx hb dX0_init_79 rfl (lv_at hl 0 rfl) ?_
  refine lv_iconst (v := nI 0) hx hb dX0_init_80 (by decide) ?_
  refine va_put (D := (dC, dI)) (ci := 0) (v := .int (nI 0)) (ty := .int) (C := RX0) (T := TX0) (N := 9) hx hb hts wiX0_init tyX0 tyX0_ok nmX0 hown hK hP hD hS 0 rfl rfl 7 (by decide) (hts (.fieldLink RX0 38 "StrideHeap" "inLine" "I") (by decide +kernel)) (fun _ h9 => h9) rfl (by decide +kernel) rfl rfl (Nat.le_of_ble_eq_true rfl) dX0_init_81 (fun H locs hP hD hS => ?_)
  have hP : va_P (dC, dI) vwCl [(h0, .inr (0, [.int (nI (1 + sh_fm x 64)), .int (nI (2 + sh_fm y 32767)), .ref aT, .ref aS, .ref aP, .ref aR, .ref aL, .int (nI 0), .int (nI 0)])), (aT, .inl (caL, 1 + sh_fm x 64, .inl (sh_a (fun _ => 0)))), (aS, .inl (caL, 1 + sh_fm x 64, .inl (sh_a (fun _ => 0)))), (aP, .inl (caL, 1 + sh_fm x 64, .inl (sh_a (fun _ => 0)))), (aR, .inl (caL, 1 + sh_fm x 64, .inl (sh_a (fun _ => 0)))), (aL, .inl (caL, 1 + sh_fm x 64, .inl (sh_a (fun _ => 0))))] H := hP
  have hD : va_D A [(h0, .inr (0, [.int (nI (1 + sh_fm x 64)), .int (nI (2 + sh_fm y 32767)), .ref aT, .ref aS, .ref aP, .ref aR, .ref aL, .int (nI 0), .int (nI 0)])), (aT, .inl (caL, 1 + sh_fm x 64, .inl (sh_a (fun _ => 0)))), (aS, .inl (caL, 1 + sh_fm x 64, .inl (sh_a (fun _ => 0)))), (aP, .inl (caL, 1 + sh_fm x 64, .inl (sh_a (fun _ => 0)))), (aR, .inl (caL, 1 + sh_fm x 64, .inl (sh_a (fun _ => 0)))), (aL, .inl (caL, 1 + sh_fm x 64, .inl (sh_a (fun _ => 0))))] := hD
  refine lv_aload_n hx hb dX0_init_84 rfl (lv_at hl 0 rfl) ?_
  refine lv_iconst (v := nI 0) hx hb dX0_init_85 (by decide) ?_
  refine va_put (D := (dC, dI)) (ci := 0) (v := .int (nI 0)) (ty := .int) (C := RX0) (T := TX0) (N := 9) hx hb hts wiX0_init tyX0 tyX0_ok nmX0 hown hK hP hD hS 0 rfl rfl 8 (by decide) (hts (.fieldLink RX0 41 "StrideHeap" "latestLeftPass" "I") (by decide +kernel)) (fun _ h9 => h9) rfl (by decide +kernel) rfl rfl (Nat.le_of_ble_eq_true rfl) dX0_init_86 (fun H locs hP hD hS => ?_)
  have hP : va_P (dC, dI) vwCl [(h0, .inr (0, [.int (nI (1 + sh_fm x 64)), .int (nI (2 + sh_fm y 32767)), .ref aT, .ref aS, .ref aP, .ref aR, .ref aL, .int (nI 0), .int (nI 0)])), (aT, .inl (caL, 1 + sh_fm x 64, .inl (sh_a (fun _ => 0)))), (aS, .inl (caL, 1 + sh_fm x 64, .inl (sh_a (fun _ => 0)))), (aP, .inl (caL, 1 + sh_fm x 64, .inl (sh_a (fun _ => 0)))), (aR, .inl (caL, 1 + sh_fm x 64, .inl (sh_a (fun _ => 0)))), (aL, .inl (caL, 1 + sh_fm x 64, .inl (sh_a (fun _ => 0))))] H := hP
  have hD : va_D A [(h0, .inr (0, [.int (nI (1 + sh_fm x 64)), .int (nI (2 + sh_fm y 32767)), .ref aT, .ref aS, .ref aP, .ref aR, .ref aL, .int (nI 0), .int (nI 0)])), (aT, .inl (caL, 1 + sh_fm x 64, .inl (sh_a (fun _ => 0)))), (aS, .inl (caL, 1 + sh_fm x 64, .inl (sh_a (fun _ => 0)))), (aP, .inl (caL, 1 + sh_fm x 64, .inl (sh_a (fun _ => 0)))), (aR, .inl (caL, 1 + sh_fm x 64, .inl (sh_a (fun _ => 0)))), (aL, .inl (caL, 1 + sh_fm x 64, .inl (sh_a (fun _ => 0))))] := hD
  exact W.vret hx hb hr (fun t ht hW => ⟨⟨(), rfl, trivial, aT, aS, aP, aR, aL, caL, by rw [ht]; exact hP, va_K.moved hW.alike hK, hD⟩, hS.F ht⟩) hS.2.2 dX0_init_89
set_option maxHeartbeats 4000000 in
set_option maxRecDepth 100000 in
/-- StrideHeapModel(x, y): nobody is in -/
theorem kX1_init (l : Launch) (dC : Nat → ClassId) (dI : Nat → Nat → Nat) (k0 sz : Nat) (x y : Int32) : Met l yX1_init wsX1_init ({ frames := 1, cells := 4, slots := 256, locals := 22 }) (va_Pc [.ref k0, .int x, .int y] (sB dC dI [] sz [(k0, .inr (1, [.int (nI 0), .int (nI 0), .null, .null, .null, .null, .int (nI 0), .long (lN 0)]))])) (va_Qv (fun _ : Unit => True) (fun _ t => ∃ (bI bT bP bR : Nat) (cZ cA cJ : ClassId), va_P (dC, dI) vwCl (mw k0 bI bT bP bR cA cZ cJ (1 + sh_fm x 64) (2 + sh_fm y 32767) 0 0 (fun _ => 0) (fun _ => 0) (fun _ => 0) (fun _ => 0)) t.heap ∧ va_K (dC, dI) vwCl [(cZ, .boolean), (cA, .int), (cJ, .long)] t ∧ va_D (va_A [(k0, .inr (1, [.int (nI 0), .int (nI 0), .null, .null, .null, .null, .int (nI 0), .long (lN 0)]))] sz) (mw k0 bI bT bP bR cA cZ cJ (1 + sh_fm x 64) (2 + sh_fm y 32767) 0 0 (fun _ => 0) (fun _ => 0) (fun _ => 0) (fun _ => 0))) (va_A [(k0, .inr (1, [.int (nI 0), .int (nI 0), .null, .null, .null, .null, .int (nI 0), .long (lN 0)]))] sz)) 4 256 (va_A [(k0, .inr (1, [.int (nI 0), .int (nI 0), .null, .null, .null, .null, .int (nI 0), .long (lN 0)]))] sz) := by
  refine Met.ofW (cc := cX1_init) (maxL := 4) (ret := none) (by decide) rfl ?_
  intro p e s m args below meth c s₁ B hml hv
  obtain ⟨rfl, hsz, hP, hK, hD0⟩ := hv
  have hx := B.exec
  have hb := B.bytes
  have hr := B.returns
  have hts := atoms_spec (ws := wsX1_init) B.pre
  have hown : s.vm.findClass RX1 = some m.cls := findClass_of_methodNamed B.named
  have hlocks := B.notSynchronized
  have hin : meth.name = "<init>" := (name_of_methodNamed B.named B.method).1
  subst hsz
  have hD := hD0.self (sz := s.heap.size)
  generalize hAe : va_A [(k0, .inr (1, [.int (nI 0), .int (nI 0), .null, .null, .null, .null, .int (nI 0), .long (lN 0)]))] s.heap.size = A at hD ⊢
  have hA : ∀ q : Nat, s.heap.size ≤ q → A q := fun q h => by rw [← hAe]; exact Or.inr h
  have hS : va_S A s.heap s.heap [] := va_S.rf
  have hl := lv_entry ([.ref k0, .int x, .int y]) (n := 4) (Nat.le_of_ble_eq_true rfl)
  rw [lg_entry_eq]
  generalize (lg_sl ([.ref k0, .int x, .int y]) ++ List.replicate (4 - (lg_sl ([.ref k0, .int x, .int y])).length) Slot.unset).toArray = ls at hl ⊢
  have hl : lv_has ls 4 [(0, .ref k0), (1, .int x), (2, .int y)] := hl
  have hf64 : 1 + sh_fm x 64 ≤ 64 := by have := fm_lt x (d := 64) (by decide); omega
  refine lv_aload_n hx hb dX1_init_0 rfl (lv_at hl 0 rfl) ?_
  refine W.objInit hx hb hown (hts (.methodLink RX1 1 objectInit) (by decide +kernel)) (hts (.instanceMethod objectInit) (by decide +kernel)) (hts _ (List.mem_cons_of_mem _ (List.mem_append_left _ (List.mem_of_getElem? (i := 2) rfl)))) rfl (by rw [hml]; exact hl.1) rfl dX1_init_1 (Nat.le_of_ble_eq_true rfl) (Nat.le_of_ble_eq_true rfl) ?_
  refine W.eq (g2 := F0 m 4 ls []) rfl ?_
  refine lv_aload_n hx hb dX1_init_4 rfl (lv_at hl 0 rfl) ?_
  refine lv_bipush (v := nI 64) hx hb dX1_init_5 (by decide) ?_
  refine sr_newZ hx hb (hts (.arrayClass .boolean) (by decide +kernel)) hK hP hD hS hA (n := 64) (by decide) (Nat.le_of_ble_eq_true rfl) (Nat.le_trans (Nat.add_le_add_left (Nat.le_refl 64) _) (Nat.le_of_ble_eq_true rfl)) dX1_init_7 (fun bI cbI H hK hP hD hS => ?_)
  refine W.widen (k := 1) (n := 64) (by omega) (by omega) ?_
  have hK : va_K (dC, dI) vwCl [(cbI, .boolean)] s := hK
  have hP : va_P (dC, dI) vwCl [(k0, .inr (1, [.int (nI 0), .int (nI 0), .null, .null, .null, .null, .int (nI 0), .long (lN 0)])), (bI, .inl (cbI, 64, .inl (sh_a (sh_in (fun _ => 0)))))] H := hP
  have hD : va_D A [(k0, .inr (1, [.int (nI 0), .int (nI 0), .null, .null, .null, .null, .int (nI 0), .long (lN 0)])), (bI, .inl (cbI, 64, .inl (sh_a (sh_in (fun _ => 0)))))] := hD
  refine va_putF (D := (dC, dI)) (ci := 1) (v := .ref bI) (ty := .array .boolean) (C := RX1) (T := TX1) (N := 8) hx hb hts wiX1_init tyX1 tyX1_ok nmX1 hown hK hP hD hS 0 rfl rfl 2 (by decide) (hts (.fieldLink RX1 7 "StrideHeapModel" "in" "[Z") (by decide +kernel)) (fun _ h9 => h9) rfl hin rfl (by decide +kernel) rfl rfl (Nat.le_of_ble_eq_true rfl) dX1_init_9 (fun H locs hP hD hS => ?_)
  have hP : va_P (dC, dI) vwCl [(k0, .inr (1, [.int (nI 0), .int (nI 0), .ref bI, .null, .null, .null, .int (nI 0), .long (lN 0)])), (bI, .inl (cbI, 64, .inl (sh_a (sh_in (fun _ => 0)))))] H := hP
  have hD : va_D A [(k0, .inr (1, [.int (nI 0), .int (nI 0), .ref bI, .null, .null, .null, .int (nI 0), .long (lN 0)])), (bI, .inl (cbI, 64, .inl (sh_a (sh_in (fun _ => 0)))))] := hD
  refine lv_aload_n hx hb dX1_init_12 rfl (lv_at hl 0 rfl) ?_
  refine lv_bipush (v := nI 64) hx hb dX1_init_13 (by decide) ?_
  refine sr_newI hx hb (hts (.arrayClass .int) (by decide +kernel)) hK hP hD hS hA (n := 64) (by decide) (Nat.le_of_ble_eq_true rfl) (Nat.le_trans (Nat.add_le_add_left (Nat.le_refl 64) _) (Nat.le_of_ble_eq_true rfl)) dX1_init_15 (fun bT cbT H hK hP hD hS => ?_)
  refine W.widen (k := 2) (n := 128) (by omega) (by omega) ?_
  have hK : va_K (dC, dI) vwCl [(cbI, .boolean), (cbT, .int)] s := hK
  have hP : va_P (dC, dI) vwCl [(k0, .inr (1, [.int (nI 0), .int (nI 0), .ref bI, .null, .null, .null, .int (nI 0), .long (lN 0)])), (bI, .inl (cbI, 64, .inl (sh_a (sh_in (fun _ => 0))))), (bT, .inl (cbT, 64, .inl (sh_a (fun _ => 0))))] H := hP
  have hD : va_D A [(k0, .inr (1, [.int (nI 0), .int (nI 0), .ref bI, .null, .null, .null, .int (nI 0), .long (lN 0)])), (bI, .inl (cbI, 64, .inl (sh_a (sh_in (fun _ => 0))))), (bT, .inl (cbT, 64, .inl (sh_a (fun _ => 0))))] := hD
  refine va_putF (D := (dC, dI)) (ci := 1) (v := .ref bT) (ty := .array .int) (C := RX1) (T := TX1) (N := 8) hx hb hts wiX1_init tyX1 tyX1_ok nmX1 hown hK hP hD hS 0 rfl rfl 3 (by decide) (hts (.fieldLink RX1 13 "StrideHeapModel" "tickets" "[I") (by decide +kernel)) (fun _ h9 => h9) rfl hin rfl (by decide +kernel) rfl rfl (Nat.le_of_ble_eq_true rfl) dX1_init_17 (fun H locs hP hD hS => ?_)
  have hP : va_P (dC, dI) vwCl [(k0, .inr (1, [.int (nI 0), .int (nI 0), .ref bI, .ref bT, .null, .null, .int (nI 0), .long (lN 0)])), (bI, .inl (cbI, 64, .inl (sh_a (sh_in (fun _ => 0))))), (bT, .inl (cbT, 64, .inl (sh_a (fun _ => 0))))] H := hP
  have hD : va_D A [(k0, .inr (1, [.int (nI 0), .int (nI 0), .ref bI, .ref bT, .null, .null, .int (nI 0), .long (lN 0)])), (bI, .inl (cbI, 64, .inl (sh_a (sh_in (fun _ => 0))))), (bT, .inl (cbT, 64, .inl (sh_a (fun _ => 0))))] := hD
  refine lv_aload_n hx hb dX1_init_20 rfl (lv_at hl 0 rfl) ?_
  refine lv_bipush (v := nI 64) hx hb dX1_init_21 (by decide) ?_
  refine sr_newJ hx hb (hts (.arrayClass .long) (by decide +kernel)) hK hP hD hS hA (n := 64) (by decide) (Nat.le_of_ble_eq_true rfl) (Nat.le_trans (Nat.add_le_add_left (Nat.le_refl 64) _) (Nat.le_of_ble_eq_true rfl)) dX1_init_23 (fun bP cbP H hK hP hD hS => ?_)
  refine W.widen (k := 3) (n := 192) (by omega) (by omega) ?_
  have hK : va_K (dC, dI) vwCl [(cbI, .boolean), (cbT, .int), (cbP, .long)] s := hK
  have hP : va_P (dC, dI) vwCl [(k0, .inr (1, [.int (nI 0), .int (nI 0), .ref bI, .ref bT, .null, .null, .int (nI 0), .long (lN 0)])), (bI, .inl (cbI, 64, .inl (sh_a (sh_in (fun _ => 0))))), (bT, .inl (cbT, 64, .inl (sh_a (fun _ => 0)))), (bP, .inl (cbP, 64, .inr (.inl (sl_a (fun _ => 0)))))] H := hP
  have hD : va_D A [(k0, .inr (1, [.int (nI 0), .int (nI 0), .ref bI, .ref bT, .null, .null, .int (nI 0), .long (lN 0)])), (bI, .inl (cbI, 64, .inl (sh_a (sh_in (fun _ => 0))))), (bT, .inl (cbT, 64, .inl (sh_a (fun _ => 0)))), (bP, .inl (cbP, 64, .inr (.inl (sl_a (fun _ => 0)))))] := hD
  refine va_putF (D := (dC, dI)) (ci := 1) (v := .ref bP) (ty := .array .long) (C := RX1) (T := TX1) (N := 8) hx hb hts wiX1_init tyX1 tyX1_ok nmX1 hown hK hP hD hS 0 rfl rfl 4 (by decide) (hts (.fieldLink RX1 17 "StrideHeapModel" "pass" "[J") (by decide +kernel)) (fun _ h9 => h9) rfl hin rfl (by decide +kernel) rfl rfl (Nat.le_of_ble_eq_true rfl) dX1_init_25 (fun H locs hP hD hS => ?_)
  have hP : va_P (dC, dI) vwCl [(k0, .inr (1, [.int (nI 0), .int (nI 0), .ref bI, .ref bT, .ref bP, .null, .int (nI 0), .long (lN 0)])), (bI, .inl (cbI, 64, .inl (sh_a (sh_in (fun _ => 0))))), (bT, .inl (cbT, 64, .inl (sh_a (fun _ => 0)))), (bP, .inl (cbP, 64, .inr (.inl (sl_a (fun _ => 0)))))] H := hP
  have hD : va_D A [(k0, .inr (1, [.int (nI 0), .int (nI 0), .ref bI, .ref bT, .ref bP, .null, .int (nI 0), .long (lN 0)])), (bI, .inl (cbI, 64, .inl (sh_a (sh_in (fun _ => 0))))), (bT, .inl (cbT, 64, .inl (sh_a (fun _ => 0)))), (bP, .inl (cbP, 64, .inr (.inl (sl_a (fun _ => 0)))))] := hD
  refine lv_aload_n hx hb dX1_init_28 rfl (lv_at hl 0 rfl) ?_
  refine lv_bipush (v := nI 64) hx hb dX1_init_29 (by decide) ?_
  refine sr_newI hx hb (hts (.arrayClass .int) (by decide +kernel)) hK hP hD hS hA (n := 64) (by decide) (Nat.le_of_ble_eq_true rfl) (Nat.le_trans (Nat.add_le_add_left (Nat.le_refl 64) _) (Nat.le_of_ble_eq_true rfl)) dX1_init_31 (fun bR cbR H hK hP hD hS => ?_)
  refine W.widen (k := 4) (n := 256) (by omega) (by omega) ?_
  obtain rfl := K_one hK 1 3 rfl rfl
  have hK : va_K (dC, dI) vwCl [(cbI, .boolean), (cbR, .int), (cbP, .long)] s := hK.sub [0, 1, 2] rfl
  have hP : va_P (dC, dI) vwCl [(k0, .inr (1, [.int (nI 0), .int (nI 0), .ref bI, .ref bT, .ref bP, .null, .int (nI 0), .long (lN 0)])), (bI, .inl (cbI, 64, .inl (sh_a (sh_in (fun _ => 0))))), (bT, .inl (cbR, 64, .inl (sh_a (fun _ => 0)))), (bP, .inl (cbP, 64, .inr (.inl (sl_a (fun _ => 0))))), (bR, .inl (cbR, 64, .inl (sh_a (fun _ => 0))))] H := hP
  have hD : va_D A [(k0, .inr (1, [.int (nI 0), .int (nI 0), .ref bI, .ref bT, .ref bP, .null, .int (nI 0), .long (lN 0)])), (bI, .inl (cbI, 64, .inl (sh_a (sh_in (fun _ => 0))))), (bT, .inl (cbR, 64, .inl (sh_a (fun _ => 0)))), (bP, .inl (cbP, 64, .inr (.inl (sl_a (fun _ => 0))))), (bR, .inl (cbR, 64, .inl (sh_a (fun _ => 0))))] := hD
  refine va_putF (D := (dC, dI)) (ci := 1) (v := .ref bR) (ty := .array .int) (C := RX1) (T := TX1) (N := 8) hx hb hts wiX1_init tyX1 tyX1_ok nmX1 hown hK hP hD hS 0 rfl rfl 5 (by decide) (hts (.fieldLink RX1 21 "StrideHeapModel" "ran" "[I") (by decide +kernel)) (fun _ h9 => h9) rfl hin rfl (by decide +kernel) rfl rfl (Nat.le_of_ble_eq_true rfl) dX1_init_33 (fun H locs hP hD hS => ?_)
  have hP : va_P (dC, dI) vwCl [(k0, .inr (1, [.int (nI 0), .int (nI 0), .ref bI, .ref bT, .ref bP, .ref bR, .int (nI 0), .long (lN 0)])), (bI, .inl (cbI, 64, .inl (sh_a (sh_in (fun _ => 0))))), (bT, .inl (cbR, 64, .inl (sh_a (fun _ => 0)))), (bP, .inl (cbP, 64, .inr (.inl (sl_a (fun _ => 0))))), (bR, .inl (cbR, 64, .inl (sh_a (fun _ => 0))))] H := hP
  have hD : va_D A [(k0, .inr (1, [.int (nI 0), .int (nI 0), .ref bI, .ref bT, .ref bP, .ref bR, .int (nI 0), .long (lN 0)])), (bI, .inl (cbI, 64, .inl (sh_a (sh_in (fun _ => 0))))), (bT, .inl (cbR, 64, .inl (sh_a (fun _ => 0)))), (bP, .inl (cbP, 64, .inr (.inl (sl_a (fun _ => 0))))), (bR, .inl (cbR, 64, .inl (sh_a (fun _ => 0))))] := hD
  refine lv_aload_n hx hb dX1_init_36 rfl (lv_at hl 0 rfl) ?_
  refine lv_iload_n hx hb dX1_init_37 rfl (lv_at hl 1 rfl) ?_
  refine lv_bipush (v := nI 63) hx hb dX1_init_38 (by decide) ?_
  refine lv_iand hx hb dX1_init_40 ?_
  rw [fm_and]
  refine lv_iconst (v := nI 1) hx hb dX1_init_41 (by decide) ?_
  refine sr_iadd hx hb dX1_init_42 ?_
  rw [Nat.add_comm (sh_fm x 64) 1]
  refine va_putF (D := (dC, dI)) (ci := 1) (v := .int (nI (1 + sh_fm x 64))) (ty := .int) (C := RX1) (T := TX1) (N := 8) hx hb hts wiX1_init tyX1 tyX1_ok nmX1 hown hK hP hD hS 0 rfl rfl 0 (by decide) (hts (.fieldLink RX1 24 "StrideHeapModel" "cap" "I") (by decide +kernel)) (fun _ h9 => h9) rfl hin rfl (by decide +kernel) rfl rfl (Nat.le_of_ble_eq_true rfl) dX1_init_43 (fun H locs hP hD hS => ?_)
  have hP : va_P (dC, dI) vwCl [(k0, .inr (1, [.int (nI (1 + sh_fm x 64)), .int (nI 0), .ref bI, .ref bT, .ref bP, .ref bR, .int (nI 0), .long (lN 0)])), (bI, .inl (cbI, 64, .inl (sh_a (sh_in (fun _ => 0))))), (bT, .inl (cbR, 64, .inl (sh_a (fun _ => 0)))), (bP, .inl (cbP, 64, .inr (.inl (sl_a (fun _ => 0))))), (bR, .inl (cbR, 64, .inl (sh_a (fun _ => 0))))] H := hP
  have hD : va_D A [(k0, .inr (1, [.int (nI (1 + sh_fm x 64)), .int (nI 0), .ref bI, .ref bT, .ref bP, .ref bR, .int (nI 0), .long (lN 0)])), (bI, .inl (cbI, 64, .inl (sh_a (sh_in (fun _ => 0))))), (bT, .inl (cbR, 64, .inl (sh_a (fun _ => 0)))), (bP, .inl (cbP, 64, .inr (.inl (sl_a (fun _ => 0))))), (bR, .inl (cbR, 64, .inl (sh_a (fun _ => 0))))] := hD
  obtain ⟨f1, f2, f3, f4⟩ := fm_facts y (d := 32767) (by decide) (by decide)
  refine lv_iload_n hx hb dX1_init_46 rfl (lv_at hl 2 rfl) ?_
  refine lv_sipush (v := nI 32767) hx hb dX1_init_47 (by decide) ?_
  refine lv_irem hx hb dX1_init_50 (by decide) ?_
  refine lv_topi (fun q eq => ?_)
  rw [← eq] at f1 f2 f3 f4
  refine lv_istore_n (lv' := [(3, .int q), (0, .ref k0), (1, .int x), (2, .int y)]) hx hb dX1_init_51 rfl hl (by decide) rfl (fun ls hl => ?_)
  refine lv_aload_n hx hb dX1_init_52 rfl (lv_at hl 1 rfl) ?_
  refine lv_iload_n hx hb dX1_init_53 rfl (lv_at hl 0 rfl) ?_
  refine lv_if_ge (tgt := 65) hx hb dX1_init_54 (by decide) (fun c1 => ?_) (fun c1 => ?_)
  · skip
    refine lv_iload_n hx hb dX1_init_65 rfl (lv_at hl 0 rfl) ?_
    refine lv_topi (fun yy eyy => ?_)
    have eyy : yy = nI (sh_fm y 32767) := by rw [eyy]; exact f3 (fun z => Int32.not_lt.mpr c1 z)
    subst eyy
    refine lv_iconst (v := nI 2) hx hb dX1_init_66 (by decide) ?_
    refine sr_iadd hx hb dX1_init_67 ?_
    rw [Nat.add_comm (sh_fm y 32767) 2]
    refine va_putF (D := (dC, dI)) (ci := 1) (v := .int (nI (2 + sh_fm y 32767))) (ty := .int) (C := RX1) (T := TX1) (N := 8) hx hb hts wiX1_init tyX1 tyX1_ok nmX1 hown hK hP hD hS 0 rfl rfl 1 (by decide) (hts (.fieldLink RX1 28 "StrideHeapModel" "big" "I") (by decide +kernel)) (fun _ h9 => h9) rfl hin rfl (by decide +kernel) rfl rfl (Nat.le_of_ble_eq_true rfl) dX1_init_68 (fun H locs hP hD hS => ?_)
    have hP : va_P (dC, dI) vwCl [(k0, .inr (1, [.int (nI (1 + sh_fm x 64)), .int (nI (2 + sh_fm y 32767)), .ref bI, .ref bT, .ref bP, .ref bR, .int (nI 0), .long (lN 0)])), (bI, .inl (cbI, 64, .inl (sh_a (sh_in (fun _ => 0))))), (bT, .inl (cbR, 64, .inl (sh_a (fun _ => 0)))), (bP, .inl (cbP, 64, .inr (.inl (sl_a (fun _ => 0))))), (bR, .inl (cbR, 64, .inl (sh_a (fun _ => 0))))] H := hP
    have hD : va_D A [(k0, .inr (1, [.int (nI (1 + sh_fm x 64)), .int (nI (2 + sh_fm y 32767)), .ref bI, .ref bT, .ref bP, .ref bR, .int (nI 0), .long (lN 0)])), (bI, .inl (cbI, 64, .inl (sh_a (sh_in (fun _ => 0))))), (bT, .inl (cbR, 64, .inl (sh_a (fun _ => 0)))), (bP, .inl (cbP, 64, .inr (.inl (sl_a (fun _ => 0))))), (bR, .inl (cbR, 64, .inl (sh_a (fun _ => 0))))] := hD
    exact W.vret hx hb hr (fun t ht hW => ⟨⟨(), rfl, trivial, bI, bT, bP, bR, cbI, cbR, cbP, by rw [ht]; exact hP, va_K.moved hW.alike hK, hD⟩, hS.F ht⟩) hS.2.2 dX1_init_71
  · skip
    refine lv_iload_n hx hb dX1_init_57 rfl (lv_at hl 0 rfl) ?_
    refine lv_sipush (v := nI 32767) hx hb dX1_init_58 (by decide) ?_
    refine lv_iadd hx hb dX1_init_61 ?_
    refine lv_topi (fun yy eyy => ?_)
    have eyy : yy = nI (sh_fm y 32767) := by rw [eyy]; exact f4 (Int32.not_le.mp c1)
    subst eyy
    refine lv_goto (tgt := 66) hx hb dX1_init_62 (by decide) ?_
    refine lv_iconst (v := nI 2) hx hb dX1_init_66 (by decide) ?_
    refine sr_iadd hx hb dX1_init_67 ?_
    rw [Nat.add_comm (sh_fm y 32767) 2]
    refine va_putF (D := (dC, dI)) (ci := 1) (v := .int (nI (2 + sh_fm y 32767))) (ty := .int) (C := RX1) (T := TX1) (N := 8) hx hb hts wiX1_init tyX1 tyX1_ok nmX1 hown hK hP hD hS 0 rfl rfl 1 (by decide) (hts (.fieldLink RX1 28 "StrideHeapModel" "big" "I") (by decide +kernel)) (fun _ h9 => h9) rfl hin rfl (by decide +kernel) rfl rfl (Nat.le_of_ble_eq_true rfl) dX1_init_68 (fun H locs hP hD hS => ?_)
    have hP : va_P (dC, dI) vwCl [(k0, .inr (1, [.int (nI (1 + sh_fm x 64)), .int (nI (2 + sh_fm y 32767)), .ref bI, .ref bT, .ref bP, .ref bR, .int (nI 0), .long (lN 0)])), (bI, .inl (cbI, 64, .inl (sh_a (sh_in (fun _ => 0))))), (bT, .inl (cbR, 64, .inl (sh_a (fun _ => 0)))), (bP, .inl (cbP, 64, .inr (.inl (sl_a (fun _ => 0))))), (bR, .inl (cbR, 64, .inl (sh_a (fun _ => 0))))] H := hP
    have hD : va_D A [(k0, .inr (1, [.int (nI (1 + sh_fm x 64)), .int (nI (2 + sh_fm y 32767)), .ref bI, .ref bT, .ref bP, .ref bR, .int (nI 0), .long (lN 0)])), (bI, .inl (cbI, 64, .inl (sh_a (sh_in (fun _ => 0))))), (bT, .inl (cbR, 64, .inl (sh_a (fun _ => 0)))), (bP, .inl (cbP, 64, .inr (.inl (sl_a (fun _ => 0))))), (bR, .inl (cbR, 64, .inl (sh_a (fun _ => 0))))] := hD
    exact W.vret hx hb hr (fun t ht hW => ⟨⟨(), rfl, trivial, bI, bT, bP, bR, cbI, cbR, cbP, by rw [ht]; exact hP, va_K.moved hW.alike hK, hD⟩, hS.F ht⟩) hS.2.2 dX1_init_71
end
section
-- ===== end of PART A; then your names; then what follows =====
/-! THE CLAIM OUT OF ONE WALK OF THE LAW'S BODY. Your part is whole_start (and what it stands on); all else here is the same for every law, but numbers. -/
def R_law : String := "StrideHeapLaw"
def lw_P (b : Addr) (xs : List Int32) (args : Array Value) (s : State) : Prop := args = #[.ref b] ∧ s.IntsAt b xs ∧ xs.length ≤ 1538 ∧ (Jvm.Cond.and given_1 narrow_1).before args s = true
def lw_Q (_ : Array Value) (s : State) (o : Outcome) (t : State) : Prop := o = .returned (some (.int 1)) ∧ Framed s o t [] 600000 7302250
def lw_Z (below : List Frame) (a : Array Value) (s : State) : State → Prop := fun t => ∃ o, t.status = .running ∧ Ended t below o ∧ lw_Q a s o t
/-- the law's own end, with 1 on the stack, nothing written that was there before, its room as the claim has it -/
theorem lw_ret {p : Program} {l : Launch} {e : Env} {s : State} {m : MethodId} {below : List Frame} {meth : Method} {c : Code} {b : Nat} (hx : p.tables.exec = Jvm.exec) (hb : c.code = code) (hr : meth.sig.returnType = ret) (hlocks : meth.locks = false) {pc : Nat} {H : Heap} {ls : Array Slot} (hdg : decode code pc = .ok (.ireturn, 1)) : W p l e room_1 s m #[Value.ref b] below meth c H [] 600000 7302250 (lw_Z below #[Value.ref b] s) (F0 m pc ls [.int 1]) := by
  intro T hT X
  obtain ⟨fs, hret, hrun, hended, hW, hframe⟩ := X.leave (v := some (.int 1)) (hlocks := hlocks) (fun h => by rw [hr] at h; cases h)
  have hmeth' : T.vm.method? m = some meth := X.method'
  refine ⟨T.setFrames fs, ?_, .returned (some (.int 1)), hrun, hended, rfl, ⟨_, rfl⟩, hW, hframe⟩
  jvm_step X.here [X.here.top, hx, hb, hdg, hmeth', hr, ret, narrow_b1]
  (try refine ⟨rfl, ?_⟩); (try refine ⟨rfl, ?_⟩)
  first | (intro acts; rw [hret _ acts rfl rfl rfl]) | rw [hret _ _ rfl rfl rfl]
  exact Steps.refl _
/-- what holds at the law's entry: the machine, the code, the tables' words (any of lw_tbl by 'hts w (by decide +kernel)'), the script of L ints xs at the cell b, what the Statement gives of the start (any of its parts by flat_of_before) -/
def lw_At (p : Program) (s : State) (m : MethodId) (meth : Method) (c : Code) (b L : Nat) (xs : Nat → Int32) : Prop :=
  p.tables.exec = Jvm.exec ∧ c.code = code ∧ meth.sig.returnType = ret ∧ c.maxLocals = 4 ∧ s.vm.findClass R_law = some m.cls ∧ (∀ w ∈ lw_tbl, w.before #[Value.ref b] s = true) ∧ va_X b L xs s s.heap ∧ b < s.heap.size ∧ meth.locks = false ∧ (Jvm.Cond.and given_1 narrow_1).before #[Value.ref b] s = true
end
section
-- THE LAW: its cell(), its invariant, its cases
theorem lw_gt {L i : Nat} (hL : L < 2 ^ 30) (hi : i < 2 ^ 30) : (nI L - nI 3 < nI i) ↔ L < i + 3 := by
  rw [Int32.lt_iff_toInt_lt, pk_sub_toInt hL (by decide), nI_toInt (by omega)]
  omega
section LR
variable {p : Program} {l : Launch} {e : Env} {R : Room} {s : State} {m : MethodId} {args : Array Value} {below : List Frame} {meth : Method} {c : Code} {H : Heap} {locs : List Loc} {cells slots : Nat} {Q : State → Prop} {cc : ByteArray} {pc : Nat} {ls : Array Slot} {rest : List Value} {A : Nat → Prop} {H0 : Heap}
theorem sr_sld (hx : p.tables.exec = Jvm.exec) (hb : c.code = cc) {b L : Nat} {xs : Nat → Int32} (hX : va_X b L xs s H0) (hbl : b < H0.size) (hbA : ¬ A b) (hS : va_S A H0 H locs) {k : Nat} (hk : k < L) (hL : L < 2 ^ 31) (hdg : decode cc pc = .ok (.iaload, 1))
    (kk : W p l e R s m args below meth c H locs cells slots Q (F0 m (pc + 1) ls (.int (xs k) :: rest))) : W p l e R s m args below meth c H locs cells slots Q (F0 m pc ls (.int (nI k) :: .ref b :: rest)) := by
  refine va_sld hx hb hX hbl hbA hS (vp_in_nI hk hL) hdg ?_
  rw [nI_clamp (Nat.lt_trans hk hL)]
  exact kk
end LR
set_option maxHeartbeats 4000000 in
set_option maxRecDepth 100000 in
/-- cell(script, k) -/
theorem kL_cell (l : Launch) (sz b L : Nat) (xs : Nat → Int32) (k : Nat) (hk : k < 2 ^ 31) (hL : L < 2 ^ 31) : Met l yL_cell wsL_cell ({ frames := 0, cells := 0, slots := 0, locals := 0 }) (va_Pc [.ref b, .int (nI k)] (fun U => U.heap.size = sz ∧ b < sz ∧ va_X b L xs U U.heap)) (va_Qi (fun (r : Int32) (_ : Unit) => r = if k < L then xs k else nI 0) (fun _ _ => True) (va_A [] sz)) 0 0 (va_A [] sz) := by
  refine Met.ofW (cc := cL_cell) (maxL := 2) (ret := (some .int)) (by decide) rfl ?_
  intro p e s m args below meth c s₁ B hml hv
  obtain ⟨rfl, hsz, hbl, hX⟩ := hv
  have hx := B.exec
  have hb := B.bytes
  have hr := B.returns
  have hlocks := B.notSynchronized
  subst hsz
  have hS : va_S (va_A [] s.heap.size) s.heap s.heap [] := va_S.rf
  have hbA : ¬ va_A [] s.heap.size b := fun h => by
    rcases h with ⟨k, e, h⟩ | h
    · simp at h
    · omega
  have hl := lv_entry ([.ref b, .int (nI k)]) (n := 2) (Nat.le_of_ble_eq_true rfl)
  rw [lg_entry_eq]
  generalize (lg_sl ([.ref b, .int (nI k)]) ++ List.replicate (2 - (lg_sl ([.ref b, .int (nI k)])).length) Slot.unset).toArray = ls at hl ⊢
  have hl : lv_has ls 2 [(0, .ref b), (1, .int (nI k))] := hl
  refine lv_iload_n hx hb dL_cell_0 rfl (lv_at hl 1 rfl) ?_
  refine lv_aload_n hx hb dL_cell_1 rfl (lv_at hl 0 rfl) ?_
  refine va_slen hx hb hX hbl hbA hS dL_cell_2 ?_
  refine sr_cmp_ge (tgt := 12) (x := k) (y := L) hx hb hk hL dL_cell_3 (by decide) (fun c1 => ?_) (fun c1 => ?_)
  · refine lv_iconst (v := nI 0) hx hb dL_cell_12 (by decide) ?_
    exact W.iret (v := nI 0) hx hb hr (fun t ht hW => ⟨⟨nI 0, (), rfl, by rw [if_neg (by omega)], trivial⟩, hS.F ht⟩) hS.2.2 dL_cell_13
  · refine lv_aload_n hx hb dL_cell_6 rfl (lv_at hl 0 rfl) ?_
    refine lv_iload_n hx hb dL_cell_7 rfl (lv_at hl 1 rfl) ?_
    refine sr_sld hx hb hX hbl hbA hS c1 hL dL_cell_8 ?_
    refine lv_goto (tgt := 13) hx hb dL_cell_9 (by decide) ?_
    exact W.iret (v := xs k) hx hb hr (fun t ht hW => ⟨⟨xs k, (), rfl, by rw [if_pos c1], trivial⟩, hS.F ht⟩) hS.2.2 dL_cell_13
/-- what holds at the head of the law's loop: class and reference are in one state -/
def lw_inv (s : State) (dC : Nat → ClassId) (dI : Nat → Nat → Nat) (cA cZ cJ : ClassId) (b i : Nat) (H : Heap) (locs : List Loc) (ls : Array Slot) : Prop := ∃ (h0 aT aS aP aR aL k0 bI bT bP bR N big n lp : Nat) (ft fs fp fr fl fk : Nat → Nat), sh_V N big n lp ft fs fp fl ∧ sh_M N big n lp ft fk fp ∧ va_P (dC, dI) vwCl (sw h0 aT aS aP aR aL cA N big n lp ft fs fp fr fl ++ mw k0 bI bT bP bR cA cZ cJ N big n lp ft fk fp fr) H ∧ va_D (fun q : Nat => s.heap.size ≤ q) (sw h0 aT aS aP aR aL cA N big n lp ft fs fp fr fl ++ mw k0 bI bT bP bR cA cZ cJ N big n lp ft fk fp fr) ∧ va_S (fun q : Nat => s.heap.size ≤ q) s.heap H locs ∧ lv_has ls 4 [(0, .ref b), (1, .ref h0), (2, .ref k0), (3, .int (nI i))]
set_option maxHeartbeats 4000000 in
set_option maxRecDepth 100000 in
/-- case 0: join -/
theorem lw_c0 {p : Program} {l : Launch} {e : Env} {s : State} {m : MethodId} {below : List Frame} {meth : Method} {c : Code} {Q : State → Prop} {dC : Nat → ClassId} {dI : Nat → Nat → Nat} {cA cZ cJ : ClassId} {b L i : Nat} {xs : Nat → Int32} {H : Heap} {locs : List Loc} {ls : Array Slot} (hL : L ≤ 1538) (C0 : lw_At p s m meth c b L xs) (hK : va_K (dC, dI) vwCl (ty3 cA cZ cJ) s) (hi : i + 3 ≤ L) (hI : lw_inv s dC dI cA cZ cJ b i H locs ls)
    (kk : ∀ (H : Heap) (locs : List Loc) (ls : Array Slot), lw_inv s dC dI cA cZ cJ b i H locs ls → W p l e room_1 s m #[Value.ref b] below meth c H locs 11 593 Q (F0 m 355 ls [])) : W p l e room_1 s m #[Value.ref b] below meth c H locs 11 593 Q (F0 m 112 ls []) := by
  obtain ⟨hx, hb, hr, hml, hown, hts, hX, hbl, hlocks, hgv⟩ := id C0
  have hts := fun w h => hts w (wsL_law_in w h)
  have hown : s.vm.findClass RL = some m.cls := hown
  have hA : ∀ q : Nat, s.heap.size ≤ q → (fun q : Nat => s.heap.size ≤ q) q := fun _ h => h
  have hbA : ¬ (fun q : Nat => s.heap.size ≤ q) b := Nat.not_le.mpr hbl
  obtain ⟨h0, aT, aS, aP, aR, aL, k0, bI, bT, bP, bR, N, big, n, lp, ft, fs, fp, fr, fl, fk, hV, hM, hP, hD, hS, hl⟩ := hI
  have hP := sj_Ps hP
  have hD := sj_Ds hD
  refine lv_aload_n hx hb dL_law_112 rfl (lv_at hl 1 rfl) ?_
  refine lv_aload_n hx hb dL_law_113 rfl (lv_at hl 0 rfl) ?_
  refine lv_iload_n hx hb dL_law_114 rfl (lv_at hl 3 rfl) ?_
  refine lv_iconst (v := nI 1) hx hb dL_law_115 (by decide) ?_
  refine sr_iadd hx hb dL_law_116 ?_
  refine sr_sld hx hb hX hbl hbA hS (k := i + 1) (by omega) (by omega) dL_law_117 ?_
  refine lv_aload_n hx hb dL_law_118 rfl (lv_at hl 0 rfl) ?_
  refine lv_iload_n hx hb dL_law_119 rfl (lv_at hl 3 rfl) ?_
  refine lv_iconst (v := nI 2) hx hb dL_law_120 (by decide) ?_
  refine sr_iadd hx hb dL_law_121 ?_
  refine sr_sld hx hb hX hbl hbA hS (k := i + 2) (by omega) (by omega) dL_law_122 ?_
  refine sc_i (wr := mw k0 bI bT bP bR cA cZ cJ N big n lp ft fk fp fr) (wc := sw h0 aT aS aP aR aL cA N big n lp ft fs fp fr fl) (As := [.int (xs (i + 1)), .int (xs (i + 2))]) (rest := []) ⟨hx, hb, hml, hown, hts⟩ (kX0_join l dC dI h0 aT aS aP aR aL cA cZ cJ H.size N big n lp ft fs fp fr fl hV (xs (i + 1)) (xs (i + 2))) (cwV 2 hts gL_law_X0_join rfl rfl rfl (by decide +kernel) ⟨Nat.le_of_ble_eq_true rfl, Nat.le_of_ble_eq_true rfl⟩) hK hP hD hS hA (va_recv hK (sj_Pc hP) (ci := 0) (q0 := 0) rfl rfl) rfl hl.1 rfl (Nat.le_of_ble_eq_true rfl) dL_law_123 ⟨Nat.le_of_ble_eq_true rfl, Nat.le_of_ble_eq_true rfl⟩ (fun r1 u1 H locs hc hP hD hS => ?_)
  obtain ⟨n1, ft1, fs1, fp1, fl1⟩ := u1
  dsimp only at hc hP hD
  have hP : va_P (dC, dI) vwCl (sw h0 aT aS aP aR aL cA N big n1 lp ft1 fs1 fp1 fr fl1 ++ mw k0 bI bT bP bR cA cZ cJ N big n lp ft fk fp fr) H := sj_Ps hP
  have hD : va_D (fun q : Nat => s.heap.size ≤ q) (sw h0 aT aS aP aR aL cA N big n1 lp ft1 fs1 fp1 fr fl1 ++ mw k0 bI bT bP bR cA cZ cJ N big n lp ft fk fp fr) := sj_Ds hD
  refine lv_aload_n hx hb dL_law_126 rfl (lv_at hl 2 rfl) ?_
  refine lv_aload_n hx hb dL_law_127 rfl (lv_at hl 0 rfl) ?_
  refine lv_iload_n hx hb dL_law_128 rfl (lv_at hl 3 rfl) ?_
  refine lv_iconst (v := nI 1) hx hb dL_law_129 (by decide) ?_
  refine sr_iadd hx hb dL_law_130 ?_
  refine sr_sld hx hb hX hbl hbA hS (k := i + 1) (by omega) (by omega) dL_law_131 ?_
  refine lv_aload_n hx hb dL_law_132 rfl (lv_at hl 0 rfl) ?_
  refine lv_iload_n hx hb dL_law_133 rfl (lv_at hl 3 rfl) ?_
  refine lv_iconst (v := nI 2) hx hb dL_law_134 (by decide) ?_
  refine sr_iadd hx hb dL_law_135 ?_
  refine sr_sld hx hb hX hbl hbA hS (k := i + 2) (by omega) (by omega) dL_law_136 ?_
  refine sc_i (wr := sw h0 aT aS aP aR aL cA N big n1 lp ft1 fs1 fp1 fr fl1) (wc := mw k0 bI bT bP bR cA cZ cJ N big n lp ft fk fp fr) (As := [.int (xs (i + 1)), .int (xs (i + 2))]) (rest := [.int r1]) ⟨hx, hb, hml, hown, hts⟩ (kX1_join l dC dI k0 bI bT bP bR cA cZ cJ H.size N big n lp ft fk fp fr hM (xs (i + 1)) (xs (i + 2))) (cwV 2 hts gL_law_X1_join rfl rfl rfl (by decide +kernel) ⟨Nat.le_of_ble_eq_true rfl, Nat.le_of_ble_eq_true rfl⟩) hK hP hD hS hA (va_recv hK (sj_Pc hP) (ci := 1) (q0 := 0) rfl rfl) rfl hl.1 rfl (Nat.le_of_ble_eq_true rfl) dL_law_137 ⟨Nat.le_of_ble_eq_true rfl, Nat.le_of_ble_eq_true rfl⟩ (fun r2 u2 H locs hm hP hD hS => ?_)
  obtain ⟨n2, ft2, fk2, fp2⟩ := u2
  dsimp only at hm hP hD
  obtain ⟨e1, hc⟩ := hc
  obtain ⟨e2, hm⟩ := hm
  rcases hc with ⟨hn1, hu1⟩ | ⟨j, k, hs1, -, -, -, -, a1, a2, a3, hV1⟩
  · rcases hm with ⟨hn2, hu2⟩ | ⟨j2, k2, hs2, -⟩
    · cases hu1
      cases hu2
      exact lv_icmp_eq (tgt := 355) hx hb dL_law_140 (by decide) (fun _ => kk _ _ _ ⟨h0, aT, aS, aP, aR, aL, k0, bI, bT, bP, bR, N, big, n, lp, ft, fs, fp, fr, fl, fk, hV, hM, hP, hD, hS, hl⟩) (fun z => absurd (by rw [e1, e2]) z)
    · rw [hn1] at hs2
      cases hs2
  · rcases hm with ⟨hn2, hu2⟩ | ⟨j2, k2, hs2, b1, b2, b3, hM1⟩
    · rw [hn2] at hs1
      cases hs1
    · rw [hs1] at hs2
      cases hs2
      subst a1 a2 a3 b1 b2 b3
      exact lv_icmp_eq (tgt := 355) hx hb dL_law_140 (by decide) (fun _ => kk _ _ _ ⟨h0, aT, aS, aP, aR, aL, k0, bI, bT, bP, bR, N, big, _, lp, _, fs1, _, fr, fl1, fk2, hV1, hM1, hP, hD, hS, hl⟩) (fun z => absurd (by rw [e1, e2]) z)
set_option maxHeartbeats 4000000 in
set_option maxRecDepth 100000 in
/-- case 1: leave -/
theorem lw_c1 {p : Program} {l : Launch} {e : Env} {s : State} {m : MethodId} {below : List Frame} {meth : Method} {c : Code} {Q : State → Prop} {dC : Nat → ClassId} {dI : Nat → Nat → Nat} {cA cZ cJ : ClassId} {b L i : Nat} {xs : Nat → Int32} {H : Heap} {locs : List Loc} {ls : Array Slot} (hL : L ≤ 1538) (C0 : lw_At p s m meth c b L xs) (hK : va_K (dC, dI) vwCl (ty3 cA cZ cJ) s) (hi : i + 3 ≤ L) (hI : lw_inv s dC dI cA cZ cJ b i H locs ls)
    (kk : ∀ (H : Heap) (locs : List Loc) (ls : Array Slot), lw_inv s dC dI cA cZ cJ b i H locs ls → W p l e room_1 s m #[Value.ref b] below meth c H locs 11 593 Q (F0 m 355 ls [])) : W p l e room_1 s m #[Value.ref b] below meth c H locs 11 593 Q (F0 m 145 ls []) := by
  obtain ⟨hx, hb, hr, hml, hown, hts, hX, hbl, hlocks, hgv⟩ := id C0
  have hts := fun w h => hts w (wsL_law_in w h)
  have hown : s.vm.findClass RL = some m.cls := hown
  have hA : ∀ q : Nat, s.heap.size ≤ q → (fun q : Nat => s.heap.size ≤ q) q := fun _ h => h
  have hbA : ¬ (fun q : Nat => s.heap.size ≤ q) b := Nat.not_le.mpr hbl
  obtain ⟨h0, aT, aS, aP, aR, aL, k0, bI, bT, bP, bR, N, big, n, lp, ft, fs, fp, fr, fl, fk, hV, hM, hP, hD, hS, hl⟩ := hI
  have hP := sj_Ps hP
  have hD := sj_Ds hD
  refine lv_aload_n hx hb dL_law_145 rfl (lv_at hl 1 rfl) ?_
  refine lv_aload_n hx hb dL_law_146 rfl (lv_at hl 0 rfl) ?_
  refine lv_iload_n hx hb dL_law_147 rfl (lv_at hl 3 rfl) ?_
  refine lv_iconst (v := nI 1) hx hb dL_law_148 (by decide) ?_
  refine sr_iadd hx hb dL_law_149 ?_
  refine sr_sld hx hb hX hbl hbA hS (k := i + 1) (by omega) (by omega) dL_law_150 ?_
  refine sc_i (wr := mw k0 bI bT bP bR cA cZ cJ N big n lp ft fk fp fr) (wc := sw h0 aT aS aP aR aL cA N big n lp ft fs fp fr fl) (As := [.int (xs (i + 1))]) (rest := []) ⟨hx, hb, hml, hown, hts⟩ (kX0_leave l dC dI h0 aT aS aP aR aL cA cZ cJ H.size N big n lp ft fs fp fr fl hV (xs (i + 1))) (cwV 1 hts gL_law_X0_leave rfl rfl rfl (by decide +kernel) ⟨Nat.le_of_ble_eq_true rfl, Nat.le_of_ble_eq_true rfl⟩) hK hP hD hS hA (va_recv hK (sj_Pc hP) (ci := 0) (q0 := 0) rfl rfl) rfl hl.1 rfl (Nat.le_of_ble_eq_true rfl) dL_law_151 ⟨Nat.le_of_ble_eq_true rfl, Nat.le_of_ble_eq_true rfl⟩ (fun r1 u1 H locs hc hP hD hS => ?_)
  obtain ⟨n1, lp1, ft1, fl1⟩ := u1
  dsimp only at hc hP hD
  have hP : va_P (dC, dI) vwCl (sw h0 aT aS aP aR aL cA N big n1 lp1 ft1 fs fp fr fl1 ++ mw k0 bI bT bP bR cA cZ cJ N big n lp ft fk fp fr) H := sj_Ps hP
  have hD : va_D (fun q : Nat => s.heap.size ≤ q) (sw h0 aT aS aP aR aL cA N big n1 lp1 ft1 fs fp fr fl1 ++ mw k0 bI bT bP bR cA cZ cJ N big n lp ft fk fp fr) := sj_Ds hD
  refine lv_aload_n hx hb dL_law_154 rfl (lv_at hl 2 rfl) ?_
  refine lv_aload_n hx hb dL_law_155 rfl (lv_at hl 0 rfl) ?_
  refine lv_iload_n hx hb dL_law_156 rfl (lv_at hl 3 rfl) ?_
  refine lv_iconst (v := nI 1) hx hb dL_law_157 (by decide) ?_
  refine sr_iadd hx hb dL_law_158 ?_
  refine sr_sld hx hb hX hbl hbA hS (k := i + 1) (by omega) (by omega) dL_law_159 ?_
  refine sc_i (wr := sw h0 aT aS aP aR aL cA N big n1 lp1 ft1 fs fp fr fl1) (wc := mw k0 bI bT bP bR cA cZ cJ N big n lp ft fk fp fr) (As := [.int (xs (i + 1))]) (rest := [.int r1]) ⟨hx, hb, hml, hown, hts⟩ (kX1_leave l dC dI k0 bI bT bP bR cA cZ cJ H.size N big n lp ft fk fp fr hM (xs (i + 1))) (cwV 1 hts gL_law_X1_leave rfl rfl rfl (by decide +kernel) ⟨Nat.le_of_ble_eq_true rfl, Nat.le_of_ble_eq_true rfl⟩) hK hP hD hS hA (va_recv hK (sj_Pc hP) (ci := 1) (q0 := 0) rfl rfl) rfl hl.1 rfl (Nat.le_of_ble_eq_true rfl) dL_law_160 ⟨Nat.le_of_ble_eq_true rfl, Nat.le_of_ble_eq_true rfl⟩ (fun r2 u2 H locs hm hP hD hS => ?_)
  obtain ⟨n2, lp2, ft2⟩ := u2
  dsimp only at hm hP hD
  obtain ⟨e1, hc⟩ := hc
  obtain ⟨e2, hm⟩ := hm
  rcases hc with ⟨hn1, hu1⟩ | ⟨j, hs1, -, -, a1, a2, a3, hV1⟩
  · rcases hm with ⟨hn2, hu2⟩ | ⟨j2, hs2, -⟩
    · cases hu1
      cases hu2
      exact lv_icmp_eq (tgt := 355) hx hb dL_law_163 (by decide) (fun _ => kk _ _ _ ⟨h0, aT, aS, aP, aR, aL, k0, bI, bT, bP, bR, N, big, n, lp, ft, fs, fp, fr, fl, fk, hV, hM, hP, hD, hS, hl⟩) (fun z => absurd (by rw [e1, e2]) z)
    · rw [hn1] at hs2
      cases hs2
  · rcases hm with ⟨hn2, hu2⟩ | ⟨j2, hs2, b1, b2, b3, hM1⟩
    · rw [hn2] at hs1
      cases hs1
    · rw [hs1] at hs2
      cases hs2
      subst a1 a2 a3 b1 b2 b3
      exact lv_icmp_eq (tgt := 355) hx hb dL_law_163 (by decide) (fun _ => kk _ _ _ ⟨h0, aT, aS, aP, aR, aL, k0, bI, bT, bP, bR, N, big, _, _, _, fs, fp, fr, fl1, fk, hV1, hM1, hP, hD, hS, hl⟩) (fun z => absurd (by rw [e1, e2]) z)
set_option maxHeartbeats 4000000 in
set_option maxRecDepth 100000 in
/-- case 2: next -/
theorem lw_c2 {p : Program} {l : Launch} {e : Env} {s : State} {m : MethodId} {below : List Frame} {meth : Method} {c : Code} {Q : State → Prop} {dC : Nat → ClassId} {dI : Nat → Nat → Nat} {cA cZ cJ : ClassId} {b L i : Nat} {xs : Nat → Int32} {H : Heap} {locs : List Loc} {ls : Array Slot} (hL : L ≤ 1538) (C0 : lw_At p s m meth c b L xs) (hK : va_K (dC, dI) vwCl (ty3 cA cZ cJ) s) (hi : i + 3 ≤ L) (hI : lw_inv s dC dI cA cZ cJ b i H locs ls)
    (kk : ∀ (H : Heap) (locs : List Loc) (ls : Array Slot), lw_inv s dC dI cA cZ cJ b i H locs ls → W p l e room_1 s m #[Value.ref b] below meth c H locs 11 593 Q (F0 m 355 ls [])) : W p l e room_1 s m #[Value.ref b] below meth c H locs 11 593 Q (F0 m 168 ls []) := by
  obtain ⟨hx, hb, hr, hml, hown, hts, hX, hbl, hlocks, hgv⟩ := id C0
  have hts := fun w h => hts w (wsL_law_in w h)
  have hown : s.vm.findClass RL = some m.cls := hown
  have hA : ∀ q : Nat, s.heap.size ≤ q → (fun q : Nat => s.heap.size ≤ q) q := fun _ h => h
  have hbA : ¬ (fun q : Nat => s.heap.size ≤ q) b := Nat.not_le.mpr hbl
  obtain ⟨h0, aT, aS, aP, aR, aL, k0, bI, bT, bP, bR, N, big, n, lp, ft, fs, fp, fr, fl, fk, hV, hM, hP, hD, hS, hl⟩ := hI
  have hP := sj_Ps hP
  have hD := sj_Ds hD
  refine lv_aload_n hx hb dL_law_168 rfl (lv_at hl 1 rfl) ?_
  refine sc_i (wr := mw k0 bI bT bP bR cA cZ cJ N big n lp ft fk fp fr) (wc := sw h0 aT aS aP aR aL cA N big n lp ft fs fp fr fl) (As := []) (rest := []) ⟨hx, hb, hml, hown, hts⟩ (kX0_next l dC dI h0 aT aS aP aR aL cA cZ cJ H.size N big n lp ft fs fp fr fl hV ) (cwV 0 hts gL_law_X0_next rfl rfl rfl (by decide +kernel) ⟨Nat.le_of_ble_eq_true rfl, Nat.le_of_ble_eq_true rfl⟩) hK hP hD hS hA (va_recv hK (sj_Pc hP) (ci := 0) (q0 := 0) rfl rfl) rfl hl.1 rfl (Nat.le_of_ble_eq_true rfl) dL_law_169 ⟨Nat.le_of_ble_eq_true rfl, Nat.le_of_ble_eq_true rfl⟩ (fun r1 u1 H locs hc hP hD hS => ?_)
  obtain ⟨fp1, fr1, fl1⟩ := u1
  dsimp only at hc hP hD
  have hP : va_P (dC, dI) vwCl (sw h0 aT aS aP aR aL cA N big n lp ft fs fp1 fr1 fl1 ++ mw k0 bI bT bP bR cA cZ cJ N big n lp ft fk fp fr) H := sj_Ps hP
  have hD : va_D (fun q : Nat => s.heap.size ≤ q) (sw h0 aT aS aP aR aL cA N big n lp ft fs fp1 fr1 fl1 ++ mw k0 bI bT bP bR cA cZ cJ N big n lp ft fk fp fr) := sj_Ds hD
  refine lv_aload_n hx hb dL_law_172 rfl (lv_at hl 2 rfl) ?_
  refine sc_i (wr := sw h0 aT aS aP aR aL cA N big n lp ft fs fp1 fr1 fl1) (wc := mw k0 bI bT bP bR cA cZ cJ N big n lp ft fk fp fr) (As := []) (rest := [.int r1]) ⟨hx, hb, hml, hown, hts⟩ (kX1_next l dC dI k0 bI bT bP bR cA cZ cJ H.size N big n lp ft fk fp fr hM ) (cwV 0 hts gL_law_X1_next rfl rfl rfl (by decide +kernel) ⟨Nat.le_of_ble_eq_true rfl, Nat.le_of_ble_eq_true rfl⟩) hK hP hD hS hA (va_recv hK (sj_Pc hP) (ci := 1) (q0 := 0) rfl rfl) rfl hl.1 rfl (Nat.le_of_ble_eq_true rfl) dL_law_173 ⟨Nat.le_of_ble_eq_true rfl, Nat.le_of_ble_eq_true rfl⟩ (fun r2 u2 H locs hm hP hD hS => ?_)
  obtain ⟨fp2, fr2⟩ := u2
  dsimp only at hm hP hD
  rcases hc with ⟨hn1, e1, hu1⟩ | ⟨j, hs1, -, e1, a1, a2, hV1⟩
  · rcases hm with ⟨hn2, e2, hu2⟩ | ⟨j2, hs2, -⟩
    · cases hu1
      cases hu2
      exact lv_icmp_eq (tgt := 355) hx hb dL_law_176 (by decide) (fun _ => kk _ _ _ ⟨h0, aT, aS, aP, aR, aL, k0, bI, bT, bP, bR, N, big, n, lp, ft, fs, fp, fr, fl, fk, hV, hM, hP, hD, hS, hl⟩) (fun z => absurd (by rw [e1, e2]) z)
    · rw [hn1] at hs2
      cases hs2
  · rcases hm with ⟨hn2, e2, hu2⟩ | ⟨j2, hs2, -, e2, b1, b2, hM1⟩
    · rw [hn2] at hs1
      cases hs1
    · rw [hs1] at hs2
      cases hs2
      subst a1 a2 b1 b2
      exact lv_icmp_eq (tgt := 355) hx hb dL_law_176 (by decide) (fun _ => kk _ _ _ ⟨h0, aT, aS, aP, aR, aL, k0, bI, bT, bP, bR, N, big, n, lp, ft, fs, _, _, fl1, fk, hV1, hM1, hP, hD, hS, hl⟩) (fun z => absurd (by rw [e1, e2]) z)
set_option maxHeartbeats 4000000 in
set_option maxRecDepth 100000 in
/-- case 3: turns -/
theorem lw_c3 {p : Program} {l : Launch} {e : Env} {s : State} {m : MethodId} {below : List Frame} {meth : Method} {c : Code} {Q : State → Prop} {dC : Nat → ClassId} {dI : Nat → Nat → Nat} {cA cZ cJ : ClassId} {b L i : Nat} {xs : Nat → Int32} {H : Heap} {locs : List Loc} {ls : Array Slot} (hL : L ≤ 1538) (C0 : lw_At p s m meth c b L xs) (hK : va_K (dC, dI) vwCl (ty3 cA cZ cJ) s) (hi : i + 3 ≤ L) (hI : lw_inv s dC dI cA cZ cJ b i H locs ls)
    (kk : ∀ (H : Heap) (locs : List Loc) (ls : Array Slot), lw_inv s dC dI cA cZ cJ b i H locs ls → W p l e room_1 s m #[Value.ref b] below meth c H locs 11 593 Q (F0 m 355 ls [])) : W p l e room_1 s m #[Value.ref b] below meth c H locs 11 593 Q (F0 m 181 ls []) := by
  obtain ⟨hx, hb, hr, hml, hown, hts, hX, hbl, hlocks, hgv⟩ := id C0
  have hts := fun w h => hts w (wsL_law_in w h)
  have hown : s.vm.findClass RL = some m.cls := hown
  have hA : ∀ q : Nat, s.heap.size ≤ q → (fun q : Nat => s.heap.size ≤ q) q := fun _ h => h
  have hbA : ¬ (fun q : Nat => s.heap.size ≤ q) b := Nat.not_le.mpr hbl
  obtain ⟨h0, aT, aS, aP, aR, aL, k0, bI, bT, bP, bR, N, big, n, lp, ft, fs, fp, fr, fl, fk, hV, hM, hP, hD, hS, hl⟩ := hI
  have hP := sj_Ps hP
  have hD := sj_Ds hD
  refine lv_aload_n hx hb dL_law_181 rfl (lv_at hl 1 rfl) ?_
  refine lv_aload_n hx hb dL_law_182 rfl (lv_at hl 0 rfl) ?_
  refine lv_iload_n hx hb dL_law_183 rfl (lv_at hl 3 rfl) ?_
  refine lv_iconst (v := nI 1) hx hb dL_law_184 (by decide) ?_
  refine sr_iadd hx hb dL_law_185 ?_
  refine sr_sld hx hb hX hbl hbA hS (k := i + 1) (by omega) (by omega) dL_law_186 ?_
  refine sc_i (wr := mw k0 bI bT bP bR cA cZ cJ N big n lp ft fk fp fr) (wc := sw h0 aT aS aP aR aL cA N big n lp ft fs fp fr fl) (As := [.int (xs (i + 1))]) (rest := []) ⟨hx, hb, hml, hown, hts⟩ (kX0_turns l dC dI h0 aT aS aP aR aL cA cZ cJ H.size N big n lp ft fs fp fr fl hV (xs (i + 1))) (cwV 1 hts gL_law_X0_turns rfl rfl rfl (by decide +kernel) ⟨Nat.le_of_ble_eq_true rfl, Nat.le_of_ble_eq_true rfl⟩) hK hP hD hS hA (va_recv hK (sj_Pc hP) (ci := 0) (q0 := 0) rfl rfl) rfl hl.1 rfl (Nat.le_of_ble_eq_true rfl) dL_law_187 ⟨Nat.le_of_ble_eq_true rfl, Nat.le_of_ble_eq_true rfl⟩ (fun r1 u1 H locs hc hP hD hS => ?_)
  obtain ⟨fp1, fr1, fl1⟩ := u1
  dsimp only at hc hP hD
  have hP : va_P (dC, dI) vwCl (sw h0 aT aS aP aR aL cA N big n lp ft fs fp1 fr1 fl1 ++ mw k0 bI bT bP bR cA cZ cJ N big n lp ft fk fp fr) H := sj_Ps hP
  have hD : va_D (fun q : Nat => s.heap.size ≤ q) (sw h0 aT aS aP aR aL cA N big n lp ft fs fp1 fr1 fl1 ++ mw k0 bI bT bP bR cA cZ cJ N big n lp ft fk fp fr) := sj_Ds hD
  refine lv_aload_n hx hb dL_law_190 rfl (lv_at hl 2 rfl) ?_
  refine lv_aload_n hx hb dL_law_191 rfl (lv_at hl 0 rfl) ?_
  refine lv_iload_n hx hb dL_law_192 rfl (lv_at hl 3 rfl) ?_
  refine lv_iconst (v := nI 1) hx hb dL_law_193 (by decide) ?_
  refine sr_iadd hx hb dL_law_194 ?_
  refine sr_sld hx hb hX hbl hbA hS (k := i + 1) (by omega) (by omega) dL_law_195 ?_
  refine sc_i (wr := sw h0 aT aS aP aR aL cA N big n lp ft fs fp1 fr1 fl1) (wc := mw k0 bI bT bP bR cA cZ cJ N big n lp ft fk fp fr) (As := [.int (xs (i + 1))]) (rest := [.int r1]) ⟨hx, hb, hml, hown, hts⟩ (kX1_turns l dC dI k0 bI bT bP bR cA cZ cJ H.size N big n lp ft fk fp fr hM (xs (i + 1))) (cwV 1 hts gL_law_X1_turns rfl rfl rfl (by decide +kernel) ⟨Nat.le_of_ble_eq_true rfl, Nat.le_of_ble_eq_true rfl⟩) hK hP hD hS hA (va_recv hK (sj_Pc hP) (ci := 1) (q0 := 0) rfl rfl) rfl hl.1 rfl (Nat.le_of_ble_eq_true rfl) dL_law_196 ⟨Nat.le_of_ble_eq_true rfl, Nat.le_of_ble_eq_true rfl⟩ (fun r2 u2 H locs hm hP hD hS => ?_)
  obtain ⟨fp2, fr2⟩ := u2
  dsimp only at hm hP hD
  rcases hc with ⟨hn1, e1, hu1⟩ | ⟨j, hj0, hj1, hjx, e1, a1, a2, hV1⟩
  · rcases hm with ⟨hn2, e2, hu2⟩ | ⟨j2, hj0, hj1, hjx, -⟩
    · cases hu1
      cases hu2
      exact lv_icmp_eq (tgt := 355) hx hb dL_law_199 (by decide) (fun _ => kk _ _ _ ⟨h0, aT, aS, aP, aR, aL, k0, bI, bT, bP, bR, N, big, n, lp, ft, fs, fp, fr, fl, fk, hV, hM, hP, hD, hS, hl⟩) (fun z => absurd (by rw [e1, e2]) z)
    · rw [hjx, ix_in hj1 (by decide)] at hn1
      rcases hn1 with z | z
      · cases z
      · injection z with z
        omega
  · rcases hm with ⟨hn2, e2, hu2⟩ | ⟨j2, hk0, hk1, hkx, e2, b1, b2, hM1⟩
    · rw [hjx, ix_in hj1 (by decide)] at hn2
      rcases hn2 with z | z
      · cases z
      · injection z with z
        omega
    · have hjk : j = j2 := (nI_eq (by omega) (by omega)).mp (hjx.symm.trans hkx)
      subst hjk
      subst a1 a2 b1 b2
      exact lv_icmp_eq (tgt := 355) hx hb dL_law_199 (by decide) (fun _ => kk _ _ _ ⟨h0, aT, aS, aP, aR, aL, k0, bI, bT, bP, bR, N, big, n, lp, ft, fs, _, _, fl1, fk, hV1, hM1, hP, hD, hS, hl⟩) (fun z => absurd (by rw [e1, e2]) z)
set_option maxHeartbeats 4000000 in
set_option maxRecDepth 100000 in
/-- case 4: change -/
theorem lw_c4 {p : Program} {l : Launch} {e : Env} {s : State} {m : MethodId} {below : List Frame} {meth : Method} {c : Code} {Q : State → Prop} {dC : Nat → ClassId} {dI : Nat → Nat → Nat} {cA cZ cJ : ClassId} {b L i : Nat} {xs : Nat → Int32} {H : Heap} {locs : List Loc} {ls : Array Slot} (hL : L ≤ 1538) (C0 : lw_At p s m meth c b L xs) (hK : va_K (dC, dI) vwCl (ty3 cA cZ cJ) s) (hi : i + 3 ≤ L) (hI : lw_inv s dC dI cA cZ cJ b i H locs ls)
    (kk : ∀ (H : Heap) (locs : List Loc) (ls : Array Slot), lw_inv s dC dI cA cZ cJ b i H locs ls → W p l e room_1 s m #[Value.ref b] below meth c H locs 11 593 Q (F0 m 355 ls [])) : W p l e room_1 s m #[Value.ref b] below meth c H locs 11 593 Q (F0 m 204 ls []) := by
  obtain ⟨hx, hb, hr, hml, hown, hts, hX, hbl, hlocks, hgv⟩ := id C0
  have hts := fun w h => hts w (wsL_law_in w h)
  have hown : s.vm.findClass RL = some m.cls := hown
  have hA : ∀ q : Nat, s.heap.size ≤ q → (fun q : Nat => s.heap.size ≤ q) q := fun _ h => h
  have hbA : ¬ (fun q : Nat => s.heap.size ≤ q) b := Nat.not_le.mpr hbl
  obtain ⟨h0, aT, aS, aP, aR, aL, k0, bI, bT, bP, bR, N, big, n, lp, ft, fs, fp, fr, fl, fk, hV, hM, hP, hD, hS, hl⟩ := hI
  have hP := sj_Ps hP
  have hD := sj_Ds hD
  refine lv_aload_n hx hb dL_law_204 rfl (lv_at hl 1 rfl) ?_
  refine lv_aload_n hx hb dL_law_205 rfl (lv_at hl 0 rfl) ?_
  refine lv_iload_n hx hb dL_law_206 rfl (lv_at hl 3 rfl) ?_
  refine lv_iconst (v := nI 1) hx hb dL_law_207 (by decide) ?_
  refine sr_iadd hx hb dL_law_208 ?_
  refine sr_sld hx hb hX hbl hbA hS (k := i + 1) (by omega) (by omega) dL_law_209 ?_
  refine lv_aload_n hx hb dL_law_210 rfl (lv_at hl 0 rfl) ?_
  refine lv_iload_n hx hb dL_law_211 rfl (lv_at hl 3 rfl) ?_
  refine lv_iconst (v := nI 2) hx hb dL_law_212 (by decide) ?_
  refine sr_iadd hx hb dL_law_213 ?_
  refine sr_sld hx hb hX hbl hbA hS (k := i + 2) (by omega) (by omega) dL_law_214 ?_
  refine sc_i (wr := mw k0 bI bT bP bR cA cZ cJ N big n lp ft fk fp fr) (wc := sw h0 aT aS aP aR aL cA N big n lp ft fs fp fr fl) (As := [.int (xs (i + 1)), .int (xs (i + 2))]) (rest := []) ⟨hx, hb, hml, hown, hts⟩ (kX0_change l dC dI h0 aT aS aP aR aL cA cZ cJ H.size N big n lp ft fs fp fr fl hV (xs (i + 1)) (xs (i + 2))) (cwV 2 hts gL_law_X0_change rfl rfl rfl (by decide +kernel) ⟨Nat.le_of_ble_eq_true rfl, Nat.le_of_ble_eq_true rfl⟩) hK hP hD hS hA (va_recv hK (sj_Pc hP) (ci := 0) (q0 := 0) rfl rfl) rfl hl.1 rfl (Nat.le_of_ble_eq_true rfl) dL_law_215 ⟨Nat.le_of_ble_eq_true rfl, Nat.le_of_ble_eq_true rfl⟩ (fun r1 u1 H locs hc hP hD hS => ?_)
  obtain ⟨ft1, fs1⟩ := u1
  dsimp only at hc hP hD
  have hP : va_P (dC, dI) vwCl (sw h0 aT aS aP aR aL cA N big n lp ft1 fs1 fp fr fl ++ mw k0 bI bT bP bR cA cZ cJ N big n lp ft fk fp fr) H := sj_Ps hP
  have hD : va_D (fun q : Nat => s.heap.size ≤ q) (sw h0 aT aS aP aR aL cA N big n lp ft1 fs1 fp fr fl ++ mw k0 bI bT bP bR cA cZ cJ N big n lp ft fk fp fr) := sj_Ds hD
  refine lv_aload_n hx hb dL_law_218 rfl (lv_at hl 2 rfl) ?_
  refine lv_aload_n hx hb dL_law_219 rfl (lv_at hl 0 rfl) ?_
  refine lv_iload_n hx hb dL_law_220 rfl (lv_at hl 3 rfl) ?_
  refine lv_iconst (v := nI 1) hx hb dL_law_221 (by decide) ?_
  refine sr_iadd hx hb dL_law_222 ?_
  refine sr_sld hx hb hX hbl hbA hS (k := i + 1) (by omega) (by omega) dL_law_223 ?_
  refine lv_aload_n hx hb dL_law_224 rfl (lv_at hl 0 rfl) ?_
  refine lv_iload_n hx hb dL_law_225 rfl (lv_at hl 3 rfl) ?_
  refine lv_iconst (v := nI 2) hx hb dL_law_226 (by decide) ?_
  refine sr_iadd hx hb dL_law_227 ?_
  refine sr_sld hx hb hX hbl hbA hS (k := i + 2) (by omega) (by omega) dL_law_228 ?_
  refine sc_i (wr := sw h0 aT aS aP aR aL cA N big n lp ft1 fs1 fp fr fl) (wc := mw k0 bI bT bP bR cA cZ cJ N big n lp ft fk fp fr) (As := [.int (xs (i + 1)), .int (xs (i + 2))]) (rest := [.int r1]) ⟨hx, hb, hml, hown, hts⟩ (kX1_change l dC dI k0 bI bT bP bR cA cZ cJ H.size N big n lp ft fk fp fr hM (xs (i + 1)) (xs (i + 2))) (cwV 2 hts gL_law_X1_change rfl rfl rfl (by decide +kernel) ⟨Nat.le_of_ble_eq_true rfl, Nat.le_of_ble_eq_true rfl⟩) hK hP hD hS hA (va_recv hK (sj_Pc hP) (ci := 1) (q0 := 0) rfl rfl) rfl hl.1 rfl (Nat.le_of_ble_eq_true rfl) dL_law_229 ⟨Nat.le_of_ble_eq_true rfl, Nat.le_of_ble_eq_true rfl⟩ (fun r2 u2 H locs hm hP hD hS => ?_)
  obtain ⟨ft2, fk2⟩ := u2
  dsimp only at hm hP hD
  obtain ⟨e1, hc⟩ := hc
  obtain ⟨e2, hm⟩ := hm
  rcases hc with ⟨hn1, hu1⟩ | ⟨j, k, hs1, -, -, -, -, a1, hV1⟩
  · rcases hm with ⟨hn2, hu2⟩ | ⟨j2, k2, hs2, -⟩
    · cases hu1
      cases hu2
      exact lv_icmp_eq (tgt := 355) hx hb dL_law_232 (by decide) (fun _ => kk _ _ _ ⟨h0, aT, aS, aP, aR, aL, k0, bI, bT, bP, bR, N, big, n, lp, ft, fs, fp, fr, fl, fk, hV, hM, hP, hD, hS, hl⟩) (fun z => absurd (by rw [e1, e2]) z)
    · rw [hn1] at hs2
      cases hs2
  · rcases hm with ⟨hn2, hu2⟩ | ⟨j2, k2, hs2, b1, hM1⟩
    · rw [hn2] at hs1
      cases hs1
    · rw [hs1] at hs2
      cases hs2
      subst a1 b1
      exact lv_icmp_eq (tgt := 355) hx hb dL_law_232 (by decide) (fun _ => kk _ _ _ ⟨h0, aT, aS, aP, aR, aL, k0, bI, bT, bP, bR, N, big, n, lp, _, fs1, fp, fr, fl, fk2, hV1, hM1, hP, hD, hS, hl⟩) (fun z => absurd (by rw [e1, e2]) z)
end
section
-- THE LAW: its cases (2)
set_option maxHeartbeats 4000000 in
set_option maxRecDepth 100000 in
/-- case 5: ranOf -/
theorem lw_c5 {p : Program} {l : Launch} {e : Env} {s : State} {m : MethodId} {below : List Frame} {meth : Method} {c : Code} {Q : State → Prop} {dC : Nat → ClassId} {dI : Nat → Nat → Nat} {cA cZ cJ : ClassId} {b L i : Nat} {xs : Nat → Int32} {H : Heap} {locs : List Loc} {ls : Array Slot} (hL : L ≤ 1538) (C0 : lw_At p s m meth c b L xs) (hK : va_K (dC, dI) vwCl (ty3 cA cZ cJ) s) (hi : i + 3 ≤ L) (hI : lw_inv s dC dI cA cZ cJ b i H locs ls)
    (kk : ∀ (H : Heap) (locs : List Loc) (ls : Array Slot), lw_inv s dC dI cA cZ cJ b i H locs ls → W p l e room_1 s m #[Value.ref b] below meth c H locs 11 593 Q (F0 m 355 ls [])) : W p l e room_1 s m #[Value.ref b] below meth c H locs 11 593 Q (F0 m 237 ls []) := by
  obtain ⟨hx, hb, hr, hml, hown, hts, hX, hbl, hlocks, hgv⟩ := id C0
  have hts := fun w h => hts w (wsL_law_in w h)
  have hown : s.vm.findClass RL = some m.cls := hown
  have hA : ∀ q : Nat, s.heap.size ≤ q → (fun q : Nat => s.heap.size ≤ q) q := fun _ h => h
  have hbA : ¬ (fun q : Nat => s.heap.size ≤ q) b := Nat.not_le.mpr hbl
  obtain ⟨h0, aT, aS, aP, aR, aL, k0, bI, bT, bP, bR, N, big, n, lp, ft, fs, fp, fr, fl, fk, hV, hM, hP, hD, hS, hl⟩ := hI
  have hP := sj_Ps hP
  have hD := sj_Ds hD
  refine lv_aload_n hx hb dL_law_237 rfl (lv_at hl 1 rfl) ?_
  refine lv_aload_n hx hb dL_law_238 rfl (lv_at hl 0 rfl) ?_
  refine lv_iload_n hx hb dL_law_239 rfl (lv_at hl 3 rfl) ?_
  refine lv_iconst (v := nI 1) hx hb dL_law_240 (by decide) ?_
  refine sr_iadd hx hb dL_law_241 ?_
  refine sr_sld hx hb hX hbl hbA hS (k := i + 1) (by omega) (by omega) dL_law_242 ?_
  refine sc_i (wr := mw k0 bI bT bP bR cA cZ cJ N big n lp ft fk fp fr) (wc := sw h0 aT aS aP aR aL cA N big n lp ft fs fp fr fl) (As := [.int (xs (i + 1))]) (rest := []) ⟨hx, hb, hml, hown, hts⟩ (kX0_ranOf l dC dI h0 aT aS aP aR aL cA cZ cJ H.size N big n lp ft fs fp fr fl hV (xs (i + 1))) (cwV 1 hts gL_law_X0_ranOf rfl rfl rfl (by decide +kernel) ⟨Nat.le_of_ble_eq_true rfl, Nat.le_of_ble_eq_true rfl⟩) hK hP hD hS hA (va_recv hK (sj_Pc hP) (ci := 0) (q0 := 0) rfl rfl) rfl hl.1 rfl (Nat.le_of_ble_eq_true rfl) dL_law_243 ⟨Nat.le_of_ble_eq_true rfl, Nat.le_of_ble_eq_true rfl⟩ (fun r1 u1 H locs hc hP hD hS => ?_)
  have hP : va_P (dC, dI) vwCl (sw h0 aT aS aP aR aL cA N big n lp ft fs fp fr fl ++ mw k0 bI bT bP bR cA cZ cJ N big n lp ft fk fp fr) H := sj_Ps hP
  have hD : va_D (fun q : Nat => s.heap.size ≤ q) (sw h0 aT aS aP aR aL cA N big n lp ft fs fp fr fl ++ mw k0 bI bT bP bR cA cZ cJ N big n lp ft fk fp fr) := sj_Ds hD
  refine lv_aload_n hx hb dL_law_246 rfl (lv_at hl 2 rfl) ?_
  refine lv_aload_n hx hb dL_law_247 rfl (lv_at hl 0 rfl) ?_
  refine lv_iload_n hx hb dL_law_248 rfl (lv_at hl 3 rfl) ?_
  refine lv_iconst (v := nI 1) hx hb dL_law_249 (by decide) ?_
  refine sr_iadd hx hb dL_law_250 ?_
  refine sr_sld hx hb hX hbl hbA hS (k := i + 1) (by omega) (by omega) dL_law_251 ?_
  refine sc_i (wr := sw h0 aT aS aP aR aL cA N big n lp ft fs fp fr fl) (wc := mw k0 bI bT bP bR cA cZ cJ N big n lp ft fk fp fr) (As := [.int (xs (i + 1))]) (rest := [.int r1]) ⟨hx, hb, hml, hown, hts⟩ (kX1_ranOf l dC dI k0 bI bT bP bR cA cZ cJ H.size N big n lp ft fk fp fr hM (xs (i + 1))) (cwV 1 hts gL_law_X1_ranOf rfl rfl rfl (by decide +kernel) ⟨Nat.le_of_ble_eq_true rfl, Nat.le_of_ble_eq_true rfl⟩) hK hP hD hS hA (va_recv hK (sj_Pc hP) (ci := 1) (q0 := 0) rfl rfl) rfl hl.1 rfl (Nat.le_of_ble_eq_true rfl) dL_law_252 ⟨Nat.le_of_ble_eq_true rfl, Nat.le_of_ble_eq_true rfl⟩ (fun r2 u2 H locs hm hP hD hS => ?_)
  have e1 := hc
  have e2 := hm
  exact lv_icmp_eq (tgt := 355) hx hb dL_law_255 (by decide) (fun _ => kk _ _ _ ⟨h0, aT, aS, aP, aR, aL, k0, bI, bT, bP, bR, N, big, n, lp, ft, fs, fp, fr, fl, fk, hV, hM, hP, hD, hS, hl⟩) (fun z => absurd (by rw [e1, e2]) z)
set_option maxHeartbeats 4000000 in
set_option maxRecDepth 100000 in
/-- case 6: passOf -/
theorem lw_c6 {p : Program} {l : Launch} {e : Env} {s : State} {m : MethodId} {below : List Frame} {meth : Method} {c : Code} {Q : State → Prop} {dC : Nat → ClassId} {dI : Nat → Nat → Nat} {cA cZ cJ : ClassId} {b L i : Nat} {xs : Nat → Int32} {H : Heap} {locs : List Loc} {ls : Array Slot} (hL : L ≤ 1538) (C0 : lw_At p s m meth c b L xs) (hK : va_K (dC, dI) vwCl (ty3 cA cZ cJ) s) (hi : i + 3 ≤ L) (hI : lw_inv s dC dI cA cZ cJ b i H locs ls)
    (kk : ∀ (H : Heap) (locs : List Loc) (ls : Array Slot), lw_inv s dC dI cA cZ cJ b i H locs ls → W p l e room_1 s m #[Value.ref b] below meth c H locs 11 593 Q (F0 m 355 ls [])) : W p l e room_1 s m #[Value.ref b] below meth c H locs 11 593 Q (F0 m 260 ls []) := by
  obtain ⟨hx, hb, hr, hml, hown, hts, hX, hbl, hlocks, hgv⟩ := id C0
  have hts := fun w h => hts w (wsL_law_in w h)
  have hown : s.vm.findClass RL = some m.cls := hown
  have hA : ∀ q : Nat, s.heap.size ≤ q → (fun q : Nat => s.heap.size ≤ q) q := fun _ h => h
  have hbA : ¬ (fun q : Nat => s.heap.size ≤ q) b := Nat.not_le.mpr hbl
  obtain ⟨h0, aT, aS, aP, aR, aL, k0, bI, bT, bP, bR, N, big, n, lp, ft, fs, fp, fr, fl, fk, hV, hM, hP, hD, hS, hl⟩ := hI
  have hP := sj_Ps hP
  have hD := sj_Ds hD
  refine lv_aload_n hx hb dL_law_260 rfl (lv_at hl 1 rfl) ?_
  refine lv_aload_n hx hb dL_law_261 rfl (lv_at hl 0 rfl) ?_
  refine lv_iload_n hx hb dL_law_262 rfl (lv_at hl 3 rfl) ?_
  refine lv_iconst (v := nI 1) hx hb dL_law_263 (by decide) ?_
  refine sr_iadd hx hb dL_law_264 ?_
  refine sr_sld hx hb hX hbl hbA hS (k := i + 1) (by omega) (by omega) dL_law_265 ?_
  refine sc_i (wr := mw k0 bI bT bP bR cA cZ cJ N big n lp ft fk fp fr) (wc := sw h0 aT aS aP aR aL cA N big n lp ft fs fp fr fl) (As := [.int (xs (i + 1))]) (rest := []) ⟨hx, hb, hml, hown, hts⟩ (kX0_passOf l dC dI h0 aT aS aP aR aL cA cZ cJ H.size N big n lp ft fs fp fr fl hV (xs (i + 1))) (cwV 1 hts gL_law_X0_passOf rfl rfl rfl (by decide +kernel) ⟨Nat.le_of_ble_eq_true rfl, Nat.le_of_ble_eq_true rfl⟩) hK hP hD hS hA (va_recv hK (sj_Pc hP) (ci := 0) (q0 := 0) rfl rfl) rfl hl.1 rfl (Nat.le_of_ble_eq_true rfl) dL_law_266 ⟨Nat.le_of_ble_eq_true rfl, Nat.le_of_ble_eq_true rfl⟩ (fun r1 u1 H locs hc hP hD hS => ?_)
  have hP : va_P (dC, dI) vwCl (sw h0 aT aS aP aR aL cA N big n lp ft fs fp fr fl ++ mw k0 bI bT bP bR cA cZ cJ N big n lp ft fk fp fr) H := sj_Ps hP
  have hD : va_D (fun q : Nat => s.heap.size ≤ q) (sw h0 aT aS aP aR aL cA N big n lp ft fs fp fr fl ++ mw k0 bI bT bP bR cA cZ cJ N big n lp ft fk fp fr) := sj_Ds hD
  refine lv_aload_n hx hb dL_law_269 rfl (lv_at hl 2 rfl) ?_
  refine lv_aload_n hx hb dL_law_270 rfl (lv_at hl 0 rfl) ?_
  refine lv_iload_n hx hb dL_law_271 rfl (lv_at hl 3 rfl) ?_
  refine lv_iconst (v := nI 1) hx hb dL_law_272 (by decide) ?_
  refine sr_iadd hx hb dL_law_273 ?_
  refine sr_sld hx hb hX hbl hbA hS (k := i + 1) (by omega) (by omega) dL_law_274 ?_
  refine sc_i (wr := sw h0 aT aS aP aR aL cA N big n lp ft fs fp fr fl) (wc := mw k0 bI bT bP bR cA cZ cJ N big n lp ft fk fp fr) (As := [.int (xs (i + 1))]) (rest := [.int r1]) ⟨hx, hb, hml, hown, hts⟩ (kX1_passOf l dC dI k0 bI bT bP bR cA cZ cJ H.size N big n lp ft fk fp fr hM (xs (i + 1))) (cwV 1 hts gL_law_X1_passOf rfl rfl rfl (by decide +kernel) ⟨Nat.le_of_ble_eq_true rfl, Nat.le_of_ble_eq_true rfl⟩) hK hP hD hS hA (va_recv hK (sj_Pc hP) (ci := 1) (q0 := 0) rfl rfl) rfl hl.1 rfl (Nat.le_of_ble_eq_true rfl) dL_law_275 ⟨Nat.le_of_ble_eq_true rfl, Nat.le_of_ble_eq_true rfl⟩ (fun r2 u2 H locs hm hP hD hS => ?_)
  have e1 := hc
  have e2 := hm
  exact lv_icmp_eq (tgt := 355) hx hb dL_law_278 (by decide) (fun _ => kk _ _ _ ⟨h0, aT, aS, aP, aR, aL, k0, bI, bT, bP, bR, N, big, n, lp, ft, fs, fp, fr, fl, fk, hV, hM, hP, hD, hS, hl⟩) (fun z => absurd (by rw [e1, e2]) z)
set_option maxHeartbeats 4000000 in
set_option maxRecDepth 100000 in
/-- case 7: strideOf -/
theorem lw_c7 {p : Program} {l : Launch} {e : Env} {s : State} {m : MethodId} {below : List Frame} {meth : Method} {c : Code} {Q : State → Prop} {dC : Nat → ClassId} {dI : Nat → Nat → Nat} {cA cZ cJ : ClassId} {b L i : Nat} {xs : Nat → Int32} {H : Heap} {locs : List Loc} {ls : Array Slot} (hL : L ≤ 1538) (C0 : lw_At p s m meth c b L xs) (hK : va_K (dC, dI) vwCl (ty3 cA cZ cJ) s) (hi : i + 3 ≤ L) (hI : lw_inv s dC dI cA cZ cJ b i H locs ls)
    (kk : ∀ (H : Heap) (locs : List Loc) (ls : Array Slot), lw_inv s dC dI cA cZ cJ b i H locs ls → W p l e room_1 s m #[Value.ref b] below meth c H locs 11 593 Q (F0 m 355 ls [])) : W p l e room_1 s m #[Value.ref b] below meth c H locs 11 593 Q (F0 m 283 ls []) := by
  obtain ⟨hx, hb, hr, hml, hown, hts, hX, hbl, hlocks, hgv⟩ := id C0
  have hts := fun w h => hts w (wsL_law_in w h)
  have hown : s.vm.findClass RL = some m.cls := hown
  have hA : ∀ q : Nat, s.heap.size ≤ q → (fun q : Nat => s.heap.size ≤ q) q := fun _ h => h
  have hbA : ¬ (fun q : Nat => s.heap.size ≤ q) b := Nat.not_le.mpr hbl
  obtain ⟨h0, aT, aS, aP, aR, aL, k0, bI, bT, bP, bR, N, big, n, lp, ft, fs, fp, fr, fl, fk, hV, hM, hP, hD, hS, hl⟩ := hI
  have hP := sj_Ps hP
  have hD := sj_Ds hD
  refine lv_aload_n hx hb dL_law_283 rfl (lv_at hl 1 rfl) ?_
  refine lv_aload_n hx hb dL_law_284 rfl (lv_at hl 0 rfl) ?_
  refine lv_iload_n hx hb dL_law_285 rfl (lv_at hl 3 rfl) ?_
  refine lv_iconst (v := nI 1) hx hb dL_law_286 (by decide) ?_
  refine sr_iadd hx hb dL_law_287 ?_
  refine sr_sld hx hb hX hbl hbA hS (k := i + 1) (by omega) (by omega) dL_law_288 ?_
  refine sc_i (wr := mw k0 bI bT bP bR cA cZ cJ N big n lp ft fk fp fr) (wc := sw h0 aT aS aP aR aL cA N big n lp ft fs fp fr fl) (As := [.int (xs (i + 1))]) (rest := []) ⟨hx, hb, hml, hown, hts⟩ (kX0_strideOf l dC dI h0 aT aS aP aR aL cA cZ cJ H.size N big n lp ft fs fp fr fl hV (xs (i + 1))) (cwV 1 hts gL_law_X0_strideOf rfl rfl rfl (by decide +kernel) ⟨Nat.le_of_ble_eq_true rfl, Nat.le_of_ble_eq_true rfl⟩) hK hP hD hS hA (va_recv hK (sj_Pc hP) (ci := 0) (q0 := 0) rfl rfl) rfl hl.1 rfl (Nat.le_of_ble_eq_true rfl) dL_law_289 ⟨Nat.le_of_ble_eq_true rfl, Nat.le_of_ble_eq_true rfl⟩ (fun r1 u1 H locs hc hP hD hS => ?_)
  have hP : va_P (dC, dI) vwCl (sw h0 aT aS aP aR aL cA N big n lp ft fs fp fr fl ++ mw k0 bI bT bP bR cA cZ cJ N big n lp ft fk fp fr) H := sj_Ps hP
  have hD : va_D (fun q : Nat => s.heap.size ≤ q) (sw h0 aT aS aP aR aL cA N big n lp ft fs fp fr fl ++ mw k0 bI bT bP bR cA cZ cJ N big n lp ft fk fp fr) := sj_Ds hD
  refine lv_aload_n hx hb dL_law_292 rfl (lv_at hl 2 rfl) ?_
  refine lv_aload_n hx hb dL_law_293 rfl (lv_at hl 0 rfl) ?_
  refine lv_iload_n hx hb dL_law_294 rfl (lv_at hl 3 rfl) ?_
  refine lv_iconst (v := nI 1) hx hb dL_law_295 (by decide) ?_
  refine sr_iadd hx hb dL_law_296 ?_
  refine sr_sld hx hb hX hbl hbA hS (k := i + 1) (by omega) (by omega) dL_law_297 ?_
  refine sc_i (wr := sw h0 aT aS aP aR aL cA N big n lp ft fs fp fr fl) (wc := mw k0 bI bT bP bR cA cZ cJ N big n lp ft fk fp fr) (As := [.int (xs (i + 1))]) (rest := [.int r1]) ⟨hx, hb, hml, hown, hts⟩ (kX1_strideOf l dC dI k0 bI bT bP bR cA cZ cJ H.size N big n lp ft fk fp fr hM (xs (i + 1))) (cwV 1 hts gL_law_X1_strideOf rfl rfl rfl (by decide +kernel) ⟨Nat.le_of_ble_eq_true rfl, Nat.le_of_ble_eq_true rfl⟩) hK hP hD hS hA (va_recv hK (sj_Pc hP) (ci := 1) (q0 := 0) rfl rfl) rfl hl.1 rfl (Nat.le_of_ble_eq_true rfl) dL_law_298 ⟨Nat.le_of_ble_eq_true rfl, Nat.le_of_ble_eq_true rfl⟩ (fun r2 u2 H locs hm hP hD hS => ?_)
  have e1 := hc
  have e2 := hm
  exact lv_icmp_eq (tgt := 355) hx hb dL_law_301 (by decide) (fun _ => kk _ _ _ ⟨h0, aT, aS, aP, aR, aL, k0, bI, bT, bP, bR, N, big, n, lp, ft, fs, fp, fr, fl, fk, hV, hM, hP, hD, hS, hl⟩) (fun z => absurd (by rw [e1, e2]) z)
set_option maxHeartbeats 4000000 in
set_option maxRecDepth 100000 in
/-- case 8: clients -/
theorem lw_c8 {p : Program} {l : Launch} {e : Env} {s : State} {m : MethodId} {below : List Frame} {meth : Method} {c : Code} {Q : State → Prop} {dC : Nat → ClassId} {dI : Nat → Nat → Nat} {cA cZ cJ : ClassId} {b L i : Nat} {xs : Nat → Int32} {H : Heap} {locs : List Loc} {ls : Array Slot} (hL : L ≤ 1538) (C0 : lw_At p s m meth c b L xs) (hK : va_K (dC, dI) vwCl (ty3 cA cZ cJ) s) (hi : i + 3 ≤ L) (hI : lw_inv s dC dI cA cZ cJ b i H locs ls)
    (kk : ∀ (H : Heap) (locs : List Loc) (ls : Array Slot), lw_inv s dC dI cA cZ cJ b i H locs ls → W p l e room_1 s m #[Value.ref b] below meth c H locs 11 593 Q (F0 m 355 ls [])) : W p l e room_1 s m #[Value.ref b] below meth c H locs 11 593 Q (F0 m 306 ls []) := by
  obtain ⟨hx, hb, hr, hml, hown, hts, hX, hbl, hlocks, hgv⟩ := id C0
  have hts := fun w h => hts w (wsL_law_in w h)
  have hown : s.vm.findClass RL = some m.cls := hown
  have hA : ∀ q : Nat, s.heap.size ≤ q → (fun q : Nat => s.heap.size ≤ q) q := fun _ h => h
  have hbA : ¬ (fun q : Nat => s.heap.size ≤ q) b := Nat.not_le.mpr hbl
  obtain ⟨h0, aT, aS, aP, aR, aL, k0, bI, bT, bP, bR, N, big, n, lp, ft, fs, fp, fr, fl, fk, hV, hM, hP, hD, hS, hl⟩ := hI
  have hP := sj_Ps hP
  have hD := sj_Ds hD
  refine lv_aload_n hx hb dL_law_306 rfl (lv_at hl 1 rfl) ?_
  refine sc_i (wr := mw k0 bI bT bP bR cA cZ cJ N big n lp ft fk fp fr) (wc := sw h0 aT aS aP aR aL cA N big n lp ft fs fp fr fl) (As := []) (rest := []) ⟨hx, hb, hml, hown, hts⟩ (kX0_clients l dC dI h0 aT aS aP aR aL cA cZ cJ H.size N big n lp ft fs fp fr fl hV ) (cwV 0 hts gL_law_X0_clients rfl rfl rfl (by decide +kernel) ⟨Nat.le_of_ble_eq_true rfl, Nat.le_of_ble_eq_true rfl⟩) hK hP hD hS hA (va_recv hK (sj_Pc hP) (ci := 0) (q0 := 0) rfl rfl) rfl hl.1 rfl (Nat.le_of_ble_eq_true rfl) dL_law_307 ⟨Nat.le_of_ble_eq_true rfl, Nat.le_of_ble_eq_true rfl⟩ (fun r1 u1 H locs hc hP hD hS => ?_)
  have hP : va_P (dC, dI) vwCl (sw h0 aT aS aP aR aL cA N big n lp ft fs fp fr fl ++ mw k0 bI bT bP bR cA cZ cJ N big n lp ft fk fp fr) H := sj_Ps hP
  have hD : va_D (fun q : Nat => s.heap.size ≤ q) (sw h0 aT aS aP aR aL cA N big n lp ft fs fp fr fl ++ mw k0 bI bT bP bR cA cZ cJ N big n lp ft fk fp fr) := sj_Ds hD
  refine lv_aload_n hx hb dL_law_310 rfl (lv_at hl 2 rfl) ?_
  refine sc_i (wr := sw h0 aT aS aP aR aL cA N big n lp ft fs fp fr fl) (wc := mw k0 bI bT bP bR cA cZ cJ N big n lp ft fk fp fr) (As := []) (rest := [.int r1]) ⟨hx, hb, hml, hown, hts⟩ (kX1_clients l dC dI k0 bI bT bP bR cA cZ cJ H.size N big n lp ft fk fp fr hM ) (cwV 0 hts gL_law_X1_clients rfl rfl rfl (by decide +kernel) ⟨Nat.le_of_ble_eq_true rfl, Nat.le_of_ble_eq_true rfl⟩) hK hP hD hS hA (va_recv hK (sj_Pc hP) (ci := 1) (q0 := 0) rfl rfl) rfl hl.1 rfl (Nat.le_of_ble_eq_true rfl) dL_law_311 ⟨Nat.le_of_ble_eq_true rfl, Nat.le_of_ble_eq_true rfl⟩ (fun r2 u2 H locs hm hP hD hS => ?_)
  have e1 := hc
  have e2 := hm
  exact lv_icmp_eq (tgt := 355) hx hb dL_law_314 (by decide) (fun _ => kk _ _ _ ⟨h0, aT, aS, aP, aR, aL, k0, bI, bT, bP, bR, N, big, n, lp, ft, fs, fp, fr, fl, fk, hV, hM, hP, hD, hS, hl⟩) (fun z => absurd (by rw [e1, e2]) z)
set_option maxHeartbeats 4000000 in
set_option maxRecDepth 100000 in
/-- case 9: spread -/
theorem lw_c9 {p : Program} {l : Launch} {e : Env} {s : State} {m : MethodId} {below : List Frame} {meth : Method} {c : Code} {Q : State → Prop} {dC : Nat → ClassId} {dI : Nat → Nat → Nat} {cA cZ cJ : ClassId} {b L i : Nat} {xs : Nat → Int32} {H : Heap} {locs : List Loc} {ls : Array Slot} (hL : L ≤ 1538) (C0 : lw_At p s m meth c b L xs) (hK : va_K (dC, dI) vwCl (ty3 cA cZ cJ) s) (hi : i + 3 ≤ L) (hI : lw_inv s dC dI cA cZ cJ b i H locs ls)
    (kk : ∀ (H : Heap) (locs : List Loc) (ls : Array Slot), lw_inv s dC dI cA cZ cJ b i H locs ls → W p l e room_1 s m #[Value.ref b] below meth c H locs 11 593 Q (F0 m 355 ls [])) : W p l e room_1 s m #[Value.ref b] below meth c H locs 11 593 Q (F0 m 319 ls []) := by
  obtain ⟨hx, hb, hr, hml, hown, hts, hX, hbl, hlocks, hgv⟩ := id C0
  have hts := fun w h => hts w (wsL_law_in w h)
  have hown : s.vm.findClass RL = some m.cls := hown
  have hA : ∀ q : Nat, s.heap.size ≤ q → (fun q : Nat => s.heap.size ≤ q) q := fun _ h => h
  have hbA : ¬ (fun q : Nat => s.heap.size ≤ q) b := Nat.not_le.mpr hbl
  obtain ⟨h0, aT, aS, aP, aR, aL, k0, bI, bT, bP, bR, N, big, n, lp, ft, fs, fp, fr, fl, fk, hV, hM, hP, hD, hS, hl⟩ := hI
  have hP := sj_Ps hP
  have hD := sj_Ds hD
  refine lv_aload_n hx hb dL_law_319 rfl (lv_at hl 1 rfl) ?_
  refine sc_i (wr := mw k0 bI bT bP bR cA cZ cJ N big n lp ft fk fp fr) (wc := sw h0 aT aS aP aR aL cA N big n lp ft fs fp fr fl) (As := []) (rest := []) ⟨hx, hb, hml, hown, hts⟩ (kX0_spread l dC dI h0 aT aS aP aR aL cA cZ cJ H.size N big n lp ft fs fp fr fl hV ) (cwV 0 hts gL_law_X0_spread rfl rfl rfl (by decide +kernel) ⟨Nat.le_of_ble_eq_true rfl, Nat.le_of_ble_eq_true rfl⟩) hK hP hD hS hA (va_recv hK (sj_Pc hP) (ci := 0) (q0 := 0) rfl rfl) rfl hl.1 rfl (Nat.le_of_ble_eq_true rfl) dL_law_320 ⟨Nat.le_of_ble_eq_true rfl, Nat.le_of_ble_eq_true rfl⟩ (fun r1 u1 H locs hc hP hD hS => ?_)
  have hP : va_P (dC, dI) vwCl (sw h0 aT aS aP aR aL cA N big n lp ft fs fp fr fl ++ mw k0 bI bT bP bR cA cZ cJ N big n lp ft fk fp fr) H := sj_Ps hP
  have hD : va_D (fun q : Nat => s.heap.size ≤ q) (sw h0 aT aS aP aR aL cA N big n lp ft fs fp fr fl ++ mw k0 bI bT bP bR cA cZ cJ N big n lp ft fk fp fr) := sj_Ds hD
  refine lv_aload_n hx hb dL_law_323 rfl (lv_at hl 2 rfl) ?_
  refine sc_i (wr := sw h0 aT aS aP aR aL cA N big n lp ft fs fp fr fl) (wc := mw k0 bI bT bP bR cA cZ cJ N big n lp ft fk fp fr) (As := []) (rest := [.int r1]) ⟨hx, hb, hml, hown, hts⟩ (kX1_spread l dC dI k0 bI bT bP bR cA cZ cJ H.size N big n lp ft fk fp fr hM ) (cwV 0 hts gL_law_X1_spread rfl rfl rfl (by decide +kernel) ⟨Nat.le_of_ble_eq_true rfl, Nat.le_of_ble_eq_true rfl⟩) hK hP hD hS hA (va_recv hK (sj_Pc hP) (ci := 1) (q0 := 0) rfl rfl) rfl hl.1 rfl (Nat.le_of_ble_eq_true rfl) dL_law_324 ⟨Nat.le_of_ble_eq_true rfl, Nat.le_of_ble_eq_true rfl⟩ (fun r2 u2 H locs hm hP hD hS => ?_)
  have e1 := hc
  have e2 := hm
  exact lv_icmp_eq (tgt := 355) hx hb dL_law_327 (by decide) (fun _ => kk _ _ _ ⟨h0, aT, aS, aP, aR, aL, k0, bI, bT, bP, bR, N, big, n, lp, ft, fs, fp, fr, fl, fk, hV, hM, hP, hD, hS, hl⟩) (fun z => absurd (by rw [e1, e2]) z)
set_option maxHeartbeats 4000000 in
set_option maxRecDepth 100000 in
/-- case 10: order -/
theorem lw_c10 {p : Program} {l : Launch} {e : Env} {s : State} {m : MethodId} {below : List Frame} {meth : Method} {c : Code} {Q : State → Prop} {dC : Nat → ClassId} {dI : Nat → Nat → Nat} {cA cZ cJ : ClassId} {b L i : Nat} {xs : Nat → Int32} {H : Heap} {locs : List Loc} {ls : Array Slot} (hL : L ≤ 1538) (C0 : lw_At p s m meth c b L xs) (hK : va_K (dC, dI) vwCl (ty3 cA cZ cJ) s) (hi : i + 3 ≤ L) (hI : lw_inv s dC dI cA cZ cJ b i H locs ls)
    (kk : ∀ (H : Heap) (locs : List Loc) (ls : Array Slot), lw_inv s dC dI cA cZ cJ b i H locs ls → W p l e room_1 s m #[Value.ref b] below meth c H locs 11 593 Q (F0 m 355 ls [])) : W p l e room_1 s m #[Value.ref b] below meth c H locs 11 593 Q (F0 m 332 ls []) := by
  obtain ⟨hx, hb, hr, hml, hown, hts, hX, hbl, hlocks, hgv⟩ := id C0
  have hts := fun w h => hts w (wsL_law_in w h)
  have hown : s.vm.findClass RL = some m.cls := hown
  have hA : ∀ q : Nat, s.heap.size ≤ q → (fun q : Nat => s.heap.size ≤ q) q := fun _ h => h
  have hbA : ¬ (fun q : Nat => s.heap.size ≤ q) b := Nat.not_le.mpr hbl
  obtain ⟨h0, aT, aS, aP, aR, aL, k0, bI, bT, bP, bR, N, big, n, lp, ft, fs, fp, fr, fl, fk, hV, hM, hP, hD, hS, hl⟩ := hI
  have hP := sj_Ps hP
  have hD := sj_Ds hD
  have hIl : sh_I N ft fp fl n := hV.2.2.2.2.2.2.2.2
  have hnN : n ≤ N := by rw [hIl.1]; exact cnt_le ft N
  have hN64 : N ≤ 64 := hV.2.1
  refine lv_aload_n hx hb dL_law_332 rfl (lv_at hl 1 rfl) ?_
  refine lv_aload_n hx hb dL_law_333 rfl (lv_at hl 0 rfl) ?_
  refine lv_iload_n hx hb dL_law_334 rfl (lv_at hl 3 rfl) ?_
  refine lv_iconst (v := nI 1) hx hb dL_law_335 (by decide) ?_
  refine sr_iadd hx hb dL_law_336 ?_
  refine sr_sld hx hb hX hbl hbA hS (k := i + 1) (by omega) (by omega) dL_law_337 ?_
  refine sc_i (wr := mw k0 bI bT bP bR cA cZ cJ N big n lp ft fk fp fr) (wc := sw h0 aT aS aP aR aL cA N big n lp ft fs fp fr fl) (As := [.int (xs (i + 1))]) (rest := []) ⟨hx, hb, hml, hown, hts⟩ (kX0_order l dC dI h0 aT aS aP aR aL cA cZ cJ H.size N big n lp ft fs fp fr fl hV (xs (i + 1))) (cwV 1 hts gL_law_X0_order rfl rfl rfl (by decide +kernel) ⟨Nat.le_of_ble_eq_true rfl, Nat.le_of_ble_eq_true rfl⟩) hK hP hD hS hA (va_recv hK (sj_Pc hP) (ci := 0) (q0 := 0) rfl rfl) rfl hl.1 rfl (Nat.le_of_ble_eq_true rfl) dL_law_338 ⟨Nat.le_of_ble_eq_true rfl, Nat.le_of_ble_eq_true rfl⟩ (fun r1 u1 H locs hc hP hD hS => ?_)
  have hP : va_P (dC, dI) vwCl (sw h0 aT aS aP aR aL cA N big n lp ft fs fp fr fl ++ mw k0 bI bT bP bR cA cZ cJ N big n lp ft fk fp fr) H := sj_Ps hP
  have hD : va_D (fun q : Nat => s.heap.size ≤ q) (sw h0 aT aS aP aR aL cA N big n lp ft fs fp fr fl ++ mw k0 bI bT bP bR cA cZ cJ N big n lp ft fk fp fr) := sj_Ds hD
  refine lv_aload_n hx hb dL_law_341 rfl (lv_at hl 2 rfl) ?_
  refine lv_aload_n hx hb dL_law_342 rfl (lv_at hl 0 rfl) ?_
  refine lv_iload_n hx hb dL_law_343 rfl (lv_at hl 3 rfl) ?_
  refine lv_iconst (v := nI 1) hx hb dL_law_344 (by decide) ?_
  refine sr_iadd hx hb dL_law_345 ?_
  refine sr_sld hx hb hX hbl hbA hS (k := i + 1) (by omega) (by omega) dL_law_346 ?_
  refine sc_i (wr := sw h0 aT aS aP aR aL cA N big n lp ft fs fp fr fl) (wc := mw k0 bI bT bP bR cA cZ cJ N big n lp ft fk fp fr) (As := [.int (xs (i + 1))]) (rest := [.int r1]) ⟨hx, hb, hml, hown, hts⟩ (kX1_order l dC dI k0 bI bT bP bR cA cZ cJ H.size N big n lp ft fk fp fr hM (fun k hk => ⟨fl k, (hIl.2.1 k hk).1, (hIl.2.1 k hk).2, rk_I hIl hk⟩) (xs (i + 1))) (cwV 1 hts gL_law_X1_order rfl rfl rfl (by decide +kernel) ⟨Nat.le_of_ble_eq_true rfl, Nat.le_of_ble_eq_true rfl⟩) hK hP hD hS hA (va_recv hK (sj_Pc hP) (ci := 1) (q0 := 0) rfl rfl) rfl hl.1 rfl (Nat.le_of_ble_eq_true rfl) dL_law_347 ⟨Nat.le_of_ble_eq_true rfl, Nat.le_of_ble_eq_true rfl⟩ (fun r2 u2 H locs hm hP hD hS => ?_)
  rcases hc with ⟨hn1, e1⟩ | ⟨k, z1, hk, hkx, g1, g2, g3, e1⟩
  · rcases hm with ⟨hn2, e2⟩ | ⟨k2, z2, hk2, hkx2, -⟩
    · exact lv_icmp_eq (tgt := 355) hx hb dL_law_350 (by decide) (fun _ => kk _ _ _ ⟨h0, aT, aS, aP, aR, aL, k0, bI, bT, bP, bR, N, big, n, lp, ft, fs, fp, fr, fl, fk, hV, hM, hP, hD, hS, hl⟩) (fun z => absurd (by rw [e1, e2]) z)
    · rw [hkx2, ix_in hk2 (by omega)] at hn1
      cases hn1
  · rcases hm with ⟨hn2, e2⟩ | ⟨k2, z2, hk2, hkx2, f1, f2, f3, e2⟩
    · rw [hkx, ix_in hk (by omega)] at hn2
      cases hn2
    · have hkk : k = k2 := (nI_eq (by omega) (by omega)).mp (hkx.symm.trans hkx2)
      subst hkk
      have hzz : z1 = z2 := rk_un hIl g1 g2 g3 f1 f2 f3
      subst hzz
      exact lv_icmp_eq (tgt := 355) hx hb dL_law_350 (by decide) (fun _ => kk _ _ _ ⟨h0, aT, aS, aP, aR, aL, k0, bI, bT, bP, bR, N, big, n, lp, ft, fs, fp, fr, fl, fk, hV, hM, hP, hD, hS, hl⟩) (fun z => absurd (by rw [e1, e2]) z)
end
section
-- THE LAW: its loop, its start
set_option maxHeartbeats 4000000 in
set_option maxRecDepth 100000 in
/-- the law's loop -/
theorem lw_loop {p : Program} {l : Launch} {e : Env} {s : State} {m : MethodId} {below : List Frame} {meth : Method} {c : Code} {dC : Nat → ClassId} {dI : Nat → Nat → Nat} {cA cZ cJ : ClassId} {b L : Nat} {xs : Nat → Int32} (hL : L ≤ 1538) (C0 : lw_At p s m meth c b L xs) (hK : va_K (dC, dI) vwCl (ty3 cA cZ cJ) s) :
    ∀ (d i : Nat) (H : Heap) (locs : List Loc) (ls : Array Slot), (L + 3 ≤ i + d ∧ i ≤ L + 2 ∧ lw_inv s dC dI cA cZ cJ b i H locs ls) → W p l e room_1 s m #[Value.ref b] below meth c H locs 11 593 (lw_Z below #[Value.ref b] s) (F0 m 38 ls []) := by
  obtain ⟨hx, hb, hr, hml, hown, hts, hX, hbl, hlocks, hgv⟩ := id C0
  have hbA : ¬ (fun q : Nat => s.heap.size ≤ q) b := Nat.not_le.mpr hbl
  refine sl_loop (fun d (i : Nat) H locs ls => L + 3 ≤ i + d ∧ i ≤ L + 2 ∧ lw_inv s dC dI cA cZ cJ b i H locs ls) (fun i H locs ls h => by omega) ?_
  intro d i H locs ls ih hI0
  obtain ⟨h1, h2, hI⟩ := hI0
  have kk : i + 3 ≤ L → ∀ (H : Heap) (locs : List Loc) (ls : Array Slot), lw_inv s dC dI cA cZ cJ b i H locs ls → W p l e room_1 s m #[Value.ref b] below meth c H locs 11 593 (lw_Z below #[Value.ref b] s) (F0 m 355 ls []) := by
    intro hi H locs ls hI
    obtain ⟨h0, aT, aS, aP, aR, aL, k0, bI, bT, bP, bR, N, big, n, lp, ft, fs, fp, fr, fl, fk, hV, hM, hP, hD, hS, hl⟩ := hI
    refine lv_iinc (v := nI (i + 3)) (lv' := [(3, .int (nI (i + 3))), (0, .ref b), (1, .ref h0), (2, .ref k0)]) hx hb dL_law_355 hl (k := 3) rfl (nI_add i 3) (by decide) rfl (fun ls hl => ?_)
    refine lv_goto (tgt := 38) hx hb dL_law_358 (by decide) ?_
    exact ih (i + 3) _ _ _ ⟨by omega, by omega, h0, aT, aS, aP, aR, aL, k0, bI, bT, bP, bR, N, big, n, lp, ft, fs, fp, fr, fl, fk, hV, hM, hP, hD, hS, lv_sub hl [1, 2, 3, 0] rfl⟩
  obtain ⟨h0, aT, aS, aP, aR, aL, k0, bI, bT, bP, bR, N, big, n, lp, ft, fs, fp, fr, fl, fk, hV, hM, hP, hD, hS, hl⟩ := id hI
  refine lv_iload_n hx hb dL_law_38 rfl (lv_at hl 3 rfl) ?_
  refine lv_aload_n hx hb dL_law_39 rfl (lv_at hl 0 rfl) ?_
  refine va_slen hx hb hX hbl hbA hS dL_law_40 ?_
  refine lv_iconst (v := nI 3) hx hb dL_law_41 (by decide) ?_
  refine lv_isub hx hb dL_law_42 ?_
  refine lv_icmp_gt (tgt := 361) hx hb dL_law_43 (by decide) (fun c1 => ?_) (fun c1 => ?_)
  · refine lv_iconst (v := 1) hx hb dL_law_361 (by decide) ?_
    refine va_forget (fun q hq => hS.2.2 q hq) ?_
    refine W.widen (k := 600000) (n := 7302250) (by decide) (by decide) ?_
    exact lw_ret hx hb hr hlocks dL_law_362
  · have hi : i + 3 ≤ L := by
      rcases Nat.lt_or_ge L (i + 3) with q | q
      · exact absurd ((lw_gt (by omega) (by omega)).mpr q) c1
      · exact q
    have kk := kk hi
    refine lv_aload_n hx hb dL_law_46 rfl (lv_at hl 0 rfl) ?_
    refine lv_iload_n hx hb dL_law_47 rfl (lv_at hl 3 rfl) ?_
    refine sr_sld hx hb hX hbl hbA hS (k := i) (by omega) (by omega) dL_law_48 ?_
    refine lv_bipush (v := nI 15) hx hb dL_law_49 (by decide) ?_
    refine lv_iand hx hb dL_law_51 ?_
    obtain ⟨j, hj, ej⟩ := pk_andE (xs i) (m := nI 15) 4 (by decide)
    rw [ej]
    rcases (show j = 0 ∨ j = 1 ∨ j = 2 ∨ j = 3 ∨ j = 4 ∨ j = 5 ∨ j = 6 ∨ j = 7 ∨ j = 8 ∨ j = 9 ∨ j = 10 ∨ 11 ≤ j by omega) with rfl | rfl | rfl | rfl | rfl | rfl | rfl | rfl | rfl | rfl | rfl | hj2
    · refine lv_tableIn (off := 60) (tgt := 112) hx hb dL_law_52 (by decide) (by decide) (by decide) (by decide) ?_
      exact lw_c0 hL C0 hK hi hI kk
    · refine lv_tableIn (off := 93) (tgt := 145) hx hb dL_law_52 (by decide) (by decide) (by decide) (by decide) ?_
      exact lw_c1 hL C0 hK hi hI kk
    · refine lv_tableIn (off := 116) (tgt := 168) hx hb dL_law_52 (by decide) (by decide) (by decide) (by decide) ?_
      exact lw_c2 hL C0 hK hi hI kk
    · refine lv_tableIn (off := 129) (tgt := 181) hx hb dL_law_52 (by decide) (by decide) (by decide) (by decide) ?_
      exact lw_c3 hL C0 hK hi hI kk
    · refine lv_tableIn (off := 152) (tgt := 204) hx hb dL_law_52 (by decide) (by decide) (by decide) (by decide) ?_
      exact lw_c4 hL C0 hK hi hI kk
    · refine lv_tableIn (off := 185) (tgt := 237) hx hb dL_law_52 (by decide) (by decide) (by decide) (by decide) ?_
      exact lw_c5 hL C0 hK hi hI kk
    · refine lv_tableIn (off := 208) (tgt := 260) hx hb dL_law_52 (by decide) (by decide) (by decide) (by decide) ?_
      exact lw_c6 hL C0 hK hi hI kk
    · refine lv_tableIn (off := 231) (tgt := 283) hx hb dL_law_52 (by decide) (by decide) (by decide) (by decide) ?_
      exact lw_c7 hL C0 hK hi hI kk
    · refine lv_tableIn (off := 254) (tgt := 306) hx hb dL_law_52 (by decide) (by decide) (by decide) (by decide) ?_
      exact lw_c8 hL C0 hK hi hI kk
    · refine lv_tableIn (off := 267) (tgt := 319) hx hb dL_law_52 (by decide) (by decide) (by decide) (by decide) ?_
      exact lw_c9 hL C0 hK hi hI kk
    · refine lv_tableIn (off := 280) (tgt := 332) hx hb dL_law_52 (by decide) (by decide) (by decide) (by decide) ?_
      exact lw_c10 hL C0 hK hi hI kk
    · exact lv_tableOut (tgt := 355) hx hb dL_law_52 (Or.inr (by rw [nI_toInt (by omega)]; omega)) (by decide) (kk _ _ _ hI)
theorem V_new {N big : Nat} (h1 : 0 < N) (h2 : N ≤ 64) (h3 : 2 ≤ big) (h4 : big ≤ 32768) : sh_V N big 0 0 (fun _ => 0) (fun _ => 0) (fun _ => 0) (fun _ => 0) := ⟨h1, h2, h3, h4, by decide, fun _ => (by decide : 0 < 2 ^ 31), fun _ => (by omega : 0 < big), fun _ h => absurd h (Nat.lt_irrefl 0), I_new (fun _ _ => rfl)⟩
theorem M_new {N big : Nat} (h1 : 0 < N) (h2 : N ≤ 64) (h3 : 2 ≤ big) (h4 : big ≤ 32768) : sh_M N big 0 0 (fun _ => 0) (fun _ => 0) (fun _ => 0) := ⟨h1, h2, h3, h4, by decide, fun _ => (by decide : 0 < 2 ^ 31), fun _ => (by omega : 0 < big), fun _ h => absurd h (Nat.lt_irrefl 0), (cnt_none N).symm⟩
set_option maxHeartbeats 4000000 in
set_option maxRecDepth 100000 in
/-- THE LAW, from its entry -/
theorem whole_start {p : Program} {e : Env} {s : State} {m : MethodId} {below : List Frame} {meth : Method} {c : Code} (l : Launch) {b L : Nat} {xs : Nat → Int32} (hL : L ≤ 1538) (C0 : lw_At p s m meth c b L xs) : W p l e room_1 s m #[Value.ref b] below meth c s.heap [] 0 0 (lw_Z below #[Value.ref b] s) (entryFrame m ([Value.ref b] : List Value).toArray 4) := by
  obtain ⟨hx, hb, hr, hml, hown, hts0, hX, hbl, hlocks, hgv⟩ := id C0
  have hts := fun w h => hts0 w (wsL_law_in w h)
  have hown : s.vm.findClass RL = some m.cls := hown
  have hA : ∀ q : Nat, s.heap.size ≤ q → (fun q : Nat => s.heap.size ≤ q) q := fun _ h => h
  have hbA : ¬ (fun q : Nat => s.heap.size ≤ q) b := Nat.not_le.mpr hbl
  obtain ⟨c0, iS0, hKn0⟩ := u_known (C := RX0) (T := TX0) (N := 9) (n := 9) hts0 inX0 (hts (.instantiable RX0 9) (by decide +kernel))
  obtain ⟨c1, iS1, hKn1⟩ := u_known (C := RX1) (T := TX1) (N := 8) (n := 8) hts0 inX1 (hts (.instantiable RX1 8) (by decide +kernel))
  obtain ⟨dC, dI, hKc⟩ : ∃ (dC : Nat → ClassId) (dI : Nat → Nat → Nat), ∀ (k : Nat) (q : vw_C), vwCl[k]? = some q → u_Kn s q.1 q.2.1 q.2.2 (dC k) (dI k) := by
    refine ⟨fun k => if k = 0 then c0 else c1, fun k => if k = 0 then iS0 else iS1, ?_⟩
    intro k q hq
    match k, hq with
    | 0, hq => cases hq; exact hKn0
    | 1, hq => cases hq; exact hKn1
    | k + 2, hq => simp [vwCl] at hq
  have hS : va_S (fun q : Nat => s.heap.size ≤ q) s.heap s.heap [] := va_S.rf
  have hK : va_K (dC, dI) vwCl [] s := ⟨hKc, fun k q h => by simp at h⟩
  have hP : va_P (dC, dI) vwCl [] s.heap := fun k q h => by simp at h
  have hD : va_D (fun q : Nat => s.heap.size ≤ q) [] := ⟨fun i j p q h => by simp at h, fun k q h => by simp at h⟩
  have hl := lv_entry ([.ref b]) (n := 4) (Nat.le_of_ble_eq_true rfl)
  rw [lg_entry_eq]
  generalize (lg_sl ([.ref b]) ++ List.replicate (4 - (lg_sl ([.ref b])).length) Slot.unset).toArray = ls at hl ⊢
  have hl : lv_has ls 4 [(0, .ref b)] := hl
  refine va_new (ci := 0) (fs := [.int (nI 0), .int (nI 0), .null, .null, .null, .null, .null, .int (nI 0), .int (nI 0)]) (C := RX0) (T := TX0) (N := 9) hx hb hts inlX0 tyX0 tyX0_ok hown (hts (.classLink RL 7 RX0) (by decide +kernel)) (hts (.instantiable RX0 9) (by decide +kernel)) (hts (.initialized RX0) (by decide +kernel)) hK hP hD hS hA rfl (fun j hj => by rcases (show j = 0 ∨ j = 1 ∨ j = 2 ∨ j = 3 ∨ j = 4 ∨ j = 5 ∨ j = 6 ∨ j = 7 ∨ j = 8 by omega) with rfl | rfl | rfl | rfl | rfl | rfl | rfl | rfl | rfl <;> rfl) (Nat.le_of_ble_eq_true rfl) (Nat.le_of_ble_eq_true rfl) dL_law_0 (fun h0 H hP hD hS => ?_)
  have hP : va_P (dC, dI) vwCl [(h0, .inr (0, [.int (nI 0), .int (nI 0), .null, .null, .null, .null, .null, .int (nI 0), .int (nI 0)]))] H := hP
  have hD : va_D (fun q : Nat => s.heap.size ≤ q) [(h0, .inr (0, [.int (nI 0), .int (nI 0), .null, .null, .null, .null, .null, .int (nI 0), .int (nI 0)]))] := hD
  refine W.widen (k := 1) (n := 9) (by omega) (by omega) ?_
  refine lv_dup hx hb dL_law_3 rfl ?_
  refine lv_aload_n hx hb dL_law_4 rfl (lv_at hl 0 rfl) ?_
  refine lv_iconst (v := nI 0) hx hb dL_law_5 (by decide) ?_
  refine sc_s (As := [.ref b, .int (nI 0)]) (rest := [.ref h0, .ref h0]) ⟨hx, hb, hml, hown, hts⟩ (kL_cell l H.size b L xs 0 (by decide) (by omega)) (va_cwS 2 hts gL_law_L_cell rfl rfl rfl (by decide +kernel) ⟨Nat.le_of_ble_eq_true rfl, Nat.le_of_ble_eq_true rfl⟩) ⟨fun a U g mk q => ⟨q.1, q.2.1, q.2.2.1, va_X.moved (u := U) (U := U.calling g mk a) (Vm.Alike.refl U.vm) q.2.2.2⟩, fun U hU hW => ⟨rfl, congrArg Array.size hU, Nat.lt_of_lt_of_le hbl hS.1, by rw [hU]; exact va_X.moved hW.alike (hX.kept (hS.2.1 b hbl hbA))⟩⟩ hP hD hS hA rfl hl.1 rfl (Nat.le_of_ble_eq_true rfl) dL_law_6 ⟨Nat.le_of_ble_eq_true rfl, Nat.le_of_ble_eq_true rfl⟩ (fun r H locs hw hP hD hS => ?_)
  subst hw
  refine lv_aload_n hx hb dL_law_9 rfl (lv_at hl 0 rfl) ?_
  refine lv_iconst (v := nI 1) hx hb dL_law_10 (by decide) ?_
  refine sc_s (As := [.ref b, .int (nI 1)]) (rest := [.int (if 0 < L then xs 0 else nI 0), .ref h0, .ref h0]) ⟨hx, hb, hml, hown, hts⟩ (kL_cell l H.size b L xs 1 (by decide) (by omega)) (va_cwS 2 hts gL_law_L_cell rfl rfl rfl (by decide +kernel) ⟨Nat.le_of_ble_eq_true rfl, Nat.le_of_ble_eq_true rfl⟩) ⟨fun a U g mk q => ⟨q.1, q.2.1, q.2.2.1, va_X.moved (u := U) (U := U.calling g mk a) (Vm.Alike.refl U.vm) q.2.2.2⟩, fun U hU hW => ⟨rfl, congrArg Array.size hU, Nat.lt_of_lt_of_le hbl hS.1, by rw [hU]; exact va_X.moved hW.alike (hX.kept (hS.2.1 b hbl hbA))⟩⟩ hP hD hS hA rfl hl.1 rfl (Nat.le_of_ble_eq_true rfl) dL_law_11 ⟨Nat.le_of_ble_eq_true rfl, Nat.le_of_ble_eq_true rfl⟩ (fun r H locs hw hP hD hS => ?_)
  subst hw
  have hF := sj_free (wr := []) (wc := [(h0, .inr (0, [.int (nI 0), .int (nI 0), .null, .null, .null, .null, .null, .int (nI 0), .int (nI 0)]))]) hD hS hA
  refine va_callv (va_runI (As := [.int (if 0 < L then xs 0 else nI 0), .int (if 1 < L then xs 1 else nI 0)]) (rest := [.ref h0]) ⟨hx, hb, hml, hown, hts⟩ (kX0_init l dC dI h0 H.size (if 0 < L then xs 0 else nI 0) (if 1 < L then xs 1 else nI 0)) (cwI 2 hts gL_law_X0_init rfl rfl rfl (hts (.initialized RX0) (by decide +kernel)) (hts (.methodLink RL 15 yX0_init) (by decide +kernel)) (hts (.instanceMethod yX0_init) (by decide +kernel)) rfl (by decide +kernel) ⟨Nat.le_of_ble_eq_true rfl, Nat.le_of_ble_eq_true rfl⟩) ⟨fun a U g mk q => by obtain ⟨q0, q1, qP, qK, qD⟩ := q; exact ⟨q0, q1, qP, va_K.moved (u := U) (U := U.calling g mk a) (Vm.Alike.refl U.vm) qK, qD⟩, fun U hU hW => ⟨rfl, congrArg Array.size hU, by rw [hU]; exact sj_Pc (wr := []) hP, va_K.moved hW.alike hK, (sj_Dc (wr := []) hD).weaken (fun _ _ _ _ => trivial)⟩⟩ rfl rfl hl.1 rfl (lv_room (Nat.le_of_ble_eq_true rfl)) dL_law_14 ⟨Nat.le_of_ble_eq_true rfl, Nat.le_of_ble_eq_true rfl⟩) hS (fun q _ h => hF q h) hF (fun u t H1 locs ht hvm hw hB hz1 hk1 hS => ?_)
  obtain ⟨aT, aS, aP, aR, aL, cA, hP1, hK1, hD1⟩ := hB
  rw [ht] at hP1
  have hK1 := va_K.moved hvm.symm hK1
  obtain ⟨hP, hD⟩ := sj_join (wr := []) hP hD hk1 hF hP1 hD1
  generalize H1 = H at hP hS ⊢
  have hP : va_P (dC, dI) vwCl (sw h0 aT aS aP aR aL cA (1 + sh_fm (if 0 < L then xs 0 else nI 0) 64) (2 + sh_fm (if 1 < L then xs 1 else nI 0) 32767) 0 0 (fun _ => 0) (fun _ => 0) (fun _ => 0) (fun _ => 0) (fun _ => 0)) H := hP
  have hD : va_D (fun q : Nat => s.heap.size ≤ q) (sw h0 aT aS aP aR aL cA (1 + sh_fm (if 0 < L then xs 0 else nI 0) 64) (2 + sh_fm (if 1 < L then xs 1 else nI 0) 32767) 0 0 (fun _ => 0) (fun _ => 0) (fun _ => 0) (fun _ => 0) (fun _ => 0)) := hD
  refine W.widen (k := 6) (n := 329) (by omega) (by omega) ?_
  refine lv_astore_n (lv' := [(1, .ref h0), (0, .ref b)]) hx hb dL_law_17 rfl hl (by decide) rfl (fun ls hl => ?_)
  refine va_new (ci := 1) (fs := [.int (nI 0), .int (nI 0), .null, .null, .null, .null, .int (nI 0), .long (lN 0)]) (C := RX1) (T := TX1) (N := 8) hx hb hts inlX1 tyX1 tyX1_ok hown (hts (.classLink RL 18 RX1) (by decide +kernel)) (hts (.instantiable RX1 8) (by decide +kernel)) (hts (.initialized RX1) (by decide +kernel)) hK1 hP hD hS hA rfl (fun j hj => by rcases (show j = 0 ∨ j = 1 ∨ j = 2 ∨ j = 3 ∨ j = 4 ∨ j = 5 ∨ j = 6 ∨ j = 7 by omega) with rfl | rfl | rfl | rfl | rfl | rfl | rfl | rfl <;> rfl) (Nat.le_of_ble_eq_true rfl) (Nat.le_of_ble_eq_true rfl) dL_law_18 (fun k0 H hP hD hS => ?_)
  refine W.widen (k := 7) (n := 337) (by omega) (by omega) ?_
  refine lv_dup hx hb dL_law_21 rfl ?_
  have hK0 := hK1
  refine lv_aload_n hx hb dL_law_22 rfl (lv_at hl 1 rfl) ?_
  refine lv_iconst (v := nI 0) hx hb dL_law_23 (by decide) ?_
  refine sc_s (As := [.ref b, .int (nI 0)]) (rest := [.ref k0, .ref k0]) ⟨hx, hb, hml, hown, hts⟩ (kL_cell l H.size b L xs 0 (by decide) (by omega)) (va_cwS 2 hts gL_law_L_cell rfl rfl rfl (by decide +kernel) ⟨Nat.le_of_ble_eq_true rfl, Nat.le_of_ble_eq_true rfl⟩) ⟨fun a U g mk q => ⟨q.1, q.2.1, q.2.2.1, va_X.moved (u := U) (U := U.calling g mk a) (Vm.Alike.refl U.vm) q.2.2.2⟩, fun U hU hW => ⟨rfl, congrArg Array.size hU, Nat.lt_of_lt_of_le hbl hS.1, by rw [hU]; exact va_X.moved hW.alike (hX.kept (hS.2.1 b hbl hbA))⟩⟩ hP hD hS hA rfl hl.1 rfl (Nat.le_of_ble_eq_true rfl) dL_law_24 ⟨Nat.le_of_ble_eq_true rfl, Nat.le_of_ble_eq_true rfl⟩ (fun r H locs hw hP hD hS => ?_)
  subst hw
  refine lv_aload_n hx hb dL_law_27 rfl (lv_at hl 1 rfl) ?_
  refine lv_iconst (v := nI 1) hx hb dL_law_28 (by decide) ?_
  refine sc_s (As := [.ref b, .int (nI 1)]) (rest := [.int (if 0 < L then xs 0 else nI 0), .ref k0, .ref k0]) ⟨hx, hb, hml, hown, hts⟩ (kL_cell l H.size b L xs 1 (by decide) (by omega)) (va_cwS 2 hts gL_law_L_cell rfl rfl rfl (by decide +kernel) ⟨Nat.le_of_ble_eq_true rfl, Nat.le_of_ble_eq_true rfl⟩) ⟨fun a U g mk q => ⟨q.1, q.2.1, q.2.2.1, va_X.moved (u := U) (U := U.calling g mk a) (Vm.Alike.refl U.vm) q.2.2.2⟩, fun U hU hW => ⟨rfl, congrArg Array.size hU, Nat.lt_of_lt_of_le hbl hS.1, by rw [hU]; exact va_X.moved hW.alike (hX.kept (hS.2.1 b hbl hbA))⟩⟩ hP hD hS hA rfl hl.1 rfl (Nat.le_of_ble_eq_true rfl) dL_law_29 ⟨Nat.le_of_ble_eq_true rfl, Nat.le_of_ble_eq_true rfl⟩ (fun r H locs hw hP hD hS => ?_)
  subst hw
  have hF := sj_free (wr := (sw h0 aT aS aP aR aL cA (1 + sh_fm (if 0 < L then xs 0 else nI 0) 64) (2 + sh_fm (if 1 < L then xs 1 else nI 0) 32767) 0 0 (fun _ => 0) (fun _ => 0) (fun _ => 0) (fun _ => 0) (fun _ => 0))) (wc := [(k0, .inr (1, [.int (nI 0), .int (nI 0), .null, .null, .null, .null, .int (nI 0), .long (lN 0)]))]) hD hS hA
  refine va_callv (va_runI (As := [.int (if 0 < L then xs 0 else nI 0), .int (if 1 < L then xs 1 else nI 0)]) (rest := [.ref k0]) ⟨hx, hb, hml, hown, hts⟩ (kX1_init l dC dI k0 H.size (if 0 < L then xs 0 else nI 0) (if 1 < L then xs 1 else nI 0)) (cwI 2 hts gL_law_X1_init rfl rfl rfl (hts (.initialized RX1) (by decide +kernel)) (hts (.methodLink RL 20 yX1_init) (by decide +kernel)) (hts (.instanceMethod yX1_init) (by decide +kernel)) rfl (by decide +kernel) ⟨Nat.le_of_ble_eq_true rfl, Nat.le_of_ble_eq_true rfl⟩) ⟨fun a U g mk q => by obtain ⟨q0, q1, qP, qK, qD⟩ := q; exact ⟨q0, q1, qP, va_K.moved (u := U) (U := U.calling g mk a) (Vm.Alike.refl U.vm) qK, qD⟩, fun U hU hW => ⟨rfl, congrArg Array.size hU, by rw [hU]; exact sj_Pc (wr := (sw h0 aT aS aP aR aL cA (1 + sh_fm (if 0 < L then xs 0 else nI 0) 64) (2 + sh_fm (if 1 < L then xs 1 else nI 0) 32767) 0 0 (fun _ => 0) (fun _ => 0) (fun _ => 0) (fun _ => 0) (fun _ => 0))) hP, va_K.moved hW.alike hK, (sj_Dc (wr := (sw h0 aT aS aP aR aL cA (1 + sh_fm (if 0 < L then xs 0 else nI 0) 64) (2 + sh_fm (if 1 < L then xs 1 else nI 0) 32767) 0 0 (fun _ => 0) (fun _ => 0) (fun _ => 0) (fun _ => 0) (fun _ => 0))) hD).weaken (fun _ _ _ _ => trivial)⟩⟩ rfl rfl hl.1 rfl (lv_room (Nat.le_of_ble_eq_true rfl)) dL_law_32 ⟨Nat.le_of_ble_eq_true rfl, Nat.le_of_ble_eq_true rfl⟩) hS (fun q _ h => hF q h) hF (fun u t H1 locs ht hvm hw hB hz1 hk1 hS => ?_)
  obtain ⟨bI, bT, bP, bR, cZ, cA2, cJ, hP1, hK1, hD1⟩ := hB
  rw [ht] at hP1
  have hK1 := va_K.moved hvm.symm hK1
  obtain ⟨hP, hD⟩ := sj_join (wr := (sw h0 aT aS aP aR aL cA (1 + sh_fm (if 0 < L then xs 0 else nI 0) 64) (2 + sh_fm (if 1 < L then xs 1 else nI 0) 32767) 0 0 (fun _ => 0) (fun _ => 0) (fun _ => 0) (fun _ => 0) (fun _ => 0))) hP hD hk1 hF hP1 hD1
  generalize H1 = H at hP hS ⊢
  have hKa := hK0.app hK1
  obtain rfl := K_one hKa 0 2 rfl rfl
  have hK3 : va_K (dC, dI) vwCl (ty3 cA2 cZ cJ) s := hKa.sub [0, 1, 3] rfl
  refine W.widen (k := 11) (n := 593) (by omega) (by omega) ?_
  refine lv_astore_n (lv' := [(2, .ref k0), (1, .ref h0), (0, .ref b)]) hx hb dL_law_35 rfl hl (by decide) rfl (fun ls hl => ?_)
  refine lv_iconst (v := nI 2) hx hb dL_law_36 (by decide) ?_
  refine lv_istore_n (lv' := [(3, .int (nI 2)), (2, .ref k0), (1, .ref h0), (0, .ref b)]) hx hb dL_law_37 rfl hl (by decide) rfl (fun ls hl => ?_)
  have f1 := fm_lt (if 0 < L then xs 0 else nI 0) (d := 64) (by decide)
  have f2 := fm_lt (if 1 < L then xs 1 else nI 0) (d := 32767) (by decide)
  exact lw_loop hL C0 hK3 (L + 1) 2 _ _ _ ⟨by omega, by omega, h0, aT, aS, aP, aR, aL, k0, bI, bT, bP, bR, _, _, _, _, _, _, _, _, _, _, V_new (by omega) (by omega) (by omega) (by omega), M_new (by omega) (by omega) (by omega) (by omega), hP, hD, hS, lv_sub hl [3, 2, 1, 0] rfl⟩
end
section
-- ===== YOUR PART ENDS =====
set_option maxHeartbeats 4000000 in
theorem lw_walk (l : Launch) (b : Addr) (xs : List Int32) : MetFree l x (headSpec (Jvm.Cond.code x code maxLocals ret :: tables_1) room_1) (lw_P b xs) (fun _ _ _ _ _ => True) lw_Q := by
  refine MetFree.of_bodyS (code := code) (maxLocals := maxLocals) (ret := ret) (by decide) ?_ ?_
  · intro args s m h hn
    obtain ⟨meth, c, h1, h2, h3, h4, h5, h6, -, -⟩ := Cond.code_spec hn (atoms_spec (ws := Jvm.Cond.code x code maxLocals ret :: tables_1) h _ List.mem_cons_self)
    exact ⟨meth, c, h1, h2, h3, h4, h5, h6⟩
  · intro p e s m args below meth c s₁ B hml0 hP _
    obtain ⟨rfl, hx, hbd, hgv⟩ := hP
    obtain ⟨scr, harrAt, hlist, hof, hsmall⟩ := hx
    obtain ⟨hcb, hkn, -, -⟩ := State.arrayAt?_spec harrAt
    have hown : s.vm.findClass R_law = some m.cls := findClass_of_methodNamed B.named
    have hts0 : ∀ c ∈ (Jvm.Cond.code x code maxLocals ret :: tables_1), c.before #[Value.ref b] s = true := atoms_spec (ws := Jvm.Cond.code x code maxLocals ret :: tables_1) B.pre
    have hts : ∀ w ∈ lw_tbl, w.before #[Value.ref b] s = true := k2_hts_sels lw_privs (fun w hw => hts0 w (List.mem_cons_of_mem _ hw)) lw_privs_ok
    have hml : c.maxLocals = 4 := B.maxLocals_eq (hts0 _ List.mem_cons_self)
    have X₀ : Stand p l e room_1 s m #[Value.ref b] below meth c s₁ [] 0 0 := Stand.of_body B
    have hh0 : s₁.heap = s.heap := by rw [B.state]; rfl
    have hsz : scr.slots.size = xs.length := by rw [← Array.length_toList, hlist, List.length_map]
    have hval : ∀ j : Nat, j < xs.length → scr.slots[j]? = some (.int (xs.getD j 0)) := fun j hj => by
      rw [← Array.getElem?_toList, hlist]
      simp [hj]
    have hbl : b < s.heap.size := (Array.getElem?_eq_some_iff.mp hcb).1
    have hX : va_X b xs.length (fun j => xs.getD j 0) s s.heap := ⟨scr, hcb, hof, hkn, hsz, hval⟩
    have K : W p l e room_1 s m #[Value.ref b] below meth c s₁.heap [] 0 0 (lw_Z below #[Value.ref b] s) (entryFrame m ([Value.ref b] : List Value).toArray 4) := by
      rw [hh0]
      exact whole_start l hbd ⟨B.exec, B.bytes, B.returns, hml, hown, hts, hX, hbl, B.notSynchronized, hgv⟩
    obtain ⟨t, a1, o, b1, b2, b3⟩ := K s₁ rfl X₀
    exact ⟨t, o, a1, b1, b2, b3⟩
theorem lw_pre_spec {args : Array Value} {s : State} (h : (Jvm.Cond.and given_1 narrow_1).before args s = true) (hr : rest_1_c.before args s = true) : ∃ (b : Addr) (xs : List Int32), lw_P b xs args s := by
  have hs := flat_of_before _ h
  have hq := flat_of_before _ hr
  have hc : (Cond.count 1).before args s = true := hs _ (by decide +kernel)
  have harr : (Cond.arrayOf (.arg 0) .int).before args s = true := hs _ (by decide +kernel)
  have hle : (Cond.le (.length (.arg 0)) (.int 1538)).before args s = true := hs _ (by decide +kernel)
  have hlen : (Cond.isInt (.length (.arg 0))).before args s = true := hq _ (by decide +kernel)
  have hall : (Cond.all (.arg 0) (.isInt (.elem (.arg 0) (.index 0)))).before args s = true := hq _ (by decide +kernel)
  obtain ⟨b, xs, hb, hx⟩ := State.ints_of_pre rfl harr hlen hall
  have hsm : xs.length < 2 ^ 31 := hx.choose_spec.2.2.2
  have hev : (Term.length (.arg 0)).eval args s none [] s = some (.int xs.length.toInt32) := hx.length_eval hb
  have hv := Cond.le_ints hev (show (Term.int 1538).eval args s none [] s = some (.int 1538) from rfl)
  have hd : xs.length.toInt32 ≤ 1538 := by
    simpa [Cond.before, Cond.holds, hv] using hle
  have hN : xs.length ≤ 1538 := (Int32.ofNat_le_ofNat hsm (by decide)).mp (show Int32.ofNat xs.length ≤ Int32.ofNat 1538 from hd)
  exact ⟨b, xs, Cond.one_arg hc (show args[0]? = some (.ref b) from hb), hx, hN, h⟩
theorem lw_comes (l : Launch) : Comes l x (Jvm.Cond.code x code maxLocals ret :: tables_1) room_1 (fun tb e args s => Calls_1 tb e args s ∧ rest_1 tb e args s ∧ Pre_1 tb e args s)
    (fun _ _ args s o t => lw_Q args s o t) := by
  intro p e ha hc hk s m args below hf hfit hheap happ hpre
  obtain ⟨b, xs, hP⟩ := lw_pre_spec hpre.2.2 hpre.2.1
  obtain ⟨k, o, h1, h2, h3, hQ⟩ := lw_walk l b xs p e ha hc hk s m args below hf ((Spec.applies_iff_loose hf).mp happ).1 hP trivial
  exact ⟨k, o, h1, h2, h3, hQ⟩
theorem lw_frame {s t : State} {o : Outcome} {args : Array Value} (h : Framed s o t [] 600000 7302250) :
    Framed s o t (fieldLocs frame_1_writes args s ++ arrayLocs frame_1_arrays args s ++ staticLocs frame_1_statics s) 600000 7302250 := h
theorem lw_limb (L : Cond) (hL : ∀ (args : Array Value) (s t : State), L.after args s (.returned (some (.int 1))) t = true) :
    ArmFor flags0 classFile x code maxLocals ret World_1 tables_1 room_1 Calls_1 rest_1 Pre_1
      (fun tb e a s o t => postC L tb e a s o t ∧ Framed s o t (fieldLocs frame_1_writes a s ++ arrayLocs frame_1_arrays a s ++ staticLocs frame_1_statics s) 600000 7302250) := by
  intro l _ _ _ p e ha hc hk s m args below hf hfit hheap happ hpre
  obtain ⟨k, o, h1, h2, h3, rfl, hF⟩ := lw_comes l p e ha hc hk s m args below hf hfit hheap happ hpre
  exact ⟨k, _, h1, h2, h3, hL args s _, lw_frame hF⟩
theorem i_vc : Claimed_1_1 ∧ Claimed_1_2 := ⟨lw_limb limb_1_1 (fun args s t => by simp [limb_1_1, Cond.after, Cond.holds, Cond.value]), lw_limb limb_1_2 (fun args s t => Cond.after_iff.mpr (by
  first | (rw [show limb_1_2 = Cond.eq .result (.int 1) from rfl, Cond.eq_ints (x := 1) (y := 1) rfl rfl]; simp; done) | (simp [limb_1_2, Cond.value, Term.eval]; done)))⟩
end
