section
-- ===== PART A: goes FIRST, ahead of the names: the tables' words, and 'selects' of the private methods out of them =====
/-- a private method of a class that the tables say can be made, by its rows of tables_1 -/
def lw_okq (q : MethodName × Nat) : Prop := (q.1.cls ≠ "java/lang/invoke/MethodHandle" ∧ q.1.cls ≠ "java/lang/invoke/VarHandle") ∧ Cond.instantiable q.1.cls q.2 ∈ tables_1 ∧ Cond.privateMethod q.1 ∈ tables_1 ∧ Cond.instanceMethod q.1 ∈ tables_1
theorem lw_p0 : lw_okq (⟨"LogPlacer", "forgetWays", "()V"⟩, 7) := ⟨⟨by decide +kernel, by decide +kernel⟩, List.mem_of_getElem? (i := 14) (by decide +kernel), List.mem_of_getElem? (i := 213) (by decide +kernel), List.mem_of_getElem? (i := 214) (by decide +kernel)⟩
theorem lw_p1 : lw_okq (⟨"LogPlacer", "tooMany", "()Z"⟩, 7) := ⟨⟨by decide +kernel, by decide +kernel⟩, List.mem_of_getElem? (i := 14) (by decide +kernel), List.mem_of_getElem? (i := 256) (by decide +kernel), List.mem_of_getElem? (i := 257) (by decide +kernel)⟩
theorem lw_p2 : lw_okq (⟨"LogPlacer$Routes", "add", "(II)V"⟩, 5) := ⟨⟨by decide +kernel, by decide +kernel⟩, List.mem_of_getElem? (i := 69) (by decide +kernel), List.mem_of_getElem? (i := 267) (by decide +kernel), List.mem_of_getElem? (i := 268) (by decide +kernel)⟩
theorem lw_p3 : lw_okq (⟨"LogPlacer", "hasWay", "(I)Z"⟩, 7) := ⟨⟨by decide +kernel, by decide +kernel⟩, List.mem_of_getElem? (i := 14) (by decide +kernel), List.mem_of_getElem? (i := 275) (by decide +kernel), List.mem_of_getElem? (i := 276) (by decide +kernel)⟩
theorem lw_p4 : lw_okq (⟨"LogPlacer", "partings", "(I)LLogPlacer$Partings;"⟩, 7) := ⟨⟨by decide +kernel, by decide +kernel⟩, List.mem_of_getElem? (i := 14) (by decide +kernel), List.mem_of_getElem? (i := 314) (by decide +kernel), List.mem_of_getElem? (i := 315) (by decide +kernel)⟩
theorem lw_p5 : lw_okq (⟨"LogPlacer$Partings", "add", "(I)V"⟩, 3) := ⟨⟨by decide +kernel, by decide +kernel⟩, List.mem_of_getElem? (i := 101) (by decide +kernel), List.mem_of_getElem? (i := 322) (by decide +kernel), List.mem_of_getElem? (i := 323) (by decide +kernel)⟩
theorem lw_p6 : lw_okq (⟨"LogPlacer$Partings", "dropThoseWith", "(I)V"⟩, 3) := ⟨⟨by decide +kernel, by decide +kernel⟩, List.mem_of_getElem? (i := 101) (by decide +kernel), List.mem_of_getElem? (i := 326) (by decide +kernel), List.mem_of_getElem? (i := 327) (by decide +kernel)⟩
theorem lw_p7 : lw_okq (⟨"LogPlacer$Search", "offer", "(IJ)V"⟩, 3) := ⟨⟨by decide +kernel, by decide +kernel⟩, List.mem_of_getElem? (i := 120) (by decide +kernel), List.mem_of_getElem? (i := 375) (by decide +kernel), List.mem_of_getElem? (i := 376) (by decide +kernel)⟩
theorem lw_p8 : lw_okq (⟨"LogPlacerModel", "isStep", "(I)Z"⟩, 23) := ⟨⟨by decide +kernel, by decide +kernel⟩, List.mem_of_getElem? (i := 480) (by decide +kernel), List.mem_of_getElem? (i := 576) (by decide +kernel), List.mem_of_getElem? (i := 577) (by decide +kernel)⟩
theorem lw_p9 : lw_okq (⟨"LogPlacerModel", "isTooMany", "()Z"⟩, 23) := ⟨⟨by decide +kernel, by decide +kernel⟩, List.mem_of_getElem? (i := 480) (by decide +kernel), List.mem_of_getElem? (i := 595) (by decide +kernel), List.mem_of_getElem? (i := 596) (by decide +kernel)⟩
theorem lw_p10 : lw_okq (⟨"LogPlacerModel", "works", "()V"⟩, 23) := ⟨⟨by decide +kernel, by decide +kernel⟩, List.mem_of_getElem? (i := 480) (by decide +kernel), List.mem_of_getElem? (i := 599) (by decide +kernel), List.mem_of_getElem? (i := 600) (by decide +kernel)⟩
theorem lw_p11 : lw_okq (⟨"LogPlacerModel", "keeps", "(I)V"⟩, 23) := ⟨⟨by decide +kernel, by decide +kernel⟩, List.mem_of_getElem? (i := 480) (by decide +kernel), List.mem_of_getElem? (i := 603) (by decide +kernel), List.mem_of_getElem? (i := 604) (by decide +kernel)⟩
theorem lw_p12 : lw_okq (⟨"LogPlacerModel", "logOf", "(II)I"⟩, 23) := ⟨⟨by decide +kernel, by decide +kernel⟩, List.mem_of_getElem? (i := 480) (by decide +kernel), List.mem_of_getElem? (i := 615) (by decide +kernel), List.mem_of_getElem? (i := 616) (by decide +kernel)⟩
theorem lw_p13 : lw_okq (⟨"LogPlacerModel", "heapsBy", "(I)I"⟩, 23) := ⟨⟨by decide +kernel, by decide +kernel⟩, List.mem_of_getElem? (i := 480) (by decide +kernel), List.mem_of_getElem? (i := 623) (by decide +kernel), List.mem_of_getElem? (i := 624) (by decide +kernel)⟩
theorem lw_p14 : lw_okq (⟨"LogPlacerModel", "firstOf", "(II)I"⟩, 23) := ⟨⟨by decide +kernel, by decide +kernel⟩, List.mem_of_getElem? (i := 480) (by decide +kernel), List.mem_of_getElem? (i := 627) (by decide +kernel), List.mem_of_getElem? (i := 628) (by decide +kernel)⟩
theorem lw_p15 : lw_okq (⟨"LogPlacerModel", "areParted", "(III)Z"⟩, 23) := ⟨⟨by decide +kernel, by decide +kernel⟩, List.mem_of_getElem? (i := 480) (by decide +kernel), List.mem_of_getElem? (i := 631) (by decide +kernel), List.mem_of_getElem? (i := 632) (by decide +kernel)⟩
def lw_privs_1 : List (MethodName × Nat) := [(⟨"LogPlacer", "forgetWays", "()V"⟩, 7), (⟨"LogPlacer", "tooMany", "()Z"⟩, 7), (⟨"LogPlacer$Routes", "add", "(II)V"⟩, 5), (⟨"LogPlacer", "hasWay", "(I)Z"⟩, 7), (⟨"LogPlacer", "partings", "(I)LLogPlacer$Partings;"⟩, 7), (⟨"LogPlacer$Partings", "add", "(I)V"⟩, 3), (⟨"LogPlacer$Partings", "dropThoseWith", "(I)V"⟩, 3), (⟨"LogPlacer$Search", "offer", "(IJ)V"⟩, 3), (⟨"LogPlacerModel", "isStep", "(I)Z"⟩, 23), (⟨"LogPlacerModel", "isTooMany", "()Z"⟩, 23), (⟨"LogPlacerModel", "works", "()V"⟩, 23), (⟨"LogPlacerModel", "keeps", "(I)V"⟩, 23), (⟨"LogPlacerModel", "logOf", "(II)I"⟩, 23), (⟨"LogPlacerModel", "heapsBy", "(I)I"⟩, 23), (⟨"LogPlacerModel", "firstOf", "(II)I"⟩, 23), (⟨"LogPlacerModel", "areParted", "(III)Z"⟩, 23)]
theorem lw_r1 : ∀ q ∈ lw_privs_1, lw_okq q := List.forall_mem_cons.mpr ⟨lw_p0, List.forall_mem_cons.mpr ⟨lw_p1, List.forall_mem_cons.mpr ⟨lw_p2, List.forall_mem_cons.mpr ⟨lw_p3, List.forall_mem_cons.mpr ⟨lw_p4, List.forall_mem_cons.mpr ⟨lw_p5, List.forall_mem_cons.mpr ⟨lw_p6, List.forall_mem_cons.mpr ⟨lw_p7, List.forall_mem_cons.mpr ⟨lw_p8, List.forall_mem_cons.mpr ⟨lw_p9, List.forall_mem_cons.mpr ⟨lw_p10, List.forall_mem_cons.mpr ⟨lw_p11, List.forall_mem_cons.mpr ⟨lw_p12, List.forall_mem_cons.mpr ⟨lw_p13, List.forall_mem_cons.mpr ⟨lw_p14, List.forall_mem_cons.mpr ⟨lw_p15, fun _ h => absurd h List.not_mem_nil⟩⟩⟩⟩⟩⟩⟩⟩⟩⟩⟩⟩⟩⟩⟩⟩
theorem lw_p16 : lw_okq (⟨"LogPlacerModel", "isApart", "(II)Z"⟩, 23) := ⟨⟨by decide +kernel, by decide +kernel⟩, List.mem_of_getElem? (i := 480) (by decide +kernel), List.mem_of_getElem? (i := 643) (by decide +kernel), List.mem_of_getElem? (i := 644) (by decide +kernel)⟩
theorem lw_p17 : lw_okq (⟨"LogPlacerModel", "priceOf", "(I)J"⟩, 23) := ⟨⟨by decide +kernel, by decide +kernel⟩, List.mem_of_getElem? (i := 480) (by decide +kernel), List.mem_of_getElem? (i := 651) (by decide +kernel), List.mem_of_getElem? (i := 652) (by decide +kernel)⟩
theorem lw_p18 : lw_okq (⟨"LogPlacerModel", "isUseless", "(I)Z"⟩, 23) := ⟨⟨by decide +kernel, by decide +kernel⟩, List.mem_of_getElem? (i := 480) (by decide +kernel), List.mem_of_getElem? (i := 670) (by decide +kernel), List.mem_of_getElem? (i := 671) (by decide +kernel)⟩
theorem lw_p19 : lw_okq (⟨"LogPlacerModel", "push", "(I)V"⟩, 23) := ⟨⟨by decide +kernel, by decide +kernel⟩, List.mem_of_getElem? (i := 480) (by decide +kernel), List.mem_of_getElem? (i := 682) (by decide +kernel), List.mem_of_getElem? (i := 683) (by decide +kernel)⟩
theorem lw_p20 : lw_okq (⟨"LogPlacerModel", "allows", "(I)Z"⟩, 23) := ⟨⟨by decide +kernel, by decide +kernel⟩, List.mem_of_getElem? (i := 480) (by decide +kernel), List.mem_of_getElem? (i := 691) (by decide +kernel), List.mem_of_getElem? (i := 692) (by decide +kernel)⟩
def lw_privs_2 : List (MethodName × Nat) := [(⟨"LogPlacerModel", "isApart", "(II)Z"⟩, 23), (⟨"LogPlacerModel", "priceOf", "(I)J"⟩, 23), (⟨"LogPlacerModel", "isUseless", "(I)Z"⟩, 23), (⟨"LogPlacerModel", "push", "(I)V"⟩, 23), (⟨"LogPlacerModel", "allows", "(I)Z"⟩, 23)]
theorem lw_r2 : ∀ q ∈ lw_privs_2, lw_okq q := List.forall_mem_cons.mpr ⟨lw_p16, List.forall_mem_cons.mpr ⟨lw_p17, List.forall_mem_cons.mpr ⟨lw_p18, List.forall_mem_cons.mpr ⟨lw_p19, List.forall_mem_cons.mpr ⟨lw_p20, fun _ h => absurd h List.not_mem_nil⟩⟩⟩⟩⟩
def lw_privs : List (MethodName × Nat) := lw_privs_1 ++ (lw_privs_2)
def lw_tbl : List Cond := k2_sels lw_privs ++ tables_1
theorem lw_privs_ok : ∀ q ∈ lw_privs, lw_okq q := by
  show ∀ q ∈ lw_privs_1 ++ (lw_privs_2), lw_okq q
  exact List.forall_mem_append.mpr ⟨lw_r1, lw_r2⟩

def RX0 : String := "LogPlacer$Partings"
def TX0 : u_T := fun k => match k with
  | 0 => ("LogPlacer$Partings", "sets", "[I", false)
  | 1 => ("LogPlacer$Partings", "number", "I", false)
  | _ => ("LogPlacer$Partings", "stale", "Z", false)
def tyX0 : Nat → FieldType := fun k => match k with
  | 0 => .array .int
  | 1 => .int
  | _ => .boolean
theorem nmX0 : ∀ a, a < 3 → ∀ b, b < 3 → a ≠ b → (TX0 a).2.1 ≠ (TX0 b).2.1 := by decide +kernel
theorem tyX0_ok : ∀ k, k < 3 → parseFieldDescriptor (TX0 k).2.2.1 = some (tyX0 k) := by decide +kernel
abbrev cX0_init : ByteArray := prog_2_method_1_code
def yX0_init : MethodName := ⟨RX0, "<init>", "()V"⟩
abbrev cX0_gather : ByteArray := prog_2_method_2_code
def yX0_gather : MethodName := ⟨RX0, "gather", "(LLogPlacer$Routes;ZI)V"⟩
abbrev cX0_add : ByteArray := prog_2_method_3_code
def yX0_add : MethodName := ⟨RX0, "add", "(I)V"⟩
abbrev cX0_dropThoseWith : ByteArray := prog_2_method_4_code
def yX0_dropThoseWith : MethodName := ⟨RX0, "dropThoseWith", "(I)V"⟩
abbrev cX0_allMetBy : ByteArray := prog_2_method_5_code
def yX0_allMetBy : MethodName := ⟨RX0, "allMetBy", "(I)Z"⟩
abbrev cX0_firstNotMetBy : ByteArray := prog_2_method_6_code
def yX0_firstNotMetBy : MethodName := ⟨RX0, "firstNotMetBy", "(II)I"⟩
def RX1 : String := "LogPlacer$Program"
def TX1 : u_T := fun k => match k with
  | 0 => ("LogPlacer$Program", "from", "[I", true)
  | 1 => ("LogPlacer$Program", "to", "[I", true)
  | 2 => ("LogPlacer$Program", "times", "[I", true)
  | 3 => ("LogPlacer$Program", "leaving", "[I", true)
  | 4 => ("LogPlacer$Program", "nodes", "I", false)
  | 5 => ("LogPlacer$Program", "steps", "I", false)
  | 6 => ("LogPlacer$Program", "lines", "I", false)
  | _ => ("LogPlacer$Program", "faults", "I", false)
def tyX1 : Nat → FieldType := fun k => match k with
  | 0 => .array .int
  | 1 => .array .int
  | 2 => .array .int
  | 3 => .array .int
  | 4 => .int
  | 5 => .int
  | 6 => .int
  | _ => .int
theorem nmX1 : ∀ a, a < 8 → ∀ b, b < 8 → a ≠ b → (TX1 a).2.1 ≠ (TX1 b).2.1 := by decide +kernel
theorem tyX1_ok : ∀ k, k < 8 → parseFieldDescriptor (TX1 k).2.2.1 = some (tyX1 k) := by decide +kernel
abbrev cX1_init : ByteArray := prog_3_method_1_code
def yX1_init : MethodName := ⟨RX1, "<init>", "()V"⟩
abbrev cX1_restart : ByteArray := prog_3_method_2_code
def yX1_restart : MethodName := ⟨RX1, "restart", "(I)V"⟩
abbrev cX1_hasNode : ByteArray := prog_3_method_3_code
def yX1_hasNode : MethodName := ⟨RX1, "hasNode", "(I)Z"⟩
abbrev cX1_hasStep : ByteArray := prog_3_method_4_code
def yX1_hasStep : MethodName := ⟨RX1, "hasStep", "(I)Z"⟩
abbrev cX1_addStep : ByteArray := prog_3_method_5_code
def yX1_addStep : MethodName := ⟨RX1, "addStep", "(III)I"⟩
abbrev cX1_allSteps : ByteArray := prog_3_method_6_code
def yX1_allSteps : MethodName := ⟨RX1, "allSteps", "()I"⟩
abbrev cX1_stepsFromBelow : ByteArray := prog_3_method_7_code
def yX1_stepsFromBelow : MethodName := ⟨RX1, "stepsFromBelow", "(I)I"⟩
abbrev cX1_priceOf : ByteArray := prog_3_method_8_code
def yX1_priceOf : MethodName := ⟨RX1, "priceOf", "(I)J"⟩
abbrev cX1_stepAt : ByteArray := prog_3_method_9_code
def yX1_stepAt : MethodName := ⟨RX1, "stepAt", "(II)I"⟩
def RX2 : String := "LogPlacer$Reading"
def TX2 : u_T := fun k => match k with
  | 0 => ("LogPlacer$Reading", "told", "[I", true)
  | 1 => ("LogPlacer$Reading", "length", "I", false)
  | 2 => ("LogPlacer$Reading", "torn", "Z", false)
  | 3 => ("LogPlacer$Reading", "possible", "Z", false)
  | 4 => ("LogPlacer$Reading", "toldSet", "I", false)
  | _ => ("LogPlacer$Reading", "heard", "I", false)
def tyX2 : Nat → FieldType := fun k => match k with
  | 0 => .array .int
  | 1 => .int
  | 2 => .boolean
  | 3 => .boolean
  | 4 => .int
  | _ => .int
theorem nmX2 : ∀ a, a < 6 → ∀ b, b < 6 → a ≠ b → (TX2 a).2.1 ≠ (TX2 b).2.1 := by decide +kernel
theorem tyX2_ok : ∀ k, k < 6 → parseFieldDescriptor (TX2 k).2.2.1 = some (tyX2 k) := by decide +kernel
abbrev cX2_init : ByteArray := prog_4_method_1_code
def yX2_init : MethodName := ⟨RX2, "<init>", "()V"⟩
abbrev cX2_forget : ByteArray := prog_4_method_2_code
def yX2_forget : MethodName := ⟨RX2, "forget", "()V"⟩
abbrev cX2_take : ByteArray := prog_4_method_3_code
def yX2_take : MethodName := ⟨RX2, "take", "(LLogPlacer$Tape;IZ)V"⟩
abbrev cX2_fit : ByteArray := prog_4_method_4_code
def yX2_fit : MethodName := ⟨RX2, "fit", "(LLogPlacer$Program;)V"⟩
abbrev cX2_allows : ByteArray := prog_4_method_5_code
def yX2_allows : MethodName := ⟨RX2, "allows", "(I)Z"⟩
abbrev cX2_howManyOf : ByteArray := prog_4_method_6_code
def yX2_howManyOf : MethodName := ⟨RX2, "howManyOf", "(LLogPlacer$Routes;)I"⟩
abbrev cX2_memberOf : ByteArray := prog_4_method_7_code
def yX2_memberOf : MethodName := ⟨RX2, "memberOf", "(LLogPlacer$Routes;I)I"⟩
abbrev cX2_inAll : ByteArray := prog_4_method_8_code
def yX2_inAll : MethodName := ⟨RX2, "inAll", "(LLogPlacer$Routes;[I)I"⟩
abbrev cX2_inSome : ByteArray := prog_4_method_9_code
def yX2_inSome : MethodName := ⟨RX2, "inSome", "(LLogPlacer$Routes;[I)I"⟩
def RX3 : String := "LogPlacer$Routes"
def TX3 : u_T := fun k => match k with
  | 0 => ("LogPlacer$Routes", "stepSets", "[I", true)
  | 1 => ("LogPlacer$Routes", "nodeSets", "[I", true)
  | 2 => ("LogPlacer$Routes", "number", "I", false)
  | 3 => ("LogPlacer$Routes", "tooMany", "Z", false)
  | _ => ("LogPlacer$Routes", "stale", "Z", false)
def tyX3 : Nat → FieldType := fun k => match k with
  | 0 => .array .int
  | 1 => .array .int
  | 2 => .int
  | 3 => .boolean
  | _ => .boolean
theorem nmX3 : ∀ a, a < 5 → ∀ b, b < 5 → a ≠ b → (TX3 a).2.1 ≠ (TX3 b).2.1 := by decide +kernel
theorem tyX3_ok : ∀ k, k < 5 → parseFieldDescriptor (TX3 k).2.2.1 = some (tyX3 k) := by decide +kernel
abbrev cX3_init : ByteArray := prog_5_method_1_code
def yX3_init : MethodName := ⟨RX3, "<init>", "()V"⟩
abbrev cX3_gather : ByteArray := prog_5_method_2_code
def yX3_gather : MethodName := ⟨RX3, "gather", "(LLogPlacer$Program;)V"⟩
abbrev cX3_follow : ByteArray := prog_5_method_3_code
def yX3_follow : MethodName := ⟨RX3, "follow", "(LLogPlacer$Routes;LLogPlacer$Program;IIII)V"⟩
abbrev cX3_add : ByteArray := prog_5_method_4_code
def yX3_add : MethodName := ⟨RX3, "add", "(II)V"⟩
abbrev cX3_firstLike : ByteArray := prog_5_method_5_code
def yX3_firstLike : MethodName := ⟨RX3, "firstLike", "(II)I"⟩
abbrev cX3_logsUnlike : ByteArray := prog_5_method_6_code
def yX3_logsUnlike : MethodName := ⟨RX3, "logsUnlike", "(I)I"⟩
abbrev cX3_soleParters : ByteArray := prog_5_method_7_code
def yX3_soleParters : MethodName := ⟨RX3, "soleParters", "(I)I"⟩
abbrev cX3_firstPairPartedBy : ByteArray := prog_5_method_8_code
def yX3_firstPairPartedBy : MethodName := ⟨RX3, "firstPairPartedBy", "(II)I"⟩
def RX4 : String := "LogPlacer$Search"
def TX4 : u_T := fun k => match k with
  | 0 => ("LogPlacer$Search", "program", "LLogPlacer$Program;", true)
  | 1 => ("LogPlacer$Search", "best", "I", false)
  | _ => ("LogPlacer$Search", "bestPrice", "J", false)
def tyX4 : Nat → FieldType := fun k => match k with
  | 0 => .object "LogPlacer$Program"
  | 1 => .int
  | _ => .long
theorem nmX4 : ∀ a, a < 3 → ∀ b, b < 3 → a ≠ b → (TX4 a).2.1 ≠ (TX4 b).2.1 := by decide +kernel
theorem tyX4_ok : ∀ k, k < 3 → parseFieldDescriptor (TX4 k).2.2.1 = some (tyX4 k) := by decide +kernel
abbrev cX4_init : ByteArray := prog_6_method_1_code
def yX4_init : MethodName := ⟨RX4, "<init>", "(LLogPlacer$Program;)V"⟩
abbrev cX4_cheapestWith : ByteArray := prog_6_method_2_code
def yX4_cheapestWith : MethodName := ⟨RX4, "cheapestWith", "(ILLogPlacer$Partings;)I"⟩
abbrev cX4_choose : ByteArray := prog_6_method_3_code
def yX4_choose : MethodName := ⟨RX4, "choose", "(LLogPlacer$Search;LLogPlacer$Partings;IIIJI)V"⟩
abbrev cX4_offer : ByteArray := prog_6_method_4_code
def yX4_offer : MethodName := ⟨RX4, "offer", "(IJ)V"⟩
abbrev cX4_isRatherThan : ByteArray := prog_6_method_5_code
def yX4_isRatherThan : MethodName := ⟨RX4, "isRatherThan", "(II)Z"⟩
def RX5 : String := "LogPlacer$Tape"
def TX5 : u_T := fun k => match k with
  | 0 => ("LogPlacer$Tape", "bytes", "[I", true)
  | _ => ("LogPlacer$Tape", "length", "I", false)
def tyX5 : Nat → FieldType := fun k => match k with
  | 0 => .array .int
  | _ => .int
theorem nmX5 : ∀ a, a < 2 → ∀ b, b < 2 → a ≠ b → (TX5 a).2.1 ≠ (TX5 b).2.1 := by decide +kernel
theorem tyX5_ok : ∀ k, k < 2 → parseFieldDescriptor (TX5 k).2.2.1 = some (tyX5 k) := by decide +kernel
abbrev cX5_init : ByteArray := prog_7_method_1_code
def yX5_init : MethodName := ⟨RX5, "<init>", "()V"⟩
abbrev cX5_put : ByteArray := prog_7_method_2_code
def yX5_put : MethodName := ⟨RX5, "put", "(I)V"⟩
def RX6 : String := "LogPlacer"
def TX6 : u_T := fun k => match k with
  | 0 => ("LogPlacer", "program", "LLogPlacer$Program;", true)
  | 1 => ("LogPlacer", "routes", "LLogPlacer$Routes;", true)
  | 2 => ("LogPlacer", "ofWays", "LLogPlacer$Partings;", true)
  | 3 => ("LogPlacer", "ofFaults", "LLogPlacer$Partings;", true)
  | 4 => ("LogPlacer", "search", "LLogPlacer$Search;", true)
  | 5 => ("LogPlacer", "tape", "LLogPlacer$Tape;", true)
  | _ => ("LogPlacer", "reading", "LLogPlacer$Reading;", true)
def tyX6 : Nat → FieldType := fun k => match k with
  | 0 => .object "LogPlacer$Program"
  | 1 => .object "LogPlacer$Routes"
  | 2 => .object "LogPlacer$Partings"
  | 3 => .object "LogPlacer$Partings"
  | 4 => .object "LogPlacer$Search"
  | 5 => .object "LogPlacer$Tape"
  | _ => .object "LogPlacer$Reading"
theorem nmX6 : ∀ a, a < 7 → ∀ b, b < 7 → a ≠ b → (TX6 a).2.1 ≠ (TX6 b).2.1 := by decide +kernel
theorem tyX6_ok : ∀ k, k < 7 → parseFieldDescriptor (TX6 k).2.2.1 = some (tyX6 k) := by decide +kernel
abbrev cX6_init : ByteArray := prog_1_method_1_code
def yX6_init : MethodName := ⟨RX6, "<init>", "()V"⟩
abbrev cX6_flow : ByteArray := prog_1_method_2_code
def yX6_flow : MethodName := ⟨RX6, "flow", "(I)Z"⟩
abbrev cX6_step : ByteArray := prog_1_method_3_code
def yX6_step : MethodName := ⟨RX6, "step", "(III)I"⟩
abbrev cX6_counted : ByteArray := prog_1_method_4_code
def yX6_counted : MethodName := ⟨RX6, "counted", "(II)Z"⟩
abbrev cX6_line : ByteArray := prog_1_method_5_code
def yX6_line : MethodName := ⟨RX6, "line", "(IZ)Z"⟩
abbrev cX6_fault : ByteArray := prog_1_method_6_code
def yX6_fault : MethodName := ⟨RX6, "fault", "(IZ)Z"⟩
abbrev cX6_ways : ByteArray := prog_1_method_7_code
def yX6_ways : MethodName := ⟨RX6, "ways", "()I"⟩
abbrev cX6_way : ByteArray := prog_1_method_8_code
def yX6_way : MethodName := ⟨RX6, "way", "(II)I"⟩
abbrev cX6_log : ByteArray := prog_1_method_9_code
def yX6_log : MethodName := ⟨RX6, "log", "(II)I"⟩
abbrev cX6_heaps : ByteArray := prog_1_method_10_code
def yX6_heaps : MethodName := ⟨RX6, "heaps", "()I"⟩
abbrev cX6_heap : ByteArray := prog_1_method_11_code
def yX6_heap : MethodName := ⟨RX6, "heap", "(I)I"⟩
abbrev cX6_apart : ByteArray := prog_1_method_12_code
def yX6_apart : MethodName := ⟨RX6, "apart", "(I)I"⟩
abbrev cX6_cheapest : ByteArray := prog_1_method_13_code
def yX6_cheapest : MethodName := ⟨RX6, "cheapest", "(IZ)I"⟩
abbrev cX6_price : ByteArray := prog_1_method_14_code
def yX6_price : MethodName := ⟨RX6, "price", "(I)J"⟩
abbrev cX6_useless : ByteArray := prog_1_method_15_code
def yX6_useless : MethodName := ⟨RX6, "useless", "(I)I"⟩
abbrev cX6_why : ByteArray := prog_1_method_16_code
def yX6_why : MethodName := ⟨RX6, "why", "(II)I"⟩
abbrev cX6_feed : ByteArray := prog_1_method_17_code
def yX6_feed : MethodName := ⟨RX6, "feed", "(IIIII)I"⟩
abbrev cX6_read : ByteArray := prog_1_method_18_code
def yX6_read : MethodName := ⟨RX6, "read", "(IZ)I"⟩
abbrev cX6_allowed : ByteArray := prog_1_method_19_code
def yX6_allowed : MethodName := ⟨RX6, "allowed", "(I)I"⟩
abbrev cX6_found : ByteArray := prog_1_method_20_code
def yX6_found : MethodName := ⟨RX6, "found", "(I)I"⟩
abbrev cX6_look : ByteArray := prog_1_method_21_code
def yX6_look : MethodName := ⟨RX6, "look", "(II)I"⟩
abbrev cX6_count : ByteArray := prog_1_method_22_code
def yX6_count : MethodName := ⟨RX6, "count", "(I)J"⟩
abbrev cX6_canBeCounted : ByteArray := prog_1_method_23_code
def yX6_canBeCounted : MethodName := ⟨RX6, "canBeCounted", "(I)Z"⟩
abbrev cX6_isWaysOrFaults : ByteArray := prog_1_method_24_code
def yX6_isWaysOrFaults : MethodName := ⟨RX6, "isWaysOrFaults", "(I)Z"⟩
abbrev cX6_isFirstOrOther : ByteArray := prog_1_method_25_code
def yX6_isFirstOrOther : MethodName := ⟨RX6, "isFirstOrOther", "(I)Z"⟩
abbrev cX6_has : ByteArray := prog_1_method_26_code
def yX6_has : MethodName := ⟨RX6, "has", "(II)Z"⟩
abbrev cX6_member : ByteArray := prog_1_method_27_code
def yX6_member : MethodName := ⟨RX6, "member", "(II)I"⟩
abbrev cX6_forgetWays : ByteArray := prog_1_method_28_code
def yX6_forgetWays : MethodName := ⟨RX6, "forgetWays", "()V"⟩
abbrev cX6_tooMany : ByteArray := prog_1_method_29_code
def yX6_tooMany : MethodName := ⟨RX6, "tooMany", "()Z"⟩
abbrev cX6_hasWay : ByteArray := prog_1_method_30_code
def yX6_hasWay : MethodName := ⟨RX6, "hasWay", "(I)Z"⟩
abbrev cX6_partings : ByteArray := prog_1_method_31_code
def yX6_partings : MethodName := ⟨RX6, "partings", "(I)LLogPlacer$Partings;"⟩
def RX7 : String := "LogPlacerModel"
def TX7 : u_T := fun k => match k with
  | 0 => ("LogPlacerModel", "tape", "[B", true)
  | 1 => ("LogPlacerModel", "taped", "I", false)
  | 2 => ("LogPlacerModel", "nodes", "I", false)
  | 3 => ("LogPlacerModel", "steps", "I", false)
  | 4 => ("LogPlacerModel", "from", "[I", true)
  | 5 => ("LogPlacerModel", "to", "[I", true)
  | 6 => ("LogPlacerModel", "counted", "[I", true)
  | 7 => ("LogPlacerModel", "lines", "I", false)
  | 8 => ("LogPlacerModel", "faults", "I", false)
  | 9 => ("LogPlacerModel", "many", "I", false)
  | 10 => ("LogPlacerModel", "isMore", "Z", false)
  | 11 => ("LogPlacerModel", "row", "[I", true)
  | 12 => ("LogPlacerModel", "size", "[I", true)
  | 13 => ("LogPlacerModel", "set", "[I", true)
  | 14 => ("LogPlacerModel", "has", "[I", true)
  | 15 => ("LogPlacerModel", "isRead", "Z", false)
  | 16 => ("LogPlacerModel", "isTorn", "Z", false)
  | 17 => ("LogPlacerModel", "logSize", "I", false)
  | 18 => ("LogPlacerModel", "log", "[I", true)
  | 19 => ("LogPlacerModel", "now", "[I", true)
  | 20 => ("LogPlacerModel", "seen", "[I", true)
  | 21 => ("LogPlacerModel", "seenBy", "[I", true)
  | _ => ("LogPlacerModel", "turn", "I", false)
def tyX7 : Nat → FieldType := fun k => match k with
  | 0 => .array .byte
  | 1 => .int
  | 2 => .int
  | 3 => .int
  | 4 => .array .int
  | 5 => .array .int
  | 6 => .array .int
  | 7 => .int
  | 8 => .int
  | 9 => .int
  | 10 => .boolean
  | 11 => .array .int
  | 12 => .array .int
  | 13 => .array .int
  | 14 => .array .int
  | 15 => .boolean
  | 16 => .boolean
  | 17 => .int
  | 18 => .array .int
  | 19 => .array .int
  | 20 => .array .int
  | 21 => .array .int
  | _ => .int
theorem nmX7 : ∀ a, a < 23 → ∀ b, b < 23 → a ≠ b → (TX7 a).2.1 ≠ (TX7 b).2.1 := by decide +kernel
theorem tyX7_ok : ∀ k, k < 23 → parseFieldDescriptor (TX7 k).2.2.1 = some (tyX7 k) := by decide +kernel
abbrev cX7_init : ByteArray := prog_9_method_1_code
def yX7_init : MethodName := ⟨RX7, "<init>", "()V"⟩
abbrev cX7_lies : ByteArray := prog_9_method_2_code
def yX7_lies : MethodName := ⟨RX7, "lies", "(JJJ)Z"⟩
abbrev cX7_isStep : ByteArray := prog_9_method_3_code
def yX7_isStep : MethodName := ⟨RX7, "isStep", "(I)Z"⟩
abbrev cX7_isIn : ByteArray := prog_9_method_4_code
def yX7_isIn : MethodName := ⟨RX7, "isIn", "(II)Z"⟩
abbrev cX7_sizeOf : ByteArray := prog_9_method_5_code
def yX7_sizeOf : MethodName := ⟨RX7, "sizeOf", "(I)I"⟩
abbrev cX7_flow : ByteArray := prog_9_method_6_code
def yX7_flow : MethodName := ⟨RX7, "flow", "(I)Z"⟩
abbrev cX7_step : ByteArray := prog_9_method_7_code
def yX7_step : MethodName := ⟨RX7, "step", "(III)I"⟩
abbrev cX7_counted : ByteArray := prog_9_method_8_code
def yX7_counted : MethodName := ⟨RX7, "counted", "(II)Z"⟩
abbrev cX7_line : ByteArray := prog_9_method_9_code
def yX7_line : MethodName := ⟨RX7, "line", "(IZ)Z"⟩
abbrev cX7_fault : ByteArray := prog_9_method_10_code
def yX7_fault : MethodName := ⟨RX7, "fault", "(IZ)Z"⟩
abbrev cX7_keeps : ByteArray := prog_9_method_11_code
def yX7_keeps : MethodName := ⟨RX7, "keeps", "(I)V"⟩
abbrev cX7_works : ByteArray := prog_9_method_12_code
def yX7_works : MethodName := ⟨RX7, "works", "()V"⟩
abbrev cX7_isTooMany : ByteArray := prog_9_method_13_code
def yX7_isTooMany : MethodName := ⟨RX7, "isTooMany", "()Z"⟩
abbrev cX7_ways : ByteArray := prog_9_method_14_code
def yX7_ways : MethodName := ⟨RX7, "ways", "()I"⟩
abbrev cX7_way : ByteArray := prog_9_method_15_code
def yX7_way : MethodName := ⟨RX7, "way", "(II)I"⟩
abbrev cX7_logOf : ByteArray := prog_9_method_16_code
def yX7_logOf : MethodName := ⟨RX7, "logOf", "(II)I"⟩
abbrev cX7_log : ByteArray := prog_9_method_17_code
def yX7_log : MethodName := ⟨RX7, "log", "(II)I"⟩
abbrev cX7_areParted : ByteArray := prog_9_method_18_code
def yX7_areParted : MethodName := ⟨RX7, "areParted", "(III)Z"⟩
abbrev cX7_firstOf : ByteArray := prog_9_method_19_code
def yX7_firstOf : MethodName := ⟨RX7, "firstOf", "(II)I"⟩
abbrev cX7_heapsBy : ByteArray := prog_9_method_20_code
def yX7_heapsBy : MethodName := ⟨RX7, "heapsBy", "(I)I"⟩
abbrev cX7_heaps : ByteArray := prog_9_method_21_code
def yX7_heaps : MethodName := ⟨RX7, "heaps", "()I"⟩
abbrev cX7_heap : ByteArray := prog_9_method_22_code
def yX7_heap : MethodName := ⟨RX7, "heap", "(I)I"⟩
abbrev cX7_isApart : ByteArray := prog_9_method_23_code
def yX7_isApart : MethodName := ⟨RX7, "isApart", "(II)Z"⟩
abbrev cX7_apart : ByteArray := prog_9_method_24_code
def yX7_apart : MethodName := ⟨RX7, "apart", "(I)I"⟩
abbrev cX7_priceOf : ByteArray := prog_9_method_25_code
def yX7_priceOf : MethodName := ⟨RX7, "priceOf", "(I)J"⟩
abbrev cX7_price : ByteArray := prog_9_method_26_code
def yX7_price : MethodName := ⟨RX7, "price", "(I)J"⟩
abbrev cX7_isBetter : ByteArray := prog_9_method_27_code
def yX7_isBetter : MethodName := ⟨RX7, "isBetter", "(II)Z"⟩
abbrev cX7_cheapest : ByteArray := prog_9_method_28_code
def yX7_cheapest : MethodName := ⟨RX7, "cheapest", "(IZ)I"⟩
abbrev cX7_isUseless : ByteArray := prog_9_method_29_code
def yX7_isUseless : MethodName := ⟨RX7, "isUseless", "(I)Z"⟩
abbrev cX7_useless : ByteArray := prog_9_method_30_code
def yX7_useless : MethodName := ⟨RX7, "useless", "(I)I"⟩
abbrev cX7_why : ByteArray := prog_9_method_31_code
def yX7_why : MethodName := ⟨RX7, "why", "(II)I"⟩
abbrev cX7_push : ByteArray := prog_9_method_32_code
def yX7_push : MethodName := ⟨RX7, "push", "(I)V"⟩
abbrev cX7_feed : ByteArray := prog_9_method_33_code
def yX7_feed : MethodName := ⟨RX7, "feed", "(IIIII)I"⟩
abbrev cX7_allows : ByteArray := prog_9_method_34_code
def yX7_allows : MethodName := ⟨RX7, "allows", "(I)Z"⟩
abbrev cX7_read : ByteArray := prog_9_method_35_code
def yX7_read : MethodName := ⟨RX7, "read", "(IZ)I"⟩
abbrev cX7_allowed : ByteArray := prog_9_method_36_code
def yX7_allowed : MethodName := ⟨RX7, "allowed", "(I)I"⟩
abbrev cX7_found : ByteArray := prog_9_method_37_code
def yX7_found : MethodName := ⟨RX7, "found", "(I)I"⟩
abbrev cX7_look : ByteArray := prog_9_method_38_code
def yX7_look : MethodName := ⟨RX7, "look", "(II)I"⟩
abbrev cX7_count : ByteArray := prog_9_method_39_code
def yX7_count : MethodName := ⟨RX7, "count", "(I)J"⟩
def RJx8e188 : String := "java/lang/Cloneable"
def RJ6 : String := "java/lang/Integer"
abbrev cJ6_bitCount_0f7a4 : ByteArray := prog_11_method_49_code
def yJ6_bitCount_0f7a4 : MethodName := ⟨RJ6, "bitCount", "(I)I"⟩
def RJ9 : String := "java/lang/Math"
abbrev cJ9_min_7cf53 : ByteArray := prog_12_method_69_code
def yJ9_min_7cf53 : MethodName := ⟨RJ9, "min", "(II)I"⟩
def RJ10 : String := "java/lang/System"
def RJ7 : String := "java/util/Arrays"
abbrev cJ7_fill_53178 : ByteArray := prog_14_method_103_code
def yJ7_fill_53178 : MethodName := ⟨RJ7, "fill", "([II)V"⟩
abbrev cJ7_copyOf_59c91 : ByteArray := prog_14_method_123_code
def yJ7_copyOf_59c91 : MethodName := ⟨RJ7, "copyOf", "([II)[I"⟩
def RL : String := "LogPlacerLaw"
abbrev cL_law : ByteArray := code
def yL_law : MethodName := ⟨RL, "law", "([I)Z"⟩
abbrev vwCl : List vw_C := [(RX0, TX0, 3), (RX1, TX1, 8), (RX2, TX2, 6), (RX3, TX3, 5), (RX4, TX4, 3), (RX5, TX5, 2), (RX6, TX6, 7), (RX7, TX7, 23)]
end
section
def ga_tb : List Cond := lw_tbl.filter goodWord
theorem ga_good : ∀ w ∈ ga_tb, (w.onTables && w.keeps) = true ∨ ∃ ty, w = .arrayClass ty := fun w hw => good_of_word (List.mem_filter.mp hw).2
theorem ga_mem {w : Cond} (i : Nat) (h : lw_tbl[i]? = some w) (hg : goodWord w = true) : w ∈ ga_tb := List.mem_filter.mpr ⟨List.mem_of_getElem? h, hg⟩
theorem tm_0 : (Jvm.Cond.selects "LogPlacer" ({ cls := "LogPlacer", name := "forgetWays", desc := "()V" } : Jvm.MethodName) ({ cls := "LogPlacer", name := "forgetWays", desc := "()V" } : Jvm.MethodName)) ∈ ga_tb := ga_mem 0 (by decide +kernel) rfl
theorem tm_1 : (Jvm.Cond.selects "LogPlacer" ({ cls := "LogPlacer", name := "tooMany", desc := "()Z" } : Jvm.MethodName) ({ cls := "LogPlacer", name := "tooMany", desc := "()Z" } : Jvm.MethodName)) ∈ ga_tb := ga_mem 1 (by decide +kernel) rfl
theorem tm_2 : (Jvm.Cond.selects "LogPlacer$Routes" ({ cls := "LogPlacer$Routes", name := "add", desc := "(II)V" } : Jvm.MethodName) ({ cls := "LogPlacer$Routes", name := "add", desc := "(II)V" } : Jvm.MethodName)) ∈ ga_tb := ga_mem 2 (by decide +kernel) rfl
theorem tm_3 : (Jvm.Cond.selects "LogPlacer" ({ cls := "LogPlacer", name := "hasWay", desc := "(I)Z" } : Jvm.MethodName) ({ cls := "LogPlacer", name := "hasWay", desc := "(I)Z" } : Jvm.MethodName)) ∈ ga_tb := ga_mem 3 (by decide +kernel) rfl
theorem tm_4 : (Jvm.Cond.selects "LogPlacer" ({ cls := "LogPlacer", name := "partings", desc := "(I)LLogPlacer$Partings;" } : Jvm.MethodName) ({ cls := "LogPlacer", name := "partings", desc := "(I)LLogPlacer$Partings;" } : Jvm.MethodName)) ∈ ga_tb := ga_mem 4 (by decide +kernel) rfl
theorem tm_5 : (Jvm.Cond.selects "LogPlacer$Partings" ({ cls := "LogPlacer$Partings", name := "add", desc := "(I)V" } : Jvm.MethodName) ({ cls := "LogPlacer$Partings", name := "add", desc := "(I)V" } : Jvm.MethodName)) ∈ ga_tb := ga_mem 5 (by decide +kernel) rfl
theorem tm_6 : (Jvm.Cond.selects "LogPlacer$Partings" ({ cls := "LogPlacer$Partings", name := "dropThoseWith", desc := "(I)V" } : Jvm.MethodName) ({ cls := "LogPlacer$Partings", name := "dropThoseWith", desc := "(I)V" } : Jvm.MethodName)) ∈ ga_tb := ga_mem 6 (by decide +kernel) rfl
theorem tm_7 : (Jvm.Cond.selects "LogPlacer$Search" ({ cls := "LogPlacer$Search", name := "offer", desc := "(IJ)V" } : Jvm.MethodName) ({ cls := "LogPlacer$Search", name := "offer", desc := "(IJ)V" } : Jvm.MethodName)) ∈ ga_tb := ga_mem 7 (by decide +kernel) rfl
theorem tm_8 : (Jvm.Cond.selects "LogPlacerModel" ({ cls := "LogPlacerModel", name := "isStep", desc := "(I)Z" } : Jvm.MethodName) ({ cls := "LogPlacerModel", name := "isStep", desc := "(I)Z" } : Jvm.MethodName)) ∈ ga_tb := ga_mem 8 (by decide +kernel) rfl
theorem tm_9 : (Jvm.Cond.selects "LogPlacerModel" ({ cls := "LogPlacerModel", name := "isTooMany", desc := "()Z" } : Jvm.MethodName) ({ cls := "LogPlacerModel", name := "isTooMany", desc := "()Z" } : Jvm.MethodName)) ∈ ga_tb := ga_mem 9 (by decide +kernel) rfl
theorem tm_10 : (Jvm.Cond.selects "LogPlacerModel" ({ cls := "LogPlacerModel", name := "works", desc := "()V" } : Jvm.MethodName) ({ cls := "LogPlacerModel", name := "works", desc := "()V" } : Jvm.MethodName)) ∈ ga_tb := ga_mem 10 (by decide +kernel) rfl
theorem tm_11 : (Jvm.Cond.selects "LogPlacerModel" ({ cls := "LogPlacerModel", name := "keeps", desc := "(I)V" } : Jvm.MethodName) ({ cls := "LogPlacerModel", name := "keeps", desc := "(I)V" } : Jvm.MethodName)) ∈ ga_tb := ga_mem 11 (by decide +kernel) rfl
theorem tm_12 : (Jvm.Cond.selects "LogPlacerModel" ({ cls := "LogPlacerModel", name := "logOf", desc := "(II)I" } : Jvm.MethodName) ({ cls := "LogPlacerModel", name := "logOf", desc := "(II)I" } : Jvm.MethodName)) ∈ ga_tb := ga_mem 12 (by decide +kernel) rfl
theorem tm_13 : (Jvm.Cond.selects "LogPlacerModel" ({ cls := "LogPlacerModel", name := "heapsBy", desc := "(I)I" } : Jvm.MethodName) ({ cls := "LogPlacerModel", name := "heapsBy", desc := "(I)I" } : Jvm.MethodName)) ∈ ga_tb := ga_mem 13 (by decide +kernel) rfl
theorem tm_14 : (Jvm.Cond.selects "LogPlacerModel" ({ cls := "LogPlacerModel", name := "firstOf", desc := "(II)I" } : Jvm.MethodName) ({ cls := "LogPlacerModel", name := "firstOf", desc := "(II)I" } : Jvm.MethodName)) ∈ ga_tb := ga_mem 14 (by decide +kernel) rfl
theorem tm_15 : (Jvm.Cond.selects "LogPlacerModel" ({ cls := "LogPlacerModel", name := "areParted", desc := "(III)Z" } : Jvm.MethodName) ({ cls := "LogPlacerModel", name := "areParted", desc := "(III)Z" } : Jvm.MethodName)) ∈ ga_tb := ga_mem 15 (by decide +kernel) rfl
theorem tm_16 : (Jvm.Cond.selects "LogPlacerModel" ({ cls := "LogPlacerModel", name := "isApart", desc := "(II)Z" } : Jvm.MethodName) ({ cls := "LogPlacerModel", name := "isApart", desc := "(II)Z" } : Jvm.MethodName)) ∈ ga_tb := ga_mem 16 (by decide +kernel) rfl
theorem tm_17 : (Jvm.Cond.selects "LogPlacerModel" ({ cls := "LogPlacerModel", name := "priceOf", desc := "(I)J" } : Jvm.MethodName) ({ cls := "LogPlacerModel", name := "priceOf", desc := "(I)J" } : Jvm.MethodName)) ∈ ga_tb := ga_mem 17 (by decide +kernel) rfl
theorem tm_18 : (Jvm.Cond.selects "LogPlacerModel" ({ cls := "LogPlacerModel", name := "isUseless", desc := "(I)Z" } : Jvm.MethodName) ({ cls := "LogPlacerModel", name := "isUseless", desc := "(I)Z" } : Jvm.MethodName)) ∈ ga_tb := ga_mem 18 (by decide +kernel) rfl
theorem tm_19 : (Jvm.Cond.selects "LogPlacerModel" ({ cls := "LogPlacerModel", name := "push", desc := "(I)V" } : Jvm.MethodName) ({ cls := "LogPlacerModel", name := "push", desc := "(I)V" } : Jvm.MethodName)) ∈ ga_tb := ga_mem 19 (by decide +kernel) rfl
theorem tm_20 : (Jvm.Cond.selects "LogPlacerModel" ({ cls := "LogPlacerModel", name := "allows", desc := "(I)Z" } : Jvm.MethodName) ({ cls := "LogPlacerModel", name := "allows", desc := "(I)Z" } : Jvm.MethodName)) ∈ ga_tb := ga_mem 20 (by decide +kernel) rfl
theorem tm_21 : (Jvm.Cond.initialized "LogPlacerLaw") ∈ ga_tb := ga_mem 21 (by decide +kernel) rfl
theorem tm_22 : (Jvm.Cond.initialized "LogPlacer") ∈ ga_tb := ga_mem 22 (by decide +kernel) rfl
theorem tm_23 : (Jvm.Cond.initialized "LogPlacer$Program") ∈ ga_tb := ga_mem 23 (by decide +kernel) rfl
theorem tm_24 : (Jvm.Cond.initialized "LogPlacer$Routes") ∈ ga_tb := ga_mem 24 (by decide +kernel) rfl
theorem tm_25 : (Jvm.Cond.initialized "LogPlacer$Partings") ∈ ga_tb := ga_mem 25 (by decide +kernel) rfl
theorem tm_26 : (Jvm.Cond.initialized "LogPlacer$Search") ∈ ga_tb := ga_mem 26 (by decide +kernel) rfl
theorem tm_27 : (Jvm.Cond.initialized "LogPlacer$Tape") ∈ ga_tb := ga_mem 27 (by decide +kernel) rfl
theorem tm_28 : (Jvm.Cond.initialized "LogPlacer$Reading") ∈ ga_tb := ga_mem 28 (by decide +kernel) rfl
theorem tm_29 : (Jvm.Cond.initialized "LogPlacerModel") ∈ ga_tb := ga_mem 29 (by decide +kernel) rfl
theorem tm_30 : (Jvm.Cond.initialized "java/util/Arrays") ∈ ga_tb := ga_mem 30 (by decide +kernel) rfl
theorem tm_31 : (Jvm.Cond.initialized "java/lang/Math") ∈ ga_tb := ga_mem 31 (by decide +kernel) rfl
theorem tm_32 : (Jvm.Cond.initialized "java/lang/System") ∈ ga_tb := ga_mem 32 (by decide +kernel) rfl
theorem tm_33 : (Jvm.Cond.initialized "java/lang/Integer") ∈ ga_tb := ga_mem 33 (by decide +kernel) rfl
theorem tm_34 : (Jvm.Cond.classLink "LogPlacerLaw" (7 : Nat) "LogPlacer") ∈ ga_tb := ga_mem 34 (by decide +kernel) rfl
theorem tm_35 : (Jvm.Cond.instantiable "LogPlacer" (7 : Nat)) ∈ ga_tb := ga_mem 35 (by decide +kernel) rfl
theorem tm_36 : (Jvm.Cond.methodLink "LogPlacerLaw" (9 : Nat) ({ cls := "LogPlacer", name := "<init>", desc := "()V" } : Jvm.MethodName)) ∈ ga_tb := ga_mem 36 (by decide +kernel) rfl
theorem tm_37 : (Jvm.Cond.instanceMethod ({ cls := "LogPlacer", name := "<init>", desc := "()V" } : Jvm.MethodName)) ∈ ga_tb := ga_mem 37 (by decide +kernel) rfl
set_option maxRecDepth 20000 in
theorem tm_38 : (Jvm.Cond.code ({ cls := "LogPlacer", name := "<init>", desc := "()V" } : Jvm.MethodName) prog_1_method_1_code (1 : Nat) (Option.none : Option Jvm.ClassFile.FieldType)) ∈ ga_tb := ga_mem 38 (rfl) rfl
theorem tm_39 : (Jvm.Cond.methodLink "LogPlacer" (3 : Nat) ({ cls := "java/lang/Object", name := "<init>", desc := "()V" } : Jvm.MethodName)) ∈ ga_tb := ga_mem 39 (by decide +kernel) rfl
theorem tm_40 : (Jvm.Cond.instanceMethod ({ cls := "java/lang/Object", name := "<init>", desc := "()V" } : Jvm.MethodName)) ∈ ga_tb := ga_mem 40 (by decide +kernel) rfl
set_option maxRecDepth 20000 in
theorem tm_41 : (Jvm.Cond.code ({ cls := "java/lang/Object", name := "<init>", desc := "()V" } : Jvm.MethodName) object_method_1_code (1 : Nat) (Option.none : Option Jvm.ClassFile.FieldType)) ∈ ga_tb := ga_mem 41 (rfl) rfl
theorem tm_42 : (Jvm.Cond.classLink "LogPlacer" (9 : Nat) "LogPlacer$Program") ∈ ga_tb := ga_mem 42 (by decide +kernel) rfl
theorem tm_43 : (Jvm.Cond.instantiable "LogPlacer$Program" (8 : Nat)) ∈ ga_tb := ga_mem 43 (by decide +kernel) rfl
theorem tm_45 : (Jvm.Cond.instanceMethod ({ cls := "LogPlacer$Program", name := "<init>", desc := "()V" } : Jvm.MethodName)) ∈ ga_tb := ga_mem 45 (by decide +kernel) rfl
set_option maxRecDepth 20000 in
theorem tm_46 : (Jvm.Cond.code ({ cls := "LogPlacer$Program", name := "<init>", desc := "()V" } : Jvm.MethodName) prog_3_method_1_code (1 : Nat) (Option.none : Option Jvm.ClassFile.FieldType)) ∈ ga_tb := ga_mem 46 (rfl) rfl
theorem tm_47 : (Jvm.Cond.methodLink "LogPlacer$Program" (3 : Nat) ({ cls := "java/lang/Object", name := "<init>", desc := "()V" } : Jvm.MethodName)) ∈ ga_tb := ga_mem 47 (by decide +kernel) rfl
theorem tm_48 : (Jvm.Cond.fieldLink "LogPlacer$Program" (9 : Nat) "LogPlacer$Program" "from" "[I") ∈ ga_tb := ga_mem 48 (by decide +kernel) rfl
theorem tm_49 : (Jvm.Cond.fieldLink "LogPlacer$Routes" (45 : Nat) "LogPlacer$Program" "from" "[I") ∈ ga_tb := ga_mem 49 (by decide +kernel) rfl
theorem tm_50 : (Jvm.Cond.fieldLink "LogPlacer$Reading" (40 : Nat) "LogPlacer$Program" "from" "[I") ∈ ga_tb := ga_mem 50 (by decide +kernel) rfl
theorem tm_51 : (Jvm.Cond.fieldLink "LogPlacer" (193 : Nat) "LogPlacer$Program" "from" "[I") ∈ ga_tb := ga_mem 51 (by decide +kernel) rfl
theorem tm_52 : (Jvm.Cond.fieldLink "LogPlacer$Program" (15 : Nat) "LogPlacer$Program" "to" "[I") ∈ ga_tb := ga_mem 52 (by decide +kernel) rfl
theorem tm_53 : (Jvm.Cond.fieldLink "LogPlacer$Routes" (48 : Nat) "LogPlacer$Program" "to" "[I") ∈ ga_tb := ga_mem 53 (by decide +kernel) rfl
theorem tm_54 : (Jvm.Cond.fieldLink "LogPlacer" (196 : Nat) "LogPlacer$Program" "to" "[I") ∈ ga_tb := ga_mem 54 (by decide +kernel) rfl
theorem tm_55 : (Jvm.Cond.fieldLink "LogPlacer$Program" (18 : Nat) "LogPlacer$Program" "times" "[I") ∈ ga_tb := ga_mem 55 (by decide +kernel) rfl
theorem tm_56 : (Jvm.Cond.fieldLink "LogPlacer$Search" (61 : Nat) "LogPlacer$Program" "times" "[I") ∈ ga_tb := ga_mem 56 (by decide +kernel) rfl
theorem tm_57 : (Jvm.Cond.fieldLink "LogPlacer" (84 : Nat) "LogPlacer$Program" "times" "[I") ∈ ga_tb := ga_mem 57 (by decide +kernel) rfl
theorem tm_58 : (Jvm.Cond.fieldLink "LogPlacer$Program" (21 : Nat) "LogPlacer$Program" "leaving" "[I") ∈ ga_tb := ga_mem 58 (by decide +kernel) rfl
theorem tm_59 : (Jvm.Cond.fieldLink "LogPlacer$Program" (24 : Nat) "LogPlacer$Program" "nodes" "I") ∈ ga_tb := ga_mem 59 (by decide +kernel) rfl
theorem tm_60 : (Jvm.Cond.fieldLink "LogPlacer$Routes" (33 : Nat) "LogPlacer$Program" "nodes" "I") ∈ ga_tb := ga_mem 60 (by decide +kernel) rfl
theorem tm_61 : (Jvm.Cond.fieldLink "LogPlacer" (199 : Nat) "LogPlacer$Program" "nodes" "I") ∈ ga_tb := ga_mem 61 (by decide +kernel) rfl
theorem tm_62 : (Jvm.Cond.fieldLink "LogPlacer$Program" (28 : Nat) "LogPlacer$Program" "steps" "I") ∈ ga_tb := ga_mem 62 (by decide +kernel) rfl
theorem tm_63 : (Jvm.Cond.fieldLink "LogPlacer$Routes" (42 : Nat) "LogPlacer$Program" "steps" "I") ∈ ga_tb := ga_mem 63 (by decide +kernel) rfl
theorem tm_64 : (Jvm.Cond.fieldLink "LogPlacer$Search" (50 : Nat) "LogPlacer$Program" "steps" "I") ∈ ga_tb := ga_mem 64 (by decide +kernel) rfl
theorem tm_65 : (Jvm.Cond.fieldLink "LogPlacer" (73 : Nat) "LogPlacer$Program" "steps" "I") ∈ ga_tb := ga_mem 65 (by decide +kernel) rfl
theorem tm_66 : (Jvm.Cond.fieldLink "LogPlacer$Program" (31 : Nat) "LogPlacer$Program" "lines" "I") ∈ ga_tb := ga_mem 66 (by decide +kernel) rfl
theorem tm_67 : (Jvm.Cond.fieldLink "LogPlacer$Reading" (43 : Nat) "LogPlacer$Program" "lines" "I") ∈ ga_tb := ga_mem 67 (by decide +kernel) rfl
theorem tm_68 : (Jvm.Cond.fieldLink "LogPlacer" (88 : Nat) "LogPlacer$Program" "lines" "I") ∈ ga_tb := ga_mem 68 (by decide +kernel) rfl
theorem tm_69 : (Jvm.Cond.fieldLink "LogPlacer$Program" (34 : Nat) "LogPlacer$Program" "faults" "I") ∈ ga_tb := ga_mem 69 (by decide +kernel) rfl
theorem tm_70 : (Jvm.Cond.fieldLink "LogPlacer" (95 : Nat) "LogPlacer$Program" "faults" "I") ∈ ga_tb := ga_mem 70 (by decide +kernel) rfl
theorem tm_71 : (Jvm.Cond.laysFinal "LogPlacer$Program" "LogPlacer$Program" "from" "[I") ∈ ga_tb := ga_mem 71 (by decide +kernel) rfl
theorem tm_73 : (Jvm.Cond.laysFinal "LogPlacer$Program" "LogPlacer$Program" "to" "[I") ∈ ga_tb := ga_mem 73 (by decide +kernel) rfl
theorem tm_75 : (Jvm.Cond.laysFinal "LogPlacer$Program" "LogPlacer$Program" "times" "[I") ∈ ga_tb := ga_mem 75 (by decide +kernel) rfl
theorem tm_77 : (Jvm.Cond.laysFinal "LogPlacer$Program" "LogPlacer$Program" "leaving" "[I") ∈ ga_tb := ga_mem 77 (by decide +kernel) rfl
theorem tm_79 : (Jvm.Cond.lays "LogPlacer$Program" "LogPlacer$Program" "nodes" "I") ∈ ga_tb := ga_mem 79 (by decide +kernel) rfl
theorem tm_81 : (Jvm.Cond.lays "LogPlacer$Program" "LogPlacer$Program" "steps" "I") ∈ ga_tb := ga_mem 81 (by decide +kernel) rfl
theorem tm_83 : (Jvm.Cond.lays "LogPlacer$Program" "LogPlacer$Program" "lines" "I") ∈ ga_tb := ga_mem 83 (by decide +kernel) rfl
theorem tm_85 : (Jvm.Cond.lays "LogPlacer$Program" "LogPlacer$Program" "faults" "I") ∈ ga_tb := ga_mem 85 (by decide +kernel) rfl
theorem tm_88 : (Jvm.Cond.arrayClass Jvm.ClassFile.FieldType.int) ∈ ga_tb := ga_mem 88 (by decide +kernel) rfl
theorem tm_89 : (Jvm.Cond.classLink "LogPlacer" (16 : Nat) "LogPlacer$Routes") ∈ ga_tb := ga_mem 89 (by decide +kernel) rfl
theorem tm_90 : (Jvm.Cond.instantiable "LogPlacer$Routes" (5 : Nat)) ∈ ga_tb := ga_mem 90 (by decide +kernel) rfl
theorem tm_92 : (Jvm.Cond.instanceMethod ({ cls := "LogPlacer$Routes", name := "<init>", desc := "()V" } : Jvm.MethodName)) ∈ ga_tb := ga_mem 92 (by decide +kernel) rfl
set_option maxRecDepth 20000 in
theorem tm_93 : (Jvm.Cond.code ({ cls := "LogPlacer$Routes", name := "<init>", desc := "()V" } : Jvm.MethodName) prog_5_method_1_code (1 : Nat) (Option.none : Option Jvm.ClassFile.FieldType)) ∈ ga_tb := ga_mem 93 (rfl) rfl
theorem tm_94 : (Jvm.Cond.methodLink "LogPlacer$Routes" (3 : Nat) ({ cls := "java/lang/Object", name := "<init>", desc := "()V" } : Jvm.MethodName)) ∈ ga_tb := ga_mem 94 (by decide +kernel) rfl
theorem tm_95 : (Jvm.Cond.fieldLink "LogPlacer$Routes" (9 : Nat) "LogPlacer$Routes" "stepSets" "[I") ∈ ga_tb := ga_mem 95 (by decide +kernel) rfl
theorem tm_96 : (Jvm.Cond.fieldLink "LogPlacer$Partings" (29 : Nat) "LogPlacer$Routes" "stepSets" "[I") ∈ ga_tb := ga_mem 96 (by decide +kernel) rfl
theorem tm_97 : (Jvm.Cond.fieldLink "LogPlacer$Reading" (62 : Nat) "LogPlacer$Routes" "stepSets" "[I") ∈ ga_tb := ga_mem 97 (by decide +kernel) rfl
theorem tm_98 : (Jvm.Cond.fieldLink "LogPlacer" (112 : Nat) "LogPlacer$Routes" "stepSets" "[I") ∈ ga_tb := ga_mem 98 (by decide +kernel) rfl
theorem tm_99 : (Jvm.Cond.fieldLink "LogPlacer$Routes" (15 : Nat) "LogPlacer$Routes" "nodeSets" "[I") ∈ ga_tb := ga_mem 99 (by decide +kernel) rfl
theorem tm_100 : (Jvm.Cond.fieldLink "LogPlacer$Partings" (26 : Nat) "LogPlacer$Routes" "nodeSets" "[I") ∈ ga_tb := ga_mem 100 (by decide +kernel) rfl
theorem tm_101 : (Jvm.Cond.fieldLink "LogPlacer" (183 : Nat) "LogPlacer$Routes" "nodeSets" "[I") ∈ ga_tb := ga_mem 101 (by decide +kernel) rfl
theorem tm_102 : (Jvm.Cond.fieldLink "LogPlacer$Routes" (22 : Nat) "LogPlacer$Routes" "number" "I") ∈ ga_tb := ga_mem 102 (by decide +kernel) rfl
theorem tm_103 : (Jvm.Cond.fieldLink "LogPlacer$Partings" (23 : Nat) "LogPlacer$Routes" "number" "I") ∈ ga_tb := ga_mem 103 (by decide +kernel) rfl
theorem tm_104 : (Jvm.Cond.fieldLink "LogPlacer$Reading" (57 : Nat) "LogPlacer$Routes" "number" "I") ∈ ga_tb := ga_mem 104 (by decide +kernel) rfl
theorem tm_105 : (Jvm.Cond.fieldLink "LogPlacer" (106 : Nat) "LogPlacer$Routes" "number" "I") ∈ ga_tb := ga_mem 105 (by decide +kernel) rfl
theorem tm_106 : (Jvm.Cond.fieldLink "LogPlacer$Routes" (26 : Nat) "LogPlacer$Routes" "tooMany" "Z") ∈ ga_tb := ga_mem 106 (by decide +kernel) rfl
theorem tm_107 : (Jvm.Cond.fieldLink "LogPlacer" (212 : Nat) "LogPlacer$Routes" "tooMany" "Z") ∈ ga_tb := ga_mem 107 (by decide +kernel) rfl
theorem tm_108 : (Jvm.Cond.fieldLink "LogPlacer$Routes" (18 : Nat) "LogPlacer$Routes" "stale" "Z") ∈ ga_tb := ga_mem 108 (by decide +kernel) rfl
theorem tm_109 : (Jvm.Cond.fieldLink "LogPlacer" (208 : Nat) "LogPlacer$Routes" "stale" "Z") ∈ ga_tb := ga_mem 109 (by decide +kernel) rfl
theorem tm_110 : (Jvm.Cond.laysFinal "LogPlacer$Routes" "LogPlacer$Routes" "stepSets" "[I") ∈ ga_tb := ga_mem 110 (by decide +kernel) rfl
theorem tm_112 : (Jvm.Cond.laysFinal "LogPlacer$Routes" "LogPlacer$Routes" "nodeSets" "[I") ∈ ga_tb := ga_mem 112 (by decide +kernel) rfl
theorem tm_114 : (Jvm.Cond.lays "LogPlacer$Routes" "LogPlacer$Routes" "number" "I") ∈ ga_tb := ga_mem 114 (by decide +kernel) rfl
theorem tm_116 : (Jvm.Cond.lays "LogPlacer$Routes" "LogPlacer$Routes" "tooMany" "Z") ∈ ga_tb := ga_mem 116 (by decide +kernel) rfl
theorem tm_118 : (Jvm.Cond.lays "LogPlacer$Routes" "LogPlacer$Routes" "stale" "Z") ∈ ga_tb := ga_mem 118 (by decide +kernel) rfl
theorem tm_121 : (Jvm.Cond.classLink "LogPlacer" (23 : Nat) "LogPlacer$Partings") ∈ ga_tb := ga_mem 121 (by decide +kernel) rfl
theorem tm_122 : (Jvm.Cond.instantiable "LogPlacer$Partings" (3 : Nat)) ∈ ga_tb := ga_mem 122 (by decide +kernel) rfl
theorem tm_124 : (Jvm.Cond.instanceMethod ({ cls := "LogPlacer$Partings", name := "<init>", desc := "()V" } : Jvm.MethodName)) ∈ ga_tb := ga_mem 124 (by decide +kernel) rfl
set_option maxRecDepth 20000 in
theorem tm_125 : (Jvm.Cond.code ({ cls := "LogPlacer$Partings", name := "<init>", desc := "()V" } : Jvm.MethodName) prog_2_method_1_code (1 : Nat) (Option.none : Option Jvm.ClassFile.FieldType)) ∈ ga_tb := ga_mem 125 (rfl) rfl
theorem tm_126 : (Jvm.Cond.methodLink "LogPlacer$Partings" (3 : Nat) ({ cls := "java/lang/Object", name := "<init>", desc := "()V" } : Jvm.MethodName)) ∈ ga_tb := ga_mem 126 (by decide +kernel) rfl
theorem tm_127 : (Jvm.Cond.fieldLink "LogPlacer$Partings" (9 : Nat) "LogPlacer$Partings" "sets" "[I") ∈ ga_tb := ga_mem 127 (by decide +kernel) rfl
theorem tm_128 : (Jvm.Cond.fieldLink "LogPlacer$Search" (53 : Nat) "LogPlacer$Partings" "sets" "[I") ∈ ga_tb := ga_mem 128 (by decide +kernel) rfl
theorem tm_129 : (Jvm.Cond.fieldLink "LogPlacer$Partings" (19 : Nat) "LogPlacer$Partings" "number" "I") ∈ ga_tb := ga_mem 129 (by decide +kernel) rfl
theorem tm_130 : (Jvm.Cond.fieldLink "LogPlacer$Search" (43 : Nat) "LogPlacer$Partings" "number" "I") ∈ ga_tb := ga_mem 130 (by decide +kernel) rfl
theorem tm_131 : (Jvm.Cond.fieldLink "LogPlacer$Partings" (15 : Nat) "LogPlacer$Partings" "stale" "Z") ∈ ga_tb := ga_mem 131 (by decide +kernel) rfl
theorem tm_132 : (Jvm.Cond.fieldLink "LogPlacer" (98 : Nat) "LogPlacer$Partings" "stale" "Z") ∈ ga_tb := ga_mem 132 (by decide +kernel) rfl
theorem tm_133 : (Jvm.Cond.lays "LogPlacer$Partings" "LogPlacer$Partings" "sets" "[I") ∈ ga_tb := ga_mem 133 (by decide +kernel) rfl
theorem tm_135 : (Jvm.Cond.lays "LogPlacer$Partings" "LogPlacer$Partings" "number" "I") ∈ ga_tb := ga_mem 135 (by decide +kernel) rfl
theorem tm_137 : (Jvm.Cond.lays "LogPlacer$Partings" "LogPlacer$Partings" "stale" "Z") ∈ ga_tb := ga_mem 137 (by decide +kernel) rfl
theorem tm_140 : (Jvm.Cond.classLink "LogPlacer" (33 : Nat) "LogPlacer$Search") ∈ ga_tb := ga_mem 140 (by decide +kernel) rfl
theorem tm_141 : (Jvm.Cond.instantiable "LogPlacer$Search" (3 : Nat)) ∈ ga_tb := ga_mem 141 (by decide +kernel) rfl
theorem tm_142 : (Jvm.Cond.methodLink "LogPlacer" (35 : Nat) ({ cls := "LogPlacer$Search", name := "<init>", desc := "(LLogPlacer$Program;)V" } : Jvm.MethodName)) ∈ ga_tb := ga_mem 142 (by decide +kernel) rfl
theorem tm_143 : (Jvm.Cond.instanceMethod ({ cls := "LogPlacer$Search", name := "<init>", desc := "(LLogPlacer$Program;)V" } : Jvm.MethodName)) ∈ ga_tb := ga_mem 143 (by decide +kernel) rfl
set_option maxRecDepth 20000 in
theorem tm_144 : (Jvm.Cond.code ({ cls := "LogPlacer$Search", name := "<init>", desc := "(LLogPlacer$Program;)V" } : Jvm.MethodName) prog_6_method_1_code (2 : Nat) (Option.none : Option Jvm.ClassFile.FieldType)) ∈ ga_tb := ga_mem 144 (rfl) rfl
theorem tm_145 : (Jvm.Cond.methodLink "LogPlacer$Search" (3 : Nat) ({ cls := "java/lang/Object", name := "<init>", desc := "()V" } : Jvm.MethodName)) ∈ ga_tb := ga_mem 145 (by decide +kernel) rfl
theorem tm_146 : (Jvm.Cond.fieldLink "LogPlacer$Search" (9 : Nat) "LogPlacer$Search" "program" "LLogPlacer$Program;") ∈ ga_tb := ga_mem 146 (by decide +kernel) rfl
theorem tm_147 : (Jvm.Cond.fieldLink "LogPlacer$Search" (21 : Nat) "LogPlacer$Search" "best" "I") ∈ ga_tb := ga_mem 147 (by decide +kernel) rfl
theorem tm_148 : (Jvm.Cond.fieldLink "LogPlacer$Search" (29 : Nat) "LogPlacer$Search" "bestPrice" "J") ∈ ga_tb := ga_mem 148 (by decide +kernel) rfl
theorem tm_149 : (Jvm.Cond.laysFinal "LogPlacer$Search" "LogPlacer$Search" "program" "LLogPlacer$Program;") ∈ ga_tb := ga_mem 149 (by decide +kernel) rfl
theorem tm_151 : (Jvm.Cond.lays "LogPlacer$Search" "LogPlacer$Search" "best" "I") ∈ ga_tb := ga_mem 151 (by decide +kernel) rfl
theorem tm_153 : (Jvm.Cond.lays "LogPlacer$Search" "LogPlacer$Search" "bestPrice" "J") ∈ ga_tb := ga_mem 153 (by decide +kernel) rfl
theorem tm_156 : (Jvm.Cond.classLink "LogPlacer" (42 : Nat) "LogPlacer$Tape") ∈ ga_tb := ga_mem 156 (by decide +kernel) rfl
theorem tm_157 : (Jvm.Cond.instantiable "LogPlacer$Tape" (2 : Nat)) ∈ ga_tb := ga_mem 157 (by decide +kernel) rfl
theorem tm_159 : (Jvm.Cond.instanceMethod ({ cls := "LogPlacer$Tape", name := "<init>", desc := "()V" } : Jvm.MethodName)) ∈ ga_tb := ga_mem 159 (by decide +kernel) rfl
set_option maxRecDepth 20000 in
theorem tm_160 : (Jvm.Cond.code ({ cls := "LogPlacer$Tape", name := "<init>", desc := "()V" } : Jvm.MethodName) prog_7_method_1_code (1 : Nat) (Option.none : Option Jvm.ClassFile.FieldType)) ∈ ga_tb := ga_mem 160 (rfl) rfl
theorem tm_161 : (Jvm.Cond.methodLink "LogPlacer$Tape" (3 : Nat) ({ cls := "java/lang/Object", name := "<init>", desc := "()V" } : Jvm.MethodName)) ∈ ga_tb := ga_mem 161 (by decide +kernel) rfl
theorem tm_162 : (Jvm.Cond.fieldLink "LogPlacer$Tape" (9 : Nat) "LogPlacer$Tape" "bytes" "[I") ∈ ga_tb := ga_mem 162 (by decide +kernel) rfl
theorem tm_163 : (Jvm.Cond.fieldLink "LogPlacer$Reading" (19 : Nat) "LogPlacer$Tape" "bytes" "[I") ∈ ga_tb := ga_mem 163 (by decide +kernel) rfl
theorem tm_164 : (Jvm.Cond.fieldLink "LogPlacer$Tape" (15 : Nat) "LogPlacer$Tape" "length" "I") ∈ ga_tb := ga_mem 164 (by decide +kernel) rfl
theorem tm_165 : (Jvm.Cond.fieldLink "LogPlacer" (162 : Nat) "LogPlacer$Tape" "length" "I") ∈ ga_tb := ga_mem 165 (by decide +kernel) rfl
theorem tm_166 : (Jvm.Cond.laysFinal "LogPlacer$Tape" "LogPlacer$Tape" "bytes" "[I") ∈ ga_tb := ga_mem 166 (by decide +kernel) rfl
theorem tm_168 : (Jvm.Cond.lays "LogPlacer$Tape" "LogPlacer$Tape" "length" "I") ∈ ga_tb := ga_mem 168 (by decide +kernel) rfl
theorem tm_171 : (Jvm.Cond.classLink "LogPlacer" (49 : Nat) "LogPlacer$Reading") ∈ ga_tb := ga_mem 171 (by decide +kernel) rfl
theorem tm_172 : (Jvm.Cond.instantiable "LogPlacer$Reading" (6 : Nat)) ∈ ga_tb := ga_mem 172 (by decide +kernel) rfl
theorem tm_174 : (Jvm.Cond.instanceMethod ({ cls := "LogPlacer$Reading", name := "<init>", desc := "()V" } : Jvm.MethodName)) ∈ ga_tb := ga_mem 174 (by decide +kernel) rfl
set_option maxRecDepth 20000 in
theorem tm_175 : (Jvm.Cond.code ({ cls := "LogPlacer$Reading", name := "<init>", desc := "()V" } : Jvm.MethodName) prog_4_method_1_code (1 : Nat) (Option.none : Option Jvm.ClassFile.FieldType)) ∈ ga_tb := ga_mem 175 (rfl) rfl
theorem tm_176 : (Jvm.Cond.methodLink "LogPlacer$Reading" (3 : Nat) ({ cls := "java/lang/Object", name := "<init>", desc := "()V" } : Jvm.MethodName)) ∈ ga_tb := ga_mem 176 (by decide +kernel) rfl
theorem tm_177 : (Jvm.Cond.fieldLink "LogPlacer$Reading" (9 : Nat) "LogPlacer$Reading" "told" "[I") ∈ ga_tb := ga_mem 177 (by decide +kernel) rfl
theorem tm_178 : (Jvm.Cond.fieldLink "LogPlacer$Reading" (15 : Nat) "LogPlacer$Reading" "length" "I") ∈ ga_tb := ga_mem 178 (by decide +kernel) rfl
theorem tm_179 : (Jvm.Cond.fieldLink "LogPlacer$Reading" (24 : Nat) "LogPlacer$Reading" "torn" "Z") ∈ ga_tb := ga_mem 179 (by decide +kernel) rfl
theorem tm_180 : (Jvm.Cond.fieldLink "LogPlacer$Reading" (28 : Nat) "LogPlacer$Reading" "possible" "Z") ∈ ga_tb := ga_mem 180 (by decide +kernel) rfl
theorem tm_181 : (Jvm.Cond.fieldLink "LogPlacer$Reading" (31 : Nat) "LogPlacer$Reading" "toldSet" "I") ∈ ga_tb := ga_mem 181 (by decide +kernel) rfl
theorem tm_182 : (Jvm.Cond.fieldLink "LogPlacer$Reading" (54 : Nat) "LogPlacer$Reading" "heard" "I") ∈ ga_tb := ga_mem 182 (by decide +kernel) rfl
theorem tm_183 : (Jvm.Cond.laysFinal "LogPlacer$Reading" "LogPlacer$Reading" "told" "[I") ∈ ga_tb := ga_mem 183 (by decide +kernel) rfl
theorem tm_185 : (Jvm.Cond.lays "LogPlacer$Reading" "LogPlacer$Reading" "length" "I") ∈ ga_tb := ga_mem 185 (by decide +kernel) rfl
theorem tm_187 : (Jvm.Cond.lays "LogPlacer$Reading" "LogPlacer$Reading" "torn" "Z") ∈ ga_tb := ga_mem 187 (by decide +kernel) rfl
theorem tm_189 : (Jvm.Cond.lays "LogPlacer$Reading" "LogPlacer$Reading" "possible" "Z") ∈ ga_tb := ga_mem 189 (by decide +kernel) rfl
theorem tm_191 : (Jvm.Cond.lays "LogPlacer$Reading" "LogPlacer$Reading" "toldSet" "I") ∈ ga_tb := ga_mem 191 (by decide +kernel) rfl
theorem tm_193 : (Jvm.Cond.lays "LogPlacer$Reading" "LogPlacer$Reading" "heard" "I") ∈ ga_tb := ga_mem 193 (by decide +kernel) rfl
theorem tm_196 : (Jvm.Cond.fieldLink "LogPlacer" (12 : Nat) "LogPlacer" "program" "LLogPlacer$Program;") ∈ ga_tb := ga_mem 196 (by decide +kernel) rfl
theorem tm_197 : (Jvm.Cond.fieldLink "LogPlacer" (19 : Nat) "LogPlacer" "routes" "LLogPlacer$Routes;") ∈ ga_tb := ga_mem 197 (by decide +kernel) rfl
theorem tm_198 : (Jvm.Cond.fieldLink "LogPlacer" (26 : Nat) "LogPlacer" "ofWays" "LLogPlacer$Partings;") ∈ ga_tb := ga_mem 198 (by decide +kernel) rfl
theorem tm_199 : (Jvm.Cond.fieldLink "LogPlacer" (30 : Nat) "LogPlacer" "ofFaults" "LLogPlacer$Partings;") ∈ ga_tb := ga_mem 199 (by decide +kernel) rfl
theorem tm_200 : (Jvm.Cond.fieldLink "LogPlacer" (38 : Nat) "LogPlacer" "search" "LLogPlacer$Search;") ∈ ga_tb := ga_mem 200 (by decide +kernel) rfl
theorem tm_201 : (Jvm.Cond.fieldLink "LogPlacer" (45 : Nat) "LogPlacer" "tape" "LLogPlacer$Tape;") ∈ ga_tb := ga_mem 201 (by decide +kernel) rfl
theorem tm_202 : (Jvm.Cond.fieldLink "LogPlacer" (52 : Nat) "LogPlacer" "reading" "LLogPlacer$Reading;") ∈ ga_tb := ga_mem 202 (by decide +kernel) rfl
theorem tm_203 : (Jvm.Cond.laysFinal "LogPlacer" "LogPlacer" "program" "LLogPlacer$Program;") ∈ ga_tb := ga_mem 203 (by decide +kernel) rfl
theorem tm_205 : (Jvm.Cond.laysFinal "LogPlacer" "LogPlacer" "routes" "LLogPlacer$Routes;") ∈ ga_tb := ga_mem 205 (by decide +kernel) rfl
theorem tm_207 : (Jvm.Cond.laysFinal "LogPlacer" "LogPlacer" "ofWays" "LLogPlacer$Partings;") ∈ ga_tb := ga_mem 207 (by decide +kernel) rfl
theorem tm_209 : (Jvm.Cond.laysFinal "LogPlacer" "LogPlacer" "ofFaults" "LLogPlacer$Partings;") ∈ ga_tb := ga_mem 209 (by decide +kernel) rfl
theorem tm_211 : (Jvm.Cond.laysFinal "LogPlacer" "LogPlacer" "search" "LLogPlacer$Search;") ∈ ga_tb := ga_mem 211 (by decide +kernel) rfl
theorem tm_213 : (Jvm.Cond.laysFinal "LogPlacer" "LogPlacer" "tape" "LLogPlacer$Tape;") ∈ ga_tb := ga_mem 213 (by decide +kernel) rfl
theorem tm_215 : (Jvm.Cond.laysFinal "LogPlacer" "LogPlacer" "reading" "LLogPlacer$Reading;") ∈ ga_tb := ga_mem 215 (by decide +kernel) rfl
theorem tm_218 : (Jvm.Cond.methodLink "LogPlacerLaw" (13 : Nat) ({ cls := "LogPlacer", name := "flow", desc := "(I)Z" } : Jvm.MethodName)) ∈ ga_tb := ga_mem 218 (by decide +kernel) rfl
theorem tm_219 : (Jvm.Cond.instanceMethod ({ cls := "LogPlacer", name := "flow", desc := "(I)Z" } : Jvm.MethodName)) ∈ ga_tb := ga_mem 219 (by decide +kernel) rfl
theorem tm_220 : (Jvm.Cond.selects "LogPlacer" ({ cls := "LogPlacer", name := "flow", desc := "(I)Z" } : Jvm.MethodName) ({ cls := "LogPlacer", name := "flow", desc := "(I)Z" } : Jvm.MethodName)) ∈ ga_tb := ga_mem 220 (by decide +kernel) rfl
set_option maxRecDepth 20000 in
theorem tm_221 : (Jvm.Cond.code ({ cls := "LogPlacer", name := "flow", desc := "(I)Z" } : Jvm.MethodName) prog_1_method_2_code (2 : Nat) (Option.some Jvm.ClassFile.FieldType.boolean)) ∈ ga_tb := ga_mem 221 (rfl) rfl
theorem tm_222 : (Jvm.Cond.methodLink "LogPlacer" (56 : Nat) ({ cls := "LogPlacer$Program", name := "restart", desc := "(I)V" } : Jvm.MethodName)) ∈ ga_tb := ga_mem 222 (by decide +kernel) rfl
theorem tm_223 : (Jvm.Cond.instanceMethod ({ cls := "LogPlacer$Program", name := "restart", desc := "(I)V" } : Jvm.MethodName)) ∈ ga_tb := ga_mem 223 (by decide +kernel) rfl
theorem tm_224 : (Jvm.Cond.selects "LogPlacer$Program" ({ cls := "LogPlacer$Program", name := "restart", desc := "(I)V" } : Jvm.MethodName) ({ cls := "LogPlacer$Program", name := "restart", desc := "(I)V" } : Jvm.MethodName)) ∈ ga_tb := ga_mem 224 (by decide +kernel) rfl
set_option maxRecDepth 20000 in
theorem tm_225 : (Jvm.Cond.code ({ cls := "LogPlacer$Program", name := "restart", desc := "(I)V" } : Jvm.MethodName) prog_3_method_2_code (2 : Nat) (Option.none : Option Jvm.ClassFile.FieldType)) ∈ ga_tb := ga_mem 225 (rfl) rfl
theorem tm_226 : (Jvm.Cond.methodLink "LogPlacer$Program" (37 : Nat) ({ cls := "java/util/Arrays", name := "fill", desc := "([II)V" } : Jvm.MethodName)) ∈ ga_tb := ga_mem 226 (by decide +kernel) rfl
theorem tm_227 : (Jvm.Cond.static ({ cls := "java/util/Arrays", name := "fill", desc := "([II)V" } : Jvm.MethodName)) ∈ ga_tb := ga_mem 227 (by decide +kernel) rfl
set_option maxRecDepth 20000 in
theorem tm_228 : (Jvm.Cond.code ({ cls := "java/util/Arrays", name := "fill", desc := "([II)V" } : Jvm.MethodName) prog_14_method_103_code (4 : Nat) (Option.none : Option Jvm.ClassFile.FieldType)) ∈ ga_tb := ga_mem 228 (rfl) rfl
theorem tm_229 : (Jvm.Cond.methodLink "LogPlacer" (60 : Nat) ({ cls := "LogPlacer$Reading", name := "forget", desc := "()V" } : Jvm.MethodName)) ∈ ga_tb := ga_mem 229 (by decide +kernel) rfl
theorem tm_230 : (Jvm.Cond.instanceMethod ({ cls := "LogPlacer$Reading", name := "forget", desc := "()V" } : Jvm.MethodName)) ∈ ga_tb := ga_mem 230 (by decide +kernel) rfl
theorem tm_231 : (Jvm.Cond.selects "LogPlacer$Reading" ({ cls := "LogPlacer$Reading", name := "forget", desc := "()V" } : Jvm.MethodName) ({ cls := "LogPlacer$Reading", name := "forget", desc := "()V" } : Jvm.MethodName)) ∈ ga_tb := ga_mem 231 (by decide +kernel) rfl
set_option maxRecDepth 20000 in
theorem tm_232 : (Jvm.Cond.code ({ cls := "LogPlacer$Reading", name := "forget", desc := "()V" } : Jvm.MethodName) prog_4_method_2_code (1 : Nat) (Option.none : Option Jvm.ClassFile.FieldType)) ∈ ga_tb := ga_mem 232 (rfl) rfl
theorem tm_233 : (Jvm.Cond.methodLink "LogPlacer" (63 : Nat) ({ cls := "LogPlacer", name := "forgetWays", desc := "()V" } : Jvm.MethodName)) ∈ ga_tb := ga_mem 233 (by decide +kernel) rfl
theorem tm_235 : (Jvm.Cond.instanceMethod ({ cls := "LogPlacer", name := "forgetWays", desc := "()V" } : Jvm.MethodName)) ∈ ga_tb := ga_mem 235 (by decide +kernel) rfl
set_option maxRecDepth 20000 in
theorem tm_236 : (Jvm.Cond.code ({ cls := "LogPlacer", name := "forgetWays", desc := "()V" } : Jvm.MethodName) prog_1_method_28_code (1 : Nat) (Option.none : Option Jvm.ClassFile.FieldType)) ∈ ga_tb := ga_mem 236 (rfl) rfl
theorem tm_237 : (Jvm.Cond.methodLink "LogPlacerLaw" (18 : Nat) ({ cls := "LogPlacer", name := "step", desc := "(III)I" } : Jvm.MethodName)) ∈ ga_tb := ga_mem 237 (by decide +kernel) rfl
theorem tm_238 : (Jvm.Cond.instanceMethod ({ cls := "LogPlacer", name := "step", desc := "(III)I" } : Jvm.MethodName)) ∈ ga_tb := ga_mem 238 (by decide +kernel) rfl
theorem tm_239 : (Jvm.Cond.selects "LogPlacer" ({ cls := "LogPlacer", name := "step", desc := "(III)I" } : Jvm.MethodName) ({ cls := "LogPlacer", name := "step", desc := "(III)I" } : Jvm.MethodName)) ∈ ga_tb := ga_mem 239 (by decide +kernel) rfl
set_option maxRecDepth 20000 in
theorem tm_240 : (Jvm.Cond.code ({ cls := "LogPlacer", name := "step", desc := "(III)I" } : Jvm.MethodName) prog_1_method_3_code (5 : Nat) (Option.some Jvm.ClassFile.FieldType.int)) ∈ ga_tb := ga_mem 240 (rfl) rfl
theorem tm_241 : (Jvm.Cond.methodLink "LogPlacer" (66 : Nat) ({ cls := "LogPlacer$Program", name := "hasNode", desc := "(I)Z" } : Jvm.MethodName)) ∈ ga_tb := ga_mem 241 (by decide +kernel) rfl
theorem tm_242 : (Jvm.Cond.instanceMethod ({ cls := "LogPlacer$Program", name := "hasNode", desc := "(I)Z" } : Jvm.MethodName)) ∈ ga_tb := ga_mem 242 (by decide +kernel) rfl
theorem tm_243 : (Jvm.Cond.selects "LogPlacer$Program" ({ cls := "LogPlacer$Program", name := "hasNode", desc := "(I)Z" } : Jvm.MethodName) ({ cls := "LogPlacer$Program", name := "hasNode", desc := "(I)Z" } : Jvm.MethodName)) ∈ ga_tb := ga_mem 243 (by decide +kernel) rfl
set_option maxRecDepth 20000 in
theorem tm_244 : (Jvm.Cond.code ({ cls := "LogPlacer$Program", name := "hasNode", desc := "(I)Z" } : Jvm.MethodName) prog_3_method_3_code (2 : Nat) (Option.some Jvm.ClassFile.FieldType.boolean)) ∈ ga_tb := ga_mem 244 (rfl) rfl
theorem tm_245 : (Jvm.Cond.methodLink "LogPlacer" (70 : Nat) ({ cls := "LogPlacer", name := "canBeCounted", desc := "(I)Z" } : Jvm.MethodName)) ∈ ga_tb := ga_mem 245 (by decide +kernel) rfl
theorem tm_246 : (Jvm.Cond.static ({ cls := "LogPlacer", name := "canBeCounted", desc := "(I)Z" } : Jvm.MethodName)) ∈ ga_tb := ga_mem 246 (by decide +kernel) rfl
set_option maxRecDepth 20000 in
theorem tm_247 : (Jvm.Cond.code ({ cls := "LogPlacer", name := "canBeCounted", desc := "(I)Z" } : Jvm.MethodName) prog_1_method_23_code (1 : Nat) (Option.some Jvm.ClassFile.FieldType.boolean)) ∈ ga_tb := ga_mem 247 (rfl) rfl
theorem tm_248 : (Jvm.Cond.constant "LogPlacer" (207 : Nat) (1000000 : Int32)) ∈ ga_tb := ga_mem 248 (by decide +kernel) rfl
theorem tm_249 : (Jvm.Cond.methodLink "LogPlacer" (77 : Nat) ({ cls := "LogPlacer$Program", name := "addStep", desc := "(III)I" } : Jvm.MethodName)) ∈ ga_tb := ga_mem 249 (by decide +kernel) rfl
theorem tm_250 : (Jvm.Cond.instanceMethod ({ cls := "LogPlacer$Program", name := "addStep", desc := "(III)I" } : Jvm.MethodName)) ∈ ga_tb := ga_mem 250 (by decide +kernel) rfl
theorem tm_251 : (Jvm.Cond.selects "LogPlacer$Program" ({ cls := "LogPlacer$Program", name := "addStep", desc := "(III)I" } : Jvm.MethodName) ({ cls := "LogPlacer$Program", name := "addStep", desc := "(III)I" } : Jvm.MethodName)) ∈ ga_tb := ga_mem 251 (by decide +kernel) rfl
set_option maxRecDepth 20000 in
theorem tm_252 : (Jvm.Cond.code ({ cls := "LogPlacer$Program", name := "addStep", desc := "(III)I" } : Jvm.MethodName) prog_3_method_5_code (5 : Nat) (Option.some Jvm.ClassFile.FieldType.int)) ∈ ga_tb := ga_mem 252 (rfl) rfl
theorem tm_253 : (Jvm.Cond.methodLink "LogPlacerLaw" (23 : Nat) ({ cls := "LogPlacer", name := "counted", desc := "(II)Z" } : Jvm.MethodName)) ∈ ga_tb := ga_mem 253 (by decide +kernel) rfl
theorem tm_254 : (Jvm.Cond.instanceMethod ({ cls := "LogPlacer", name := "counted", desc := "(II)Z" } : Jvm.MethodName)) ∈ ga_tb := ga_mem 254 (by decide +kernel) rfl
theorem tm_255 : (Jvm.Cond.selects "LogPlacer" ({ cls := "LogPlacer", name := "counted", desc := "(II)Z" } : Jvm.MethodName) ({ cls := "LogPlacer", name := "counted", desc := "(II)Z" } : Jvm.MethodName)) ∈ ga_tb := ga_mem 255 (by decide +kernel) rfl
set_option maxRecDepth 20000 in
theorem tm_256 : (Jvm.Cond.code ({ cls := "LogPlacer", name := "counted", desc := "(II)Z" } : Jvm.MethodName) prog_1_method_4_code (3 : Nat) (Option.some Jvm.ClassFile.FieldType.boolean)) ∈ ga_tb := ga_mem 256 (rfl) rfl
theorem tm_257 : (Jvm.Cond.methodLink "LogPlacer" (81 : Nat) ({ cls := "LogPlacer$Program", name := "hasStep", desc := "(I)Z" } : Jvm.MethodName)) ∈ ga_tb := ga_mem 257 (by decide +kernel) rfl
theorem tm_258 : (Jvm.Cond.instanceMethod ({ cls := "LogPlacer$Program", name := "hasStep", desc := "(I)Z" } : Jvm.MethodName)) ∈ ga_tb := ga_mem 258 (by decide +kernel) rfl
theorem tm_259 : (Jvm.Cond.selects "LogPlacer$Program" ({ cls := "LogPlacer$Program", name := "hasStep", desc := "(I)Z" } : Jvm.MethodName) ({ cls := "LogPlacer$Program", name := "hasStep", desc := "(I)Z" } : Jvm.MethodName)) ∈ ga_tb := ga_mem 259 (by decide +kernel) rfl
set_option maxRecDepth 20000 in
theorem tm_260 : (Jvm.Cond.code ({ cls := "LogPlacer$Program", name := "hasStep", desc := "(I)Z" } : Jvm.MethodName) prog_3_method_4_code (2 : Nat) (Option.some Jvm.ClassFile.FieldType.boolean)) ∈ ga_tb := ga_mem 260 (rfl) rfl
theorem tm_261 : (Jvm.Cond.methodLink "LogPlacerLaw" (28 : Nat) ({ cls := "LogPlacer", name := "line", desc := "(IZ)Z" } : Jvm.MethodName)) ∈ ga_tb := ga_mem 261 (by decide +kernel) rfl
theorem tm_262 : (Jvm.Cond.instanceMethod ({ cls := "LogPlacer", name := "line", desc := "(IZ)Z" } : Jvm.MethodName)) ∈ ga_tb := ga_mem 262 (by decide +kernel) rfl
theorem tm_263 : (Jvm.Cond.selects "LogPlacer" ({ cls := "LogPlacer", name := "line", desc := "(IZ)Z" } : Jvm.MethodName) ({ cls := "LogPlacer", name := "line", desc := "(IZ)Z" } : Jvm.MethodName)) ∈ ga_tb := ga_mem 263 (by decide +kernel) rfl
set_option maxRecDepth 20000 in
theorem tm_264 : (Jvm.Cond.code ({ cls := "LogPlacer", name := "line", desc := "(IZ)Z" } : Jvm.MethodName) prog_1_method_5_code (3 : Nat) (Option.some Jvm.ClassFile.FieldType.boolean)) ∈ ga_tb := ga_mem 264 (rfl) rfl
theorem tm_265 : (Jvm.Cond.methodLink "LogPlacer" (91 : Nat) ({ cls := "LogPlacer", name := "has", desc := "(II)Z" } : Jvm.MethodName)) ∈ ga_tb := ga_mem 265 (by decide +kernel) rfl
theorem tm_266 : (Jvm.Cond.static ({ cls := "LogPlacer", name := "has", desc := "(II)Z" } : Jvm.MethodName)) ∈ ga_tb := ga_mem 266 (by decide +kernel) rfl
set_option maxRecDepth 20000 in
theorem tm_267 : (Jvm.Cond.code ({ cls := "LogPlacer", name := "has", desc := "(II)Z" } : Jvm.MethodName) prog_1_method_26_code (2 : Nat) (Option.some Jvm.ClassFile.FieldType.boolean)) ∈ ga_tb := ga_mem 267 (rfl) rfl
theorem tm_268 : (Jvm.Cond.methodLink "LogPlacerLaw" (33 : Nat) ({ cls := "LogPlacer", name := "fault", desc := "(IZ)Z" } : Jvm.MethodName)) ∈ ga_tb := ga_mem 268 (by decide +kernel) rfl
theorem tm_269 : (Jvm.Cond.instanceMethod ({ cls := "LogPlacer", name := "fault", desc := "(IZ)Z" } : Jvm.MethodName)) ∈ ga_tb := ga_mem 269 (by decide +kernel) rfl
theorem tm_270 : (Jvm.Cond.selects "LogPlacer" ({ cls := "LogPlacer", name := "fault", desc := "(IZ)Z" } : Jvm.MethodName) ({ cls := "LogPlacer", name := "fault", desc := "(IZ)Z" } : Jvm.MethodName)) ∈ ga_tb := ga_mem 270 (by decide +kernel) rfl
set_option maxRecDepth 20000 in
theorem tm_271 : (Jvm.Cond.code ({ cls := "LogPlacer", name := "fault", desc := "(IZ)Z" } : Jvm.MethodName) prog_1_method_6_code (3 : Nat) (Option.some Jvm.ClassFile.FieldType.boolean)) ∈ ga_tb := ga_mem 271 (rfl) rfl
theorem tm_272 : (Jvm.Cond.methodLink "LogPlacerLaw" (37 : Nat) ({ cls := "LogPlacer", name := "ways", desc := "()I" } : Jvm.MethodName)) ∈ ga_tb := ga_mem 272 (by decide +kernel) rfl
theorem tm_273 : (Jvm.Cond.instanceMethod ({ cls := "LogPlacer", name := "ways", desc := "()I" } : Jvm.MethodName)) ∈ ga_tb := ga_mem 273 (by decide +kernel) rfl
theorem tm_274 : (Jvm.Cond.selects "LogPlacer" ({ cls := "LogPlacer", name := "ways", desc := "()I" } : Jvm.MethodName) ({ cls := "LogPlacer", name := "ways", desc := "()I" } : Jvm.MethodName)) ∈ ga_tb := ga_mem 274 (by decide +kernel) rfl
set_option maxRecDepth 20000 in
theorem tm_275 : (Jvm.Cond.code ({ cls := "LogPlacer", name := "ways", desc := "()I" } : Jvm.MethodName) prog_1_method_7_code (1 : Nat) (Option.some Jvm.ClassFile.FieldType.int)) ∈ ga_tb := ga_mem 275 (rfl) rfl
theorem tm_276 : (Jvm.Cond.methodLink "LogPlacer" (102 : Nat) ({ cls := "LogPlacer", name := "tooMany", desc := "()Z" } : Jvm.MethodName)) ∈ ga_tb := ga_mem 276 (by decide +kernel) rfl
theorem tm_278 : (Jvm.Cond.instanceMethod ({ cls := "LogPlacer", name := "tooMany", desc := "()Z" } : Jvm.MethodName)) ∈ ga_tb := ga_mem 278 (by decide +kernel) rfl
set_option maxRecDepth 20000 in
theorem tm_279 : (Jvm.Cond.code ({ cls := "LogPlacer", name := "tooMany", desc := "()Z" } : Jvm.MethodName) prog_1_method_29_code (1 : Nat) (Option.some Jvm.ClassFile.FieldType.boolean)) ∈ ga_tb := ga_mem 279 (rfl) rfl
theorem tm_280 : (Jvm.Cond.methodLink "LogPlacer" (209 : Nat) ({ cls := "LogPlacer$Routes", name := "gather", desc := "(LLogPlacer$Program;)V" } : Jvm.MethodName)) ∈ ga_tb := ga_mem 280 (by decide +kernel) rfl
theorem tm_281 : (Jvm.Cond.instanceMethod ({ cls := "LogPlacer$Routes", name := "gather", desc := "(LLogPlacer$Program;)V" } : Jvm.MethodName)) ∈ ga_tb := ga_mem 281 (by decide +kernel) rfl
theorem tm_282 : (Jvm.Cond.selects "LogPlacer$Routes" ({ cls := "LogPlacer$Routes", name := "gather", desc := "(LLogPlacer$Program;)V" } : Jvm.MethodName) ({ cls := "LogPlacer$Routes", name := "gather", desc := "(LLogPlacer$Program;)V" } : Jvm.MethodName)) ∈ ga_tb := ga_mem 282 (by decide +kernel) rfl
set_option maxRecDepth 20000 in
theorem tm_283 : (Jvm.Cond.code ({ cls := "LogPlacer$Routes", name := "gather", desc := "(LLogPlacer$Program;)V" } : Jvm.MethodName) prog_5_method_2_code (2 : Nat) (Option.none : Option Jvm.ClassFile.FieldType)) ∈ ga_tb := ga_mem 283 (rfl) rfl
theorem tm_284 : (Jvm.Cond.methodLink "LogPlacer$Routes" (29 : Nat) ({ cls := "LogPlacer$Routes", name := "follow", desc := "(LLogPlacer$Routes;LLogPlacer$Program;IIII)V" } : Jvm.MethodName)) ∈ ga_tb := ga_mem 284 (by decide +kernel) rfl
theorem tm_285 : (Jvm.Cond.static ({ cls := "LogPlacer$Routes", name := "follow", desc := "(LLogPlacer$Routes;LLogPlacer$Program;IIII)V" } : Jvm.MethodName)) ∈ ga_tb := ga_mem 285 (by decide +kernel) rfl
set_option maxRecDepth 20000 in
theorem tm_286 : (Jvm.Cond.code ({ cls := "LogPlacer$Routes", name := "follow", desc := "(LLogPlacer$Routes;LLogPlacer$Program;IIII)V" } : Jvm.MethodName) prog_5_method_3_code (8 : Nat) (Option.none : Option Jvm.ClassFile.FieldType)) ∈ ga_tb := ga_mem 286 (rfl) rfl
theorem tm_287 : (Jvm.Cond.methodLink "LogPlacer$Routes" (38 : Nat) ({ cls := "LogPlacer$Routes", name := "add", desc := "(II)V" } : Jvm.MethodName)) ∈ ga_tb := ga_mem 287 (by decide +kernel) rfl
theorem tm_289 : (Jvm.Cond.instanceMethod ({ cls := "LogPlacer$Routes", name := "add", desc := "(II)V" } : Jvm.MethodName)) ∈ ga_tb := ga_mem 289 (by decide +kernel) rfl
set_option maxRecDepth 20000 in
theorem tm_290 : (Jvm.Cond.code ({ cls := "LogPlacer$Routes", name := "add", desc := "(II)V" } : Jvm.MethodName) prog_5_method_4_code (3 : Nat) (Option.none : Option Jvm.ClassFile.FieldType)) ∈ ga_tb := ga_mem 290 (rfl) rfl
theorem tm_291 : (Jvm.Cond.methodLink "LogPlacerLaw" (42 : Nat) ({ cls := "LogPlacer", name := "way", desc := "(II)I" } : Jvm.MethodName)) ∈ ga_tb := ga_mem 291 (by decide +kernel) rfl
theorem tm_292 : (Jvm.Cond.instanceMethod ({ cls := "LogPlacer", name := "way", desc := "(II)I" } : Jvm.MethodName)) ∈ ga_tb := ga_mem 292 (by decide +kernel) rfl
theorem tm_293 : (Jvm.Cond.selects "LogPlacer" ({ cls := "LogPlacer", name := "way", desc := "(II)I" } : Jvm.MethodName) ({ cls := "LogPlacer", name := "way", desc := "(II)I" } : Jvm.MethodName)) ∈ ga_tb := ga_mem 293 (by decide +kernel) rfl
set_option maxRecDepth 20000 in
theorem tm_294 : (Jvm.Cond.code ({ cls := "LogPlacer", name := "way", desc := "(II)I" } : Jvm.MethodName) prog_1_method_8_code (3 : Nat) (Option.some Jvm.ClassFile.FieldType.int)) ∈ ga_tb := ga_mem 294 (rfl) rfl
theorem tm_295 : (Jvm.Cond.methodLink "LogPlacer" (109 : Nat) ({ cls := "LogPlacer", name := "hasWay", desc := "(I)Z" } : Jvm.MethodName)) ∈ ga_tb := ga_mem 295 (by decide +kernel) rfl
theorem tm_297 : (Jvm.Cond.instanceMethod ({ cls := "LogPlacer", name := "hasWay", desc := "(I)Z" } : Jvm.MethodName)) ∈ ga_tb := ga_mem 297 (by decide +kernel) rfl
set_option maxRecDepth 20000 in
theorem tm_298 : (Jvm.Cond.code ({ cls := "LogPlacer", name := "hasWay", desc := "(I)Z" } : Jvm.MethodName) prog_1_method_30_code (2 : Nat) (Option.some Jvm.ClassFile.FieldType.boolean)) ∈ ga_tb := ga_mem 298 (rfl) rfl
theorem tm_299 : (Jvm.Cond.methodLink "LogPlacer" (115 : Nat) ({ cls := "LogPlacer$Program", name := "stepAt", desc := "(II)I" } : Jvm.MethodName)) ∈ ga_tb := ga_mem 299 (by decide +kernel) rfl
theorem tm_300 : (Jvm.Cond.instanceMethod ({ cls := "LogPlacer$Program", name := "stepAt", desc := "(II)I" } : Jvm.MethodName)) ∈ ga_tb := ga_mem 300 (by decide +kernel) rfl
theorem tm_301 : (Jvm.Cond.selects "LogPlacer$Program" ({ cls := "LogPlacer$Program", name := "stepAt", desc := "(II)I" } : Jvm.MethodName) ({ cls := "LogPlacer$Program", name := "stepAt", desc := "(II)I" } : Jvm.MethodName)) ∈ ga_tb := ga_mem 301 (by decide +kernel) rfl
set_option maxRecDepth 20000 in
theorem tm_302 : (Jvm.Cond.code ({ cls := "LogPlacer$Program", name := "stepAt", desc := "(II)I" } : Jvm.MethodName) prog_3_method_9_code (6 : Nat) (Option.some Jvm.ClassFile.FieldType.int)) ∈ ga_tb := ga_mem 302 (rfl) rfl
theorem tm_304 : (Jvm.Cond.static ({ cls := "LogPlacer", name := "member", desc := "(II)I" } : Jvm.MethodName)) ∈ ga_tb := ga_mem 304 (by decide +kernel) rfl
set_option maxRecDepth 20000 in
theorem tm_305 : (Jvm.Cond.code ({ cls := "LogPlacer", name := "member", desc := "(II)I" } : Jvm.MethodName) prog_1_method_27_code (4 : Nat) (Option.some Jvm.ClassFile.FieldType.int)) ∈ ga_tb := ga_mem 305 (rfl) rfl
theorem tm_306 : (Jvm.Cond.methodLink "LogPlacerLaw" (47 : Nat) ({ cls := "LogPlacer", name := "log", desc := "(II)I" } : Jvm.MethodName)) ∈ ga_tb := ga_mem 306 (by decide +kernel) rfl
theorem tm_307 : (Jvm.Cond.instanceMethod ({ cls := "LogPlacer", name := "log", desc := "(II)I" } : Jvm.MethodName)) ∈ ga_tb := ga_mem 307 (by decide +kernel) rfl
theorem tm_308 : (Jvm.Cond.selects "LogPlacer" ({ cls := "LogPlacer", name := "log", desc := "(II)I" } : Jvm.MethodName) ({ cls := "LogPlacer", name := "log", desc := "(II)I" } : Jvm.MethodName)) ∈ ga_tb := ga_mem 308 (by decide +kernel) rfl
set_option maxRecDepth 20000 in
theorem tm_309 : (Jvm.Cond.code ({ cls := "LogPlacer", name := "log", desc := "(II)I" } : Jvm.MethodName) prog_1_method_9_code (3 : Nat) (Option.some Jvm.ClassFile.FieldType.int)) ∈ ga_tb := ga_mem 309 (rfl) rfl
theorem tm_310 : (Jvm.Cond.methodLink "LogPlacerLaw" (51 : Nat) ({ cls := "LogPlacer", name := "heaps", desc := "()I" } : Jvm.MethodName)) ∈ ga_tb := ga_mem 310 (by decide +kernel) rfl
theorem tm_311 : (Jvm.Cond.instanceMethod ({ cls := "LogPlacer", name := "heaps", desc := "()I" } : Jvm.MethodName)) ∈ ga_tb := ga_mem 311 (by decide +kernel) rfl
theorem tm_312 : (Jvm.Cond.selects "LogPlacer" ({ cls := "LogPlacer", name := "heaps", desc := "()I" } : Jvm.MethodName) ({ cls := "LogPlacer", name := "heaps", desc := "()I" } : Jvm.MethodName)) ∈ ga_tb := ga_mem 312 (by decide +kernel) rfl
set_option maxRecDepth 20000 in
theorem tm_313 : (Jvm.Cond.code ({ cls := "LogPlacer", name := "heaps", desc := "()I" } : Jvm.MethodName) prog_1_method_10_code (1 : Nat) (Option.some Jvm.ClassFile.FieldType.int)) ∈ ga_tb := ga_mem 313 (rfl) rfl
theorem tm_314 : (Jvm.Cond.methodLink "LogPlacer" (119 : Nat) ({ cls := "LogPlacer$Routes", name := "logsUnlike", desc := "(I)I" } : Jvm.MethodName)) ∈ ga_tb := ga_mem 314 (by decide +kernel) rfl
theorem tm_315 : (Jvm.Cond.instanceMethod ({ cls := "LogPlacer$Routes", name := "logsUnlike", desc := "(I)I" } : Jvm.MethodName)) ∈ ga_tb := ga_mem 315 (by decide +kernel) rfl
theorem tm_316 : (Jvm.Cond.selects "LogPlacer$Routes" ({ cls := "LogPlacer$Routes", name := "logsUnlike", desc := "(I)I" } : Jvm.MethodName) ({ cls := "LogPlacer$Routes", name := "logsUnlike", desc := "(I)I" } : Jvm.MethodName)) ∈ ga_tb := ga_mem 316 (by decide +kernel) rfl
set_option maxRecDepth 20000 in
theorem tm_317 : (Jvm.Cond.code ({ cls := "LogPlacer$Routes", name := "logsUnlike", desc := "(I)I" } : Jvm.MethodName) prog_5_method_6_code (4 : Nat) (Option.some Jvm.ClassFile.FieldType.int)) ∈ ga_tb := ga_mem 317 (rfl) rfl
theorem tm_318 : (Jvm.Cond.methodLink "LogPlacer$Routes" (51 : Nat) ({ cls := "LogPlacer$Routes", name := "firstLike", desc := "(II)I" } : Jvm.MethodName)) ∈ ga_tb := ga_mem 318 (by decide +kernel) rfl
theorem tm_319 : (Jvm.Cond.instanceMethod ({ cls := "LogPlacer$Routes", name := "firstLike", desc := "(II)I" } : Jvm.MethodName)) ∈ ga_tb := ga_mem 319 (by decide +kernel) rfl
theorem tm_320 : (Jvm.Cond.selects "LogPlacer$Routes" ({ cls := "LogPlacer$Routes", name := "firstLike", desc := "(II)I" } : Jvm.MethodName) ({ cls := "LogPlacer$Routes", name := "firstLike", desc := "(II)I" } : Jvm.MethodName)) ∈ ga_tb := ga_mem 320 (by decide +kernel) rfl
set_option maxRecDepth 20000 in
theorem tm_321 : (Jvm.Cond.code ({ cls := "LogPlacer$Routes", name := "firstLike", desc := "(II)I" } : Jvm.MethodName) prog_5_method_5_code (5 : Nat) (Option.some Jvm.ClassFile.FieldType.int)) ∈ ga_tb := ga_mem 321 (rfl) rfl
theorem tm_322 : (Jvm.Cond.methodLink "LogPlacerLaw" (55 : Nat) ({ cls := "LogPlacer", name := "heap", desc := "(I)I" } : Jvm.MethodName)) ∈ ga_tb := ga_mem 322 (by decide +kernel) rfl
theorem tm_323 : (Jvm.Cond.instanceMethod ({ cls := "LogPlacer", name := "heap", desc := "(I)I" } : Jvm.MethodName)) ∈ ga_tb := ga_mem 323 (by decide +kernel) rfl
theorem tm_324 : (Jvm.Cond.selects "LogPlacer" ({ cls := "LogPlacer", name := "heap", desc := "(I)I" } : Jvm.MethodName) ({ cls := "LogPlacer", name := "heap", desc := "(I)I" } : Jvm.MethodName)) ∈ ga_tb := ga_mem 324 (by decide +kernel) rfl
set_option maxRecDepth 20000 in
theorem tm_325 : (Jvm.Cond.code ({ cls := "LogPlacer", name := "heap", desc := "(I)I" } : Jvm.MethodName) prog_1_method_11_code (2 : Nat) (Option.some Jvm.ClassFile.FieldType.int)) ∈ ga_tb := ga_mem 325 (rfl) rfl
theorem tm_326 : (Jvm.Cond.methodLink "LogPlacer" (123 : Nat) ({ cls := "LogPlacer$Routes", name := "firstLike", desc := "(II)I" } : Jvm.MethodName)) ∈ ga_tb := ga_mem 326 (by decide +kernel) rfl
theorem tm_327 : (Jvm.Cond.methodLink "LogPlacerLaw" (60 : Nat) ({ cls := "LogPlacer", name := "apart", desc := "(I)I" } : Jvm.MethodName)) ∈ ga_tb := ga_mem 327 (by decide +kernel) rfl
theorem tm_328 : (Jvm.Cond.instanceMethod ({ cls := "LogPlacer", name := "apart", desc := "(I)I" } : Jvm.MethodName)) ∈ ga_tb := ga_mem 328 (by decide +kernel) rfl
theorem tm_329 : (Jvm.Cond.selects "LogPlacer" ({ cls := "LogPlacer", name := "apart", desc := "(I)I" } : Jvm.MethodName) ({ cls := "LogPlacer", name := "apart", desc := "(I)I" } : Jvm.MethodName)) ∈ ga_tb := ga_mem 329 (by decide +kernel) rfl
set_option maxRecDepth 20000 in
theorem tm_330 : (Jvm.Cond.code ({ cls := "LogPlacer", name := "apart", desc := "(I)I" } : Jvm.MethodName) prog_1_method_12_code (2 : Nat) (Option.some Jvm.ClassFile.FieldType.int)) ∈ ga_tb := ga_mem 330 (rfl) rfl
theorem tm_331 : (Jvm.Cond.methodLink "LogPlacer" (126 : Nat) ({ cls := "LogPlacer", name := "isWaysOrFaults", desc := "(I)Z" } : Jvm.MethodName)) ∈ ga_tb := ga_mem 331 (by decide +kernel) rfl
theorem tm_332 : (Jvm.Cond.static ({ cls := "LogPlacer", name := "isWaysOrFaults", desc := "(I)Z" } : Jvm.MethodName)) ∈ ga_tb := ga_mem 332 (by decide +kernel) rfl
set_option maxRecDepth 20000 in
theorem tm_333 : (Jvm.Cond.code ({ cls := "LogPlacer", name := "isWaysOrFaults", desc := "(I)Z" } : Jvm.MethodName) prog_1_method_24_code (1 : Nat) (Option.some Jvm.ClassFile.FieldType.boolean)) ∈ ga_tb := ga_mem 333 (rfl) rfl
theorem tm_334 : (Jvm.Cond.methodLink "LogPlacer" (129 : Nat) ({ cls := "LogPlacer", name := "partings", desc := "(I)LLogPlacer$Partings;" } : Jvm.MethodName)) ∈ ga_tb := ga_mem 334 (by decide +kernel) rfl
theorem tm_336 : (Jvm.Cond.instanceMethod ({ cls := "LogPlacer", name := "partings", desc := "(I)LLogPlacer$Partings;" } : Jvm.MethodName)) ∈ ga_tb := ga_mem 336 (by decide +kernel) rfl
set_option maxRecDepth 20000 in
theorem tm_337 : (Jvm.Cond.code ({ cls := "LogPlacer", name := "partings", desc := "(I)LLogPlacer$Partings;" } : Jvm.MethodName) prog_1_method_31_code (3 : Nat) (Option.some (Jvm.ClassFile.FieldType.object "LogPlacer$Partings"))) ∈ ga_tb := ga_mem 337 (rfl) rfl
theorem tm_338 : (Jvm.Cond.methodLink "LogPlacer" (214 : Nat) ({ cls := "LogPlacer$Partings", name := "gather", desc := "(LLogPlacer$Routes;ZI)V" } : Jvm.MethodName)) ∈ ga_tb := ga_mem 338 (by decide +kernel) rfl
theorem tm_339 : (Jvm.Cond.instanceMethod ({ cls := "LogPlacer$Partings", name := "gather", desc := "(LLogPlacer$Routes;ZI)V" } : Jvm.MethodName)) ∈ ga_tb := ga_mem 339 (by decide +kernel) rfl
theorem tm_340 : (Jvm.Cond.selects "LogPlacer$Partings" ({ cls := "LogPlacer$Partings", name := "gather", desc := "(LLogPlacer$Routes;ZI)V" } : Jvm.MethodName) ({ cls := "LogPlacer$Partings", name := "gather", desc := "(LLogPlacer$Routes;ZI)V" } : Jvm.MethodName)) ∈ ga_tb := ga_mem 340 (by decide +kernel) rfl
set_option maxRecDepth 20000 in
theorem tm_341 : (Jvm.Cond.code ({ cls := "LogPlacer$Partings", name := "gather", desc := "(LLogPlacer$Routes;ZI)V" } : Jvm.MethodName) prog_2_method_2_code (7 : Nat) (Option.none : Option Jvm.ClassFile.FieldType)) ∈ ga_tb := ga_mem 341 (rfl) rfl
theorem tm_342 : (Jvm.Cond.methodLink "LogPlacer$Partings" (32 : Nat) ({ cls := "LogPlacer$Partings", name := "add", desc := "(I)V" } : Jvm.MethodName)) ∈ ga_tb := ga_mem 342 (by decide +kernel) rfl
theorem tm_344 : (Jvm.Cond.instanceMethod ({ cls := "LogPlacer$Partings", name := "add", desc := "(I)V" } : Jvm.MethodName)) ∈ ga_tb := ga_mem 344 (by decide +kernel) rfl
set_option maxRecDepth 20000 in
theorem tm_345 : (Jvm.Cond.code ({ cls := "LogPlacer$Partings", name := "add", desc := "(I)V" } : Jvm.MethodName) prog_2_method_3_code (3 : Nat) (Option.none : Option Jvm.ClassFile.FieldType)) ∈ ga_tb := ga_mem 345 (rfl) rfl
theorem tm_346 : (Jvm.Cond.methodLink "LogPlacer$Partings" (36 : Nat) ({ cls := "LogPlacer$Partings", name := "dropThoseWith", desc := "(I)V" } : Jvm.MethodName)) ∈ ga_tb := ga_mem 346 (by decide +kernel) rfl
theorem tm_348 : (Jvm.Cond.instanceMethod ({ cls := "LogPlacer$Partings", name := "dropThoseWith", desc := "(I)V" } : Jvm.MethodName)) ∈ ga_tb := ga_mem 348 (by decide +kernel) rfl
set_option maxRecDepth 20000 in
theorem tm_349 : (Jvm.Cond.code ({ cls := "LogPlacer$Partings", name := "dropThoseWith", desc := "(I)V" } : Jvm.MethodName) prog_2_method_4_code (4 : Nat) (Option.none : Option Jvm.ClassFile.FieldType)) ∈ ga_tb := ga_mem 349 (rfl) rfl
theorem tm_350 : (Jvm.Cond.methodLink "LogPlacer$Partings" (39 : Nat) ({ cls := "java/util/Arrays", name := "copyOf", desc := "([II)[I" } : Jvm.MethodName)) ∈ ga_tb := ga_mem 350 (by decide +kernel) rfl
theorem tm_351 : (Jvm.Cond.static ({ cls := "java/util/Arrays", name := "copyOf", desc := "([II)[I" } : Jvm.MethodName)) ∈ ga_tb := ga_mem 351 (by decide +kernel) rfl
set_option maxRecDepth 20000 in
theorem tm_352 : (Jvm.Cond.code ({ cls := "java/util/Arrays", name := "copyOf", desc := "([II)[I" } : Jvm.MethodName) prog_14_method_123_code (3 : Nat) (Option.some (Jvm.ClassFile.FieldType.array Jvm.ClassFile.FieldType.int))) ∈ ga_tb := ga_mem 352 (rfl) rfl
theorem tm_353 : (Jvm.Cond.methodLink "java/util/Arrays" (316 : Nat) ({ cls := "[I", name := "clone", desc := "()Ljava/lang/Object;" } : Jvm.MethodName)) ∈ ga_tb := ga_mem 353 (by decide +kernel) rfl
theorem tm_355 : (Jvm.Cond.native ({ cls := "java/lang/Object", name := "clone", desc := "()Ljava/lang/Object;" } : Jvm.MethodName)) ∈ ga_tb := ga_mem 355 (by decide +kernel) rfl
theorem tm_356 : (Jvm.Cond.instanceMethod ({ cls := "java/lang/Object", name := "clone", desc := "()Ljava/lang/Object;" } : Jvm.MethodName)) ∈ ga_tb := ga_mem 356 (by decide +kernel) rfl
theorem tm_357 : (Jvm.Cond.selects "[I" ({ cls := "[I", name := "clone", desc := "()Ljava/lang/Object;" } : Jvm.MethodName) ({ cls := "java/lang/Object", name := "clone", desc := "()Ljava/lang/Object;" } : Jvm.MethodName)) ∈ ga_tb := ga_mem 357 (by decide +kernel) rfl
theorem tm_359 : (Jvm.Cond.classLink "java/util/Arrays" (317 : Nat) "[I") ∈ ga_tb := ga_mem 359 (by decide +kernel) rfl
theorem tm_360 : (Jvm.Cond.methodLink "java/util/Arrays" (304 : Nat) ({ cls := "java/lang/Math", name := "min", desc := "(II)I" } : Jvm.MethodName)) ∈ ga_tb := ga_mem 360 (by decide +kernel) rfl
theorem tm_361 : (Jvm.Cond.static ({ cls := "java/lang/Math", name := "min", desc := "(II)I" } : Jvm.MethodName)) ∈ ga_tb := ga_mem 361 (by decide +kernel) rfl
set_option maxRecDepth 20000 in
theorem tm_362 : (Jvm.Cond.code ({ cls := "java/lang/Math", name := "min", desc := "(II)I" } : Jvm.MethodName) prog_12_method_69_code (2 : Nat) (Option.some Jvm.ClassFile.FieldType.int)) ∈ ga_tb := ga_mem 362 (rfl) rfl
theorem tm_363 : (Jvm.Cond.methodLink "java/util/Arrays" (150 : Nat) ({ cls := "java/lang/System", name := "arraycopy", desc := "(Ljava/lang/Object;ILjava/lang/Object;II)V" } : Jvm.MethodName)) ∈ ga_tb := ga_mem 363 (by decide +kernel) rfl
theorem tm_364 : (Jvm.Cond.static ({ cls := "java/lang/System", name := "arraycopy", desc := "(Ljava/lang/Object;ILjava/lang/Object;II)V" } : Jvm.MethodName)) ∈ ga_tb := ga_mem 364 (by decide +kernel) rfl
theorem tm_365 : (Jvm.Cond.native ({ cls := "java/lang/System", name := "arraycopy", desc := "(Ljava/lang/Object;ILjava/lang/Object;II)V" } : Jvm.MethodName)) ∈ ga_tb := ga_mem 365 (by decide +kernel) rfl
theorem tm_366 : (Jvm.Cond.methodLink "LogPlacer" (133 : Nat) ({ cls := "LogPlacer$Partings", name := "allMetBy", desc := "(I)Z" } : Jvm.MethodName)) ∈ ga_tb := ga_mem 366 (by decide +kernel) rfl
theorem tm_367 : (Jvm.Cond.instanceMethod ({ cls := "LogPlacer$Partings", name := "allMetBy", desc := "(I)Z" } : Jvm.MethodName)) ∈ ga_tb := ga_mem 367 (by decide +kernel) rfl
theorem tm_368 : (Jvm.Cond.selects "LogPlacer$Partings" ({ cls := "LogPlacer$Partings", name := "allMetBy", desc := "(I)Z" } : Jvm.MethodName) ({ cls := "LogPlacer$Partings", name := "allMetBy", desc := "(I)Z" } : Jvm.MethodName)) ∈ ga_tb := ga_mem 368 (by decide +kernel) rfl
set_option maxRecDepth 20000 in
theorem tm_369 : (Jvm.Cond.code ({ cls := "LogPlacer$Partings", name := "allMetBy", desc := "(I)Z" } : Jvm.MethodName) prog_2_method_5_code (2 : Nat) (Option.some Jvm.ClassFile.FieldType.boolean)) ∈ ga_tb := ga_mem 369 (rfl) rfl
theorem tm_370 : (Jvm.Cond.methodLink "LogPlacer$Partings" (45 : Nat) ({ cls := "LogPlacer$Partings", name := "firstNotMetBy", desc := "(II)I" } : Jvm.MethodName)) ∈ ga_tb := ga_mem 370 (by decide +kernel) rfl
theorem tm_371 : (Jvm.Cond.instanceMethod ({ cls := "LogPlacer$Partings", name := "firstNotMetBy", desc := "(II)I" } : Jvm.MethodName)) ∈ ga_tb := ga_mem 371 (by decide +kernel) rfl
theorem tm_372 : (Jvm.Cond.selects "LogPlacer$Partings" ({ cls := "LogPlacer$Partings", name := "firstNotMetBy", desc := "(II)I" } : Jvm.MethodName) ({ cls := "LogPlacer$Partings", name := "firstNotMetBy", desc := "(II)I" } : Jvm.MethodName)) ∈ ga_tb := ga_mem 372 (by decide +kernel) rfl
set_option maxRecDepth 20000 in
theorem tm_373 : (Jvm.Cond.code ({ cls := "LogPlacer$Partings", name := "firstNotMetBy", desc := "(II)I" } : Jvm.MethodName) prog_2_method_6_code (4 : Nat) (Option.some Jvm.ClassFile.FieldType.int)) ∈ ga_tb := ga_mem 373 (rfl) rfl
theorem tm_374 : (Jvm.Cond.methodLink "LogPlacerLaw" (64 : Nat) ({ cls := "LogPlacer", name := "cheapest", desc := "(IZ)I" } : Jvm.MethodName)) ∈ ga_tb := ga_mem 374 (by decide +kernel) rfl
theorem tm_375 : (Jvm.Cond.instanceMethod ({ cls := "LogPlacer", name := "cheapest", desc := "(IZ)I" } : Jvm.MethodName)) ∈ ga_tb := ga_mem 375 (by decide +kernel) rfl
theorem tm_376 : (Jvm.Cond.selects "LogPlacer" ({ cls := "LogPlacer", name := "cheapest", desc := "(IZ)I" } : Jvm.MethodName) ({ cls := "LogPlacer", name := "cheapest", desc := "(IZ)I" } : Jvm.MethodName)) ∈ ga_tb := ga_mem 376 (by decide +kernel) rfl
set_option maxRecDepth 20000 in
theorem tm_377 : (Jvm.Cond.code ({ cls := "LogPlacer", name := "cheapest", desc := "(IZ)I" } : Jvm.MethodName) prog_1_method_13_code (3 : Nat) (Option.some Jvm.ClassFile.FieldType.int)) ∈ ga_tb := ga_mem 377 (rfl) rfl
theorem tm_378 : (Jvm.Cond.methodLink "LogPlacer" (136 : Nat) ({ cls := "LogPlacer$Search", name := "cheapestWith", desc := "(ILLogPlacer$Partings;)I" } : Jvm.MethodName)) ∈ ga_tb := ga_mem 378 (by decide +kernel) rfl
theorem tm_379 : (Jvm.Cond.instanceMethod ({ cls := "LogPlacer$Search", name := "cheapestWith", desc := "(ILLogPlacer$Partings;)I" } : Jvm.MethodName)) ∈ ga_tb := ga_mem 379 (by decide +kernel) rfl
theorem tm_380 : (Jvm.Cond.selects "LogPlacer$Search" ({ cls := "LogPlacer$Search", name := "cheapestWith", desc := "(ILLogPlacer$Partings;)I" } : Jvm.MethodName) ({ cls := "LogPlacer$Search", name := "cheapestWith", desc := "(ILLogPlacer$Partings;)I" } : Jvm.MethodName)) ∈ ga_tb := ga_mem 380 (by decide +kernel) rfl
set_option maxRecDepth 20000 in
theorem tm_381 : (Jvm.Cond.code ({ cls := "LogPlacer$Search", name := "cheapestWith", desc := "(ILLogPlacer$Partings;)I" } : Jvm.MethodName) prog_6_method_2_code (3 : Nat) (Option.some Jvm.ClassFile.FieldType.int)) ∈ ga_tb := ga_mem 381 (rfl) rfl
theorem tm_382 : (Jvm.Cond.methodLink "LogPlacer$Search" (15 : Nat) ({ cls := "LogPlacer$Program", name := "allSteps", desc := "()I" } : Jvm.MethodName)) ∈ ga_tb := ga_mem 382 (by decide +kernel) rfl
theorem tm_383 : (Jvm.Cond.instanceMethod ({ cls := "LogPlacer$Program", name := "allSteps", desc := "()I" } : Jvm.MethodName)) ∈ ga_tb := ga_mem 383 (by decide +kernel) rfl
theorem tm_384 : (Jvm.Cond.selects "LogPlacer$Program" ({ cls := "LogPlacer$Program", name := "allSteps", desc := "()I" } : Jvm.MethodName) ({ cls := "LogPlacer$Program", name := "allSteps", desc := "()I" } : Jvm.MethodName)) ∈ ga_tb := ga_mem 384 (by decide +kernel) rfl
set_option maxRecDepth 20000 in
theorem tm_385 : (Jvm.Cond.code ({ cls := "LogPlacer$Program", name := "allSteps", desc := "()I" } : Jvm.MethodName) prog_3_method_6_code (1 : Nat) (Option.some Jvm.ClassFile.FieldType.int)) ∈ ga_tb := ga_mem 385 (rfl) rfl
theorem tm_386 : (Jvm.Cond.methodLink "LogPlacer$Search" (25 : Nat) ({ cls := "LogPlacer$Program", name := "priceOf", desc := "(I)J" } : Jvm.MethodName)) ∈ ga_tb := ga_mem 386 (by decide +kernel) rfl
theorem tm_387 : (Jvm.Cond.instanceMethod ({ cls := "LogPlacer$Program", name := "priceOf", desc := "(I)J" } : Jvm.MethodName)) ∈ ga_tb := ga_mem 387 (by decide +kernel) rfl
theorem tm_388 : (Jvm.Cond.selects "LogPlacer$Program" ({ cls := "LogPlacer$Program", name := "priceOf", desc := "(I)J" } : Jvm.MethodName) ({ cls := "LogPlacer$Program", name := "priceOf", desc := "(I)J" } : Jvm.MethodName)) ∈ ga_tb := ga_mem 388 (by decide +kernel) rfl
set_option maxRecDepth 20000 in
theorem tm_389 : (Jvm.Cond.code ({ cls := "LogPlacer$Program", name := "priceOf", desc := "(I)J" } : Jvm.MethodName) prog_3_method_8_code (5 : Nat) (Option.some Jvm.ClassFile.FieldType.long)) ∈ ga_tb := ga_mem 389 (rfl) rfl
theorem tm_391 : (Jvm.Cond.methodLink "LogPlacer$Search" (33 : Nat) ({ cls := "LogPlacer$Search", name := "choose", desc := "(LLogPlacer$Search;LLogPlacer$Partings;IIIJI)V" } : Jvm.MethodName)) ∈ ga_tb := ga_mem 391 (by decide +kernel) rfl
theorem tm_392 : (Jvm.Cond.static ({ cls := "LogPlacer$Search", name := "choose", desc := "(LLogPlacer$Search;LLogPlacer$Partings;IIIJI)V" } : Jvm.MethodName)) ∈ ga_tb := ga_mem 392 (by decide +kernel) rfl
set_option maxRecDepth 20000 in
theorem tm_393 : (Jvm.Cond.code ({ cls := "LogPlacer$Search", name := "choose", desc := "(LLogPlacer$Search;LLogPlacer$Partings;IIIJI)V" } : Jvm.MethodName) prog_6_method_3_code (14 : Nat) (Option.none : Option Jvm.ClassFile.FieldType)) ∈ ga_tb := ga_mem 393 (rfl) rfl
theorem tm_394 : (Jvm.Cond.methodLink "LogPlacer$Search" (37 : Nat) ({ cls := "LogPlacer$Partings", name := "firstNotMetBy", desc := "(II)I" } : Jvm.MethodName)) ∈ ga_tb := ga_mem 394 (by decide +kernel) rfl
theorem tm_395 : (Jvm.Cond.methodLink "LogPlacer$Search" (46 : Nat) ({ cls := "LogPlacer$Search", name := "offer", desc := "(IJ)V" } : Jvm.MethodName)) ∈ ga_tb := ga_mem 395 (by decide +kernel) rfl
theorem tm_397 : (Jvm.Cond.instanceMethod ({ cls := "LogPlacer$Search", name := "offer", desc := "(IJ)V" } : Jvm.MethodName)) ∈ ga_tb := ga_mem 397 (by decide +kernel) rfl
set_option maxRecDepth 20000 in
theorem tm_398 : (Jvm.Cond.code ({ cls := "LogPlacer$Search", name := "offer", desc := "(IJ)V" } : Jvm.MethodName) prog_6_method_4_code (4 : Nat) (Option.none : Option Jvm.ClassFile.FieldType)) ∈ ga_tb := ga_mem 398 (rfl) rfl
theorem tm_399 : (Jvm.Cond.methodLink "LogPlacer$Search" (64 : Nat) ({ cls := "LogPlacer$Search", name := "isRatherThan", desc := "(II)Z" } : Jvm.MethodName)) ∈ ga_tb := ga_mem 399 (by decide +kernel) rfl
theorem tm_400 : (Jvm.Cond.static ({ cls := "LogPlacer$Search", name := "isRatherThan", desc := "(II)Z" } : Jvm.MethodName)) ∈ ga_tb := ga_mem 400 (by decide +kernel) rfl
set_option maxRecDepth 20000 in
theorem tm_401 : (Jvm.Cond.code ({ cls := "LogPlacer$Search", name := "isRatherThan", desc := "(II)Z" } : Jvm.MethodName) prog_6_method_5_code (5 : Nat) (Option.some Jvm.ClassFile.FieldType.boolean)) ∈ ga_tb := ga_mem 401 (rfl) rfl
theorem tm_402 : (Jvm.Cond.methodLink "LogPlacer$Search" (67 : Nat) ({ cls := "java/lang/Integer", name := "bitCount", desc := "(I)I" } : Jvm.MethodName)) ∈ ga_tb := ga_mem 402 (by decide +kernel) rfl
theorem tm_403 : (Jvm.Cond.static ({ cls := "java/lang/Integer", name := "bitCount", desc := "(I)I" } : Jvm.MethodName)) ∈ ga_tb := ga_mem 403 (by decide +kernel) rfl
set_option maxRecDepth 20000 in
theorem tm_404 : (Jvm.Cond.code ({ cls := "java/lang/Integer", name := "bitCount", desc := "(I)I" } : Jvm.MethodName) prog_11_method_49_code (1 : Nat) (Option.some Jvm.ClassFile.FieldType.int)) ∈ ga_tb := ga_mem 404 (rfl) rfl
theorem tm_405 : (Jvm.Cond.constant "java/lang/Integer" (265 : Nat) (1431655765 : Int32)) ∈ ga_tb := ga_mem 405 (by decide +kernel) rfl
theorem tm_406 : (Jvm.Cond.constant "java/lang/Integer" (266 : Nat) (858993459 : Int32)) ∈ ga_tb := ga_mem 406 (by decide +kernel) rfl
theorem tm_407 : (Jvm.Cond.constant "java/lang/Integer" (267 : Nat) (252645135 : Int32)) ∈ ga_tb := ga_mem 407 (by decide +kernel) rfl
theorem tm_409 : (Jvm.Cond.methodLink "LogPlacerLaw" (69 : Nat) ({ cls := "LogPlacer", name := "price", desc := "(I)J" } : Jvm.MethodName)) ∈ ga_tb := ga_mem 409 (by decide +kernel) rfl
theorem tm_410 : (Jvm.Cond.instanceMethod ({ cls := "LogPlacer", name := "price", desc := "(I)J" } : Jvm.MethodName)) ∈ ga_tb := ga_mem 410 (by decide +kernel) rfl
theorem tm_411 : (Jvm.Cond.selects "LogPlacer" ({ cls := "LogPlacer", name := "price", desc := "(I)J" } : Jvm.MethodName) ({ cls := "LogPlacer", name := "price", desc := "(I)J" } : Jvm.MethodName)) ∈ ga_tb := ga_mem 411 (by decide +kernel) rfl
set_option maxRecDepth 20000 in
theorem tm_412 : (Jvm.Cond.code ({ cls := "LogPlacer", name := "price", desc := "(I)J" } : Jvm.MethodName) prog_1_method_14_code (2 : Nat) (Option.some Jvm.ClassFile.FieldType.long)) ∈ ga_tb := ga_mem 412 (rfl) rfl
theorem tm_413 : (Jvm.Cond.methodLink "LogPlacer" (140 : Nat) ({ cls := "LogPlacer$Program", name := "allSteps", desc := "()I" } : Jvm.MethodName)) ∈ ga_tb := ga_mem 413 (by decide +kernel) rfl
theorem tm_414 : (Jvm.Cond.methodLink "LogPlacer" (144 : Nat) ({ cls := "LogPlacer$Program", name := "priceOf", desc := "(I)J" } : Jvm.MethodName)) ∈ ga_tb := ga_mem 414 (by decide +kernel) rfl
theorem tm_415 : (Jvm.Cond.constantLong "LogPlacer" (148 : Nat) (-1 : Int64)) ∈ ga_tb := ga_mem 415 (by decide +kernel) rfl
theorem tm_416 : (Jvm.Cond.methodLink "LogPlacerLaw" (74 : Nat) ({ cls := "LogPlacer", name := "useless", desc := "(I)I" } : Jvm.MethodName)) ∈ ga_tb := ga_mem 416 (by decide +kernel) rfl
theorem tm_417 : (Jvm.Cond.instanceMethod ({ cls := "LogPlacer", name := "useless", desc := "(I)I" } : Jvm.MethodName)) ∈ ga_tb := ga_mem 417 (by decide +kernel) rfl
theorem tm_418 : (Jvm.Cond.selects "LogPlacer" ({ cls := "LogPlacer", name := "useless", desc := "(I)I" } : Jvm.MethodName) ({ cls := "LogPlacer", name := "useless", desc := "(I)I" } : Jvm.MethodName)) ∈ ga_tb := ga_mem 418 (by decide +kernel) rfl
set_option maxRecDepth 20000 in
theorem tm_419 : (Jvm.Cond.code ({ cls := "LogPlacer", name := "useless", desc := "(I)I" } : Jvm.MethodName) prog_1_method_15_code (2 : Nat) (Option.some Jvm.ClassFile.FieldType.int)) ∈ ga_tb := ga_mem 419 (rfl) rfl
theorem tm_420 : (Jvm.Cond.methodLink "LogPlacer" (150 : Nat) ({ cls := "LogPlacer$Routes", name := "soleParters", desc := "(I)I" } : Jvm.MethodName)) ∈ ga_tb := ga_mem 420 (by decide +kernel) rfl
theorem tm_421 : (Jvm.Cond.instanceMethod ({ cls := "LogPlacer$Routes", name := "soleParters", desc := "(I)I" } : Jvm.MethodName)) ∈ ga_tb := ga_mem 421 (by decide +kernel) rfl
theorem tm_422 : (Jvm.Cond.selects "LogPlacer$Routes" ({ cls := "LogPlacer$Routes", name := "soleParters", desc := "(I)I" } : Jvm.MethodName) ({ cls := "LogPlacer$Routes", name := "soleParters", desc := "(I)I" } : Jvm.MethodName)) ∈ ga_tb := ga_mem 422 (by decide +kernel) rfl
set_option maxRecDepth 20000 in
theorem tm_423 : (Jvm.Cond.code ({ cls := "LogPlacer$Routes", name := "soleParters", desc := "(I)I" } : Jvm.MethodName) prog_5_method_7_code (6 : Nat) (Option.some Jvm.ClassFile.FieldType.int)) ∈ ga_tb := ga_mem 423 (rfl) rfl
theorem tm_424 : (Jvm.Cond.methodLink "LogPlacer$Routes" (55 : Nat) ({ cls := "java/lang/Integer", name := "bitCount", desc := "(I)I" } : Jvm.MethodName)) ∈ ga_tb := ga_mem 424 (by decide +kernel) rfl
theorem tm_425 : (Jvm.Cond.methodLink "LogPlacer" (153 : Nat) ({ cls := "LogPlacer", name := "member", desc := "(II)I" } : Jvm.MethodName)) ∈ ga_tb := ga_mem 425 (by decide +kernel) rfl
theorem tm_426 : (Jvm.Cond.methodLink "LogPlacerLaw" (78 : Nat) ({ cls := "LogPlacer", name := "why", desc := "(II)I" } : Jvm.MethodName)) ∈ ga_tb := ga_mem 426 (by decide +kernel) rfl
theorem tm_427 : (Jvm.Cond.instanceMethod ({ cls := "LogPlacer", name := "why", desc := "(II)I" } : Jvm.MethodName)) ∈ ga_tb := ga_mem 427 (by decide +kernel) rfl
theorem tm_428 : (Jvm.Cond.selects "LogPlacer" ({ cls := "LogPlacer", name := "why", desc := "(II)I" } : Jvm.MethodName) ({ cls := "LogPlacer", name := "why", desc := "(II)I" } : Jvm.MethodName)) ∈ ga_tb := ga_mem 428 (by decide +kernel) rfl
set_option maxRecDepth 20000 in
theorem tm_429 : (Jvm.Cond.code ({ cls := "LogPlacer", name := "why", desc := "(II)I" } : Jvm.MethodName) prog_1_method_16_code (4 : Nat) (Option.some Jvm.ClassFile.FieldType.int)) ∈ ga_tb := ga_mem 429 (rfl) rfl
theorem tm_430 : (Jvm.Cond.methodLink "LogPlacer" (156 : Nat) ({ cls := "LogPlacer", name := "isFirstOrOther", desc := "(I)Z" } : Jvm.MethodName)) ∈ ga_tb := ga_mem 430 (by decide +kernel) rfl
theorem tm_431 : (Jvm.Cond.static ({ cls := "LogPlacer", name := "isFirstOrOther", desc := "(I)Z" } : Jvm.MethodName)) ∈ ga_tb := ga_mem 431 (by decide +kernel) rfl
set_option maxRecDepth 20000 in
theorem tm_432 : (Jvm.Cond.code ({ cls := "LogPlacer", name := "isFirstOrOther", desc := "(I)Z" } : Jvm.MethodName) prog_1_method_25_code (1 : Nat) (Option.some Jvm.ClassFile.FieldType.boolean)) ∈ ga_tb := ga_mem 432 (rfl) rfl
theorem tm_433 : (Jvm.Cond.methodLink "LogPlacer" (159 : Nat) ({ cls := "LogPlacer$Routes", name := "firstPairPartedBy", desc := "(II)I" } : Jvm.MethodName)) ∈ ga_tb := ga_mem 433 (by decide +kernel) rfl
theorem tm_434 : (Jvm.Cond.instanceMethod ({ cls := "LogPlacer$Routes", name := "firstPairPartedBy", desc := "(II)I" } : Jvm.MethodName)) ∈ ga_tb := ga_mem 434 (by decide +kernel) rfl
theorem tm_435 : (Jvm.Cond.selects "LogPlacer$Routes" ({ cls := "LogPlacer$Routes", name := "firstPairPartedBy", desc := "(II)I" } : Jvm.MethodName) ({ cls := "LogPlacer$Routes", name := "firstPairPartedBy", desc := "(II)I" } : Jvm.MethodName)) ∈ ga_tb := ga_mem 435 (by decide +kernel) rfl
set_option maxRecDepth 20000 in
theorem tm_436 : (Jvm.Cond.code ({ cls := "LogPlacer$Routes", name := "firstPairPartedBy", desc := "(II)I" } : Jvm.MethodName) prog_5_method_8_code (5 : Nat) (Option.some Jvm.ClassFile.FieldType.int)) ∈ ga_tb := ga_mem 436 (rfl) rfl
theorem tm_437 : (Jvm.Cond.methodLink "LogPlacerLaw" (82 : Nat) ({ cls := "LogPlacer", name := "feed", desc := "(IIIII)I" } : Jvm.MethodName)) ∈ ga_tb := ga_mem 437 (by decide +kernel) rfl
theorem tm_438 : (Jvm.Cond.instanceMethod ({ cls := "LogPlacer", name := "feed", desc := "(IIIII)I" } : Jvm.MethodName)) ∈ ga_tb := ga_mem 438 (by decide +kernel) rfl
theorem tm_439 : (Jvm.Cond.selects "LogPlacer" ({ cls := "LogPlacer", name := "feed", desc := "(IIIII)I" } : Jvm.MethodName) ({ cls := "LogPlacer", name := "feed", desc := "(IIIII)I" } : Jvm.MethodName)) ∈ ga_tb := ga_mem 439 (by decide +kernel) rfl
set_option maxRecDepth 20000 in
theorem tm_440 : (Jvm.Cond.code ({ cls := "LogPlacer", name := "feed", desc := "(IIIII)I" } : Jvm.MethodName) prog_1_method_17_code (6 : Nat) (Option.some Jvm.ClassFile.FieldType.int)) ∈ ga_tb := ga_mem 440 (rfl) rfl
theorem tm_441 : (Jvm.Cond.methodLink "LogPlacer" (165 : Nat) ({ cls := "LogPlacer$Tape", name := "put", desc := "(I)V" } : Jvm.MethodName)) ∈ ga_tb := ga_mem 441 (by decide +kernel) rfl
theorem tm_442 : (Jvm.Cond.instanceMethod ({ cls := "LogPlacer$Tape", name := "put", desc := "(I)V" } : Jvm.MethodName)) ∈ ga_tb := ga_mem 442 (by decide +kernel) rfl
theorem tm_443 : (Jvm.Cond.selects "LogPlacer$Tape" ({ cls := "LogPlacer$Tape", name := "put", desc := "(I)V" } : Jvm.MethodName) ({ cls := "LogPlacer$Tape", name := "put", desc := "(I)V" } : Jvm.MethodName)) ∈ ga_tb := ga_mem 443 (by decide +kernel) rfl
set_option maxRecDepth 20000 in
theorem tm_444 : (Jvm.Cond.code ({ cls := "LogPlacer$Tape", name := "put", desc := "(I)V" } : Jvm.MethodName) prog_7_method_2_code (3 : Nat) (Option.none : Option Jvm.ClassFile.FieldType)) ∈ ga_tb := ga_mem 444 (rfl) rfl
theorem tm_445 : (Jvm.Cond.methodLink "LogPlacerLaw" (87 : Nat) ({ cls := "LogPlacer", name := "read", desc := "(IZ)I" } : Jvm.MethodName)) ∈ ga_tb := ga_mem 445 (by decide +kernel) rfl
theorem tm_446 : (Jvm.Cond.instanceMethod ({ cls := "LogPlacer", name := "read", desc := "(IZ)I" } : Jvm.MethodName)) ∈ ga_tb := ga_mem 446 (by decide +kernel) rfl
theorem tm_447 : (Jvm.Cond.selects "LogPlacer" ({ cls := "LogPlacer", name := "read", desc := "(IZ)I" } : Jvm.MethodName) ({ cls := "LogPlacer", name := "read", desc := "(IZ)I" } : Jvm.MethodName)) ∈ ga_tb := ga_mem 447 (by decide +kernel) rfl
set_option maxRecDepth 20000 in
theorem tm_448 : (Jvm.Cond.code ({ cls := "LogPlacer", name := "read", desc := "(IZ)I" } : Jvm.MethodName) prog_1_method_18_code (3 : Nat) (Option.some Jvm.ClassFile.FieldType.int)) ∈ ga_tb := ga_mem 448 (rfl) rfl
theorem tm_449 : (Jvm.Cond.methodLink "LogPlacer" (168 : Nat) ({ cls := "LogPlacer$Reading", name := "take", desc := "(LLogPlacer$Tape;IZ)V" } : Jvm.MethodName)) ∈ ga_tb := ga_mem 449 (by decide +kernel) rfl
theorem tm_450 : (Jvm.Cond.instanceMethod ({ cls := "LogPlacer$Reading", name := "take", desc := "(LLogPlacer$Tape;IZ)V" } : Jvm.MethodName)) ∈ ga_tb := ga_mem 450 (by decide +kernel) rfl
theorem tm_451 : (Jvm.Cond.selects "LogPlacer$Reading" ({ cls := "LogPlacer$Reading", name := "take", desc := "(LLogPlacer$Tape;IZ)V" } : Jvm.MethodName) ({ cls := "LogPlacer$Reading", name := "take", desc := "(LLogPlacer$Tape;IZ)V" } : Jvm.MethodName)) ∈ ga_tb := ga_mem 451 (by decide +kernel) rfl
set_option maxRecDepth 20000 in
theorem tm_452 : (Jvm.Cond.code ({ cls := "LogPlacer$Reading", name := "take", desc := "(LLogPlacer$Tape;IZ)V" } : Jvm.MethodName) prog_4_method_3_code (5 : Nat) (Option.none : Option Jvm.ClassFile.FieldType)) ∈ ga_tb := ga_mem 452 (rfl) rfl
theorem tm_453 : (Jvm.Cond.methodLink "LogPlacer" (172 : Nat) ({ cls := "LogPlacer$Reading", name := "fit", desc := "(LLogPlacer$Program;)V" } : Jvm.MethodName)) ∈ ga_tb := ga_mem 453 (by decide +kernel) rfl
theorem tm_454 : (Jvm.Cond.instanceMethod ({ cls := "LogPlacer$Reading", name := "fit", desc := "(LLogPlacer$Program;)V" } : Jvm.MethodName)) ∈ ga_tb := ga_mem 454 (by decide +kernel) rfl
theorem tm_455 : (Jvm.Cond.selects "LogPlacer$Reading" ({ cls := "LogPlacer$Reading", name := "fit", desc := "(LLogPlacer$Program;)V" } : Jvm.MethodName) ({ cls := "LogPlacer$Reading", name := "fit", desc := "(LLogPlacer$Program;)V" } : Jvm.MethodName)) ∈ ga_tb := ga_mem 455 (by decide +kernel) rfl
set_option maxRecDepth 20000 in
theorem tm_456 : (Jvm.Cond.code ({ cls := "LogPlacer$Reading", name := "fit", desc := "(LLogPlacer$Program;)V" } : Jvm.MethodName) prog_4_method_4_code (5 : Nat) (Option.none : Option Jvm.ClassFile.FieldType)) ∈ ga_tb := ga_mem 456 (rfl) rfl
theorem tm_457 : (Jvm.Cond.methodLink "LogPlacer$Reading" (34 : Nat) ({ cls := "LogPlacer$Program", name := "hasStep", desc := "(I)Z" } : Jvm.MethodName)) ∈ ga_tb := ga_mem 457 (by decide +kernel) rfl
theorem tm_458 : (Jvm.Cond.methodLink "LogPlacer$Reading" (46 : Nat) ({ cls := "LogPlacer$Program", name := "stepsFromBelow", desc := "(I)I" } : Jvm.MethodName)) ∈ ga_tb := ga_mem 458 (by decide +kernel) rfl
theorem tm_459 : (Jvm.Cond.instanceMethod ({ cls := "LogPlacer$Program", name := "stepsFromBelow", desc := "(I)I" } : Jvm.MethodName)) ∈ ga_tb := ga_mem 459 (by decide +kernel) rfl
theorem tm_460 : (Jvm.Cond.selects "LogPlacer$Program" ({ cls := "LogPlacer$Program", name := "stepsFromBelow", desc := "(I)I" } : Jvm.MethodName) ({ cls := "LogPlacer$Program", name := "stepsFromBelow", desc := "(I)I" } : Jvm.MethodName)) ∈ ga_tb := ga_mem 460 (by decide +kernel) rfl
set_option maxRecDepth 20000 in
theorem tm_461 : (Jvm.Cond.code ({ cls := "LogPlacer$Program", name := "stepsFromBelow", desc := "(I)I" } : Jvm.MethodName) prog_3_method_7_code (4 : Nat) (Option.some Jvm.ClassFile.FieldType.int)) ∈ ga_tb := ga_mem 461 (rfl) rfl
theorem tm_462 : (Jvm.Cond.methodLink "LogPlacer$Reading" (50 : Nat) ({ cls := "LogPlacer$Program", name := "allSteps", desc := "()I" } : Jvm.MethodName)) ∈ ga_tb := ga_mem 462 (by decide +kernel) rfl
theorem tm_463 : (Jvm.Cond.methodLink "LogPlacer" (175 : Nat) ({ cls := "LogPlacer$Reading", name := "howManyOf", desc := "(LLogPlacer$Routes;)I" } : Jvm.MethodName)) ∈ ga_tb := ga_mem 463 (by decide +kernel) rfl
theorem tm_464 : (Jvm.Cond.instanceMethod ({ cls := "LogPlacer$Reading", name := "howManyOf", desc := "(LLogPlacer$Routes;)I" } : Jvm.MethodName)) ∈ ga_tb := ga_mem 464 (by decide +kernel) rfl
theorem tm_465 : (Jvm.Cond.selects "LogPlacer$Reading" ({ cls := "LogPlacer$Reading", name := "howManyOf", desc := "(LLogPlacer$Routes;)I" } : Jvm.MethodName) ({ cls := "LogPlacer$Reading", name := "howManyOf", desc := "(LLogPlacer$Routes;)I" } : Jvm.MethodName)) ∈ ga_tb := ga_mem 465 (by decide +kernel) rfl
set_option maxRecDepth 20000 in
theorem tm_466 : (Jvm.Cond.code ({ cls := "LogPlacer$Reading", name := "howManyOf", desc := "(LLogPlacer$Routes;)I" } : Jvm.MethodName) prog_4_method_6_code (4 : Nat) (Option.some Jvm.ClassFile.FieldType.int)) ∈ ga_tb := ga_mem 466 (rfl) rfl
theorem tm_467 : (Jvm.Cond.methodLink "LogPlacer$Reading" (65 : Nat) ({ cls := "LogPlacer$Reading", name := "allows", desc := "(I)Z" } : Jvm.MethodName)) ∈ ga_tb := ga_mem 467 (by decide +kernel) rfl
theorem tm_468 : (Jvm.Cond.instanceMethod ({ cls := "LogPlacer$Reading", name := "allows", desc := "(I)Z" } : Jvm.MethodName)) ∈ ga_tb := ga_mem 468 (by decide +kernel) rfl
theorem tm_469 : (Jvm.Cond.selects "LogPlacer$Reading" ({ cls := "LogPlacer$Reading", name := "allows", desc := "(I)Z" } : Jvm.MethodName) ({ cls := "LogPlacer$Reading", name := "allows", desc := "(I)Z" } : Jvm.MethodName)) ∈ ga_tb := ga_mem 469 (by decide +kernel) rfl
set_option maxRecDepth 20000 in
theorem tm_470 : (Jvm.Cond.code ({ cls := "LogPlacer$Reading", name := "allows", desc := "(I)Z" } : Jvm.MethodName) prog_4_method_5_code (2 : Nat) (Option.some Jvm.ClassFile.FieldType.boolean)) ∈ ga_tb := ga_mem 470 (rfl) rfl
theorem tm_471 : (Jvm.Cond.methodLink "LogPlacerLaw" (91 : Nat) ({ cls := "LogPlacer", name := "allowed", desc := "(I)I" } : Jvm.MethodName)) ∈ ga_tb := ga_mem 471 (by decide +kernel) rfl
theorem tm_472 : (Jvm.Cond.instanceMethod ({ cls := "LogPlacer", name := "allowed", desc := "(I)I" } : Jvm.MethodName)) ∈ ga_tb := ga_mem 472 (by decide +kernel) rfl
theorem tm_473 : (Jvm.Cond.selects "LogPlacer" ({ cls := "LogPlacer", name := "allowed", desc := "(I)I" } : Jvm.MethodName) ({ cls := "LogPlacer", name := "allowed", desc := "(I)I" } : Jvm.MethodName)) ∈ ga_tb := ga_mem 473 (by decide +kernel) rfl
set_option maxRecDepth 20000 in
theorem tm_474 : (Jvm.Cond.code ({ cls := "LogPlacer", name := "allowed", desc := "(I)I" } : Jvm.MethodName) prog_1_method_19_code (2 : Nat) (Option.some Jvm.ClassFile.FieldType.int)) ∈ ga_tb := ga_mem 474 (rfl) rfl
theorem tm_475 : (Jvm.Cond.methodLink "LogPlacer" (179 : Nat) ({ cls := "LogPlacer$Reading", name := "memberOf", desc := "(LLogPlacer$Routes;I)I" } : Jvm.MethodName)) ∈ ga_tb := ga_mem 475 (by decide +kernel) rfl
theorem tm_476 : (Jvm.Cond.instanceMethod ({ cls := "LogPlacer$Reading", name := "memberOf", desc := "(LLogPlacer$Routes;I)I" } : Jvm.MethodName)) ∈ ga_tb := ga_mem 476 (by decide +kernel) rfl
theorem tm_477 : (Jvm.Cond.selects "LogPlacer$Reading" ({ cls := "LogPlacer$Reading", name := "memberOf", desc := "(LLogPlacer$Routes;I)I" } : Jvm.MethodName) ({ cls := "LogPlacer$Reading", name := "memberOf", desc := "(LLogPlacer$Routes;I)I" } : Jvm.MethodName)) ∈ ga_tb := ga_mem 477 (by decide +kernel) rfl
set_option maxRecDepth 20000 in
theorem tm_478 : (Jvm.Cond.code ({ cls := "LogPlacer$Reading", name := "memberOf", desc := "(LLogPlacer$Routes;I)I" } : Jvm.MethodName) prog_4_method_7_code (5 : Nat) (Option.some Jvm.ClassFile.FieldType.int)) ∈ ga_tb := ga_mem 478 (rfl) rfl
theorem tm_479 : (Jvm.Cond.methodLink "LogPlacerLaw" (95 : Nat) ({ cls := "LogPlacer", name := "found", desc := "(I)I" } : Jvm.MethodName)) ∈ ga_tb := ga_mem 479 (by decide +kernel) rfl
theorem tm_480 : (Jvm.Cond.instanceMethod ({ cls := "LogPlacer", name := "found", desc := "(I)I" } : Jvm.MethodName)) ∈ ga_tb := ga_mem 480 (by decide +kernel) rfl
theorem tm_481 : (Jvm.Cond.selects "LogPlacer" ({ cls := "LogPlacer", name := "found", desc := "(I)I" } : Jvm.MethodName) ({ cls := "LogPlacer", name := "found", desc := "(I)I" } : Jvm.MethodName)) ∈ ga_tb := ga_mem 481 (by decide +kernel) rfl
set_option maxRecDepth 20000 in
theorem tm_482 : (Jvm.Cond.code ({ cls := "LogPlacer", name := "found", desc := "(I)I" } : Jvm.MethodName) prog_1_method_20_code (5 : Nat) (Option.some Jvm.ClassFile.FieldType.int)) ∈ ga_tb := ga_mem 482 (rfl) rfl
theorem tm_483 : (Jvm.Cond.methodLink "LogPlacer" (186 : Nat) ({ cls := "LogPlacer$Reading", name := "inAll", desc := "(LLogPlacer$Routes;[I)I" } : Jvm.MethodName)) ∈ ga_tb := ga_mem 483 (by decide +kernel) rfl
theorem tm_484 : (Jvm.Cond.instanceMethod ({ cls := "LogPlacer$Reading", name := "inAll", desc := "(LLogPlacer$Routes;[I)I" } : Jvm.MethodName)) ∈ ga_tb := ga_mem 484 (by decide +kernel) rfl
theorem tm_485 : (Jvm.Cond.selects "LogPlacer$Reading" ({ cls := "LogPlacer$Reading", name := "inAll", desc := "(LLogPlacer$Routes;[I)I" } : Jvm.MethodName) ({ cls := "LogPlacer$Reading", name := "inAll", desc := "(LLogPlacer$Routes;[I)I" } : Jvm.MethodName)) ∈ ga_tb := ga_mem 485 (by decide +kernel) rfl
set_option maxRecDepth 20000 in
theorem tm_486 : (Jvm.Cond.code ({ cls := "LogPlacer$Reading", name := "inAll", desc := "(LLogPlacer$Routes;[I)I" } : Jvm.MethodName) prog_4_method_8_code (5 : Nat) (Option.some Jvm.ClassFile.FieldType.int)) ∈ ga_tb := ga_mem 486 (rfl) rfl
theorem tm_487 : (Jvm.Cond.methodLink "LogPlacer" (190 : Nat) ({ cls := "LogPlacer$Reading", name := "inSome", desc := "(LLogPlacer$Routes;[I)I" } : Jvm.MethodName)) ∈ ga_tb := ga_mem 487 (by decide +kernel) rfl
theorem tm_488 : (Jvm.Cond.instanceMethod ({ cls := "LogPlacer$Reading", name := "inSome", desc := "(LLogPlacer$Routes;[I)I" } : Jvm.MethodName)) ∈ ga_tb := ga_mem 488 (by decide +kernel) rfl
theorem tm_489 : (Jvm.Cond.selects "LogPlacer$Reading" ({ cls := "LogPlacer$Reading", name := "inSome", desc := "(LLogPlacer$Routes;[I)I" } : Jvm.MethodName) ({ cls := "LogPlacer$Reading", name := "inSome", desc := "(LLogPlacer$Routes;[I)I" } : Jvm.MethodName)) ∈ ga_tb := ga_mem 489 (by decide +kernel) rfl
set_option maxRecDepth 20000 in
theorem tm_490 : (Jvm.Cond.code ({ cls := "LogPlacer$Reading", name := "inSome", desc := "(LLogPlacer$Routes;[I)I" } : Jvm.MethodName) prog_4_method_9_code (5 : Nat) (Option.some Jvm.ClassFile.FieldType.int)) ∈ ga_tb := ga_mem 490 (rfl) rfl
theorem tm_491 : (Jvm.Cond.methodLink "LogPlacerLaw" (99 : Nat) ({ cls := "LogPlacer", name := "look", desc := "(II)I" } : Jvm.MethodName)) ∈ ga_tb := ga_mem 491 (by decide +kernel) rfl
theorem tm_492 : (Jvm.Cond.instanceMethod ({ cls := "LogPlacer", name := "look", desc := "(II)I" } : Jvm.MethodName)) ∈ ga_tb := ga_mem 492 (by decide +kernel) rfl
theorem tm_493 : (Jvm.Cond.selects "LogPlacer" ({ cls := "LogPlacer", name := "look", desc := "(II)I" } : Jvm.MethodName) ({ cls := "LogPlacer", name := "look", desc := "(II)I" } : Jvm.MethodName)) ∈ ga_tb := ga_mem 493 (by decide +kernel) rfl
set_option maxRecDepth 20000 in
theorem tm_494 : (Jvm.Cond.code ({ cls := "LogPlacer", name := "look", desc := "(II)I" } : Jvm.MethodName) prog_1_method_21_code (3 : Nat) (Option.some Jvm.ClassFile.FieldType.int)) ∈ ga_tb := ga_mem 494 (rfl) rfl
theorem tm_495 : (Jvm.Cond.methodLink "LogPlacerLaw" (103 : Nat) ({ cls := "LogPlacer", name := "count", desc := "(I)J" } : Jvm.MethodName)) ∈ ga_tb := ga_mem 495 (by decide +kernel) rfl
theorem tm_496 : (Jvm.Cond.instanceMethod ({ cls := "LogPlacer", name := "count", desc := "(I)J" } : Jvm.MethodName)) ∈ ga_tb := ga_mem 496 (by decide +kernel) rfl
theorem tm_497 : (Jvm.Cond.selects "LogPlacer" ({ cls := "LogPlacer", name := "count", desc := "(I)J" } : Jvm.MethodName) ({ cls := "LogPlacer", name := "count", desc := "(I)J" } : Jvm.MethodName)) ∈ ga_tb := ga_mem 497 (by decide +kernel) rfl
set_option maxRecDepth 20000 in
theorem tm_498 : (Jvm.Cond.code ({ cls := "LogPlacer", name := "count", desc := "(I)J" } : Jvm.MethodName) prog_1_method_22_code (2 : Nat) (Option.some Jvm.ClassFile.FieldType.long)) ∈ ga_tb := ga_mem 498 (rfl) rfl
theorem tm_499 : (Jvm.Cond.methodLink "LogPlacer" (202 : Nat) ({ cls := "java/lang/Integer", name := "bitCount", desc := "(I)I" } : Jvm.MethodName)) ∈ ga_tb := ga_mem 499 (by decide +kernel) rfl
theorem tm_500 : (Jvm.Cond.classLink "LogPlacerLaw" (10 : Nat) "LogPlacerModel") ∈ ga_tb := ga_mem 500 (by decide +kernel) rfl
theorem tm_501 : (Jvm.Cond.instantiable "LogPlacerModel" (23 : Nat)) ∈ ga_tb := ga_mem 501 (by decide +kernel) rfl
theorem tm_502 : (Jvm.Cond.methodLink "LogPlacerLaw" (12 : Nat) ({ cls := "LogPlacerModel", name := "<init>", desc := "()V" } : Jvm.MethodName)) ∈ ga_tb := ga_mem 502 (by decide +kernel) rfl
theorem tm_503 : (Jvm.Cond.instanceMethod ({ cls := "LogPlacerModel", name := "<init>", desc := "()V" } : Jvm.MethodName)) ∈ ga_tb := ga_mem 503 (by decide +kernel) rfl
set_option maxRecDepth 20000 in
theorem tm_504 : (Jvm.Cond.code ({ cls := "LogPlacerModel", name := "<init>", desc := "()V" } : Jvm.MethodName) prog_9_method_1_code (1 : Nat) (Option.none : Option Jvm.ClassFile.FieldType)) ∈ ga_tb := ga_mem 504 (rfl) rfl
theorem tm_505 : (Jvm.Cond.methodLink "LogPlacerModel" (1 : Nat) ({ cls := "java/lang/Object", name := "<init>", desc := "()V" } : Jvm.MethodName)) ∈ ga_tb := ga_mem 505 (by decide +kernel) rfl
theorem tm_506 : (Jvm.Cond.constant "LogPlacerModel" (45 : Nat) (65536 : Int32)) ∈ ga_tb := ga_mem 506 (by decide +kernel) rfl
theorem tm_507 : (Jvm.Cond.fieldLink "LogPlacerModel" (7 : Nat) "LogPlacerModel" "tape" "[B") ∈ ga_tb := ga_mem 507 (by decide +kernel) rfl
theorem tm_508 : (Jvm.Cond.fieldLink "LogPlacerModel" (136 : Nat) "LogPlacerModel" "taped" "I") ∈ ga_tb := ga_mem 508 (by decide +kernel) rfl
theorem tm_509 : (Jvm.Cond.fieldLink "LogPlacerModel" (13 : Nat) "LogPlacerModel" "nodes" "I") ∈ ga_tb := ga_mem 509 (by decide +kernel) rfl
theorem tm_510 : (Jvm.Cond.fieldLink "LogPlacerModel" (52 : Nat) "LogPlacerModel" "steps" "I") ∈ ga_tb := ga_mem 510 (by decide +kernel) rfl
theorem tm_511 : (Jvm.Cond.fieldLink "LogPlacerModel" (17 : Nat) "LogPlacerModel" "from" "[I") ∈ ga_tb := ga_mem 511 (by decide +kernel) rfl
theorem tm_512 : (Jvm.Cond.fieldLink "LogPlacerModel" (21 : Nat) "LogPlacerModel" "to" "[I") ∈ ga_tb := ga_mem 512 (by decide +kernel) rfl
theorem tm_513 : (Jvm.Cond.fieldLink "LogPlacerModel" (24 : Nat) "LogPlacerModel" "counted" "[I") ∈ ga_tb := ga_mem 513 (by decide +kernel) rfl
theorem tm_514 : (Jvm.Cond.fieldLink "LogPlacerModel" (63 : Nat) "LogPlacerModel" "lines" "I") ∈ ga_tb := ga_mem 514 (by decide +kernel) rfl
theorem tm_515 : (Jvm.Cond.fieldLink "LogPlacerModel" (66 : Nat) "LogPlacerModel" "faults" "I") ∈ ga_tb := ga_mem 515 (by decide +kernel) rfl
theorem tm_516 : (Jvm.Cond.fieldLink "LogPlacerModel" (83 : Nat) "LogPlacerModel" "many" "I") ∈ ga_tb := ga_mem 516 (by decide +kernel) rfl
theorem tm_517 : (Jvm.Cond.fieldLink "LogPlacerModel" (86 : Nat) "LogPlacerModel" "isMore" "Z") ∈ ga_tb := ga_mem 517 (by decide +kernel) rfl
theorem tm_518 : (Jvm.Cond.fieldLink "LogPlacerModel" (27 : Nat) "LogPlacerModel" "row" "[I") ∈ ga_tb := ga_mem 518 (by decide +kernel) rfl
theorem tm_519 : (Jvm.Cond.fieldLink "LogPlacerModel" (30 : Nat) "LogPlacerModel" "size" "[I") ∈ ga_tb := ga_mem 519 (by decide +kernel) rfl
theorem tm_520 : (Jvm.Cond.fieldLink "LogPlacerModel" (33 : Nat) "LogPlacerModel" "set" "[I") ∈ ga_tb := ga_mem 520 (by decide +kernel) rfl
theorem tm_521 : (Jvm.Cond.fieldLink "LogPlacerModel" (36 : Nat) "LogPlacerModel" "has" "[I") ∈ ga_tb := ga_mem 521 (by decide +kernel) rfl
theorem tm_522 : (Jvm.Cond.fieldLink "LogPlacerModel" (69 : Nat) "LogPlacerModel" "isRead" "Z") ∈ ga_tb := ga_mem 522 (by decide +kernel) rfl
theorem tm_523 : (Jvm.Cond.fieldLink "LogPlacerModel" (145 : Nat) "LogPlacerModel" "isTorn" "Z") ∈ ga_tb := ga_mem 523 (by decide +kernel) rfl
theorem tm_524 : (Jvm.Cond.fieldLink "LogPlacerModel" (142 : Nat) "LogPlacerModel" "logSize" "I") ∈ ga_tb := ga_mem 524 (by decide +kernel) rfl
theorem tm_525 : (Jvm.Cond.fieldLink "LogPlacerModel" (39 : Nat) "LogPlacerModel" "log" "[I") ∈ ga_tb := ga_mem 525 (by decide +kernel) rfl
theorem tm_526 : (Jvm.Cond.fieldLink "LogPlacerModel" (42 : Nat) "LogPlacerModel" "now" "[I") ∈ ga_tb := ga_mem 526 (by decide +kernel) rfl
theorem tm_527 : (Jvm.Cond.fieldLink "LogPlacerModel" (46 : Nat) "LogPlacerModel" "seen" "[I") ∈ ga_tb := ga_mem 527 (by decide +kernel) rfl
theorem tm_528 : (Jvm.Cond.fieldLink "LogPlacerModel" (49 : Nat) "LogPlacerModel" "seenBy" "[I") ∈ ga_tb := ga_mem 528 (by decide +kernel) rfl
theorem tm_529 : (Jvm.Cond.fieldLink "LogPlacerModel" (115 : Nat) "LogPlacerModel" "turn" "I") ∈ ga_tb := ga_mem 529 (by decide +kernel) rfl
theorem tm_530 : (Jvm.Cond.laysFinal "LogPlacerModel" "LogPlacerModel" "tape" "[B") ∈ ga_tb := ga_mem 530 (by decide +kernel) rfl
theorem tm_532 : (Jvm.Cond.lays "LogPlacerModel" "LogPlacerModel" "taped" "I") ∈ ga_tb := ga_mem 532 (by decide +kernel) rfl
theorem tm_534 : (Jvm.Cond.lays "LogPlacerModel" "LogPlacerModel" "nodes" "I") ∈ ga_tb := ga_mem 534 (by decide +kernel) rfl
theorem tm_536 : (Jvm.Cond.lays "LogPlacerModel" "LogPlacerModel" "steps" "I") ∈ ga_tb := ga_mem 536 (by decide +kernel) rfl
theorem tm_538 : (Jvm.Cond.laysFinal "LogPlacerModel" "LogPlacerModel" "from" "[I") ∈ ga_tb := ga_mem 538 (by decide +kernel) rfl
theorem tm_540 : (Jvm.Cond.laysFinal "LogPlacerModel" "LogPlacerModel" "to" "[I") ∈ ga_tb := ga_mem 540 (by decide +kernel) rfl
theorem tm_542 : (Jvm.Cond.laysFinal "LogPlacerModel" "LogPlacerModel" "counted" "[I") ∈ ga_tb := ga_mem 542 (by decide +kernel) rfl
theorem tm_544 : (Jvm.Cond.lays "LogPlacerModel" "LogPlacerModel" "lines" "I") ∈ ga_tb := ga_mem 544 (by decide +kernel) rfl
theorem tm_546 : (Jvm.Cond.lays "LogPlacerModel" "LogPlacerModel" "faults" "I") ∈ ga_tb := ga_mem 546 (by decide +kernel) rfl
theorem tm_548 : (Jvm.Cond.lays "LogPlacerModel" "LogPlacerModel" "many" "I") ∈ ga_tb := ga_mem 548 (by decide +kernel) rfl
theorem tm_550 : (Jvm.Cond.lays "LogPlacerModel" "LogPlacerModel" "isMore" "Z") ∈ ga_tb := ga_mem 550 (by decide +kernel) rfl
theorem tm_552 : (Jvm.Cond.laysFinal "LogPlacerModel" "LogPlacerModel" "row" "[I") ∈ ga_tb := ga_mem 552 (by decide +kernel) rfl
theorem tm_554 : (Jvm.Cond.laysFinal "LogPlacerModel" "LogPlacerModel" "size" "[I") ∈ ga_tb := ga_mem 554 (by decide +kernel) rfl
theorem tm_556 : (Jvm.Cond.laysFinal "LogPlacerModel" "LogPlacerModel" "set" "[I") ∈ ga_tb := ga_mem 556 (by decide +kernel) rfl
theorem tm_558 : (Jvm.Cond.laysFinal "LogPlacerModel" "LogPlacerModel" "has" "[I") ∈ ga_tb := ga_mem 558 (by decide +kernel) rfl
theorem tm_560 : (Jvm.Cond.lays "LogPlacerModel" "LogPlacerModel" "isRead" "Z") ∈ ga_tb := ga_mem 560 (by decide +kernel) rfl
theorem tm_562 : (Jvm.Cond.lays "LogPlacerModel" "LogPlacerModel" "isTorn" "Z") ∈ ga_tb := ga_mem 562 (by decide +kernel) rfl
theorem tm_564 : (Jvm.Cond.lays "LogPlacerModel" "LogPlacerModel" "logSize" "I") ∈ ga_tb := ga_mem 564 (by decide +kernel) rfl
theorem tm_566 : (Jvm.Cond.laysFinal "LogPlacerModel" "LogPlacerModel" "log" "[I") ∈ ga_tb := ga_mem 566 (by decide +kernel) rfl
theorem tm_568 : (Jvm.Cond.laysFinal "LogPlacerModel" "LogPlacerModel" "now" "[I") ∈ ga_tb := ga_mem 568 (by decide +kernel) rfl
theorem tm_570 : (Jvm.Cond.laysFinal "LogPlacerModel" "LogPlacerModel" "seen" "[I") ∈ ga_tb := ga_mem 570 (by decide +kernel) rfl
theorem tm_572 : (Jvm.Cond.laysFinal "LogPlacerModel" "LogPlacerModel" "seenBy" "[I") ∈ ga_tb := ga_mem 572 (by decide +kernel) rfl
theorem tm_574 : (Jvm.Cond.lays "LogPlacerModel" "LogPlacerModel" "turn" "I") ∈ ga_tb := ga_mem 574 (by decide +kernel) rfl
theorem tm_577 : (Jvm.Cond.arrayClass Jvm.ClassFile.FieldType.byte) ∈ ga_tb := ga_mem 577 (by decide +kernel) rfl
theorem tm_578 : (Jvm.Cond.methodLink "LogPlacerLaw" (17 : Nat) ({ cls := "LogPlacerModel", name := "flow", desc := "(I)Z" } : Jvm.MethodName)) ∈ ga_tb := ga_mem 578 (by decide +kernel) rfl
theorem tm_579 : (Jvm.Cond.instanceMethod ({ cls := "LogPlacerModel", name := "flow", desc := "(I)Z" } : Jvm.MethodName)) ∈ ga_tb := ga_mem 579 (by decide +kernel) rfl
theorem tm_580 : (Jvm.Cond.selects "LogPlacerModel" ({ cls := "LogPlacerModel", name := "flow", desc := "(I)Z" } : Jvm.MethodName) ({ cls := "LogPlacerModel", name := "flow", desc := "(I)Z" } : Jvm.MethodName)) ∈ ga_tb := ga_mem 580 (by decide +kernel) rfl
set_option maxRecDepth 20000 in
theorem tm_581 : (Jvm.Cond.code ({ cls := "LogPlacerModel", name := "flow", desc := "(I)Z" } : Jvm.MethodName) prog_9_method_6_code (2 : Nat) (Option.some Jvm.ClassFile.FieldType.boolean)) ∈ ga_tb := ga_mem 581 (rfl) rfl
theorem tm_582 : (Jvm.Cond.constantLong "LogPlacerModel" (59 : Nat) (2 : Int64)) ∈ ga_tb := ga_mem 582 (by decide +kernel) rfl
theorem tm_583 : (Jvm.Cond.constantLong "LogPlacerModel" (61 : Nat) (12 : Int64)) ∈ ga_tb := ga_mem 583 (by decide +kernel) rfl
theorem tm_584 : (Jvm.Cond.methodLink "LogPlacerModel" (55 : Nat) ({ cls := "LogPlacerModel", name := "lies", desc := "(JJJ)Z" } : Jvm.MethodName)) ∈ ga_tb := ga_mem 584 (by decide +kernel) rfl
theorem tm_585 : (Jvm.Cond.static ({ cls := "LogPlacerModel", name := "lies", desc := "(JJJ)Z" } : Jvm.MethodName)) ∈ ga_tb := ga_mem 585 (by decide +kernel) rfl
set_option maxRecDepth 20000 in
theorem tm_586 : (Jvm.Cond.code ({ cls := "LogPlacerModel", name := "lies", desc := "(JJJ)Z" } : Jvm.MethodName) prog_9_method_2_code (6 : Nat) (Option.some Jvm.ClassFile.FieldType.boolean)) ∈ ga_tb := ga_mem 586 (rfl) rfl
theorem tm_587 : (Jvm.Cond.methodLink "LogPlacerLaw" (22 : Nat) ({ cls := "LogPlacerModel", name := "step", desc := "(III)I" } : Jvm.MethodName)) ∈ ga_tb := ga_mem 587 (by decide +kernel) rfl
theorem tm_588 : (Jvm.Cond.instanceMethod ({ cls := "LogPlacerModel", name := "step", desc := "(III)I" } : Jvm.MethodName)) ∈ ga_tb := ga_mem 588 (by decide +kernel) rfl
theorem tm_589 : (Jvm.Cond.selects "LogPlacerModel" ({ cls := "LogPlacerModel", name := "step", desc := "(III)I" } : Jvm.MethodName) ({ cls := "LogPlacerModel", name := "step", desc := "(III)I" } : Jvm.MethodName)) ∈ ga_tb := ga_mem 589 (by decide +kernel) rfl
set_option maxRecDepth 20000 in
theorem tm_590 : (Jvm.Cond.code ({ cls := "LogPlacerModel", name := "step", desc := "(III)I" } : Jvm.MethodName) prog_9_method_7_code (4 : Nat) (Option.some Jvm.ClassFile.FieldType.int)) ∈ ga_tb := ga_mem 590 (rfl) rfl
theorem tm_591 : (Jvm.Cond.constantLong "LogPlacerModel" (73 : Nat) (1000000 : Int64)) ∈ ga_tb := ga_mem 591 (by decide +kernel) rfl
theorem tm_592 : (Jvm.Cond.methodLink "LogPlacerLaw" (27 : Nat) ({ cls := "LogPlacerModel", name := "counted", desc := "(II)Z" } : Jvm.MethodName)) ∈ ga_tb := ga_mem 592 (by decide +kernel) rfl
theorem tm_593 : (Jvm.Cond.instanceMethod ({ cls := "LogPlacerModel", name := "counted", desc := "(II)Z" } : Jvm.MethodName)) ∈ ga_tb := ga_mem 593 (by decide +kernel) rfl
theorem tm_594 : (Jvm.Cond.selects "LogPlacerModel" ({ cls := "LogPlacerModel", name := "counted", desc := "(II)Z" } : Jvm.MethodName) ({ cls := "LogPlacerModel", name := "counted", desc := "(II)Z" } : Jvm.MethodName)) ∈ ga_tb := ga_mem 594 (by decide +kernel) rfl
set_option maxRecDepth 20000 in
theorem tm_595 : (Jvm.Cond.code ({ cls := "LogPlacerModel", name := "counted", desc := "(II)Z" } : Jvm.MethodName) prog_9_method_8_code (3 : Nat) (Option.some Jvm.ClassFile.FieldType.boolean)) ∈ ga_tb := ga_mem 595 (rfl) rfl
theorem tm_596 : (Jvm.Cond.methodLink "LogPlacerModel" (75 : Nat) ({ cls := "LogPlacerModel", name := "isStep", desc := "(I)Z" } : Jvm.MethodName)) ∈ ga_tb := ga_mem 596 (by decide +kernel) rfl
theorem tm_598 : (Jvm.Cond.instanceMethod ({ cls := "LogPlacerModel", name := "isStep", desc := "(I)Z" } : Jvm.MethodName)) ∈ ga_tb := ga_mem 598 (by decide +kernel) rfl
set_option maxRecDepth 20000 in
theorem tm_599 : (Jvm.Cond.code ({ cls := "LogPlacerModel", name := "isStep", desc := "(I)Z" } : Jvm.MethodName) prog_9_method_3_code (2 : Nat) (Option.some Jvm.ClassFile.FieldType.boolean)) ∈ ga_tb := ga_mem 599 (rfl) rfl
theorem tm_600 : (Jvm.Cond.methodLink "LogPlacerLaw" (32 : Nat) ({ cls := "LogPlacerModel", name := "line", desc := "(IZ)Z" } : Jvm.MethodName)) ∈ ga_tb := ga_mem 600 (by decide +kernel) rfl
theorem tm_601 : (Jvm.Cond.instanceMethod ({ cls := "LogPlacerModel", name := "line", desc := "(IZ)Z" } : Jvm.MethodName)) ∈ ga_tb := ga_mem 601 (by decide +kernel) rfl
theorem tm_602 : (Jvm.Cond.selects "LogPlacerModel" ({ cls := "LogPlacerModel", name := "line", desc := "(IZ)Z" } : Jvm.MethodName) ({ cls := "LogPlacerModel", name := "line", desc := "(IZ)Z" } : Jvm.MethodName)) ∈ ga_tb := ga_mem 602 (by decide +kernel) rfl
set_option maxRecDepth 20000 in
theorem tm_603 : (Jvm.Cond.code ({ cls := "LogPlacerModel", name := "line", desc := "(IZ)Z" } : Jvm.MethodName) prog_9_method_9_code (3 : Nat) (Option.some Jvm.ClassFile.FieldType.boolean)) ∈ ga_tb := ga_mem 603 (rfl) rfl
theorem tm_604 : (Jvm.Cond.methodLink "LogPlacerModel" (79 : Nat) ({ cls := "LogPlacerModel", name := "isIn", desc := "(II)Z" } : Jvm.MethodName)) ∈ ga_tb := ga_mem 604 (by decide +kernel) rfl
theorem tm_605 : (Jvm.Cond.static ({ cls := "LogPlacerModel", name := "isIn", desc := "(II)Z" } : Jvm.MethodName)) ∈ ga_tb := ga_mem 605 (by decide +kernel) rfl
set_option maxRecDepth 20000 in
theorem tm_606 : (Jvm.Cond.code ({ cls := "LogPlacerModel", name := "isIn", desc := "(II)Z" } : Jvm.MethodName) prog_9_method_4_code (2 : Nat) (Option.some Jvm.ClassFile.FieldType.boolean)) ∈ ga_tb := ga_mem 606 (rfl) rfl
theorem tm_607 : (Jvm.Cond.methodLink "LogPlacerLaw" (36 : Nat) ({ cls := "LogPlacerModel", name := "fault", desc := "(IZ)Z" } : Jvm.MethodName)) ∈ ga_tb := ga_mem 607 (by decide +kernel) rfl
theorem tm_608 : (Jvm.Cond.instanceMethod ({ cls := "LogPlacerModel", name := "fault", desc := "(IZ)Z" } : Jvm.MethodName)) ∈ ga_tb := ga_mem 608 (by decide +kernel) rfl
theorem tm_609 : (Jvm.Cond.selects "LogPlacerModel" ({ cls := "LogPlacerModel", name := "fault", desc := "(IZ)Z" } : Jvm.MethodName) ({ cls := "LogPlacerModel", name := "fault", desc := "(IZ)Z" } : Jvm.MethodName)) ∈ ga_tb := ga_mem 609 (by decide +kernel) rfl
set_option maxRecDepth 20000 in
theorem tm_610 : (Jvm.Cond.code ({ cls := "LogPlacerModel", name := "fault", desc := "(IZ)Z" } : Jvm.MethodName) prog_9_method_10_code (3 : Nat) (Option.some Jvm.ClassFile.FieldType.boolean)) ∈ ga_tb := ga_mem 610 (rfl) rfl
theorem tm_611 : (Jvm.Cond.methodLink "LogPlacerLaw" (41 : Nat) ({ cls := "LogPlacerModel", name := "ways", desc := "()I" } : Jvm.MethodName)) ∈ ga_tb := ga_mem 611 (by decide +kernel) rfl
theorem tm_612 : (Jvm.Cond.instanceMethod ({ cls := "LogPlacerModel", name := "ways", desc := "()I" } : Jvm.MethodName)) ∈ ga_tb := ga_mem 612 (by decide +kernel) rfl
theorem tm_613 : (Jvm.Cond.selects "LogPlacerModel" ({ cls := "LogPlacerModel", name := "ways", desc := "()I" } : Jvm.MethodName) ({ cls := "LogPlacerModel", name := "ways", desc := "()I" } : Jvm.MethodName)) ∈ ga_tb := ga_mem 613 (by decide +kernel) rfl
set_option maxRecDepth 20000 in
theorem tm_614 : (Jvm.Cond.code ({ cls := "LogPlacerModel", name := "ways", desc := "()I" } : Jvm.MethodName) prog_9_method_14_code (1 : Nat) (Option.some Jvm.ClassFile.FieldType.int)) ∈ ga_tb := ga_mem 614 (rfl) rfl
theorem tm_615 : (Jvm.Cond.methodLink "LogPlacerModel" (96 : Nat) ({ cls := "LogPlacerModel", name := "isTooMany", desc := "()Z" } : Jvm.MethodName)) ∈ ga_tb := ga_mem 615 (by decide +kernel) rfl
theorem tm_617 : (Jvm.Cond.instanceMethod ({ cls := "LogPlacerModel", name := "isTooMany", desc := "()Z" } : Jvm.MethodName)) ∈ ga_tb := ga_mem 617 (by decide +kernel) rfl
set_option maxRecDepth 20000 in
theorem tm_618 : (Jvm.Cond.code ({ cls := "LogPlacerModel", name := "isTooMany", desc := "()Z" } : Jvm.MethodName) prog_9_method_13_code (1 : Nat) (Option.some Jvm.ClassFile.FieldType.boolean)) ∈ ga_tb := ga_mem 618 (rfl) rfl
theorem tm_619 : (Jvm.Cond.methodLink "LogPlacerModel" (93 : Nat) ({ cls := "LogPlacerModel", name := "works", desc := "()V" } : Jvm.MethodName)) ∈ ga_tb := ga_mem 619 (by decide +kernel) rfl
theorem tm_621 : (Jvm.Cond.instanceMethod ({ cls := "LogPlacerModel", name := "works", desc := "()V" } : Jvm.MethodName)) ∈ ga_tb := ga_mem 621 (by decide +kernel) rfl
set_option maxRecDepth 20000 in
theorem tm_622 : (Jvm.Cond.code ({ cls := "LogPlacerModel", name := "works", desc := "()V" } : Jvm.MethodName) prog_9_method_12_code (4 : Nat) (Option.none : Option Jvm.ClassFile.FieldType)) ∈ ga_tb := ga_mem 622 (rfl) rfl
theorem tm_623 : (Jvm.Cond.methodLink "LogPlacerModel" (89 : Nat) ({ cls := "LogPlacerModel", name := "keeps", desc := "(I)V" } : Jvm.MethodName)) ∈ ga_tb := ga_mem 623 (by decide +kernel) rfl
theorem tm_625 : (Jvm.Cond.instanceMethod ({ cls := "LogPlacerModel", name := "keeps", desc := "(I)V" } : Jvm.MethodName)) ∈ ga_tb := ga_mem 625 (by decide +kernel) rfl
set_option maxRecDepth 20000 in
theorem tm_626 : (Jvm.Cond.code ({ cls := "LogPlacerModel", name := "keeps", desc := "(I)V" } : Jvm.MethodName) prog_9_method_11_code (3 : Nat) (Option.none : Option Jvm.ClassFile.FieldType)) ∈ ga_tb := ga_mem 626 (rfl) rfl
theorem tm_627 : (Jvm.Cond.methodLink "LogPlacerLaw" (46 : Nat) ({ cls := "LogPlacerModel", name := "way", desc := "(II)I" } : Jvm.MethodName)) ∈ ga_tb := ga_mem 627 (by decide +kernel) rfl
theorem tm_628 : (Jvm.Cond.instanceMethod ({ cls := "LogPlacerModel", name := "way", desc := "(II)I" } : Jvm.MethodName)) ∈ ga_tb := ga_mem 628 (by decide +kernel) rfl
theorem tm_629 : (Jvm.Cond.selects "LogPlacerModel" ({ cls := "LogPlacerModel", name := "way", desc := "(II)I" } : Jvm.MethodName) ({ cls := "LogPlacerModel", name := "way", desc := "(II)I" } : Jvm.MethodName)) ∈ ga_tb := ga_mem 629 (by decide +kernel) rfl
set_option maxRecDepth 20000 in
theorem tm_630 : (Jvm.Cond.code ({ cls := "LogPlacerModel", name := "way", desc := "(II)I" } : Jvm.MethodName) prog_9_method_15_code (3 : Nat) (Option.some Jvm.ClassFile.FieldType.int)) ∈ ga_tb := ga_mem 630 (rfl) rfl
theorem tm_631 : (Jvm.Cond.methodLink "LogPlacerLaw" (50 : Nat) ({ cls := "LogPlacerModel", name := "log", desc := "(II)I" } : Jvm.MethodName)) ∈ ga_tb := ga_mem 631 (by decide +kernel) rfl
theorem tm_632 : (Jvm.Cond.instanceMethod ({ cls := "LogPlacerModel", name := "log", desc := "(II)I" } : Jvm.MethodName)) ∈ ga_tb := ga_mem 632 (by decide +kernel) rfl
theorem tm_633 : (Jvm.Cond.selects "LogPlacerModel" ({ cls := "LogPlacerModel", name := "log", desc := "(II)I" } : Jvm.MethodName) ({ cls := "LogPlacerModel", name := "log", desc := "(II)I" } : Jvm.MethodName)) ∈ ga_tb := ga_mem 633 (by decide +kernel) rfl
set_option maxRecDepth 20000 in
theorem tm_634 : (Jvm.Cond.code ({ cls := "LogPlacerModel", name := "log", desc := "(II)I" } : Jvm.MethodName) prog_9_method_17_code (3 : Nat) (Option.some Jvm.ClassFile.FieldType.int)) ∈ ga_tb := ga_mem 634 (rfl) rfl
theorem tm_635 : (Jvm.Cond.methodLink "LogPlacerModel" (100 : Nat) ({ cls := "LogPlacerModel", name := "logOf", desc := "(II)I" } : Jvm.MethodName)) ∈ ga_tb := ga_mem 635 (by decide +kernel) rfl
theorem tm_637 : (Jvm.Cond.instanceMethod ({ cls := "LogPlacerModel", name := "logOf", desc := "(II)I" } : Jvm.MethodName)) ∈ ga_tb := ga_mem 637 (by decide +kernel) rfl
set_option maxRecDepth 20000 in
theorem tm_638 : (Jvm.Cond.code ({ cls := "LogPlacerModel", name := "logOf", desc := "(II)I" } : Jvm.MethodName) prog_9_method_16_code (5 : Nat) (Option.some Jvm.ClassFile.FieldType.int)) ∈ ga_tb := ga_mem 638 (rfl) rfl
theorem tm_639 : (Jvm.Cond.methodLink "LogPlacerLaw" (54 : Nat) ({ cls := "LogPlacerModel", name := "heaps", desc := "()I" } : Jvm.MethodName)) ∈ ga_tb := ga_mem 639 (by decide +kernel) rfl
theorem tm_640 : (Jvm.Cond.instanceMethod ({ cls := "LogPlacerModel", name := "heaps", desc := "()I" } : Jvm.MethodName)) ∈ ga_tb := ga_mem 640 (by decide +kernel) rfl
theorem tm_641 : (Jvm.Cond.selects "LogPlacerModel" ({ cls := "LogPlacerModel", name := "heaps", desc := "()I" } : Jvm.MethodName) ({ cls := "LogPlacerModel", name := "heaps", desc := "()I" } : Jvm.MethodName)) ∈ ga_tb := ga_mem 641 (by decide +kernel) rfl
set_option maxRecDepth 20000 in
theorem tm_642 : (Jvm.Cond.code ({ cls := "LogPlacerModel", name := "heaps", desc := "()I" } : Jvm.MethodName) prog_9_method_21_code (1 : Nat) (Option.some Jvm.ClassFile.FieldType.int)) ∈ ga_tb := ga_mem 642 (rfl) rfl
theorem tm_643 : (Jvm.Cond.methodLink "LogPlacerModel" (111 : Nat) ({ cls := "LogPlacerModel", name := "heapsBy", desc := "(I)I" } : Jvm.MethodName)) ∈ ga_tb := ga_mem 643 (by decide +kernel) rfl
theorem tm_645 : (Jvm.Cond.instanceMethod ({ cls := "LogPlacerModel", name := "heapsBy", desc := "(I)I" } : Jvm.MethodName)) ∈ ga_tb := ga_mem 645 (by decide +kernel) rfl
set_option maxRecDepth 20000 in
theorem tm_646 : (Jvm.Cond.code ({ cls := "LogPlacerModel", name := "heapsBy", desc := "(I)I" } : Jvm.MethodName) prog_9_method_20_code (4 : Nat) (Option.some Jvm.ClassFile.FieldType.int)) ∈ ga_tb := ga_mem 646 (rfl) rfl
theorem tm_647 : (Jvm.Cond.methodLink "LogPlacerModel" (108 : Nat) ({ cls := "LogPlacerModel", name := "firstOf", desc := "(II)I" } : Jvm.MethodName)) ∈ ga_tb := ga_mem 647 (by decide +kernel) rfl
theorem tm_649 : (Jvm.Cond.instanceMethod ({ cls := "LogPlacerModel", name := "firstOf", desc := "(II)I" } : Jvm.MethodName)) ∈ ga_tb := ga_mem 649 (by decide +kernel) rfl
set_option maxRecDepth 20000 in
theorem tm_650 : (Jvm.Cond.code ({ cls := "LogPlacerModel", name := "firstOf", desc := "(II)I" } : Jvm.MethodName) prog_9_method_19_code (4 : Nat) (Option.some Jvm.ClassFile.FieldType.int)) ∈ ga_tb := ga_mem 650 (rfl) rfl
theorem tm_651 : (Jvm.Cond.methodLink "LogPlacerModel" (104 : Nat) ({ cls := "LogPlacerModel", name := "areParted", desc := "(III)Z" } : Jvm.MethodName)) ∈ ga_tb := ga_mem 651 (by decide +kernel) rfl
theorem tm_653 : (Jvm.Cond.instanceMethod ({ cls := "LogPlacerModel", name := "areParted", desc := "(III)Z" } : Jvm.MethodName)) ∈ ga_tb := ga_mem 653 (by decide +kernel) rfl
set_option maxRecDepth 20000 in
theorem tm_654 : (Jvm.Cond.code ({ cls := "LogPlacerModel", name := "areParted", desc := "(III)Z" } : Jvm.MethodName) prog_9_method_18_code (4 : Nat) (Option.some Jvm.ClassFile.FieldType.boolean)) ∈ ga_tb := ga_mem 654 (rfl) rfl
theorem tm_655 : (Jvm.Cond.methodLink "LogPlacerLaw" (59 : Nat) ({ cls := "LogPlacerModel", name := "heap", desc := "(I)I" } : Jvm.MethodName)) ∈ ga_tb := ga_mem 655 (by decide +kernel) rfl
theorem tm_656 : (Jvm.Cond.instanceMethod ({ cls := "LogPlacerModel", name := "heap", desc := "(I)I" } : Jvm.MethodName)) ∈ ga_tb := ga_mem 656 (by decide +kernel) rfl
theorem tm_657 : (Jvm.Cond.selects "LogPlacerModel" ({ cls := "LogPlacerModel", name := "heap", desc := "(I)I" } : Jvm.MethodName) ({ cls := "LogPlacerModel", name := "heap", desc := "(I)I" } : Jvm.MethodName)) ∈ ga_tb := ga_mem 657 (by decide +kernel) rfl
set_option maxRecDepth 20000 in
theorem tm_658 : (Jvm.Cond.code ({ cls := "LogPlacerModel", name := "heap", desc := "(I)I" } : Jvm.MethodName) prog_9_method_22_code (2 : Nat) (Option.some Jvm.ClassFile.FieldType.int)) ∈ ga_tb := ga_mem 658 (rfl) rfl
theorem tm_659 : (Jvm.Cond.methodLink "LogPlacerLaw" (63 : Nat) ({ cls := "LogPlacerModel", name := "apart", desc := "(I)I" } : Jvm.MethodName)) ∈ ga_tb := ga_mem 659 (by decide +kernel) rfl
theorem tm_660 : (Jvm.Cond.instanceMethod ({ cls := "LogPlacerModel", name := "apart", desc := "(I)I" } : Jvm.MethodName)) ∈ ga_tb := ga_mem 660 (by decide +kernel) rfl
theorem tm_661 : (Jvm.Cond.selects "LogPlacerModel" ({ cls := "LogPlacerModel", name := "apart", desc := "(I)I" } : Jvm.MethodName) ({ cls := "LogPlacerModel", name := "apart", desc := "(I)I" } : Jvm.MethodName)) ∈ ga_tb := ga_mem 661 (by decide +kernel) rfl
set_option maxRecDepth 20000 in
theorem tm_662 : (Jvm.Cond.code ({ cls := "LogPlacerModel", name := "apart", desc := "(I)I" } : Jvm.MethodName) prog_9_method_24_code (2 : Nat) (Option.some Jvm.ClassFile.FieldType.int)) ∈ ga_tb := ga_mem 662 (rfl) rfl
theorem tm_663 : (Jvm.Cond.methodLink "LogPlacerModel" (118 : Nat) ({ cls := "LogPlacerModel", name := "isApart", desc := "(II)Z" } : Jvm.MethodName)) ∈ ga_tb := ga_mem 663 (by decide +kernel) rfl
theorem tm_665 : (Jvm.Cond.instanceMethod ({ cls := "LogPlacerModel", name := "isApart", desc := "(II)Z" } : Jvm.MethodName)) ∈ ga_tb := ga_mem 665 (by decide +kernel) rfl
set_option maxRecDepth 20000 in
theorem tm_666 : (Jvm.Cond.code ({ cls := "LogPlacerModel", name := "isApart", desc := "(II)Z" } : Jvm.MethodName) prog_9_method_23_code (5 : Nat) (Option.some Jvm.ClassFile.FieldType.boolean)) ∈ ga_tb := ga_mem 666 (rfl) rfl
theorem tm_667 : (Jvm.Cond.methodLink "LogPlacerLaw" (73 : Nat) ({ cls := "LogPlacerModel", name := "price", desc := "(I)J" } : Jvm.MethodName)) ∈ ga_tb := ga_mem 667 (by decide +kernel) rfl
theorem tm_668 : (Jvm.Cond.instanceMethod ({ cls := "LogPlacerModel", name := "price", desc := "(I)J" } : Jvm.MethodName)) ∈ ga_tb := ga_mem 668 (by decide +kernel) rfl
theorem tm_669 : (Jvm.Cond.selects "LogPlacerModel" ({ cls := "LogPlacerModel", name := "price", desc := "(I)J" } : Jvm.MethodName) ({ cls := "LogPlacerModel", name := "price", desc := "(I)J" } : Jvm.MethodName)) ∈ ga_tb := ga_mem 669 (by decide +kernel) rfl
set_option maxRecDepth 20000 in
theorem tm_670 : (Jvm.Cond.code ({ cls := "LogPlacerModel", name := "price", desc := "(I)J" } : Jvm.MethodName) prog_9_method_26_code (2 : Nat) (Option.some Jvm.ClassFile.FieldType.long)) ∈ ga_tb := ga_mem 670 (rfl) rfl
theorem tm_671 : (Jvm.Cond.methodLink "LogPlacerModel" (121 : Nat) ({ cls := "LogPlacerModel", name := "priceOf", desc := "(I)J" } : Jvm.MethodName)) ∈ ga_tb := ga_mem 671 (by decide +kernel) rfl
theorem tm_673 : (Jvm.Cond.instanceMethod ({ cls := "LogPlacerModel", name := "priceOf", desc := "(I)J" } : Jvm.MethodName)) ∈ ga_tb := ga_mem 673 (by decide +kernel) rfl
set_option maxRecDepth 20000 in
theorem tm_674 : (Jvm.Cond.code ({ cls := "LogPlacerModel", name := "priceOf", desc := "(I)J" } : Jvm.MethodName) prog_9_method_25_code (5 : Nat) (Option.some Jvm.ClassFile.FieldType.long)) ∈ ga_tb := ga_mem 674 (rfl) rfl
theorem tm_675 : (Jvm.Cond.constantLong "LogPlacerModel" (125 : Nat) (-1 : Int64)) ∈ ga_tb := ga_mem 675 (by decide +kernel) rfl
theorem tm_676 : (Jvm.Cond.methodLink "LogPlacerLaw" (68 : Nat) ({ cls := "LogPlacerModel", name := "cheapest", desc := "(IZ)I" } : Jvm.MethodName)) ∈ ga_tb := ga_mem 676 (by decide +kernel) rfl
theorem tm_677 : (Jvm.Cond.instanceMethod ({ cls := "LogPlacerModel", name := "cheapest", desc := "(IZ)I" } : Jvm.MethodName)) ∈ ga_tb := ga_mem 677 (by decide +kernel) rfl
theorem tm_678 : (Jvm.Cond.selects "LogPlacerModel" ({ cls := "LogPlacerModel", name := "cheapest", desc := "(IZ)I" } : Jvm.MethodName) ({ cls := "LogPlacerModel", name := "cheapest", desc := "(IZ)I" } : Jvm.MethodName)) ∈ ga_tb := ga_mem 678 (by decide +kernel) rfl
set_option maxRecDepth 20000 in
theorem tm_679 : (Jvm.Cond.code ({ cls := "LogPlacerModel", name := "cheapest", desc := "(IZ)I" } : Jvm.MethodName) prog_9_method_28_code (10 : Nat) (Option.some Jvm.ClassFile.FieldType.int)) ∈ ga_tb := ga_mem 679 (rfl) rfl
theorem tm_680 : (Jvm.Cond.methodLink "LogPlacerModel" (130 : Nat) ({ cls := "LogPlacerModel", name := "isBetter", desc := "(II)Z" } : Jvm.MethodName)) ∈ ga_tb := ga_mem 680 (by decide +kernel) rfl
theorem tm_681 : (Jvm.Cond.static ({ cls := "LogPlacerModel", name := "isBetter", desc := "(II)Z" } : Jvm.MethodName)) ∈ ga_tb := ga_mem 681 (by decide +kernel) rfl
set_option maxRecDepth 20000 in
theorem tm_682 : (Jvm.Cond.code ({ cls := "LogPlacerModel", name := "isBetter", desc := "(II)Z" } : Jvm.MethodName) prog_9_method_27_code (3 : Nat) (Option.some Jvm.ClassFile.FieldType.boolean)) ∈ ga_tb := ga_mem 682 (rfl) rfl
theorem tm_683 : (Jvm.Cond.methodLink "LogPlacerModel" (127 : Nat) ({ cls := "LogPlacerModel", name := "sizeOf", desc := "(I)I" } : Jvm.MethodName)) ∈ ga_tb := ga_mem 683 (by decide +kernel) rfl
theorem tm_684 : (Jvm.Cond.static ({ cls := "LogPlacerModel", name := "sizeOf", desc := "(I)I" } : Jvm.MethodName)) ∈ ga_tb := ga_mem 684 (by decide +kernel) rfl
set_option maxRecDepth 20000 in
theorem tm_685 : (Jvm.Cond.code ({ cls := "LogPlacerModel", name := "sizeOf", desc := "(I)I" } : Jvm.MethodName) prog_9_method_5_code (3 : Nat) (Option.some Jvm.ClassFile.FieldType.int)) ∈ ga_tb := ga_mem 685 (rfl) rfl
theorem tm_686 : (Jvm.Cond.methodLink "LogPlacerLaw" (77 : Nat) ({ cls := "LogPlacerModel", name := "useless", desc := "(I)I" } : Jvm.MethodName)) ∈ ga_tb := ga_mem 686 (by decide +kernel) rfl
theorem tm_687 : (Jvm.Cond.instanceMethod ({ cls := "LogPlacerModel", name := "useless", desc := "(I)I" } : Jvm.MethodName)) ∈ ga_tb := ga_mem 687 (by decide +kernel) rfl
theorem tm_688 : (Jvm.Cond.selects "LogPlacerModel" ({ cls := "LogPlacerModel", name := "useless", desc := "(I)I" } : Jvm.MethodName) ({ cls := "LogPlacerModel", name := "useless", desc := "(I)I" } : Jvm.MethodName)) ∈ ga_tb := ga_mem 688 (by decide +kernel) rfl
set_option maxRecDepth 20000 in
theorem tm_689 : (Jvm.Cond.code ({ cls := "LogPlacerModel", name := "useless", desc := "(I)I" } : Jvm.MethodName) prog_9_method_30_code (4 : Nat) (Option.some Jvm.ClassFile.FieldType.int)) ∈ ga_tb := ga_mem 689 (rfl) rfl
theorem tm_690 : (Jvm.Cond.methodLink "LogPlacerModel" (133 : Nat) ({ cls := "LogPlacerModel", name := "isUseless", desc := "(I)Z" } : Jvm.MethodName)) ∈ ga_tb := ga_mem 690 (by decide +kernel) rfl
theorem tm_692 : (Jvm.Cond.instanceMethod ({ cls := "LogPlacerModel", name := "isUseless", desc := "(I)Z" } : Jvm.MethodName)) ∈ ga_tb := ga_mem 692 (by decide +kernel) rfl
set_option maxRecDepth 20000 in
theorem tm_693 : (Jvm.Cond.code ({ cls := "LogPlacerModel", name := "isUseless", desc := "(I)Z" } : Jvm.MethodName) prog_9_method_29_code (2 : Nat) (Option.some Jvm.ClassFile.FieldType.boolean)) ∈ ga_tb := ga_mem 693 (rfl) rfl
theorem tm_694 : (Jvm.Cond.methodLink "LogPlacerLaw" (81 : Nat) ({ cls := "LogPlacerModel", name := "why", desc := "(II)I" } : Jvm.MethodName)) ∈ ga_tb := ga_mem 694 (by decide +kernel) rfl
theorem tm_695 : (Jvm.Cond.instanceMethod ({ cls := "LogPlacerModel", name := "why", desc := "(II)I" } : Jvm.MethodName)) ∈ ga_tb := ga_mem 695 (by decide +kernel) rfl
theorem tm_696 : (Jvm.Cond.selects "LogPlacerModel" ({ cls := "LogPlacerModel", name := "why", desc := "(II)I" } : Jvm.MethodName) ({ cls := "LogPlacerModel", name := "why", desc := "(II)I" } : Jvm.MethodName)) ∈ ga_tb := ga_mem 696 (by decide +kernel) rfl
set_option maxRecDepth 20000 in
theorem tm_697 : (Jvm.Cond.code ({ cls := "LogPlacerModel", name := "why", desc := "(II)I" } : Jvm.MethodName) prog_9_method_31_code (6 : Nat) (Option.some Jvm.ClassFile.FieldType.int)) ∈ ga_tb := ga_mem 697 (rfl) rfl
theorem tm_698 : (Jvm.Cond.methodLink "LogPlacerLaw" (86 : Nat) ({ cls := "LogPlacerModel", name := "feed", desc := "(IIIII)I" } : Jvm.MethodName)) ∈ ga_tb := ga_mem 698 (by decide +kernel) rfl
theorem tm_699 : (Jvm.Cond.instanceMethod ({ cls := "LogPlacerModel", name := "feed", desc := "(IIIII)I" } : Jvm.MethodName)) ∈ ga_tb := ga_mem 699 (by decide +kernel) rfl
theorem tm_700 : (Jvm.Cond.selects "LogPlacerModel" ({ cls := "LogPlacerModel", name := "feed", desc := "(IIIII)I" } : Jvm.MethodName) ({ cls := "LogPlacerModel", name := "feed", desc := "(IIIII)I" } : Jvm.MethodName)) ∈ ga_tb := ga_mem 700 (by decide +kernel) rfl
set_option maxRecDepth 20000 in
theorem tm_701 : (Jvm.Cond.code ({ cls := "LogPlacerModel", name := "feed", desc := "(IIIII)I" } : Jvm.MethodName) prog_9_method_33_code (6 : Nat) (Option.some Jvm.ClassFile.FieldType.int)) ∈ ga_tb := ga_mem 701 (rfl) rfl
theorem tm_702 : (Jvm.Cond.methodLink "LogPlacerModel" (139 : Nat) ({ cls := "LogPlacerModel", name := "push", desc := "(I)V" } : Jvm.MethodName)) ∈ ga_tb := ga_mem 702 (by decide +kernel) rfl
theorem tm_704 : (Jvm.Cond.instanceMethod ({ cls := "LogPlacerModel", name := "push", desc := "(I)V" } : Jvm.MethodName)) ∈ ga_tb := ga_mem 704 (by decide +kernel) rfl
set_option maxRecDepth 20000 in
theorem tm_705 : (Jvm.Cond.code ({ cls := "LogPlacerModel", name := "push", desc := "(I)V" } : Jvm.MethodName) prog_9_method_32_code (3 : Nat) (Option.none : Option Jvm.ClassFile.FieldType)) ∈ ga_tb := ga_mem 705 (rfl) rfl
theorem tm_706 : (Jvm.Cond.methodLink "LogPlacerLaw" (90 : Nat) ({ cls := "LogPlacerModel", name := "read", desc := "(IZ)I" } : Jvm.MethodName)) ∈ ga_tb := ga_mem 706 (by decide +kernel) rfl
theorem tm_707 : (Jvm.Cond.instanceMethod ({ cls := "LogPlacerModel", name := "read", desc := "(IZ)I" } : Jvm.MethodName)) ∈ ga_tb := ga_mem 707 (by decide +kernel) rfl
theorem tm_708 : (Jvm.Cond.selects "LogPlacerModel" ({ cls := "LogPlacerModel", name := "read", desc := "(IZ)I" } : Jvm.MethodName) ({ cls := "LogPlacerModel", name := "read", desc := "(IZ)I" } : Jvm.MethodName)) ∈ ga_tb := ga_mem 708 (by decide +kernel) rfl
set_option maxRecDepth 20000 in
theorem tm_709 : (Jvm.Cond.code ({ cls := "LogPlacerModel", name := "read", desc := "(IZ)I" } : Jvm.MethodName) prog_9_method_35_code (5 : Nat) (Option.some Jvm.ClassFile.FieldType.int)) ∈ ga_tb := ga_mem 709 (rfl) rfl
theorem tm_710 : (Jvm.Cond.constantLong "LogPlacerModel" (148 : Nat) (16 : Int64)) ∈ ga_tb := ga_mem 710 (by decide +kernel) rfl
theorem tm_711 : (Jvm.Cond.methodLink "LogPlacerModel" (150 : Nat) ({ cls := "LogPlacerModel", name := "allows", desc := "(I)Z" } : Jvm.MethodName)) ∈ ga_tb := ga_mem 711 (by decide +kernel) rfl
theorem tm_713 : (Jvm.Cond.instanceMethod ({ cls := "LogPlacerModel", name := "allows", desc := "(I)Z" } : Jvm.MethodName)) ∈ ga_tb := ga_mem 713 (by decide +kernel) rfl
set_option maxRecDepth 20000 in
theorem tm_714 : (Jvm.Cond.code ({ cls := "LogPlacerModel", name := "allows", desc := "(I)Z" } : Jvm.MethodName) prog_9_method_34_code (3 : Nat) (Option.some Jvm.ClassFile.FieldType.boolean)) ∈ ga_tb := ga_mem 714 (rfl) rfl
theorem tm_715 : (Jvm.Cond.methodLink "LogPlacerLaw" (94 : Nat) ({ cls := "LogPlacerModel", name := "allowed", desc := "(I)I" } : Jvm.MethodName)) ∈ ga_tb := ga_mem 715 (by decide +kernel) rfl
theorem tm_716 : (Jvm.Cond.instanceMethod ({ cls := "LogPlacerModel", name := "allowed", desc := "(I)I" } : Jvm.MethodName)) ∈ ga_tb := ga_mem 716 (by decide +kernel) rfl
theorem tm_717 : (Jvm.Cond.selects "LogPlacerModel" ({ cls := "LogPlacerModel", name := "allowed", desc := "(I)I" } : Jvm.MethodName) ({ cls := "LogPlacerModel", name := "allowed", desc := "(I)I" } : Jvm.MethodName)) ∈ ga_tb := ga_mem 717 (by decide +kernel) rfl
set_option maxRecDepth 20000 in
theorem tm_718 : (Jvm.Cond.code ({ cls := "LogPlacerModel", name := "allowed", desc := "(I)I" } : Jvm.MethodName) prog_9_method_36_code (4 : Nat) (Option.some Jvm.ClassFile.FieldType.int)) ∈ ga_tb := ga_mem 718 (rfl) rfl
theorem tm_719 : (Jvm.Cond.methodLink "LogPlacerLaw" (98 : Nat) ({ cls := "LogPlacerModel", name := "found", desc := "(I)I" } : Jvm.MethodName)) ∈ ga_tb := ga_mem 719 (by decide +kernel) rfl
theorem tm_720 : (Jvm.Cond.instanceMethod ({ cls := "LogPlacerModel", name := "found", desc := "(I)I" } : Jvm.MethodName)) ∈ ga_tb := ga_mem 720 (by decide +kernel) rfl
theorem tm_721 : (Jvm.Cond.selects "LogPlacerModel" ({ cls := "LogPlacerModel", name := "found", desc := "(I)I" } : Jvm.MethodName) ({ cls := "LogPlacerModel", name := "found", desc := "(I)I" } : Jvm.MethodName)) ∈ ga_tb := ga_mem 721 (by decide +kernel) rfl
set_option maxRecDepth 20000 in
theorem tm_722 : (Jvm.Cond.code ({ cls := "LogPlacerModel", name := "found", desc := "(I)I" } : Jvm.MethodName) prog_9_method_37_code (7 : Nat) (Option.some Jvm.ClassFile.FieldType.int)) ∈ ga_tb := ga_mem 722 (rfl) rfl
theorem tm_723 : (Jvm.Cond.constantLong "LogPlacerModel" (153 : Nat) (3 : Int64)) ∈ ga_tb := ga_mem 723 (by decide +kernel) rfl
theorem tm_724 : (Jvm.Cond.methodLink "LogPlacerLaw" (102 : Nat) ({ cls := "LogPlacerModel", name := "look", desc := "(II)I" } : Jvm.MethodName)) ∈ ga_tb := ga_mem 724 (by decide +kernel) rfl
theorem tm_725 : (Jvm.Cond.instanceMethod ({ cls := "LogPlacerModel", name := "look", desc := "(II)I" } : Jvm.MethodName)) ∈ ga_tb := ga_mem 725 (by decide +kernel) rfl
theorem tm_726 : (Jvm.Cond.selects "LogPlacerModel" ({ cls := "LogPlacerModel", name := "look", desc := "(II)I" } : Jvm.MethodName) ({ cls := "LogPlacerModel", name := "look", desc := "(II)I" } : Jvm.MethodName)) ∈ ga_tb := ga_mem 726 (by decide +kernel) rfl
set_option maxRecDepth 20000 in
theorem tm_727 : (Jvm.Cond.code ({ cls := "LogPlacerModel", name := "look", desc := "(II)I" } : Jvm.MethodName) prog_9_method_38_code (3 : Nat) (Option.some Jvm.ClassFile.FieldType.int)) ∈ ga_tb := ga_mem 727 (rfl) rfl
theorem tm_728 : (Jvm.Cond.methodLink "LogPlacerLaw" (106 : Nat) ({ cls := "LogPlacerModel", name := "count", desc := "(I)J" } : Jvm.MethodName)) ∈ ga_tb := ga_mem 728 (by decide +kernel) rfl
theorem tm_729 : (Jvm.Cond.instanceMethod ({ cls := "LogPlacerModel", name := "count", desc := "(I)J" } : Jvm.MethodName)) ∈ ga_tb := ga_mem 729 (by decide +kernel) rfl
theorem tm_730 : (Jvm.Cond.selects "LogPlacerModel" ({ cls := "LogPlacerModel", name := "count", desc := "(I)J" } : Jvm.MethodName) ({ cls := "LogPlacerModel", name := "count", desc := "(I)J" } : Jvm.MethodName)) ∈ ga_tb := ga_mem 730 (by decide +kernel) rfl
set_option maxRecDepth 20000 in
theorem tm_731 : (Jvm.Cond.code ({ cls := "LogPlacerModel", name := "count", desc := "(I)J" } : Jvm.MethodName) prog_9_method_39_code (2 : Nat) (Option.some Jvm.ClassFile.FieldType.long)) ∈ ga_tb := ga_mem 731 (rfl) rfl
def ga_nw : List Cond := [(Jvm.Cond.methodLinkNest "LogPlacer" (11 : Nat) ({ cls := "LogPlacer$Program", name := "<init>", desc := "()V" } : Jvm.MethodName) "LogPlacer"), (Jvm.Cond.methodLinkNest "LogPlacer" (18 : Nat) ({ cls := "LogPlacer$Routes", name := "<init>", desc := "()V" } : Jvm.MethodName) "LogPlacer"), (Jvm.Cond.methodLinkNest "LogPlacer" (25 : Nat) ({ cls := "LogPlacer$Partings", name := "<init>", desc := "()V" } : Jvm.MethodName) "LogPlacer"), (Jvm.Cond.methodLinkNest "LogPlacer" (44 : Nat) ({ cls := "LogPlacer$Tape", name := "<init>", desc := "()V" } : Jvm.MethodName) "LogPlacer"), (Jvm.Cond.methodLinkNest "LogPlacer" (51 : Nat) ({ cls := "LogPlacer$Reading", name := "<init>", desc := "()V" } : Jvm.MethodName) "LogPlacer"), (Jvm.Cond.methodLinkNest "LogPlacer$Program" (47 : Nat) ({ cls := "LogPlacer", name := "member", desc := "(II)I" } : Jvm.MethodName) "LogPlacer"), (Jvm.Cond.methodLinkNest "LogPlacer$Program" (43 : Nat) ({ cls := "LogPlacer", name := "has", desc := "(II)Z" } : Jvm.MethodName) "LogPlacer"), (Jvm.Cond.methodLinkNest "LogPlacer$Search" (57 : Nat) ({ cls := "LogPlacer", name := "has", desc := "(II)Z" } : Jvm.MethodName) "LogPlacer")]
theorem tn_0 : (Jvm.Cond.methodLinkNest "LogPlacer" (11 : Nat) ({ cls := "LogPlacer$Program", name := "<init>", desc := "()V" } : Jvm.MethodName) "LogPlacer") ∈ lw_tbl := List.mem_of_getElem? (i := 44) (by decide +kernel)
theorem tn_1 : (Jvm.Cond.methodLinkNest "LogPlacer" (18 : Nat) ({ cls := "LogPlacer$Routes", name := "<init>", desc := "()V" } : Jvm.MethodName) "LogPlacer") ∈ lw_tbl := List.mem_of_getElem? (i := 91) (by decide +kernel)
theorem tn_2 : (Jvm.Cond.methodLinkNest "LogPlacer" (25 : Nat) ({ cls := "LogPlacer$Partings", name := "<init>", desc := "()V" } : Jvm.MethodName) "LogPlacer") ∈ lw_tbl := List.mem_of_getElem? (i := 123) (by decide +kernel)
theorem tn_3 : (Jvm.Cond.methodLinkNest "LogPlacer" (44 : Nat) ({ cls := "LogPlacer$Tape", name := "<init>", desc := "()V" } : Jvm.MethodName) "LogPlacer") ∈ lw_tbl := List.mem_of_getElem? (i := 158) (by decide +kernel)
theorem tn_4 : (Jvm.Cond.methodLinkNest "LogPlacer" (51 : Nat) ({ cls := "LogPlacer$Reading", name := "<init>", desc := "()V" } : Jvm.MethodName) "LogPlacer") ∈ lw_tbl := List.mem_of_getElem? (i := 173) (by decide +kernel)
theorem tn_5 : (Jvm.Cond.methodLinkNest "LogPlacer$Program" (47 : Nat) ({ cls := "LogPlacer", name := "member", desc := "(II)I" } : Jvm.MethodName) "LogPlacer") ∈ lw_tbl := List.mem_of_getElem? (i := 303) (by decide +kernel)
theorem tn_6 : (Jvm.Cond.methodLinkNest "LogPlacer$Program" (43 : Nat) ({ cls := "LogPlacer", name := "has", desc := "(II)Z" } : Jvm.MethodName) "LogPlacer") ∈ lw_tbl := List.mem_of_getElem? (i := 390) (by decide +kernel)
theorem tn_7 : (Jvm.Cond.methodLinkNest "LogPlacer$Search" (57 : Nat) ({ cls := "LogPlacer", name := "has", desc := "(II)Z" } : Jvm.MethodName) "LogPlacer") ∈ lw_tbl := List.mem_of_getElem? (i := 408) (by decide +kernel)
theorem ga_nwt : ∀ w ∈ ga_nw, w ∈ lw_tbl := List.forall_mem_cons.mpr ⟨tn_0, List.forall_mem_cons.mpr ⟨tn_1, List.forall_mem_cons.mpr ⟨tn_2, List.forall_mem_cons.mpr ⟨tn_3, List.forall_mem_cons.mpr ⟨tn_4, List.forall_mem_cons.mpr ⟨tn_5, List.forall_mem_cons.mpr ⟨tn_6, List.forall_mem_cons.mpr ⟨tn_7, fun _ h => absurd h List.not_mem_nil⟩⟩⟩⟩⟩⟩⟩⟩
set_option maxRecDepth 20000 in
theorem iX0 : ∀ w ∈ u_ws RX0 TX0 3, w ∈ ga_tb := by decide +kernel
set_option maxRecDepth 20000 in
theorem iX1 : ∀ w ∈ u_ws RX1 TX1 8, w ∈ ga_tb := by decide +kernel
set_option maxRecDepth 20000 in
theorem iX2 : ∀ w ∈ u_ws RX2 TX2 6, w ∈ ga_tb := by decide +kernel
set_option maxRecDepth 20000 in
theorem iX3 : ∀ w ∈ u_ws RX3 TX3 5, w ∈ ga_tb := by decide +kernel
set_option maxRecDepth 20000 in
theorem iX4 : ∀ w ∈ u_ws RX4 TX4 3, w ∈ ga_tb := by decide +kernel
set_option maxRecDepth 20000 in
theorem iX5 : ∀ w ∈ u_ws RX5 TX5 2, w ∈ ga_tb := by decide +kernel
set_option maxRecDepth 20000 in
theorem iX6 : ∀ w ∈ u_ws RX6 TX6 7, w ∈ ga_tb := by decide +kernel
set_option maxRecDepth 20000 in
theorem iX7 : ∀ w ∈ u_ws RX7 TX7 23, w ∈ ga_tb := by decide +kernel
end
section
theorem dX0_init_0 : decode cX0_init 0 = .ok (.aload_n 0, 1) := by decide +kernel
theorem dX0_init_1 : decode cX0_init 1 = .ok (.invokespecial 3, 3) := by decide +kernel
theorem dX0_init_4 : decode cX0_init 4 = .ok (.aload_n 0, 1) := by decide +kernel
theorem dX0_init_5 : decode cX0_init 5 = .ok (.bipush 32, 2) := by decide +kernel
theorem dX0_init_7 : decode cX0_init 7 = .ok (.newarray .int, 2) := by decide +kernel
theorem dX0_init_9 : decode cX0_init 9 = .ok (.putfield 9, 3) := by decide +kernel
theorem dX0_init_12 : decode cX0_init 12 = .ok (.aload_n 0, 1) := by decide +kernel
theorem dX0_init_13 : decode cX0_init 13 = .ok (.iconst 1, 1) := by decide +kernel
theorem dX0_init_14 : decode cX0_init 14 = .ok (.putfield 15, 3) := by decide +kernel
theorem dX0_init_17 : decode cX0_init 17 = .ok (.return_, 1) := by decide +kernel
theorem dX0_gather_0 : decode cX0_gather 0 = .ok (.aload_n 0, 1) := by decide +kernel
theorem dX0_gather_1 : decode cX0_gather 1 = .ok (.iconst 0, 1) := by decide +kernel
theorem dX0_gather_2 : decode cX0_gather 2 = .ok (.putfield 19, 3) := by decide +kernel
theorem dX0_gather_5 : decode cX0_gather 5 = .ok (.aload_n 0, 1) := by decide +kernel
theorem dX0_gather_6 : decode cX0_gather 6 = .ok (.iconst 0, 1) := by decide +kernel
theorem dX0_gather_7 : decode cX0_gather 7 = .ok (.putfield 15, 3) := by decide +kernel
theorem dX0_gather_10 : decode cX0_gather 10 = .ok (.iconst 0, 1) := by decide +kernel
theorem dX0_gather_11 : decode cX0_gather 11 = .ok (.istore 4, 2) := by decide +kernel
theorem dX0_gather_13 : decode cX0_gather 13 = .ok (.iload 4, 2) := by decide +kernel
theorem dX0_gather_15 : decode cX0_gather 15 = .ok (.aload_n 1, 1) := by decide +kernel
theorem dX0_gather_16 : decode cX0_gather 16 = .ok (.getfield 23, 3) := by decide +kernel
theorem dX0_gather_19 : decode cX0_gather 19 = .ok (.if_icmp .ge 85, 3) := by decide +kernel
theorem dX0_gather_22 : decode cX0_gather 22 = .ok (.iload 4, 2) := by decide +kernel
theorem dX0_gather_24 : decode cX0_gather 24 = .ok (.iconst 1, 1) := by decide +kernel
theorem dX0_gather_25 : decode cX0_gather 25 = .ok (.iadd, 1) := by decide +kernel
theorem dX0_gather_26 : decode cX0_gather 26 = .ok (.istore 5, 2) := by decide +kernel
theorem dX0_gather_28 : decode cX0_gather 28 = .ok (.iload 5, 2) := by decide +kernel
theorem dX0_gather_30 : decode cX0_gather 30 = .ok (.aload_n 1, 1) := by decide +kernel
theorem dX0_gather_31 : decode cX0_gather 31 = .ok (.getfield 23, 3) := by decide +kernel
theorem dX0_gather_34 : decode cX0_gather 34 = .ok (.if_icmp .ge 64, 3) := by decide +kernel
theorem dX0_gather_37 : decode cX0_gather 37 = .ok (.aload_n 1, 1) := by decide +kernel
theorem dX0_gather_38 : decode cX0_gather 38 = .ok (.getfield 26, 3) := by decide +kernel
theorem dX0_gather_41 : decode cX0_gather 41 = .ok (.iload 4, 2) := by decide +kernel
theorem dX0_gather_43 : decode cX0_gather 43 = .ok (.iaload, 1) := by decide +kernel
theorem dX0_gather_44 : decode cX0_gather 44 = .ok (.aload_n 1, 1) := by decide +kernel
theorem dX0_gather_45 : decode cX0_gather 45 = .ok (.getfield 26, 3) := by decide +kernel
theorem dX0_gather_48 : decode cX0_gather 48 = .ok (.iload 5, 2) := by decide +kernel
theorem dX0_gather_50 : decode cX0_gather 50 = .ok (.iaload, 1) := by decide +kernel
theorem dX0_gather_51 : decode cX0_gather 51 = .ok (.ixor, 1) := by decide +kernel
theorem dX0_gather_52 : decode cX0_gather 52 = .ok (.iload_n 3, 1) := by decide +kernel
theorem dX0_gather_53 : decode cX0_gather 53 = .ok (.iand, 1) := by decide +kernel
theorem dX0_gather_54 : decode cX0_gather 54 = .ok (.ifCond .eq 7, 3) := by decide +kernel
theorem dX0_gather_57 : decode cX0_gather 57 = .ok (.iconst 1, 1) := by decide +kernel
theorem dX0_gather_58 : decode cX0_gather 58 = .ok (.goto 4, 3) := by decide +kernel
theorem dX0_gather_61 : decode cX0_gather 61 = .ok (.iconst 0, 1) := by decide +kernel
theorem dX0_gather_62 : decode cX0_gather 62 = .ok (.istore 6, 2) := by decide +kernel
theorem dX0_gather_64 : decode cX0_gather 64 = .ok (.iload_n 2, 1) := by decide +kernel
theorem dX0_gather_65 : decode cX0_gather 65 = .ok (.ifCond .ne 8, 3) := by decide +kernel
theorem dX0_gather_68 : decode cX0_gather 68 = .ok (.iload 6, 2) := by decide +kernel
theorem dX0_gather_70 : decode cX0_gather 70 = .ok (.ifCond .eq 22, 3) := by decide +kernel
theorem dX0_gather_73 : decode cX0_gather 73 = .ok (.aload_n 0, 1) := by decide +kernel
theorem dX0_gather_74 : decode cX0_gather 74 = .ok (.aload_n 1, 1) := by decide +kernel
theorem dX0_gather_75 : decode cX0_gather 75 = .ok (.getfield 29, 3) := by decide +kernel
theorem dX0_gather_78 : decode cX0_gather 78 = .ok (.iload 4, 2) := by decide +kernel
theorem dX0_gather_80 : decode cX0_gather 80 = .ok (.iaload, 1) := by decide +kernel
theorem dX0_gather_81 : decode cX0_gather 81 = .ok (.aload_n 1, 1) := by decide +kernel
theorem dX0_gather_82 : decode cX0_gather 82 = .ok (.getfield 29, 3) := by decide +kernel
theorem dX0_gather_85 : decode cX0_gather 85 = .ok (.iload 5, 2) := by decide +kernel
theorem dX0_gather_87 : decode cX0_gather 87 = .ok (.iaload, 1) := by decide +kernel
theorem dX0_gather_88 : decode cX0_gather 88 = .ok (.ixor, 1) := by decide +kernel
theorem dX0_gather_89 : decode cX0_gather 89 = .ok (.invokevirtual 32, 3) := by decide +kernel
theorem dX0_gather_92 : decode cX0_gather 92 = .ok (.iinc 5 1, 3) := by decide +kernel
theorem dX0_gather_95 : decode cX0_gather 95 = .ok (.goto (-67), 3) := by decide +kernel
theorem dX0_gather_98 : decode cX0_gather 98 = .ok (.iinc 4 1, 3) := by decide +kernel
theorem dX0_gather_101 : decode cX0_gather 101 = .ok (.goto (-88), 3) := by decide +kernel
theorem dX0_gather_104 : decode cX0_gather 104 = .ok (.return_, 1) := by decide +kernel
theorem dX0_add_0 : decode cX0_add 0 = .ok (.iconst 0, 1) := by decide +kernel
theorem dX0_add_1 : decode cX0_add 1 = .ok (.istore_n 2, 1) := by decide +kernel
theorem dX0_add_2 : decode cX0_add 2 = .ok (.iload_n 2, 1) := by decide +kernel
theorem dX0_add_3 : decode cX0_add 3 = .ok (.aload_n 0, 1) := by decide +kernel
theorem dX0_add_4 : decode cX0_add 4 = .ok (.getfield 19, 3) := by decide +kernel
theorem dX0_add_7 : decode cX0_add 7 = .ok (.if_icmp .ge 23, 3) := by decide +kernel
theorem dX0_add_10 : decode cX0_add 10 = .ok (.aload_n 0, 1) := by decide +kernel
theorem dX0_add_11 : decode cX0_add 11 = .ok (.getfield 9, 3) := by decide +kernel
theorem dX0_add_14 : decode cX0_add 14 = .ok (.iload_n 2, 1) := by decide +kernel
theorem dX0_add_15 : decode cX0_add 15 = .ok (.iaload, 1) := by decide +kernel
theorem dX0_add_16 : decode cX0_add 16 = .ok (.iload_n 1, 1) := by decide +kernel
theorem dX0_add_17 : decode cX0_add 17 = .ok (.iconst (-1), 1) := by decide +kernel
theorem dX0_add_18 : decode cX0_add 18 = .ok (.ixor, 1) := by decide +kernel
theorem dX0_add_19 : decode cX0_add 19 = .ok (.iand, 1) := by decide +kernel
theorem dX0_add_20 : decode cX0_add 20 = .ok (.ifCond .ne 4, 3) := by decide +kernel
theorem dX0_add_23 : decode cX0_add 23 = .ok (.return_, 1) := by decide +kernel
theorem dX0_add_24 : decode cX0_add 24 = .ok (.iinc 2 1, 3) := by decide +kernel
theorem dX0_add_27 : decode cX0_add 27 = .ok (.goto (-25), 3) := by decide +kernel
theorem dX0_add_30 : decode cX0_add 30 = .ok (.aload_n 0, 1) := by decide +kernel
theorem dX0_add_31 : decode cX0_add 31 = .ok (.iload_n 1, 1) := by decide +kernel
theorem dX0_add_32 : decode cX0_add 32 = .ok (.invokevirtual 36, 3) := by decide +kernel
theorem dX0_add_35 : decode cX0_add 35 = .ok (.aload_n 0, 1) := by decide +kernel
theorem dX0_add_36 : decode cX0_add 36 = .ok (.getfield 19, 3) := by decide +kernel
theorem dX0_add_39 : decode cX0_add 39 = .ok (.aload_n 0, 1) := by decide +kernel
theorem dX0_add_40 : decode cX0_add 40 = .ok (.getfield 9, 3) := by decide +kernel
theorem dX0_add_43 : decode cX0_add 43 = .ok (.arraylength, 1) := by decide +kernel
theorem dX0_add_44 : decode cX0_add 44 = .ok (.if_icmp .lt 21, 3) := by decide +kernel
theorem dX0_add_47 : decode cX0_add 47 = .ok (.aload_n 0, 1) := by decide +kernel
theorem dX0_add_48 : decode cX0_add 48 = .ok (.aload_n 0, 1) := by decide +kernel
theorem dX0_add_49 : decode cX0_add 49 = .ok (.getfield 9, 3) := by decide +kernel
theorem dX0_add_52 : decode cX0_add 52 = .ok (.iconst 2, 1) := by decide +kernel
theorem dX0_add_53 : decode cX0_add 53 = .ok (.aload_n 0, 1) := by decide +kernel
theorem dX0_add_54 : decode cX0_add 54 = .ok (.getfield 9, 3) := by decide +kernel
theorem dX0_add_57 : decode cX0_add 57 = .ok (.arraylength, 1) := by decide +kernel
theorem dX0_add_58 : decode cX0_add 58 = .ok (.imul, 1) := by decide +kernel
theorem dX0_add_59 : decode cX0_add 59 = .ok (.invokestatic 39, 3) := by decide +kernel
theorem dX0_add_62 : decode cX0_add 62 = .ok (.putfield 9, 3) := by decide +kernel
theorem dX0_add_65 : decode cX0_add 65 = .ok (.aload_n 0, 1) := by decide +kernel
theorem dX0_add_66 : decode cX0_add 66 = .ok (.getfield 9, 3) := by decide +kernel
theorem dX0_add_69 : decode cX0_add 69 = .ok (.aload_n 0, 1) := by decide +kernel
theorem dX0_add_70 : decode cX0_add 70 = .ok (.getfield 19, 3) := by decide +kernel
theorem dX0_add_73 : decode cX0_add 73 = .ok (.iload_n 1, 1) := by decide +kernel
theorem dX0_add_74 : decode cX0_add 74 = .ok (.iastore, 1) := by decide +kernel
theorem dX0_add_75 : decode cX0_add 75 = .ok (.aload_n 0, 1) := by decide +kernel
theorem dX0_add_76 : decode cX0_add 76 = .ok (.dup, 1) := by decide +kernel
theorem dX0_add_77 : decode cX0_add 77 = .ok (.getfield 19, 3) := by decide +kernel
theorem dX0_add_80 : decode cX0_add 80 = .ok (.iconst 1, 1) := by decide +kernel
theorem dX0_add_81 : decode cX0_add 81 = .ok (.iadd, 1) := by decide +kernel
theorem dX0_add_82 : decode cX0_add 82 = .ok (.putfield 19, 3) := by decide +kernel
theorem dX0_add_85 : decode cX0_add 85 = .ok (.return_, 1) := by decide +kernel
theorem dX0_dropThoseWith_0 : decode cX0_dropThoseWith 0 = .ok (.iconst 0, 1) := by decide +kernel
theorem dX0_dropThoseWith_1 : decode cX0_dropThoseWith 1 = .ok (.istore_n 2, 1) := by decide +kernel
theorem dX0_dropThoseWith_2 : decode cX0_dropThoseWith 2 = .ok (.iconst 0, 1) := by decide +kernel
theorem dX0_dropThoseWith_3 : decode cX0_dropThoseWith 3 = .ok (.istore_n 3, 1) := by decide +kernel
theorem dX0_dropThoseWith_4 : decode cX0_dropThoseWith 4 = .ok (.iload_n 3, 1) := by decide +kernel
theorem dX0_dropThoseWith_5 : decode cX0_dropThoseWith 5 = .ok (.aload_n 0, 1) := by decide +kernel
theorem dX0_dropThoseWith_6 : decode cX0_dropThoseWith 6 = .ok (.getfield 19, 3) := by decide +kernel
theorem dX0_dropThoseWith_9 : decode cX0_dropThoseWith 9 = .ok (.if_icmp .ge 37, 3) := by decide +kernel
theorem dX0_dropThoseWith_12 : decode cX0_dropThoseWith 12 = .ok (.iload_n 1, 1) := by decide +kernel
theorem dX0_dropThoseWith_13 : decode cX0_dropThoseWith 13 = .ok (.aload_n 0, 1) := by decide +kernel
theorem dX0_dropThoseWith_14 : decode cX0_dropThoseWith 14 = .ok (.getfield 9, 3) := by decide +kernel
theorem dX0_dropThoseWith_17 : decode cX0_dropThoseWith 17 = .ok (.iload_n 3, 1) := by decide +kernel
theorem dX0_dropThoseWith_18 : decode cX0_dropThoseWith 18 = .ok (.iaload, 1) := by decide +kernel
theorem dX0_dropThoseWith_19 : decode cX0_dropThoseWith 19 = .ok (.iconst (-1), 1) := by decide +kernel
theorem dX0_dropThoseWith_20 : decode cX0_dropThoseWith 20 = .ok (.ixor, 1) := by decide +kernel
theorem dX0_dropThoseWith_21 : decode cX0_dropThoseWith 21 = .ok (.iand, 1) := by decide +kernel
theorem dX0_dropThoseWith_22 : decode cX0_dropThoseWith 22 = .ok (.ifCond .eq 18, 3) := by decide +kernel
theorem dX0_dropThoseWith_25 : decode cX0_dropThoseWith 25 = .ok (.aload_n 0, 1) := by decide +kernel
theorem dX0_dropThoseWith_26 : decode cX0_dropThoseWith 26 = .ok (.getfield 9, 3) := by decide +kernel
theorem dX0_dropThoseWith_29 : decode cX0_dropThoseWith 29 = .ok (.iload_n 2, 1) := by decide +kernel
theorem dX0_dropThoseWith_30 : decode cX0_dropThoseWith 30 = .ok (.aload_n 0, 1) := by decide +kernel
theorem dX0_dropThoseWith_31 : decode cX0_dropThoseWith 31 = .ok (.getfield 9, 3) := by decide +kernel
theorem dX0_dropThoseWith_34 : decode cX0_dropThoseWith 34 = .ok (.iload_n 3, 1) := by decide +kernel
theorem dX0_dropThoseWith_35 : decode cX0_dropThoseWith 35 = .ok (.iaload, 1) := by decide +kernel
theorem dX0_dropThoseWith_36 : decode cX0_dropThoseWith 36 = .ok (.iastore, 1) := by decide +kernel
theorem dX0_dropThoseWith_37 : decode cX0_dropThoseWith 37 = .ok (.iinc 2 1, 3) := by decide +kernel
theorem dX0_dropThoseWith_40 : decode cX0_dropThoseWith 40 = .ok (.iinc 3 1, 3) := by decide +kernel
theorem dX0_dropThoseWith_43 : decode cX0_dropThoseWith 43 = .ok (.goto (-39), 3) := by decide +kernel
theorem dX0_dropThoseWith_46 : decode cX0_dropThoseWith 46 = .ok (.aload_n 0, 1) := by decide +kernel
theorem dX0_dropThoseWith_47 : decode cX0_dropThoseWith 47 = .ok (.iload_n 2, 1) := by decide +kernel
theorem dX0_dropThoseWith_48 : decode cX0_dropThoseWith 48 = .ok (.putfield 19, 3) := by decide +kernel
theorem dX0_dropThoseWith_51 : decode cX0_dropThoseWith 51 = .ok (.return_, 1) := by decide +kernel
theorem dX0_allMetBy_0 : decode cX0_allMetBy 0 = .ok (.aload_n 0, 1) := by decide +kernel
theorem dX0_allMetBy_1 : decode cX0_allMetBy 1 = .ok (.iload_n 1, 1) := by decide +kernel
theorem dX0_allMetBy_2 : decode cX0_allMetBy 2 = .ok (.iconst 0, 1) := by decide +kernel
theorem dX0_allMetBy_3 : decode cX0_allMetBy 3 = .ok (.invokevirtual 45, 3) := by decide +kernel
theorem dX0_allMetBy_6 : decode cX0_allMetBy 6 = .ok (.aload_n 0, 1) := by decide +kernel
theorem dX0_allMetBy_7 : decode cX0_allMetBy 7 = .ok (.getfield 19, 3) := by decide +kernel
theorem dX0_allMetBy_10 : decode cX0_allMetBy 10 = .ok (.if_icmp .ne 7, 3) := by decide +kernel
theorem dX0_allMetBy_13 : decode cX0_allMetBy 13 = .ok (.iconst 1, 1) := by decide +kernel
theorem dX0_allMetBy_14 : decode cX0_allMetBy 14 = .ok (.goto 4, 3) := by decide +kernel
theorem dX0_allMetBy_17 : decode cX0_allMetBy 17 = .ok (.iconst 0, 1) := by decide +kernel
theorem dX0_allMetBy_18 : decode cX0_allMetBy 18 = .ok (.ireturn, 1) := by decide +kernel
theorem dX0_firstNotMetBy_0 : decode cX0_firstNotMetBy 0 = .ok (.iload_n 2, 1) := by decide +kernel
theorem dX0_firstNotMetBy_1 : decode cX0_firstNotMetBy 1 = .ok (.istore_n 3, 1) := by decide +kernel
theorem dX0_firstNotMetBy_2 : decode cX0_firstNotMetBy 2 = .ok (.iload_n 3, 1) := by decide +kernel
theorem dX0_firstNotMetBy_3 : decode cX0_firstNotMetBy 3 = .ok (.aload_n 0, 1) := by decide +kernel
theorem dX0_firstNotMetBy_4 : decode cX0_firstNotMetBy 4 = .ok (.getfield 19, 3) := by decide +kernel
theorem dX0_firstNotMetBy_7 : decode cX0_firstNotMetBy 7 = .ok (.if_icmp .ge 22, 3) := by decide +kernel
theorem dX0_firstNotMetBy_10 : decode cX0_firstNotMetBy 10 = .ok (.aload_n 0, 1) := by decide +kernel
theorem dX0_firstNotMetBy_11 : decode cX0_firstNotMetBy 11 = .ok (.getfield 9, 3) := by decide +kernel
theorem dX0_firstNotMetBy_14 : decode cX0_firstNotMetBy 14 = .ok (.iload_n 3, 1) := by decide +kernel
theorem dX0_firstNotMetBy_15 : decode cX0_firstNotMetBy 15 = .ok (.iaload, 1) := by decide +kernel
theorem dX0_firstNotMetBy_16 : decode cX0_firstNotMetBy 16 = .ok (.iload_n 1, 1) := by decide +kernel
theorem dX0_firstNotMetBy_17 : decode cX0_firstNotMetBy 17 = .ok (.iand, 1) := by decide +kernel
theorem dX0_firstNotMetBy_18 : decode cX0_firstNotMetBy 18 = .ok (.ifCond .ne 5, 3) := by decide +kernel
theorem dX0_firstNotMetBy_21 : decode cX0_firstNotMetBy 21 = .ok (.iload_n 3, 1) := by decide +kernel
theorem dX0_firstNotMetBy_22 : decode cX0_firstNotMetBy 22 = .ok (.ireturn, 1) := by decide +kernel
theorem dX0_firstNotMetBy_23 : decode cX0_firstNotMetBy 23 = .ok (.iinc 3 1, 3) := by decide +kernel
theorem dX0_firstNotMetBy_26 : decode cX0_firstNotMetBy 26 = .ok (.goto (-24), 3) := by decide +kernel
theorem dX0_firstNotMetBy_29 : decode cX0_firstNotMetBy 29 = .ok (.aload_n 0, 1) := by decide +kernel
theorem dX0_firstNotMetBy_30 : decode cX0_firstNotMetBy 30 = .ok (.getfield 19, 3) := by decide +kernel
theorem dX0_firstNotMetBy_33 : decode cX0_firstNotMetBy 33 = .ok (.ireturn, 1) := by decide +kernel
theorem dX1_init_0 : decode cX1_init 0 = .ok (.aload_n 0, 1) := by decide +kernel
theorem dX1_init_1 : decode cX1_init 1 = .ok (.invokespecial 3, 3) := by decide +kernel
theorem dX1_init_4 : decode cX1_init 4 = .ok (.aload_n 0, 1) := by decide +kernel
theorem dX1_init_5 : decode cX1_init 5 = .ok (.bipush 16, 2) := by decide +kernel
theorem dX1_init_7 : decode cX1_init 7 = .ok (.newarray .int, 2) := by decide +kernel
theorem dX1_init_9 : decode cX1_init 9 = .ok (.putfield 9, 3) := by decide +kernel
theorem dX1_init_12 : decode cX1_init 12 = .ok (.aload_n 0, 1) := by decide +kernel
theorem dX1_init_13 : decode cX1_init 13 = .ok (.bipush 16, 2) := by decide +kernel
theorem dX1_init_15 : decode cX1_init 15 = .ok (.newarray .int, 2) := by decide +kernel
theorem dX1_init_17 : decode cX1_init 17 = .ok (.putfield 15, 3) := by decide +kernel
theorem dX1_init_20 : decode cX1_init 20 = .ok (.aload_n 0, 1) := by decide +kernel
theorem dX1_init_21 : decode cX1_init 21 = .ok (.bipush 16, 2) := by decide +kernel
theorem dX1_init_23 : decode cX1_init 23 = .ok (.newarray .int, 2) := by decide +kernel
theorem dX1_init_25 : decode cX1_init 25 = .ok (.putfield 18, 3) := by decide +kernel
theorem dX1_init_28 : decode cX1_init 28 = .ok (.aload_n 0, 1) := by decide +kernel
theorem dX1_init_29 : decode cX1_init 29 = .ok (.bipush 12, 2) := by decide +kernel
theorem dX1_init_31 : decode cX1_init 31 = .ok (.newarray .int, 2) := by decide +kernel
theorem dX1_init_33 : decode cX1_init 33 = .ok (.putfield 21, 3) := by decide +kernel
theorem dX1_init_36 : decode cX1_init 36 = .ok (.aload_n 0, 1) := by decide +kernel
theorem dX1_init_37 : decode cX1_init 37 = .ok (.iconst 2, 1) := by decide +kernel
theorem dX1_init_38 : decode cX1_init 38 = .ok (.putfield 24, 3) := by decide +kernel
theorem dX1_init_41 : decode cX1_init 41 = .ok (.return_, 1) := by decide +kernel
theorem dX1_restart_0 : decode cX1_restart 0 = .ok (.aload_n 0, 1) := by decide +kernel
theorem dX1_restart_1 : decode cX1_restart 1 = .ok (.iload_n 1, 1) := by decide +kernel
theorem dX1_restart_2 : decode cX1_restart 2 = .ok (.putfield 24, 3) := by decide +kernel
theorem dX1_restart_5 : decode cX1_restart 5 = .ok (.aload_n 0, 1) := by decide +kernel
theorem dX1_restart_6 : decode cX1_restart 6 = .ok (.iconst 0, 1) := by decide +kernel
theorem dX1_restart_7 : decode cX1_restart 7 = .ok (.putfield 28, 3) := by decide +kernel
theorem dX1_restart_10 : decode cX1_restart 10 = .ok (.aload_n 0, 1) := by decide +kernel
theorem dX1_restart_11 : decode cX1_restart 11 = .ok (.iconst 0, 1) := by decide +kernel
theorem dX1_restart_12 : decode cX1_restart 12 = .ok (.putfield 31, 3) := by decide +kernel
theorem dX1_restart_15 : decode cX1_restart 15 = .ok (.aload_n 0, 1) := by decide +kernel
theorem dX1_restart_16 : decode cX1_restart 16 = .ok (.iconst 0, 1) := by decide +kernel
theorem dX1_restart_17 : decode cX1_restart 17 = .ok (.putfield 34, 3) := by decide +kernel
theorem dX1_restart_20 : decode cX1_restart 20 = .ok (.aload_n 0, 1) := by decide +kernel
theorem dX1_restart_21 : decode cX1_restart 21 = .ok (.getfield 21, 3) := by decide +kernel
theorem dX1_restart_24 : decode cX1_restart 24 = .ok (.iconst 0, 1) := by decide +kernel
theorem dX1_restart_25 : decode cX1_restart 25 = .ok (.invokestatic 37, 3) := by decide +kernel
theorem dX1_restart_28 : decode cX1_restart 28 = .ok (.return_, 1) := by decide +kernel
theorem dX1_hasNode_0 : decode cX1_hasNode 0 = .ok (.iload_n 1, 1) := by decide +kernel
theorem dX1_hasNode_1 : decode cX1_hasNode 1 = .ok (.ifCond .lt 15, 3) := by decide +kernel
theorem dX1_hasNode_4 : decode cX1_hasNode 4 = .ok (.iload_n 1, 1) := by decide +kernel
theorem dX1_hasNode_5 : decode cX1_hasNode 5 = .ok (.aload_n 0, 1) := by decide +kernel
theorem dX1_hasNode_6 : decode cX1_hasNode 6 = .ok (.getfield 24, 3) := by decide +kernel
theorem dX1_hasNode_9 : decode cX1_hasNode 9 = .ok (.if_icmp .ge 7, 3) := by decide +kernel
theorem dX1_hasNode_12 : decode cX1_hasNode 12 = .ok (.iconst 1, 1) := by decide +kernel
theorem dX1_hasNode_13 : decode cX1_hasNode 13 = .ok (.goto 4, 3) := by decide +kernel
theorem dX1_hasNode_16 : decode cX1_hasNode 16 = .ok (.iconst 0, 1) := by decide +kernel
theorem dX1_hasNode_17 : decode cX1_hasNode 17 = .ok (.ireturn, 1) := by decide +kernel
theorem dX1_hasStep_0 : decode cX1_hasStep 0 = .ok (.iload_n 1, 1) := by decide +kernel
theorem dX1_hasStep_1 : decode cX1_hasStep 1 = .ok (.ifCond .lt 15, 3) := by decide +kernel
theorem dX1_hasStep_4 : decode cX1_hasStep 4 = .ok (.iload_n 1, 1) := by decide +kernel
theorem dX1_hasStep_5 : decode cX1_hasStep 5 = .ok (.aload_n 0, 1) := by decide +kernel
theorem dX1_hasStep_6 : decode cX1_hasStep 6 = .ok (.getfield 28, 3) := by decide +kernel
theorem dX1_hasStep_9 : decode cX1_hasStep 9 = .ok (.if_icmp .ge 7, 3) := by decide +kernel
theorem dX1_hasStep_12 : decode cX1_hasStep 12 = .ok (.iconst 1, 1) := by decide +kernel
theorem dX1_hasStep_13 : decode cX1_hasStep 13 = .ok (.goto 4, 3) := by decide +kernel
theorem dX1_hasStep_16 : decode cX1_hasStep 16 = .ok (.iconst 0, 1) := by decide +kernel
theorem dX1_hasStep_17 : decode cX1_hasStep 17 = .ok (.ireturn, 1) := by decide +kernel
theorem dX1_addStep_0 : decode cX1_addStep 0 = .ok (.aload_n 0, 1) := by decide +kernel
theorem dX1_addStep_1 : decode cX1_addStep 1 = .ok (.getfield 28, 3) := by decide +kernel
theorem dX1_addStep_4 : decode cX1_addStep 4 = .ok (.istore 4, 2) := by decide +kernel
theorem dX1_addStep_6 : decode cX1_addStep 6 = .ok (.aload_n 0, 1) := by decide +kernel
theorem dX1_addStep_7 : decode cX1_addStep 7 = .ok (.getfield 9, 3) := by decide +kernel
theorem dX1_addStep_10 : decode cX1_addStep 10 = .ok (.iload 4, 2) := by decide +kernel
theorem dX1_addStep_12 : decode cX1_addStep 12 = .ok (.iload_n 1, 1) := by decide +kernel
theorem dX1_addStep_13 : decode cX1_addStep 13 = .ok (.iastore, 1) := by decide +kernel
theorem dX1_addStep_14 : decode cX1_addStep 14 = .ok (.aload_n 0, 1) := by decide +kernel
theorem dX1_addStep_15 : decode cX1_addStep 15 = .ok (.getfield 15, 3) := by decide +kernel
theorem dX1_addStep_18 : decode cX1_addStep 18 = .ok (.iload 4, 2) := by decide +kernel
theorem dX1_addStep_20 : decode cX1_addStep 20 = .ok (.iload_n 2, 1) := by decide +kernel
theorem dX1_addStep_21 : decode cX1_addStep 21 = .ok (.iastore, 1) := by decide +kernel
theorem dX1_addStep_22 : decode cX1_addStep 22 = .ok (.aload_n 0, 1) := by decide +kernel
theorem dX1_addStep_23 : decode cX1_addStep 23 = .ok (.getfield 18, 3) := by decide +kernel
theorem dX1_addStep_26 : decode cX1_addStep 26 = .ok (.iload 4, 2) := by decide +kernel
theorem dX1_addStep_28 : decode cX1_addStep 28 = .ok (.iload_n 3, 1) := by decide +kernel
theorem dX1_addStep_29 : decode cX1_addStep 29 = .ok (.iastore, 1) := by decide +kernel
theorem dX1_addStep_30 : decode cX1_addStep 30 = .ok (.aload_n 0, 1) := by decide +kernel
theorem dX1_addStep_31 : decode cX1_addStep 31 = .ok (.getfield 21, 3) := by decide +kernel
theorem dX1_addStep_34 : decode cX1_addStep 34 = .ok (.iload_n 1, 1) := by decide +kernel
theorem dX1_addStep_35 : decode cX1_addStep 35 = .ok (.dup2, 1) := by decide +kernel
theorem dX1_addStep_36 : decode cX1_addStep 36 = .ok (.iaload, 1) := by decide +kernel
theorem dX1_addStep_37 : decode cX1_addStep 37 = .ok (.iconst 1, 1) := by decide +kernel
theorem dX1_addStep_38 : decode cX1_addStep 38 = .ok (.iload 4, 2) := by decide +kernel
theorem dX1_addStep_40 : decode cX1_addStep 40 = .ok (.ishl, 1) := by decide +kernel
theorem dX1_addStep_41 : decode cX1_addStep 41 = .ok (.ior, 1) := by decide +kernel
theorem dX1_addStep_42 : decode cX1_addStep 42 = .ok (.iastore, 1) := by decide +kernel
theorem dX1_addStep_43 : decode cX1_addStep 43 = .ok (.aload_n 0, 1) := by decide +kernel
theorem dX1_addStep_44 : decode cX1_addStep 44 = .ok (.dup, 1) := by decide +kernel
theorem dX1_addStep_45 : decode cX1_addStep 45 = .ok (.getfield 28, 3) := by decide +kernel
theorem dX1_addStep_48 : decode cX1_addStep 48 = .ok (.iconst 1, 1) := by decide +kernel
theorem dX1_addStep_49 : decode cX1_addStep 49 = .ok (.iadd, 1) := by decide +kernel
theorem dX1_addStep_50 : decode cX1_addStep 50 = .ok (.putfield 28, 3) := by decide +kernel
theorem dX1_addStep_53 : decode cX1_addStep 53 = .ok (.iload 4, 2) := by decide +kernel
theorem dX1_addStep_55 : decode cX1_addStep 55 = .ok (.ireturn, 1) := by decide +kernel
theorem dX1_allSteps_0 : decode cX1_allSteps 0 = .ok (.iconst 1, 1) := by decide +kernel
theorem dX1_allSteps_1 : decode cX1_allSteps 1 = .ok (.aload_n 0, 1) := by decide +kernel
theorem dX1_allSteps_2 : decode cX1_allSteps 2 = .ok (.getfield 28, 3) := by decide +kernel
theorem dX1_allSteps_5 : decode cX1_allSteps 5 = .ok (.ishl, 1) := by decide +kernel
theorem dX1_allSteps_6 : decode cX1_allSteps 6 = .ok (.iconst 1, 1) := by decide +kernel
theorem dX1_allSteps_7 : decode cX1_allSteps 7 = .ok (.isub, 1) := by decide +kernel
theorem dX1_allSteps_8 : decode cX1_allSteps 8 = .ok (.ireturn, 1) := by decide +kernel
theorem dX1_stepsFromBelow_0 : decode cX1_stepsFromBelow 0 = .ok (.iconst 0, 1) := by decide +kernel
theorem dX1_stepsFromBelow_1 : decode cX1_stepsFromBelow 1 = .ok (.istore_n 2, 1) := by decide +kernel
theorem dX1_stepsFromBelow_2 : decode cX1_stepsFromBelow 2 = .ok (.iconst 0, 1) := by decide +kernel
theorem dX1_stepsFromBelow_3 : decode cX1_stepsFromBelow 3 = .ok (.istore_n 3, 1) := by decide +kernel
theorem dX1_stepsFromBelow_4 : decode cX1_stepsFromBelow 4 = .ok (.iload_n 3, 1) := by decide +kernel
theorem dX1_stepsFromBelow_5 : decode cX1_stepsFromBelow 5 = .ok (.iload_n 1, 1) := by decide +kernel
theorem dX1_stepsFromBelow_6 : decode cX1_stepsFromBelow 6 = .ok (.if_icmp .ge 26, 3) := by decide +kernel
theorem dX1_stepsFromBelow_9 : decode cX1_stepsFromBelow 9 = .ok (.iload_n 3, 1) := by decide +kernel
theorem dX1_stepsFromBelow_10 : decode cX1_stepsFromBelow 10 = .ok (.aload_n 0, 1) := by decide +kernel
theorem dX1_stepsFromBelow_11 : decode cX1_stepsFromBelow 11 = .ok (.getfield 24, 3) := by decide +kernel
theorem dX1_stepsFromBelow_14 : decode cX1_stepsFromBelow 14 = .ok (.if_icmp .ge 18, 3) := by decide +kernel
theorem dX1_stepsFromBelow_17 : decode cX1_stepsFromBelow 17 = .ok (.iload_n 2, 1) := by decide +kernel
theorem dX1_stepsFromBelow_18 : decode cX1_stepsFromBelow 18 = .ok (.aload_n 0, 1) := by decide +kernel
theorem dX1_stepsFromBelow_19 : decode cX1_stepsFromBelow 19 = .ok (.getfield 21, 3) := by decide +kernel
theorem dX1_stepsFromBelow_22 : decode cX1_stepsFromBelow 22 = .ok (.iload_n 3, 1) := by decide +kernel
theorem dX1_stepsFromBelow_23 : decode cX1_stepsFromBelow 23 = .ok (.iaload, 1) := by decide +kernel
theorem dX1_stepsFromBelow_24 : decode cX1_stepsFromBelow 24 = .ok (.ior, 1) := by decide +kernel
theorem dX1_stepsFromBelow_25 : decode cX1_stepsFromBelow 25 = .ok (.istore_n 2, 1) := by decide +kernel
theorem dX1_stepsFromBelow_26 : decode cX1_stepsFromBelow 26 = .ok (.iinc 3 1, 3) := by decide +kernel
theorem dX1_stepsFromBelow_29 : decode cX1_stepsFromBelow 29 = .ok (.goto (-25), 3) := by decide +kernel
theorem dX1_stepsFromBelow_32 : decode cX1_stepsFromBelow 32 = .ok (.iload_n 2, 1) := by decide +kernel
theorem dX1_stepsFromBelow_33 : decode cX1_stepsFromBelow 33 = .ok (.ireturn, 1) := by decide +kernel
theorem dX1_priceOf_0 : decode cX1_priceOf 0 = .ok (.lconst 0, 1) := by decide +kernel
theorem dX1_priceOf_1 : decode cX1_priceOf 1 = .ok (.lstore_n 2, 1) := by decide +kernel
theorem dX1_priceOf_2 : decode cX1_priceOf 2 = .ok (.iconst 0, 1) := by decide +kernel
theorem dX1_priceOf_3 : decode cX1_priceOf 3 = .ok (.istore 4, 2) := by decide +kernel
theorem dX1_priceOf_5 : decode cX1_priceOf 5 = .ok (.iload 4, 2) := by decide +kernel
theorem dX1_priceOf_7 : decode cX1_priceOf 7 = .ok (.aload_n 0, 1) := by decide +kernel
theorem dX1_priceOf_8 : decode cX1_priceOf 8 = .ok (.getfield 28, 3) := by decide +kernel
theorem dX1_priceOf_11 : decode cX1_priceOf 11 = .ok (.if_icmp .ge 31, 3) := by decide +kernel
theorem dX1_priceOf_14 : decode cX1_priceOf 14 = .ok (.iload_n 1, 1) := by decide +kernel
theorem dX1_priceOf_15 : decode cX1_priceOf 15 = .ok (.iload 4, 2) := by decide +kernel
theorem dX1_priceOf_17 : decode cX1_priceOf 17 = .ok (.invokestatic 43, 3) := by decide +kernel
theorem dX1_priceOf_20 : decode cX1_priceOf 20 = .ok (.ifCond .eq 16, 3) := by decide +kernel
theorem dX1_priceOf_23 : decode cX1_priceOf 23 = .ok (.lload_n 2, 1) := by decide +kernel
theorem dX1_priceOf_24 : decode cX1_priceOf 24 = .ok (.aload_n 0, 1) := by decide +kernel
theorem dX1_priceOf_25 : decode cX1_priceOf 25 = .ok (.getfield 18, 3) := by decide +kernel
theorem dX1_priceOf_28 : decode cX1_priceOf 28 = .ok (.iload 4, 2) := by decide +kernel
theorem dX1_priceOf_30 : decode cX1_priceOf 30 = .ok (.iaload, 1) := by decide +kernel
theorem dX1_priceOf_31 : decode cX1_priceOf 31 = .ok (.iconst 1, 1) := by decide +kernel
theorem dX1_priceOf_32 : decode cX1_priceOf 32 = .ok (.iadd, 1) := by decide +kernel
theorem dX1_priceOf_33 : decode cX1_priceOf 33 = .ok (.i2l, 1) := by decide +kernel
theorem dX1_priceOf_34 : decode cX1_priceOf 34 = .ok (.ladd, 1) := by decide +kernel
theorem dX1_priceOf_35 : decode cX1_priceOf 35 = .ok (.lstore_n 2, 1) := by decide +kernel
theorem dX1_priceOf_36 : decode cX1_priceOf 36 = .ok (.iinc 4 1, 3) := by decide +kernel
theorem dX1_priceOf_39 : decode cX1_priceOf 39 = .ok (.goto (-34), 3) := by decide +kernel
theorem dX1_priceOf_42 : decode cX1_priceOf 42 = .ok (.lload_n 2, 1) := by decide +kernel
theorem dX1_priceOf_43 : decode cX1_priceOf 43 = .ok (.lreturn, 1) := by decide +kernel
theorem dX1_stepAt_0 : decode cX1_stepAt 0 = .ok (.iload_n 2, 1) := by decide +kernel
theorem dX1_stepAt_1 : decode cX1_stepAt 1 = .ok (.istore_n 3, 1) := by decide +kernel
theorem dX1_stepAt_2 : decode cX1_stepAt 2 = .ok (.iconst 0, 1) := by decide +kernel
theorem dX1_stepAt_3 : decode cX1_stepAt 3 = .ok (.istore 4, 2) := by decide +kernel
theorem dX1_stepAt_5 : decode cX1_stepAt 5 = .ok (.iload 4, 2) := by decide +kernel
theorem dX1_stepAt_7 : decode cX1_stepAt 7 = .ok (.aload_n 0, 1) := by decide +kernel
theorem dX1_stepAt_8 : decode cX1_stepAt 8 = .ok (.getfield 24, 3) := by decide +kernel
theorem dX1_stepAt_11 : decode cX1_stepAt 11 = .ok (.if_icmp .ge 39, 3) := by decide +kernel
theorem dX1_stepAt_14 : decode cX1_stepAt 14 = .ok (.iload_n 1, 1) := by decide +kernel
theorem dX1_stepAt_15 : decode cX1_stepAt 15 = .ok (.aload_n 0, 1) := by decide +kernel
theorem dX1_stepAt_16 : decode cX1_stepAt 16 = .ok (.getfield 21, 3) := by decide +kernel
theorem dX1_stepAt_19 : decode cX1_stepAt 19 = .ok (.iload 4, 2) := by decide +kernel
theorem dX1_stepAt_21 : decode cX1_stepAt 21 = .ok (.iaload, 1) := by decide +kernel
theorem dX1_stepAt_22 : decode cX1_stepAt 22 = .ok (.iand, 1) := by decide +kernel
theorem dX1_stepAt_23 : decode cX1_stepAt 23 = .ok (.istore 5, 2) := by decide +kernel
theorem dX1_stepAt_25 : decode cX1_stepAt 25 = .ok (.iload 5, 2) := by decide +kernel
theorem dX1_stepAt_27 : decode cX1_stepAt 27 = .ok (.ifCond .eq 17, 3) := by decide +kernel
theorem dX1_stepAt_30 : decode cX1_stepAt 30 = .ok (.iload_n 3, 1) := by decide +kernel
theorem dX1_stepAt_31 : decode cX1_stepAt 31 = .ok (.ifCond .ne 10, 3) := by decide +kernel
theorem dX1_stepAt_34 : decode cX1_stepAt 34 = .ok (.iload 5, 2) := by decide +kernel
theorem dX1_stepAt_36 : decode cX1_stepAt 36 = .ok (.iconst 0, 1) := by decide +kernel
theorem dX1_stepAt_37 : decode cX1_stepAt 37 = .ok (.invokestatic 47, 3) := by decide +kernel
theorem dX1_stepAt_40 : decode cX1_stepAt 40 = .ok (.ireturn, 1) := by decide +kernel
theorem dX1_stepAt_41 : decode cX1_stepAt 41 = .ok (.iinc 3 (-1), 3) := by decide +kernel
theorem dX1_stepAt_44 : decode cX1_stepAt 44 = .ok (.iinc 4 1, 3) := by decide +kernel
theorem dX1_stepAt_47 : decode cX1_stepAt 47 = .ok (.goto (-42), 3) := by decide +kernel
theorem dX1_stepAt_50 : decode cX1_stepAt 50 = .ok (.iconst (-1), 1) := by decide +kernel
theorem dX1_stepAt_51 : decode cX1_stepAt 51 = .ok (.ireturn, 1) := by decide +kernel
theorem dX2_init_0 : decode cX2_init 0 = .ok (.aload_n 0, 1) := by decide +kernel
theorem dX2_init_1 : decode cX2_init 1 = .ok (.invokespecial 3, 3) := by decide +kernel
theorem dX2_init_4 : decode cX2_init 4 = .ok (.aload_n 0, 1) := by decide +kernel
theorem dX2_init_5 : decode cX2_init 5 = .ok (.bipush 16, 2) := by decide +kernel
theorem dX2_init_7 : decode cX2_init 7 = .ok (.newarray .int, 2) := by decide +kernel
theorem dX2_init_9 : decode cX2_init 9 = .ok (.putfield 9, 3) := by decide +kernel
theorem dX2_init_12 : decode cX2_init 12 = .ok (.aload_n 0, 1) := by decide +kernel
theorem dX2_init_13 : decode cX2_init 13 = .ok (.iconst (-1), 1) := by decide +kernel
theorem dX2_init_14 : decode cX2_init 14 = .ok (.putfield 15, 3) := by decide +kernel
theorem dX2_init_17 : decode cX2_init 17 = .ok (.return_, 1) := by decide +kernel
theorem dX2_forget_0 : decode cX2_forget 0 = .ok (.aload_n 0, 1) := by decide +kernel
theorem dX2_forget_1 : decode cX2_forget 1 = .ok (.iconst (-1), 1) := by decide +kernel
theorem dX2_forget_2 : decode cX2_forget 2 = .ok (.putfield 15, 3) := by decide +kernel
theorem dX2_forget_5 : decode cX2_forget 5 = .ok (.return_, 1) := by decide +kernel
theorem dX2_take_0 : decode cX2_take 0 = .ok (.iconst 0, 1) := by decide +kernel
theorem dX2_take_1 : decode cX2_take 1 = .ok (.istore 4, 2) := by decide +kernel
theorem dX2_take_3 : decode cX2_take 3 = .ok (.iload 4, 2) := by decide +kernel
theorem dX2_take_5 : decode cX2_take 5 = .ok (.iload_n 2, 1) := by decide +kernel
theorem dX2_take_6 : decode cX2_take 6 = .ok (.if_icmp .ge 23, 3) := by decide +kernel
theorem dX2_take_9 : decode cX2_take 9 = .ok (.aload_n 0, 1) := by decide +kernel
theorem dX2_take_10 : decode cX2_take 10 = .ok (.getfield 9, 3) := by decide +kernel
theorem dX2_take_13 : decode cX2_take 13 = .ok (.iload 4, 2) := by decide +kernel
theorem dX2_take_15 : decode cX2_take 15 = .ok (.aload_n 1, 1) := by decide +kernel
theorem dX2_take_16 : decode cX2_take 16 = .ok (.getfield 19, 3) := by decide +kernel
theorem dX2_take_19 : decode cX2_take 19 = .ok (.iload 4, 2) := by decide +kernel
theorem dX2_take_21 : decode cX2_take 21 = .ok (.iaload, 1) := by decide +kernel
theorem dX2_take_22 : decode cX2_take 22 = .ok (.iastore, 1) := by decide +kernel
theorem dX2_take_23 : decode cX2_take 23 = .ok (.iinc 4 1, 3) := by decide +kernel
theorem dX2_take_26 : decode cX2_take 26 = .ok (.goto (-23), 3) := by decide +kernel
theorem dX2_take_29 : decode cX2_take 29 = .ok (.aload_n 0, 1) := by decide +kernel
theorem dX2_take_30 : decode cX2_take 30 = .ok (.iload_n 2, 1) := by decide +kernel
theorem dX2_take_31 : decode cX2_take 31 = .ok (.putfield 15, 3) := by decide +kernel
theorem dX2_take_34 : decode cX2_take 34 = .ok (.aload_n 0, 1) := by decide +kernel
theorem dX2_take_35 : decode cX2_take 35 = .ok (.iload_n 3, 1) := by decide +kernel
theorem dX2_take_36 : decode cX2_take 36 = .ok (.putfield 24, 3) := by decide +kernel
theorem dX2_take_39 : decode cX2_take 39 = .ok (.return_, 1) := by decide +kernel
theorem dX2_fit_0 : decode cX2_fit 0 = .ok (.aload_n 0, 1) := by decide +kernel
theorem dX2_fit_1 : decode cX2_fit 1 = .ok (.aload_n 0, 1) := by decide +kernel
theorem dX2_fit_2 : decode cX2_fit 2 = .ok (.getfield 15, 3) := by decide +kernel
theorem dX2_fit_5 : decode cX2_fit 5 = .ok (.iconst (-1), 1) := by decide +kernel
theorem dX2_fit_6 : decode cX2_fit 6 = .ok (.if_icmp .eq 7, 3) := by decide +kernel
theorem dX2_fit_9 : decode cX2_fit 9 = .ok (.iconst 1, 1) := by decide +kernel
theorem dX2_fit_10 : decode cX2_fit 10 = .ok (.goto 4, 3) := by decide +kernel
theorem dX2_fit_13 : decode cX2_fit 13 = .ok (.iconst 0, 1) := by decide +kernel
theorem dX2_fit_14 : decode cX2_fit 14 = .ok (.putfield 28, 3) := by decide +kernel
theorem dX2_fit_17 : decode cX2_fit 17 = .ok (.aload_n 0, 1) := by decide +kernel
theorem dX2_fit_18 : decode cX2_fit 18 = .ok (.iconst 0, 1) := by decide +kernel
theorem dX2_fit_19 : decode cX2_fit 19 = .ok (.putfield 31, 3) := by decide +kernel
theorem dX2_fit_22 : decode cX2_fit 22 = .ok (.iconst 0, 1) := by decide +kernel
theorem dX2_fit_23 : decode cX2_fit 23 = .ok (.istore_n 2, 1) := by decide +kernel
theorem dX2_fit_24 : decode cX2_fit 24 = .ok (.iconst 0, 1) := by decide +kernel
theorem dX2_fit_25 : decode cX2_fit 25 = .ok (.istore_n 3, 1) := by decide +kernel
theorem dX2_fit_26 : decode cX2_fit 26 = .ok (.iload_n 3, 1) := by decide +kernel
theorem dX2_fit_27 : decode cX2_fit 27 = .ok (.aload_n 0, 1) := by decide +kernel
theorem dX2_fit_28 : decode cX2_fit 28 = .ok (.getfield 15, 3) := by decide +kernel
theorem dX2_fit_31 : decode cX2_fit 31 = .ok (.if_icmp .ge 66, 3) := by decide +kernel
theorem dX2_fit_34 : decode cX2_fit 34 = .ok (.aload_n 0, 1) := by decide +kernel
theorem dX2_fit_35 : decode cX2_fit 35 = .ok (.getfield 9, 3) := by decide +kernel
theorem dX2_fit_38 : decode cX2_fit 38 = .ok (.iload_n 3, 1) := by decide +kernel
theorem dX2_fit_39 : decode cX2_fit 39 = .ok (.iaload, 1) := by decide +kernel
theorem dX2_fit_40 : decode cX2_fit 40 = .ok (.istore 4, 2) := by decide +kernel
theorem dX2_fit_42 : decode cX2_fit 42 = .ok (.aload_n 1, 1) := by decide +kernel
theorem dX2_fit_43 : decode cX2_fit 43 = .ok (.iload 4, 2) := by decide +kernel
theorem dX2_fit_45 : decode cX2_fit 45 = .ok (.invokevirtual 34, 3) := by decide +kernel
theorem dX2_fit_48 : decode cX2_fit 48 = .ok (.ifCond .eq 14, 3) := by decide +kernel
theorem dX2_fit_51 : decode cX2_fit 51 = .ok (.aload_n 1, 1) := by decide +kernel
theorem dX2_fit_52 : decode cX2_fit 52 = .ok (.getfield 40, 3) := by decide +kernel
theorem dX2_fit_55 : decode cX2_fit 55 = .ok (.iload 4, 2) := by decide +kernel
theorem dX2_fit_57 : decode cX2_fit 57 = .ok (.iaload, 1) := by decide +kernel
theorem dX2_fit_58 : decode cX2_fit 58 = .ok (.iload_n 2, 1) := by decide +kernel
theorem dX2_fit_59 : decode cX2_fit 59 = .ok (.if_icmp .ge 9, 3) := by decide +kernel
theorem dX2_fit_62 : decode cX2_fit 62 = .ok (.aload_n 0, 1) := by decide +kernel
theorem dX2_fit_63 : decode cX2_fit 63 = .ok (.iconst 0, 1) := by decide +kernel
theorem dX2_fit_64 : decode cX2_fit 64 = .ok (.putfield 28, 3) := by decide +kernel
theorem dX2_fit_67 : decode cX2_fit 67 = .ok (.return_, 1) := by decide +kernel
theorem dX2_fit_68 : decode cX2_fit 68 = .ok (.aload_n 0, 1) := by decide +kernel
theorem dX2_fit_69 : decode cX2_fit 69 = .ok (.dup, 1) := by decide +kernel
theorem dX2_fit_70 : decode cX2_fit 70 = .ok (.getfield 31, 3) := by decide +kernel
theorem dX2_fit_73 : decode cX2_fit 73 = .ok (.iconst 1, 1) := by decide +kernel
theorem dX2_fit_74 : decode cX2_fit 74 = .ok (.iload 4, 2) := by decide +kernel
theorem dX2_fit_76 : decode cX2_fit 76 = .ok (.ishl, 1) := by decide +kernel
theorem dX2_fit_77 : decode cX2_fit 77 = .ok (.ior, 1) := by decide +kernel
theorem dX2_fit_78 : decode cX2_fit 78 = .ok (.putfield 31, 3) := by decide +kernel
theorem dX2_fit_81 : decode cX2_fit 81 = .ok (.aload_n 1, 1) := by decide +kernel
theorem dX2_fit_82 : decode cX2_fit 82 = .ok (.getfield 40, 3) := by decide +kernel
theorem dX2_fit_85 : decode cX2_fit 85 = .ok (.iload 4, 2) := by decide +kernel
theorem dX2_fit_87 : decode cX2_fit 87 = .ok (.iaload, 1) := by decide +kernel
theorem dX2_fit_88 : decode cX2_fit 88 = .ok (.iconst 1, 1) := by decide +kernel
theorem dX2_fit_89 : decode cX2_fit 89 = .ok (.iadd, 1) := by decide +kernel
theorem dX2_fit_90 : decode cX2_fit 90 = .ok (.istore_n 2, 1) := by decide +kernel
theorem dX2_fit_91 : decode cX2_fit 91 = .ok (.iinc 3 1, 3) := by decide +kernel
theorem dX2_fit_94 : decode cX2_fit 94 = .ok (.goto (-68), 3) := by decide +kernel
theorem dX2_fit_97 : decode cX2_fit 97 = .ok (.aload_n 0, 1) := by decide +kernel
theorem dX2_fit_98 : decode cX2_fit 98 = .ok (.aload_n 1, 1) := by decide +kernel
theorem dX2_fit_99 : decode cX2_fit 99 = .ok (.getfield 43, 3) := by decide +kernel
theorem dX2_fit_102 : decode cX2_fit 102 = .ok (.aload_n 0, 1) := by decide +kernel
theorem dX2_fit_103 : decode cX2_fit 103 = .ok (.getfield 24, 3) := by decide +kernel
theorem dX2_fit_106 : decode cX2_fit 106 = .ok (.ifCond .eq 11, 3) := by decide +kernel
theorem dX2_fit_109 : decode cX2_fit 109 = .ok (.aload_n 1, 1) := by decide +kernel
theorem dX2_fit_110 : decode cX2_fit 110 = .ok (.iload_n 2, 1) := by decide +kernel
theorem dX2_fit_111 : decode cX2_fit 111 = .ok (.invokevirtual 46, 3) := by decide +kernel
theorem dX2_fit_114 : decode cX2_fit 114 = .ok (.goto 7, 3) := by decide +kernel
theorem dX2_fit_117 : decode cX2_fit 117 = .ok (.aload_n 1, 1) := by decide +kernel
theorem dX2_fit_118 : decode cX2_fit 118 = .ok (.invokevirtual 50, 3) := by decide +kernel
theorem dX2_fit_121 : decode cX2_fit 121 = .ok (.iand, 1) := by decide +kernel
theorem dX2_fit_122 : decode cX2_fit 122 = .ok (.putfield 54, 3) := by decide +kernel
theorem dX2_fit_125 : decode cX2_fit 125 = .ok (.return_, 1) := by decide +kernel
theorem dX2_allows_0 : decode cX2_allows 0 = .ok (.aload_n 0, 1) := by decide +kernel
theorem dX2_allows_1 : decode cX2_allows 1 = .ok (.getfield 28, 3) := by decide +kernel
theorem dX2_allows_4 : decode cX2_allows 4 = .ok (.ifCond .eq 20, 3) := by decide +kernel
theorem dX2_allows_7 : decode cX2_allows 7 = .ok (.iload_n 1, 1) := by decide +kernel
theorem dX2_allows_8 : decode cX2_allows 8 = .ok (.aload_n 0, 1) := by decide +kernel
theorem dX2_allows_9 : decode cX2_allows 9 = .ok (.getfield 54, 3) := by decide +kernel
theorem dX2_allows_12 : decode cX2_allows 12 = .ok (.iand, 1) := by decide +kernel
theorem dX2_allows_13 : decode cX2_allows 13 = .ok (.aload_n 0, 1) := by decide +kernel
theorem dX2_allows_14 : decode cX2_allows 14 = .ok (.getfield 31, 3) := by decide +kernel
theorem dX2_allows_17 : decode cX2_allows 17 = .ok (.if_icmp .ne 7, 3) := by decide +kernel
theorem dX2_allows_20 : decode cX2_allows 20 = .ok (.iconst 1, 1) := by decide +kernel
theorem dX2_allows_21 : decode cX2_allows 21 = .ok (.goto 4, 3) := by decide +kernel
theorem dX2_allows_24 : decode cX2_allows 24 = .ok (.iconst 0, 1) := by decide +kernel
theorem dX2_allows_25 : decode cX2_allows 25 = .ok (.ireturn, 1) := by decide +kernel
theorem dX2_howManyOf_0 : decode cX2_howManyOf 0 = .ok (.iconst 0, 1) := by decide +kernel
theorem dX2_howManyOf_1 : decode cX2_howManyOf 1 = .ok (.istore_n 2, 1) := by decide +kernel
theorem dX2_howManyOf_2 : decode cX2_howManyOf 2 = .ok (.iconst 0, 1) := by decide +kernel
theorem dX2_howManyOf_3 : decode cX2_howManyOf 3 = .ok (.istore_n 3, 1) := by decide +kernel
theorem dX2_howManyOf_4 : decode cX2_howManyOf 4 = .ok (.iload_n 3, 1) := by decide +kernel
theorem dX2_howManyOf_5 : decode cX2_howManyOf 5 = .ok (.aload_n 1, 1) := by decide +kernel
theorem dX2_howManyOf_6 : decode cX2_howManyOf 6 = .ok (.getfield 57, 3) := by decide +kernel
theorem dX2_howManyOf_9 : decode cX2_howManyOf 9 = .ok (.if_icmp .ge 25, 3) := by decide +kernel
theorem dX2_howManyOf_12 : decode cX2_howManyOf 12 = .ok (.aload_n 0, 1) := by decide +kernel
theorem dX2_howManyOf_13 : decode cX2_howManyOf 13 = .ok (.aload_n 1, 1) := by decide +kernel
theorem dX2_howManyOf_14 : decode cX2_howManyOf 14 = .ok (.getfield 62, 3) := by decide +kernel
theorem dX2_howManyOf_17 : decode cX2_howManyOf 17 = .ok (.iload_n 3, 1) := by decide +kernel
theorem dX2_howManyOf_18 : decode cX2_howManyOf 18 = .ok (.iaload, 1) := by decide +kernel
theorem dX2_howManyOf_19 : decode cX2_howManyOf 19 = .ok (.invokevirtual 65, 3) := by decide +kernel
theorem dX2_howManyOf_22 : decode cX2_howManyOf 22 = .ok (.ifCond .eq 6, 3) := by decide +kernel
theorem dX2_howManyOf_25 : decode cX2_howManyOf 25 = .ok (.iinc 2 1, 3) := by decide +kernel
theorem dX2_howManyOf_28 : decode cX2_howManyOf 28 = .ok (.iinc 3 1, 3) := by decide +kernel
theorem dX2_howManyOf_31 : decode cX2_howManyOf 31 = .ok (.goto (-27), 3) := by decide +kernel
theorem dX2_howManyOf_34 : decode cX2_howManyOf 34 = .ok (.iload_n 2, 1) := by decide +kernel
theorem dX2_howManyOf_35 : decode cX2_howManyOf 35 = .ok (.ireturn, 1) := by decide +kernel
theorem dX2_memberOf_0 : decode cX2_memberOf 0 = .ok (.iload_n 2, 1) := by decide +kernel
theorem dX2_memberOf_1 : decode cX2_memberOf 1 = .ok (.istore_n 3, 1) := by decide +kernel
theorem dX2_memberOf_2 : decode cX2_memberOf 2 = .ok (.iconst 0, 1) := by decide +kernel
theorem dX2_memberOf_3 : decode cX2_memberOf 3 = .ok (.istore 4, 2) := by decide +kernel
theorem dX2_memberOf_5 : decode cX2_memberOf 5 = .ok (.iload 4, 2) := by decide +kernel
theorem dX2_memberOf_7 : decode cX2_memberOf 7 = .ok (.aload_n 1, 1) := by decide +kernel
theorem dX2_memberOf_8 : decode cX2_memberOf 8 = .ok (.getfield 57, 3) := by decide +kernel
theorem dX2_memberOf_11 : decode cX2_memberOf 11 = .ok (.if_icmp .ge 33, 3) := by decide +kernel
theorem dX2_memberOf_14 : decode cX2_memberOf 14 = .ok (.aload_n 0, 1) := by decide +kernel
theorem dX2_memberOf_15 : decode cX2_memberOf 15 = .ok (.aload_n 1, 1) := by decide +kernel
theorem dX2_memberOf_16 : decode cX2_memberOf 16 = .ok (.getfield 62, 3) := by decide +kernel
theorem dX2_memberOf_19 : decode cX2_memberOf 19 = .ok (.iload 4, 2) := by decide +kernel
theorem dX2_memberOf_21 : decode cX2_memberOf 21 = .ok (.iaload, 1) := by decide +kernel
theorem dX2_memberOf_22 : decode cX2_memberOf 22 = .ok (.invokevirtual 65, 3) := by decide +kernel
theorem dX2_memberOf_25 : decode cX2_memberOf 25 = .ok (.ifCond .eq 13, 3) := by decide +kernel
theorem dX2_memberOf_28 : decode cX2_memberOf 28 = .ok (.iload_n 3, 1) := by decide +kernel
theorem dX2_memberOf_29 : decode cX2_memberOf 29 = .ok (.ifCond .ne 6, 3) := by decide +kernel
theorem dX2_memberOf_32 : decode cX2_memberOf 32 = .ok (.iload 4, 2) := by decide +kernel
theorem dX2_memberOf_34 : decode cX2_memberOf 34 = .ok (.ireturn, 1) := by decide +kernel
theorem dX2_memberOf_35 : decode cX2_memberOf 35 = .ok (.iinc 3 (-1), 3) := by decide +kernel
theorem dX2_memberOf_38 : decode cX2_memberOf 38 = .ok (.iinc 4 1, 3) := by decide +kernel
theorem dX2_memberOf_41 : decode cX2_memberOf 41 = .ok (.goto (-36), 3) := by decide +kernel
theorem dX2_memberOf_44 : decode cX2_memberOf 44 = .ok (.iconst (-1), 1) := by decide +kernel
theorem dX2_memberOf_45 : decode cX2_memberOf 45 = .ok (.ireturn, 1) := by decide +kernel
theorem dX2_inAll_0 : decode cX2_inAll 0 = .ok (.iconst (-1), 1) := by decide +kernel
theorem dX2_inAll_1 : decode cX2_inAll 1 = .ok (.istore_n 3, 1) := by decide +kernel
theorem dX2_inAll_2 : decode cX2_inAll 2 = .ok (.iconst 0, 1) := by decide +kernel
theorem dX2_inAll_3 : decode cX2_inAll 3 = .ok (.istore 4, 2) := by decide +kernel
theorem dX2_inAll_5 : decode cX2_inAll 5 = .ok (.iload 4, 2) := by decide +kernel
theorem dX2_inAll_7 : decode cX2_inAll 7 = .ok (.aload_n 1, 1) := by decide +kernel
theorem dX2_inAll_8 : decode cX2_inAll 8 = .ok (.getfield 57, 3) := by decide +kernel
theorem dX2_inAll_11 : decode cX2_inAll 11 = .ok (.if_icmp .ge 30, 3) := by decide +kernel
theorem dX2_inAll_14 : decode cX2_inAll 14 = .ok (.aload_n 0, 1) := by decide +kernel
theorem dX2_inAll_15 : decode cX2_inAll 15 = .ok (.aload_n 1, 1) := by decide +kernel
theorem dX2_inAll_16 : decode cX2_inAll 16 = .ok (.getfield 62, 3) := by decide +kernel
theorem dX2_inAll_19 : decode cX2_inAll 19 = .ok (.iload 4, 2) := by decide +kernel
theorem dX2_inAll_21 : decode cX2_inAll 21 = .ok (.iaload, 1) := by decide +kernel
theorem dX2_inAll_22 : decode cX2_inAll 22 = .ok (.invokevirtual 65, 3) := by decide +kernel
theorem dX2_inAll_25 : decode cX2_inAll 25 = .ok (.ifCond .eq 10, 3) := by decide +kernel
theorem dX2_inAll_28 : decode cX2_inAll 28 = .ok (.iload_n 3, 1) := by decide +kernel
theorem dX2_inAll_29 : decode cX2_inAll 29 = .ok (.aload_n 2, 1) := by decide +kernel
theorem dX2_inAll_30 : decode cX2_inAll 30 = .ok (.iload 4, 2) := by decide +kernel
theorem dX2_inAll_32 : decode cX2_inAll 32 = .ok (.iaload, 1) := by decide +kernel
theorem dX2_inAll_33 : decode cX2_inAll 33 = .ok (.iand, 1) := by decide +kernel
theorem dX2_inAll_34 : decode cX2_inAll 34 = .ok (.istore_n 3, 1) := by decide +kernel
theorem dX2_inAll_35 : decode cX2_inAll 35 = .ok (.iinc 4 1, 3) := by decide +kernel
theorem dX2_inAll_38 : decode cX2_inAll 38 = .ok (.goto (-33), 3) := by decide +kernel
theorem dX2_inAll_41 : decode cX2_inAll 41 = .ok (.iload_n 3, 1) := by decide +kernel
theorem dX2_inAll_42 : decode cX2_inAll 42 = .ok (.ireturn, 1) := by decide +kernel
theorem dX2_inSome_0 : decode cX2_inSome 0 = .ok (.iconst 0, 1) := by decide +kernel
theorem dX2_inSome_1 : decode cX2_inSome 1 = .ok (.istore_n 3, 1) := by decide +kernel
theorem dX2_inSome_2 : decode cX2_inSome 2 = .ok (.iconst 0, 1) := by decide +kernel
theorem dX2_inSome_3 : decode cX2_inSome 3 = .ok (.istore 4, 2) := by decide +kernel
theorem dX2_inSome_5 : decode cX2_inSome 5 = .ok (.iload 4, 2) := by decide +kernel
theorem dX2_inSome_7 : decode cX2_inSome 7 = .ok (.aload_n 1, 1) := by decide +kernel
theorem dX2_inSome_8 : decode cX2_inSome 8 = .ok (.getfield 57, 3) := by decide +kernel
theorem dX2_inSome_11 : decode cX2_inSome 11 = .ok (.if_icmp .ge 30, 3) := by decide +kernel
theorem dX2_inSome_14 : decode cX2_inSome 14 = .ok (.aload_n 0, 1) := by decide +kernel
theorem dX2_inSome_15 : decode cX2_inSome 15 = .ok (.aload_n 1, 1) := by decide +kernel
theorem dX2_inSome_16 : decode cX2_inSome 16 = .ok (.getfield 62, 3) := by decide +kernel
theorem dX2_inSome_19 : decode cX2_inSome 19 = .ok (.iload 4, 2) := by decide +kernel
theorem dX2_inSome_21 : decode cX2_inSome 21 = .ok (.iaload, 1) := by decide +kernel
theorem dX2_inSome_22 : decode cX2_inSome 22 = .ok (.invokevirtual 65, 3) := by decide +kernel
theorem dX2_inSome_25 : decode cX2_inSome 25 = .ok (.ifCond .eq 10, 3) := by decide +kernel
theorem dX2_inSome_28 : decode cX2_inSome 28 = .ok (.iload_n 3, 1) := by decide +kernel
theorem dX2_inSome_29 : decode cX2_inSome 29 = .ok (.aload_n 2, 1) := by decide +kernel
theorem dX2_inSome_30 : decode cX2_inSome 30 = .ok (.iload 4, 2) := by decide +kernel
theorem dX2_inSome_32 : decode cX2_inSome 32 = .ok (.iaload, 1) := by decide +kernel
theorem dX2_inSome_33 : decode cX2_inSome 33 = .ok (.ior, 1) := by decide +kernel
theorem dX2_inSome_34 : decode cX2_inSome 34 = .ok (.istore_n 3, 1) := by decide +kernel
theorem dX2_inSome_35 : decode cX2_inSome 35 = .ok (.iinc 4 1, 3) := by decide +kernel
theorem dX2_inSome_38 : decode cX2_inSome 38 = .ok (.goto (-33), 3) := by decide +kernel
theorem dX2_inSome_41 : decode cX2_inSome 41 = .ok (.iload_n 3, 1) := by decide +kernel
theorem dX2_inSome_42 : decode cX2_inSome 42 = .ok (.ireturn, 1) := by decide +kernel
theorem dX3_init_0 : decode cX3_init 0 = .ok (.aload_n 0, 1) := by decide +kernel
theorem dX3_init_1 : decode cX3_init 1 = .ok (.invokespecial 3, 3) := by decide +kernel
theorem dX3_init_4 : decode cX3_init 4 = .ok (.aload_n 0, 1) := by decide +kernel
theorem dX3_init_5 : decode cX3_init 5 = .ok (.sipush 200, 3) := by decide +kernel
theorem dX3_init_8 : decode cX3_init 8 = .ok (.newarray .int, 2) := by decide +kernel
theorem dX3_init_10 : decode cX3_init 10 = .ok (.putfield 9, 3) := by decide +kernel
theorem dX3_init_13 : decode cX3_init 13 = .ok (.aload_n 0, 1) := by decide +kernel
theorem dX3_init_14 : decode cX3_init 14 = .ok (.sipush 200, 3) := by decide +kernel
theorem dX3_init_17 : decode cX3_init 17 = .ok (.newarray .int, 2) := by decide +kernel
theorem dX3_init_19 : decode cX3_init 19 = .ok (.putfield 15, 3) := by decide +kernel
theorem dX3_init_22 : decode cX3_init 22 = .ok (.aload_n 0, 1) := by decide +kernel
theorem dX3_init_23 : decode cX3_init 23 = .ok (.iconst 1, 1) := by decide +kernel
theorem dX3_init_24 : decode cX3_init 24 = .ok (.putfield 18, 3) := by decide +kernel
theorem dX3_init_27 : decode cX3_init 27 = .ok (.return_, 1) := by decide +kernel
theorem dX3_gather_0 : decode cX3_gather 0 = .ok (.aload_n 0, 1) := by decide +kernel
theorem dX3_gather_1 : decode cX3_gather 1 = .ok (.iconst 0, 1) := by decide +kernel
theorem dX3_gather_2 : decode cX3_gather 2 = .ok (.putfield 22, 3) := by decide +kernel
theorem dX3_gather_5 : decode cX3_gather 5 = .ok (.aload_n 0, 1) := by decide +kernel
theorem dX3_gather_6 : decode cX3_gather 6 = .ok (.iconst 0, 1) := by decide +kernel
theorem dX3_gather_7 : decode cX3_gather 7 = .ok (.putfield 26, 3) := by decide +kernel
theorem dX3_gather_10 : decode cX3_gather 10 = .ok (.aload_n 0, 1) := by decide +kernel
theorem dX3_gather_11 : decode cX3_gather 11 = .ok (.iconst 0, 1) := by decide +kernel
theorem dX3_gather_12 : decode cX3_gather 12 = .ok (.putfield 18, 3) := by decide +kernel
theorem dX3_gather_15 : decode cX3_gather 15 = .ok (.aload_n 0, 1) := by decide +kernel
theorem dX3_gather_16 : decode cX3_gather 16 = .ok (.aload_n 1, 1) := by decide +kernel
theorem dX3_gather_17 : decode cX3_gather 17 = .ok (.iconst 0, 1) := by decide +kernel
theorem dX3_gather_18 : decode cX3_gather 18 = .ok (.iconst 0, 1) := by decide +kernel
theorem dX3_gather_19 : decode cX3_gather 19 = .ok (.iconst 1, 1) := by decide +kernel
theorem dX3_gather_20 : decode cX3_gather 20 = .ok (.iconst 0, 1) := by decide +kernel
theorem dX3_gather_21 : decode cX3_gather 21 = .ok (.invokestatic 29, 3) := by decide +kernel
theorem dX3_gather_24 : decode cX3_gather 24 = .ok (.return_, 1) := by decide +kernel
theorem dX3_follow_0 : decode cX3_follow 0 = .ok (.iload 5, 2) := by decide +kernel
theorem dX3_follow_2 : decode cX3_follow 2 = .ok (.bipush 12, 2) := by decide +kernel
theorem dX3_follow_4 : decode cX3_follow 4 = .ok (.if_icmp .ge 10, 3) := by decide +kernel
theorem dX3_follow_7 : decode cX3_follow 7 = .ok (.aload_n 0, 1) := by decide +kernel
theorem dX3_follow_8 : decode cX3_follow 8 = .ok (.getfield 26, 3) := by decide +kernel
theorem dX3_follow_11 : decode cX3_follow 11 = .ok (.ifCond .eq 4, 3) := by decide +kernel
theorem dX3_follow_14 : decode cX3_follow 14 = .ok (.return_, 1) := by decide +kernel
theorem dX3_follow_15 : decode cX3_follow 15 = .ok (.iload_n 2, 1) := by decide +kernel
theorem dX3_follow_16 : decode cX3_follow 16 = .ok (.aload_n 1, 1) := by decide +kernel
theorem dX3_follow_17 : decode cX3_follow 17 = .ok (.getfield 33, 3) := by decide +kernel
theorem dX3_follow_20 : decode cX3_follow 20 = .ok (.iconst 1, 1) := by decide +kernel
theorem dX3_follow_21 : decode cX3_follow 21 = .ok (.isub, 1) := by decide +kernel
theorem dX3_follow_22 : decode cX3_follow 22 = .ok (.if_icmp .ne 11, 3) := by decide +kernel
theorem dX3_follow_25 : decode cX3_follow 25 = .ok (.aload_n 0, 1) := by decide +kernel
theorem dX3_follow_26 : decode cX3_follow 26 = .ok (.iload_n 3, 1) := by decide +kernel
theorem dX3_follow_27 : decode cX3_follow 27 = .ok (.iload 4, 2) := by decide +kernel
theorem dX3_follow_29 : decode cX3_follow 29 = .ok (.invokevirtual 38, 3) := by decide +kernel
theorem dX3_follow_32 : decode cX3_follow 32 = .ok (.return_, 1) := by decide +kernel
theorem dX3_follow_33 : decode cX3_follow 33 = .ok (.iconst 0, 1) := by decide +kernel
theorem dX3_follow_34 : decode cX3_follow 34 = .ok (.istore 6, 2) := by decide +kernel
theorem dX3_follow_36 : decode cX3_follow 36 = .ok (.iload 6, 2) := by decide +kernel
theorem dX3_follow_38 : decode cX3_follow 38 = .ok (.aload_n 1, 1) := by decide +kernel
theorem dX3_follow_39 : decode cX3_follow 39 = .ok (.getfield 42, 3) := by decide +kernel
theorem dX3_follow_42 : decode cX3_follow 42 = .ok (.if_icmp .ge 53, 3) := by decide +kernel
theorem dX3_follow_45 : decode cX3_follow 45 = .ok (.aload_n 1, 1) := by decide +kernel
theorem dX3_follow_46 : decode cX3_follow 46 = .ok (.getfield 45, 3) := by decide +kernel
theorem dX3_follow_49 : decode cX3_follow 49 = .ok (.iload 6, 2) := by decide +kernel
theorem dX3_follow_51 : decode cX3_follow 51 = .ok (.iaload, 1) := by decide +kernel
theorem dX3_follow_52 : decode cX3_follow 52 = .ok (.iload_n 2, 1) := by decide +kernel
theorem dX3_follow_53 : decode cX3_follow 53 = .ok (.if_icmp .ne 36, 3) := by decide +kernel
theorem dX3_follow_56 : decode cX3_follow 56 = .ok (.aload_n 1, 1) := by decide +kernel
theorem dX3_follow_57 : decode cX3_follow 57 = .ok (.getfield 48, 3) := by decide +kernel
theorem dX3_follow_60 : decode cX3_follow 60 = .ok (.iload 6, 2) := by decide +kernel
theorem dX3_follow_62 : decode cX3_follow 62 = .ok (.iaload, 1) := by decide +kernel
theorem dX3_follow_63 : decode cX3_follow 63 = .ok (.istore 7, 2) := by decide +kernel
theorem dX3_follow_65 : decode cX3_follow 65 = .ok (.aload_n 0, 1) := by decide +kernel
theorem dX3_follow_66 : decode cX3_follow 66 = .ok (.aload_n 1, 1) := by decide +kernel
theorem dX3_follow_67 : decode cX3_follow 67 = .ok (.iload 7, 2) := by decide +kernel
theorem dX3_follow_69 : decode cX3_follow 69 = .ok (.iload_n 3, 1) := by decide +kernel
theorem dX3_follow_70 : decode cX3_follow 70 = .ok (.iconst 1, 1) := by decide +kernel
theorem dX3_follow_71 : decode cX3_follow 71 = .ok (.iload 6, 2) := by decide +kernel
theorem dX3_follow_73 : decode cX3_follow 73 = .ok (.ishl, 1) := by decide +kernel
theorem dX3_follow_74 : decode cX3_follow 74 = .ok (.ior, 1) := by decide +kernel
theorem dX3_follow_75 : decode cX3_follow 75 = .ok (.iload 4, 2) := by decide +kernel
theorem dX3_follow_77 : decode cX3_follow 77 = .ok (.iconst 1, 1) := by decide +kernel
theorem dX3_follow_78 : decode cX3_follow 78 = .ok (.iload 7, 2) := by decide +kernel
theorem dX3_follow_80 : decode cX3_follow 80 = .ok (.ishl, 1) := by decide +kernel
theorem dX3_follow_81 : decode cX3_follow 81 = .ok (.ior, 1) := by decide +kernel
theorem dX3_follow_82 : decode cX3_follow 82 = .ok (.iload 5, 2) := by decide +kernel
theorem dX3_follow_84 : decode cX3_follow 84 = .ok (.iconst 1, 1) := by decide +kernel
theorem dX3_follow_85 : decode cX3_follow 85 = .ok (.iadd, 1) := by decide +kernel
theorem dX3_follow_86 : decode cX3_follow 86 = .ok (.invokestatic 29, 3) := by decide +kernel
theorem dX3_follow_89 : decode cX3_follow 89 = .ok (.iinc 6 1, 3) := by decide +kernel
theorem dX3_follow_92 : decode cX3_follow 92 = .ok (.goto (-56), 3) := by decide +kernel
theorem dX3_follow_95 : decode cX3_follow 95 = .ok (.return_, 1) := by decide +kernel
theorem dX3_add_0 : decode cX3_add 0 = .ok (.aload_n 0, 1) := by decide +kernel
theorem dX3_add_1 : decode cX3_add 1 = .ok (.getfield 22, 3) := by decide +kernel
theorem dX3_add_4 : decode cX3_add 4 = .ok (.sipush 200, 3) := by decide +kernel
theorem dX3_add_7 : decode cX3_add 7 = .ok (.if_icmp .lt 9, 3) := by decide +kernel
theorem dX3_add_10 : decode cX3_add 10 = .ok (.aload_n 0, 1) := by decide +kernel
theorem dX3_add_11 : decode cX3_add 11 = .ok (.iconst 1, 1) := by decide +kernel
theorem dX3_add_12 : decode cX3_add 12 = .ok (.putfield 26, 3) := by decide +kernel
theorem dX3_add_15 : decode cX3_add 15 = .ok (.return_, 1) := by decide +kernel
theorem dX3_add_16 : decode cX3_add 16 = .ok (.aload_n 0, 1) := by decide +kernel
theorem dX3_add_17 : decode cX3_add 17 = .ok (.getfield 9, 3) := by decide +kernel
theorem dX3_add_20 : decode cX3_add 20 = .ok (.aload_n 0, 1) := by decide +kernel
theorem dX3_add_21 : decode cX3_add 21 = .ok (.getfield 22, 3) := by decide +kernel
theorem dX3_add_24 : decode cX3_add 24 = .ok (.iload_n 1, 1) := by decide +kernel
theorem dX3_add_25 : decode cX3_add 25 = .ok (.iastore, 1) := by decide +kernel
theorem dX3_add_26 : decode cX3_add 26 = .ok (.aload_n 0, 1) := by decide +kernel
theorem dX3_add_27 : decode cX3_add 27 = .ok (.getfield 15, 3) := by decide +kernel
theorem dX3_add_30 : decode cX3_add 30 = .ok (.aload_n 0, 1) := by decide +kernel
theorem dX3_add_31 : decode cX3_add 31 = .ok (.getfield 22, 3) := by decide +kernel
theorem dX3_add_34 : decode cX3_add 34 = .ok (.iload_n 2, 1) := by decide +kernel
theorem dX3_add_35 : decode cX3_add 35 = .ok (.iastore, 1) := by decide +kernel
theorem dX3_add_36 : decode cX3_add 36 = .ok (.aload_n 0, 1) := by decide +kernel
theorem dX3_add_37 : decode cX3_add 37 = .ok (.dup, 1) := by decide +kernel
theorem dX3_add_38 : decode cX3_add 38 = .ok (.getfield 22, 3) := by decide +kernel
theorem dX3_add_41 : decode cX3_add 41 = .ok (.iconst 1, 1) := by decide +kernel
theorem dX3_add_42 : decode cX3_add 42 = .ok (.iadd, 1) := by decide +kernel
theorem dX3_add_43 : decode cX3_add 43 = .ok (.putfield 22, 3) := by decide +kernel
theorem dX3_add_46 : decode cX3_add 46 = .ok (.return_, 1) := by decide +kernel
theorem dX3_firstLike_0 : decode cX3_firstLike 0 = .ok (.aload_n 0, 1) := by decide +kernel
theorem dX3_firstLike_1 : decode cX3_firstLike 1 = .ok (.getfield 9, 3) := by decide +kernel
theorem dX3_firstLike_4 : decode cX3_firstLike 4 = .ok (.iload_n 1, 1) := by decide +kernel
theorem dX3_firstLike_5 : decode cX3_firstLike 5 = .ok (.iaload, 1) := by decide +kernel
theorem dX3_firstLike_6 : decode cX3_firstLike 6 = .ok (.iload_n 2, 1) := by decide +kernel
theorem dX3_firstLike_7 : decode cX3_firstLike 7 = .ok (.iand, 1) := by decide +kernel
theorem dX3_firstLike_8 : decode cX3_firstLike 8 = .ok (.istore_n 3, 1) := by decide +kernel
theorem dX3_firstLike_9 : decode cX3_firstLike 9 = .ok (.iconst 0, 1) := by decide +kernel
theorem dX3_firstLike_10 : decode cX3_firstLike 10 = .ok (.istore 4, 2) := by decide +kernel
theorem dX3_firstLike_12 : decode cX3_firstLike 12 = .ok (.iload 4, 2) := by decide +kernel
theorem dX3_firstLike_14 : decode cX3_firstLike 14 = .ok (.iload_n 1, 1) := by decide +kernel
theorem dX3_firstLike_15 : decode cX3_firstLike 15 = .ok (.if_icmp .ge 25, 3) := by decide +kernel
theorem dX3_firstLike_18 : decode cX3_firstLike 18 = .ok (.aload_n 0, 1) := by decide +kernel
theorem dX3_firstLike_19 : decode cX3_firstLike 19 = .ok (.getfield 9, 3) := by decide +kernel
theorem dX3_firstLike_22 : decode cX3_firstLike 22 = .ok (.iload 4, 2) := by decide +kernel
theorem dX3_firstLike_24 : decode cX3_firstLike 24 = .ok (.iaload, 1) := by decide +kernel
theorem dX3_firstLike_25 : decode cX3_firstLike 25 = .ok (.iload_n 2, 1) := by decide +kernel
theorem dX3_firstLike_26 : decode cX3_firstLike 26 = .ok (.iand, 1) := by decide +kernel
theorem dX3_firstLike_27 : decode cX3_firstLike 27 = .ok (.iload_n 3, 1) := by decide +kernel
theorem dX3_firstLike_28 : decode cX3_firstLike 28 = .ok (.if_icmp .ne 6, 3) := by decide +kernel
theorem dX3_firstLike_31 : decode cX3_firstLike 31 = .ok (.iload 4, 2) := by decide +kernel
theorem dX3_firstLike_33 : decode cX3_firstLike 33 = .ok (.ireturn, 1) := by decide +kernel
theorem dX3_firstLike_34 : decode cX3_firstLike 34 = .ok (.iinc 4 1, 3) := by decide +kernel
theorem dX3_firstLike_37 : decode cX3_firstLike 37 = .ok (.goto (-25), 3) := by decide +kernel
theorem dX3_firstLike_40 : decode cX3_firstLike 40 = .ok (.iload_n 1, 1) := by decide +kernel
theorem dX3_firstLike_41 : decode cX3_firstLike 41 = .ok (.ireturn, 1) := by decide +kernel
theorem dX3_logsUnlike_0 : decode cX3_logsUnlike 0 = .ok (.iconst 0, 1) := by decide +kernel
theorem dX3_logsUnlike_1 : decode cX3_logsUnlike 1 = .ok (.istore_n 2, 1) := by decide +kernel
theorem dX3_logsUnlike_2 : decode cX3_logsUnlike 2 = .ok (.iconst 0, 1) := by decide +kernel
theorem dX3_logsUnlike_3 : decode cX3_logsUnlike 3 = .ok (.istore_n 3, 1) := by decide +kernel
theorem dX3_logsUnlike_4 : decode cX3_logsUnlike 4 = .ok (.iload_n 3, 1) := by decide +kernel
theorem dX3_logsUnlike_5 : decode cX3_logsUnlike 5 = .ok (.aload_n 0, 1) := by decide +kernel
theorem dX3_logsUnlike_6 : decode cX3_logsUnlike 6 = .ok (.getfield 22, 3) := by decide +kernel
theorem dX3_logsUnlike_9 : decode cX3_logsUnlike 9 = .ok (.if_icmp .ge 22, 3) := by decide +kernel
theorem dX3_logsUnlike_12 : decode cX3_logsUnlike 12 = .ok (.aload_n 0, 1) := by decide +kernel
theorem dX3_logsUnlike_13 : decode cX3_logsUnlike 13 = .ok (.iload_n 3, 1) := by decide +kernel
theorem dX3_logsUnlike_14 : decode cX3_logsUnlike 14 = .ok (.iload_n 1, 1) := by decide +kernel
theorem dX3_logsUnlike_15 : decode cX3_logsUnlike 15 = .ok (.invokevirtual 51, 3) := by decide +kernel
theorem dX3_logsUnlike_18 : decode cX3_logsUnlike 18 = .ok (.iload_n 3, 1) := by decide +kernel
theorem dX3_logsUnlike_19 : decode cX3_logsUnlike 19 = .ok (.if_icmp .ne 6, 3) := by decide +kernel
theorem dX3_logsUnlike_22 : decode cX3_logsUnlike 22 = .ok (.iinc 2 1, 3) := by decide +kernel
theorem dX3_logsUnlike_25 : decode cX3_logsUnlike 25 = .ok (.iinc 3 1, 3) := by decide +kernel
theorem dX3_logsUnlike_28 : decode cX3_logsUnlike 28 = .ok (.goto (-24), 3) := by decide +kernel
theorem dX3_logsUnlike_31 : decode cX3_logsUnlike 31 = .ok (.iload_n 2, 1) := by decide +kernel
theorem dX3_logsUnlike_32 : decode cX3_logsUnlike 32 = .ok (.ireturn, 1) := by decide +kernel
theorem dX3_soleParters_0 : decode cX3_soleParters 0 = .ok (.iconst 0, 1) := by decide +kernel
theorem dX3_soleParters_1 : decode cX3_soleParters 1 = .ok (.istore_n 2, 1) := by decide +kernel
theorem dX3_soleParters_2 : decode cX3_soleParters 2 = .ok (.iconst 0, 1) := by decide +kernel
theorem dX3_soleParters_3 : decode cX3_soleParters 3 = .ok (.istore_n 3, 1) := by decide +kernel
theorem dX3_soleParters_4 : decode cX3_soleParters 4 = .ok (.iload_n 3, 1) := by decide +kernel
theorem dX3_soleParters_5 : decode cX3_soleParters 5 = .ok (.aload_n 0, 1) := by decide +kernel
theorem dX3_soleParters_6 : decode cX3_soleParters 6 = .ok (.getfield 22, 3) := by decide +kernel
theorem dX3_soleParters_9 : decode cX3_soleParters 9 = .ok (.if_icmp .ge 66, 3) := by decide +kernel
theorem dX3_soleParters_12 : decode cX3_soleParters 12 = .ok (.iload_n 2, 1) := by decide +kernel
theorem dX3_soleParters_13 : decode cX3_soleParters 13 = .ok (.iload_n 1, 1) := by decide +kernel
theorem dX3_soleParters_14 : decode cX3_soleParters 14 = .ok (.if_icmp .eq 61, 3) := by decide +kernel
theorem dX3_soleParters_17 : decode cX3_soleParters 17 = .ok (.iload_n 3, 1) := by decide +kernel
theorem dX3_soleParters_18 : decode cX3_soleParters 18 = .ok (.iconst 1, 1) := by decide +kernel
theorem dX3_soleParters_19 : decode cX3_soleParters 19 = .ok (.iadd, 1) := by decide +kernel
theorem dX3_soleParters_20 : decode cX3_soleParters 20 = .ok (.istore 4, 2) := by decide +kernel
theorem dX3_soleParters_22 : decode cX3_soleParters 22 = .ok (.iload 4, 2) := by decide +kernel
theorem dX3_soleParters_24 : decode cX3_soleParters 24 = .ok (.aload_n 0, 1) := by decide +kernel
theorem dX3_soleParters_25 : decode cX3_soleParters 25 = .ok (.getfield 22, 3) := by decide +kernel
theorem dX3_soleParters_28 : decode cX3_soleParters 28 = .ok (.if_icmp .ge 41, 3) := by decide +kernel
theorem dX3_soleParters_31 : decode cX3_soleParters 31 = .ok (.aload_n 0, 1) := by decide +kernel
theorem dX3_soleParters_32 : decode cX3_soleParters 32 = .ok (.getfield 9, 3) := by decide +kernel
theorem dX3_soleParters_35 : decode cX3_soleParters 35 = .ok (.iload_n 3, 1) := by decide +kernel
theorem dX3_soleParters_36 : decode cX3_soleParters 36 = .ok (.iaload, 1) := by decide +kernel
theorem dX3_soleParters_37 : decode cX3_soleParters 37 = .ok (.aload_n 0, 1) := by decide +kernel
theorem dX3_soleParters_38 : decode cX3_soleParters 38 = .ok (.getfield 9, 3) := by decide +kernel
theorem dX3_soleParters_41 : decode cX3_soleParters 41 = .ok (.iload 4, 2) := by decide +kernel
theorem dX3_soleParters_43 : decode cX3_soleParters 43 = .ok (.iaload, 1) := by decide +kernel
theorem dX3_soleParters_44 : decode cX3_soleParters 44 = .ok (.ixor, 1) := by decide +kernel
theorem dX3_soleParters_45 : decode cX3_soleParters 45 = .ok (.iload_n 1, 1) := by decide +kernel
theorem dX3_soleParters_46 : decode cX3_soleParters 46 = .ok (.iand, 1) := by decide +kernel
theorem dX3_soleParters_47 : decode cX3_soleParters 47 = .ok (.istore 5, 2) := by decide +kernel
theorem dX3_soleParters_49 : decode cX3_soleParters 49 = .ok (.iload 5, 2) := by decide +kernel
theorem dX3_soleParters_51 : decode cX3_soleParters 51 = .ok (.invokestatic 55, 3) := by decide +kernel
theorem dX3_soleParters_54 : decode cX3_soleParters 54 = .ok (.iconst 1, 1) := by decide +kernel
theorem dX3_soleParters_55 : decode cX3_soleParters 55 = .ok (.if_icmp .ne 8, 3) := by decide +kernel
theorem dX3_soleParters_58 : decode cX3_soleParters 58 = .ok (.iload_n 2, 1) := by decide +kernel
theorem dX3_soleParters_59 : decode cX3_soleParters 59 = .ok (.iload 5, 2) := by decide +kernel
theorem dX3_soleParters_61 : decode cX3_soleParters 61 = .ok (.ior, 1) := by decide +kernel
theorem dX3_soleParters_62 : decode cX3_soleParters 62 = .ok (.istore_n 2, 1) := by decide +kernel
theorem dX3_soleParters_63 : decode cX3_soleParters 63 = .ok (.iinc 4 1, 3) := by decide +kernel
theorem dX3_soleParters_66 : decode cX3_soleParters 66 = .ok (.goto (-44), 3) := by decide +kernel
theorem dX3_soleParters_69 : decode cX3_soleParters 69 = .ok (.iinc 3 1, 3) := by decide +kernel
theorem dX3_soleParters_72 : decode cX3_soleParters 72 = .ok (.goto (-68), 3) := by decide +kernel
theorem dX3_soleParters_75 : decode cX3_soleParters 75 = .ok (.iload_n 2, 1) := by decide +kernel
theorem dX3_soleParters_76 : decode cX3_soleParters 76 = .ok (.ireturn, 1) := by decide +kernel
theorem dX3_firstPairPartedBy_0 : decode cX3_firstPairPartedBy 0 = .ok (.iconst 0, 1) := by decide +kernel
theorem dX3_firstPairPartedBy_1 : decode cX3_firstPairPartedBy 1 = .ok (.istore_n 3, 1) := by decide +kernel
theorem dX3_firstPairPartedBy_2 : decode cX3_firstPairPartedBy 2 = .ok (.iload_n 3, 1) := by decide +kernel
theorem dX3_firstPairPartedBy_3 : decode cX3_firstPairPartedBy 3 = .ok (.aload_n 0, 1) := by decide +kernel
theorem dX3_firstPairPartedBy_4 : decode cX3_firstPairPartedBy 4 = .ok (.getfield 22, 3) := by decide +kernel
theorem dX3_firstPairPartedBy_7 : decode cX3_firstPairPartedBy 7 = .ok (.if_icmp .ge 58, 3) := by decide +kernel
theorem dX3_firstPairPartedBy_10 : decode cX3_firstPairPartedBy 10 = .ok (.iload_n 3, 1) := by decide +kernel
theorem dX3_firstPairPartedBy_11 : decode cX3_firstPairPartedBy 11 = .ok (.iconst 1, 1) := by decide +kernel
theorem dX3_firstPairPartedBy_12 : decode cX3_firstPairPartedBy 12 = .ok (.iadd, 1) := by decide +kernel
theorem dX3_firstPairPartedBy_13 : decode cX3_firstPairPartedBy 13 = .ok (.istore 4, 2) := by decide +kernel
theorem dX3_firstPairPartedBy_15 : decode cX3_firstPairPartedBy 15 = .ok (.iload 4, 2) := by decide +kernel
theorem dX3_firstPairPartedBy_17 : decode cX3_firstPairPartedBy 17 = .ok (.aload_n 0, 1) := by decide +kernel
theorem dX3_firstPairPartedBy_18 : decode cX3_firstPairPartedBy 18 = .ok (.getfield 22, 3) := by decide +kernel
theorem dX3_firstPairPartedBy_21 : decode cX3_firstPairPartedBy 21 = .ok (.if_icmp .ge 38, 3) := by decide +kernel
theorem dX3_firstPairPartedBy_24 : decode cX3_firstPairPartedBy 24 = .ok (.aload_n 0, 1) := by decide +kernel
theorem dX3_firstPairPartedBy_25 : decode cX3_firstPairPartedBy 25 = .ok (.getfield 9, 3) := by decide +kernel
theorem dX3_firstPairPartedBy_28 : decode cX3_firstPairPartedBy 28 = .ok (.iload_n 3, 1) := by decide +kernel
theorem dX3_firstPairPartedBy_29 : decode cX3_firstPairPartedBy 29 = .ok (.iaload, 1) := by decide +kernel
theorem dX3_firstPairPartedBy_30 : decode cX3_firstPairPartedBy 30 = .ok (.aload_n 0, 1) := by decide +kernel
theorem dX3_firstPairPartedBy_31 : decode cX3_firstPairPartedBy 31 = .ok (.getfield 9, 3) := by decide +kernel
theorem dX3_firstPairPartedBy_34 : decode cX3_firstPairPartedBy 34 = .ok (.iload 4, 2) := by decide +kernel
theorem dX3_firstPairPartedBy_36 : decode cX3_firstPairPartedBy 36 = .ok (.iaload, 1) := by decide +kernel
theorem dX3_firstPairPartedBy_37 : decode cX3_firstPairPartedBy 37 = .ok (.ixor, 1) := by decide +kernel
theorem dX3_firstPairPartedBy_38 : decode cX3_firstPairPartedBy 38 = .ok (.iload_n 2, 1) := by decide +kernel
theorem dX3_firstPairPartedBy_39 : decode cX3_firstPairPartedBy 39 = .ok (.iand, 1) := by decide +kernel
theorem dX3_firstPairPartedBy_40 : decode cX3_firstPairPartedBy 40 = .ok (.iload_n 1, 1) := by decide +kernel
theorem dX3_firstPairPartedBy_41 : decode cX3_firstPairPartedBy 41 = .ok (.if_icmp .ne 12, 3) := by decide +kernel
theorem dX3_firstPairPartedBy_44 : decode cX3_firstPairPartedBy 44 = .ok (.iload_n 3, 1) := by decide +kernel
theorem dX3_firstPairPartedBy_45 : decode cX3_firstPairPartedBy 45 = .ok (.sipush 200, 3) := by decide +kernel
theorem dX3_firstPairPartedBy_48 : decode cX3_firstPairPartedBy 48 = .ok (.imul, 1) := by decide +kernel
theorem dX3_firstPairPartedBy_49 : decode cX3_firstPairPartedBy 49 = .ok (.iload 4, 2) := by decide +kernel
theorem dX3_firstPairPartedBy_51 : decode cX3_firstPairPartedBy 51 = .ok (.iadd, 1) := by decide +kernel
theorem dX3_firstPairPartedBy_52 : decode cX3_firstPairPartedBy 52 = .ok (.ireturn, 1) := by decide +kernel
theorem dX3_firstPairPartedBy_53 : decode cX3_firstPairPartedBy 53 = .ok (.iinc 4 1, 3) := by decide +kernel
theorem dX3_firstPairPartedBy_56 : decode cX3_firstPairPartedBy 56 = .ok (.goto (-41), 3) := by decide +kernel
theorem dX3_firstPairPartedBy_59 : decode cX3_firstPairPartedBy 59 = .ok (.iinc 3 1, 3) := by decide +kernel
theorem dX3_firstPairPartedBy_62 : decode cX3_firstPairPartedBy 62 = .ok (.goto (-60), 3) := by decide +kernel
theorem dX3_firstPairPartedBy_65 : decode cX3_firstPairPartedBy 65 = .ok (.iconst (-1), 1) := by decide +kernel
theorem dX3_firstPairPartedBy_66 : decode cX3_firstPairPartedBy 66 = .ok (.ireturn, 1) := by decide +kernel
theorem dX4_init_0 : decode cX4_init 0 = .ok (.aload_n 0, 1) := by decide +kernel
theorem dX4_init_1 : decode cX4_init 1 = .ok (.invokespecial 3, 3) := by decide +kernel
theorem dX4_init_4 : decode cX4_init 4 = .ok (.aload_n 0, 1) := by decide +kernel
theorem dX4_init_5 : decode cX4_init 5 = .ok (.aload_n 1, 1) := by decide +kernel
theorem dX4_init_6 : decode cX4_init 6 = .ok (.putfield 9, 3) := by decide +kernel
theorem dX4_init_9 : decode cX4_init 9 = .ok (.return_, 1) := by decide +kernel
theorem dX4_cheapestWith_0 : decode cX4_cheapestWith 0 = .ok (.aload_n 0, 1) := by decide +kernel
theorem dX4_cheapestWith_1 : decode cX4_cheapestWith 1 = .ok (.aload_n 0, 1) := by decide +kernel
theorem dX4_cheapestWith_2 : decode cX4_cheapestWith 2 = .ok (.getfield 9, 3) := by decide +kernel
theorem dX4_cheapestWith_5 : decode cX4_cheapestWith 5 = .ok (.invokevirtual 15, 3) := by decide +kernel
theorem dX4_cheapestWith_8 : decode cX4_cheapestWith 8 = .ok (.putfield 21, 3) := by decide +kernel
theorem dX4_cheapestWith_11 : decode cX4_cheapestWith 11 = .ok (.aload_n 0, 1) := by decide +kernel
theorem dX4_cheapestWith_12 : decode cX4_cheapestWith 12 = .ok (.aload_n 0, 1) := by decide +kernel
theorem dX4_cheapestWith_13 : decode cX4_cheapestWith 13 = .ok (.getfield 9, 3) := by decide +kernel
theorem dX4_cheapestWith_16 : decode cX4_cheapestWith 16 = .ok (.aload_n 0, 1) := by decide +kernel
theorem dX4_cheapestWith_17 : decode cX4_cheapestWith 17 = .ok (.getfield 21, 3) := by decide +kernel
theorem dX4_cheapestWith_20 : decode cX4_cheapestWith 20 = .ok (.invokevirtual 25, 3) := by decide +kernel
theorem dX4_cheapestWith_23 : decode cX4_cheapestWith 23 = .ok (.putfield 29, 3) := by decide +kernel
theorem dX4_cheapestWith_26 : decode cX4_cheapestWith 26 = .ok (.aload_n 0, 1) := by decide +kernel
theorem dX4_cheapestWith_27 : decode cX4_cheapestWith 27 = .ok (.aload_n 2, 1) := by decide +kernel
theorem dX4_cheapestWith_28 : decode cX4_cheapestWith 28 = .ok (.iconst 0, 1) := by decide +kernel
theorem dX4_cheapestWith_29 : decode cX4_cheapestWith 29 = .ok (.iload_n 1, 1) := by decide +kernel
theorem dX4_cheapestWith_30 : decode cX4_cheapestWith 30 = .ok (.iconst 0, 1) := by decide +kernel
theorem dX4_cheapestWith_31 : decode cX4_cheapestWith 31 = .ok (.aload_n 0, 1) := by decide +kernel
theorem dX4_cheapestWith_32 : decode cX4_cheapestWith 32 = .ok (.getfield 9, 3) := by decide +kernel
theorem dX4_cheapestWith_35 : decode cX4_cheapestWith 35 = .ok (.iload_n 1, 1) := by decide +kernel
theorem dX4_cheapestWith_36 : decode cX4_cheapestWith 36 = .ok (.invokevirtual 25, 3) := by decide +kernel
theorem dX4_cheapestWith_39 : decode cX4_cheapestWith 39 = .ok (.iconst 0, 1) := by decide +kernel
theorem dX4_cheapestWith_40 : decode cX4_cheapestWith 40 = .ok (.invokestatic 33, 3) := by decide +kernel
theorem dX4_cheapestWith_43 : decode cX4_cheapestWith 43 = .ok (.aload_n 0, 1) := by decide +kernel
theorem dX4_cheapestWith_44 : decode cX4_cheapestWith 44 = .ok (.getfield 21, 3) := by decide +kernel
theorem dX4_cheapestWith_47 : decode cX4_cheapestWith 47 = .ok (.ireturn, 1) := by decide +kernel
theorem dX4_choose_0 : decode cX4_choose 0 = .ok (.aload_n 1, 1) := by decide +kernel
theorem dX4_choose_1 : decode cX4_choose 1 = .ok (.iload_n 3, 1) := by decide +kernel
theorem dX4_choose_2 : decode cX4_choose 2 = .ok (.iload_n 2, 1) := by decide +kernel
theorem dX4_choose_3 : decode cX4_choose 3 = .ok (.invokevirtual 37, 3) := by decide +kernel
theorem dX4_choose_6 : decode cX4_choose 6 = .ok (.istore 8, 2) := by decide +kernel
theorem dX4_choose_8 : decode cX4_choose 8 = .ok (.iload 8, 2) := by decide +kernel
theorem dX4_choose_10 : decode cX4_choose 10 = .ok (.aload_n 1, 1) := by decide +kernel
theorem dX4_choose_11 : decode cX4_choose 11 = .ok (.getfield 43, 3) := by decide +kernel
theorem dX4_choose_14 : decode cX4_choose 14 = .ok (.if_icmp .lt 11, 3) := by decide +kernel
theorem dX4_choose_17 : decode cX4_choose 17 = .ok (.aload_n 0, 1) := by decide +kernel
theorem dX4_choose_18 : decode cX4_choose 18 = .ok (.iload_n 3, 1) := by decide +kernel
theorem dX4_choose_19 : decode cX4_choose 19 = .ok (.lload 5, 2) := by decide +kernel
theorem dX4_choose_21 : decode cX4_choose 21 = .ok (.invokevirtual 46, 3) := by decide +kernel
theorem dX4_choose_24 : decode cX4_choose 24 = .ok (.return_, 1) := by decide +kernel
theorem dX4_choose_25 : decode cX4_choose 25 = .ok (.iload 7, 2) := by decide +kernel
theorem dX4_choose_27 : decode cX4_choose 27 = .ok (.bipush 16, 2) := by decide +kernel
theorem dX4_choose_29 : decode cX4_choose 29 = .ok (.if_icmp .lt 4, 3) := by decide +kernel
theorem dX4_choose_32 : decode cX4_choose 32 = .ok (.return_, 1) := by decide +kernel
theorem dX4_choose_33 : decode cX4_choose 33 = .ok (.iload 4, 2) := by decide +kernel
theorem dX4_choose_35 : decode cX4_choose 35 = .ok (.istore 9, 2) := by decide +kernel
theorem dX4_choose_37 : decode cX4_choose 37 = .ok (.iconst 0, 1) := by decide +kernel
theorem dX4_choose_38 : decode cX4_choose 38 = .ok (.istore 10, 2) := by decide +kernel
theorem dX4_choose_40 : decode cX4_choose 40 = .ok (.iload 10, 2) := by decide +kernel
theorem dX4_choose_42 : decode cX4_choose 42 = .ok (.aload_n 0, 1) := by decide +kernel
theorem dX4_choose_43 : decode cX4_choose 43 = .ok (.getfield 9, 3) := by decide +kernel
theorem dX4_choose_46 : decode cX4_choose 46 = .ok (.getfield 50, 3) := by decide +kernel
theorem dX4_choose_49 : decode cX4_choose 49 = .ok (.if_icmp .ge 93, 3) := by decide +kernel
theorem dX4_choose_52 : decode cX4_choose 52 = .ok (.aload_n 1, 1) := by decide +kernel
theorem dX4_choose_53 : decode cX4_choose 53 = .ok (.getfield 53, 3) := by decide +kernel
theorem dX4_choose_56 : decode cX4_choose 56 = .ok (.iload 8, 2) := by decide +kernel
theorem dX4_choose_58 : decode cX4_choose 58 = .ok (.iaload, 1) := by decide +kernel
theorem dX4_choose_59 : decode cX4_choose 59 = .ok (.iload 9, 2) := by decide +kernel
theorem dX4_choose_61 : decode cX4_choose 61 = .ok (.iconst (-1), 1) := by decide +kernel
theorem dX4_choose_62 : decode cX4_choose 62 = .ok (.ixor, 1) := by decide +kernel
theorem dX4_choose_63 : decode cX4_choose 63 = .ok (.iand, 1) := by decide +kernel
theorem dX4_choose_64 : decode cX4_choose 64 = .ok (.iload 10, 2) := by decide +kernel
theorem dX4_choose_66 : decode cX4_choose 66 = .ok (.invokestatic 57, 3) := by decide +kernel
theorem dX4_choose_69 : decode cX4_choose 69 = .ok (.ifCond .eq 67, 3) := by decide +kernel
theorem dX4_choose_72 : decode cX4_choose 72 = .ok (.iload_n 3, 1) := by decide +kernel
theorem dX4_choose_73 : decode cX4_choose 73 = .ok (.iconst 1, 1) := by decide +kernel
theorem dX4_choose_74 : decode cX4_choose 74 = .ok (.iload 10, 2) := by decide +kernel
theorem dX4_choose_76 : decode cX4_choose 76 = .ok (.ishl, 1) := by decide +kernel
theorem dX4_choose_77 : decode cX4_choose 77 = .ok (.ior, 1) := by decide +kernel
theorem dX4_choose_78 : decode cX4_choose 78 = .ok (.istore 11, 2) := by decide +kernel
theorem dX4_choose_80 : decode cX4_choose 80 = .ok (.lload 5, 2) := by decide +kernel
theorem dX4_choose_82 : decode cX4_choose 82 = .ok (.aload_n 0, 1) := by decide +kernel
theorem dX4_choose_83 : decode cX4_choose 83 = .ok (.getfield 9, 3) := by decide +kernel
theorem dX4_choose_86 : decode cX4_choose 86 = .ok (.getfield 61, 3) := by decide +kernel
theorem dX4_choose_89 : decode cX4_choose 89 = .ok (.iload 10, 2) := by decide +kernel
theorem dX4_choose_91 : decode cX4_choose 91 = .ok (.iaload, 1) := by decide +kernel
theorem dX4_choose_92 : decode cX4_choose 92 = .ok (.i2l, 1) := by decide +kernel
theorem dX4_choose_93 : decode cX4_choose 93 = .ok (.ladd, 1) := by decide +kernel
theorem dX4_choose_94 : decode cX4_choose 94 = .ok (.lconst 1, 1) := by decide +kernel
theorem dX4_choose_95 : decode cX4_choose 95 = .ok (.ladd, 1) := by decide +kernel
theorem dX4_choose_96 : decode cX4_choose 96 = .ok (.lstore 12, 2) := by decide +kernel
theorem dX4_choose_98 : decode cX4_choose 98 = .ok (.lload 12, 2) := by decide +kernel
theorem dX4_choose_100 : decode cX4_choose 100 = .ok (.aload_n 0, 1) := by decide +kernel
theorem dX4_choose_101 : decode cX4_choose 101 = .ok (.getfield 29, 3) := by decide +kernel
theorem dX4_choose_104 : decode cX4_choose 104 = .ok (.lcmp, 1) := by decide +kernel
theorem dX4_choose_105 : decode cX4_choose 105 = .ok (.ifCond .gt 22, 3) := by decide +kernel
theorem dX4_choose_108 : decode cX4_choose 108 = .ok (.aload_n 0, 1) := by decide +kernel
theorem dX4_choose_109 : decode cX4_choose 109 = .ok (.aload_n 1, 1) := by decide +kernel
theorem dX4_choose_110 : decode cX4_choose 110 = .ok (.iload 8, 2) := by decide +kernel
theorem dX4_choose_112 : decode cX4_choose 112 = .ok (.iconst 1, 1) := by decide +kernel
theorem dX4_choose_113 : decode cX4_choose 113 = .ok (.iadd, 1) := by decide +kernel
theorem dX4_choose_114 : decode cX4_choose 114 = .ok (.iload 11, 2) := by decide +kernel
theorem dX4_choose_116 : decode cX4_choose 116 = .ok (.iload 9, 2) := by decide +kernel
theorem dX4_choose_118 : decode cX4_choose 118 = .ok (.lload 12, 2) := by decide +kernel
theorem dX4_choose_120 : decode cX4_choose 120 = .ok (.iload 7, 2) := by decide +kernel
theorem dX4_choose_122 : decode cX4_choose 122 = .ok (.iconst 1, 1) := by decide +kernel
theorem dX4_choose_123 : decode cX4_choose 123 = .ok (.iadd, 1) := by decide +kernel
theorem dX4_choose_124 : decode cX4_choose 124 = .ok (.invokestatic 33, 3) := by decide +kernel
theorem dX4_choose_127 : decode cX4_choose 127 = .ok (.iload 9, 2) := by decide +kernel
theorem dX4_choose_129 : decode cX4_choose 129 = .ok (.iconst 1, 1) := by decide +kernel
theorem dX4_choose_130 : decode cX4_choose 130 = .ok (.iload 10, 2) := by decide +kernel
theorem dX4_choose_132 : decode cX4_choose 132 = .ok (.ishl, 1) := by decide +kernel
theorem dX4_choose_133 : decode cX4_choose 133 = .ok (.ior, 1) := by decide +kernel
theorem dX4_choose_134 : decode cX4_choose 134 = .ok (.istore 9, 2) := by decide +kernel
theorem dX4_choose_136 : decode cX4_choose 136 = .ok (.iinc 10 1, 3) := by decide +kernel
theorem dX4_choose_139 : decode cX4_choose 139 = .ok (.goto (-99), 3) := by decide +kernel
theorem dX4_choose_142 : decode cX4_choose 142 = .ok (.return_, 1) := by decide +kernel
theorem dX4_offer_0 : decode cX4_offer 0 = .ok (.lload_n 2, 1) := by decide +kernel
theorem dX4_offer_1 : decode cX4_offer 1 = .ok (.aload_n 0, 1) := by decide +kernel
theorem dX4_offer_2 : decode cX4_offer 2 = .ok (.getfield 29, 3) := by decide +kernel
theorem dX4_offer_5 : decode cX4_offer 5 = .ok (.lcmp, 1) := by decide +kernel
theorem dX4_offer_6 : decode cX4_offer 6 = .ok (.ifCond .lt 23, 3) := by decide +kernel
theorem dX4_offer_9 : decode cX4_offer 9 = .ok (.lload_n 2, 1) := by decide +kernel
theorem dX4_offer_10 : decode cX4_offer 10 = .ok (.aload_n 0, 1) := by decide +kernel
theorem dX4_offer_11 : decode cX4_offer 11 = .ok (.getfield 29, 3) := by decide +kernel
theorem dX4_offer_14 : decode cX4_offer 14 = .ok (.lcmp, 1) := by decide +kernel
theorem dX4_offer_15 : decode cX4_offer 15 = .ok (.ifCond .ne 24, 3) := by decide +kernel
theorem dX4_offer_18 : decode cX4_offer 18 = .ok (.iload_n 1, 1) := by decide +kernel
theorem dX4_offer_19 : decode cX4_offer 19 = .ok (.aload_n 0, 1) := by decide +kernel
theorem dX4_offer_20 : decode cX4_offer 20 = .ok (.getfield 21, 3) := by decide +kernel
theorem dX4_offer_23 : decode cX4_offer 23 = .ok (.invokestatic 64, 3) := by decide +kernel
theorem dX4_offer_26 : decode cX4_offer 26 = .ok (.ifCond .eq 13, 3) := by decide +kernel
theorem dX4_offer_29 : decode cX4_offer 29 = .ok (.aload_n 0, 1) := by decide +kernel
theorem dX4_offer_30 : decode cX4_offer 30 = .ok (.iload_n 1, 1) := by decide +kernel
theorem dX4_offer_31 : decode cX4_offer 31 = .ok (.putfield 21, 3) := by decide +kernel
theorem dX4_offer_34 : decode cX4_offer 34 = .ok (.aload_n 0, 1) := by decide +kernel
theorem dX4_offer_35 : decode cX4_offer 35 = .ok (.lload_n 2, 1) := by decide +kernel
theorem dX4_offer_36 : decode cX4_offer 36 = .ok (.putfield 29, 3) := by decide +kernel
theorem dX4_offer_39 : decode cX4_offer 39 = .ok (.return_, 1) := by decide +kernel
theorem dX4_isRatherThan_0 : decode cX4_isRatherThan 0 = .ok (.iload_n 0, 1) := by decide +kernel
theorem dX4_isRatherThan_1 : decode cX4_isRatherThan 1 = .ok (.invokestatic 67, 3) := by decide +kernel
theorem dX4_isRatherThan_4 : decode cX4_isRatherThan 4 = .ok (.iload_n 1, 1) := by decide +kernel
theorem dX4_isRatherThan_5 : decode cX4_isRatherThan 5 = .ok (.invokestatic 67, 3) := by decide +kernel
theorem dX4_isRatherThan_8 : decode cX4_isRatherThan 8 = .ok (.isub, 1) := by decide +kernel
theorem dX4_isRatherThan_9 : decode cX4_isRatherThan 9 = .ok (.istore_n 2, 1) := by decide +kernel
theorem dX4_isRatherThan_10 : decode cX4_isRatherThan 10 = .ok (.iload_n 0, 1) := by decide +kernel
theorem dX4_isRatherThan_11 : decode cX4_isRatherThan 11 = .ok (.iload_n 1, 1) := by decide +kernel
theorem dX4_isRatherThan_12 : decode cX4_isRatherThan 12 = .ok (.ixor, 1) := by decide +kernel
theorem dX4_isRatherThan_13 : decode cX4_isRatherThan 13 = .ok (.istore_n 3, 1) := by decide +kernel
theorem dX4_isRatherThan_14 : decode cX4_isRatherThan 14 = .ok (.iload_n 3, 1) := by decide +kernel
theorem dX4_isRatherThan_15 : decode cX4_isRatherThan 15 = .ok (.iload_n 3, 1) := by decide +kernel
theorem dX4_isRatherThan_16 : decode cX4_isRatherThan 16 = .ok (.ineg, 1) := by decide +kernel
theorem dX4_isRatherThan_17 : decode cX4_isRatherThan 17 = .ok (.iand, 1) := by decide +kernel
theorem dX4_isRatherThan_18 : decode cX4_isRatherThan 18 = .ok (.istore 4, 2) := by decide +kernel
theorem dX4_isRatherThan_20 : decode cX4_isRatherThan 20 = .ok (.iload_n 2, 1) := by decide +kernel
theorem dX4_isRatherThan_21 : decode cX4_isRatherThan 21 = .ok (.ifCond .lt 14, 3) := by decide +kernel
theorem dX4_isRatherThan_24 : decode cX4_isRatherThan 24 = .ok (.iload_n 2, 1) := by decide +kernel
theorem dX4_isRatherThan_25 : decode cX4_isRatherThan 25 = .ok (.ifCond .ne 14, 3) := by decide +kernel
theorem dX4_isRatherThan_28 : decode cX4_isRatherThan 28 = .ok (.iload_n 0, 1) := by decide +kernel
theorem dX4_isRatherThan_29 : decode cX4_isRatherThan 29 = .ok (.iload 4, 2) := by decide +kernel
theorem dX4_isRatherThan_31 : decode cX4_isRatherThan 31 = .ok (.iand, 1) := by decide +kernel
theorem dX4_isRatherThan_32 : decode cX4_isRatherThan 32 = .ok (.ifCond .eq 7, 3) := by decide +kernel
theorem dX4_isRatherThan_35 : decode cX4_isRatherThan 35 = .ok (.iconst 1, 1) := by decide +kernel
theorem dX4_isRatherThan_36 : decode cX4_isRatherThan 36 = .ok (.goto 4, 3) := by decide +kernel
theorem dX4_isRatherThan_39 : decode cX4_isRatherThan 39 = .ok (.iconst 0, 1) := by decide +kernel
theorem dX4_isRatherThan_40 : decode cX4_isRatherThan 40 = .ok (.ireturn, 1) := by decide +kernel
theorem dX5_init_0 : decode cX5_init 0 = .ok (.aload_n 0, 1) := by decide +kernel
theorem dX5_init_1 : decode cX5_init 1 = .ok (.invokespecial 3, 3) := by decide +kernel
theorem dX5_init_4 : decode cX5_init 4 = .ok (.aload_n 0, 1) := by decide +kernel
theorem dX5_init_5 : decode cX5_init 5 = .ok (.bipush 40, 2) := by decide +kernel
theorem dX5_init_7 : decode cX5_init 7 = .ok (.newarray .int, 2) := by decide +kernel
theorem dX5_init_9 : decode cX5_init 9 = .ok (.putfield 9, 3) := by decide +kernel
theorem dX5_init_12 : decode cX5_init 12 = .ok (.return_, 1) := by decide +kernel
theorem dX5_put_0 : decode cX5_put 0 = .ok (.iconst 3, 1) := by decide +kernel
theorem dX5_put_1 : decode cX5_put 1 = .ok (.istore_n 2, 1) := by decide +kernel
theorem dX5_put_2 : decode cX5_put 2 = .ok (.iload_n 2, 1) := by decide +kernel
theorem dX5_put_3 : decode cX5_put 3 = .ok (.ifCond .lt 47, 3) := by decide +kernel
theorem dX5_put_6 : decode cX5_put 6 = .ok (.aload_n 0, 1) := by decide +kernel
theorem dX5_put_7 : decode cX5_put 7 = .ok (.getfield 15, 3) := by decide +kernel
theorem dX5_put_10 : decode cX5_put 10 = .ok (.bipush 40, 2) := by decide +kernel
theorem dX5_put_12 : decode cX5_put 12 = .ok (.if_icmp .ge 38, 3) := by decide +kernel
theorem dX5_put_15 : decode cX5_put 15 = .ok (.aload_n 0, 1) := by decide +kernel
theorem dX5_put_16 : decode cX5_put 16 = .ok (.getfield 9, 3) := by decide +kernel
theorem dX5_put_19 : decode cX5_put 19 = .ok (.aload_n 0, 1) := by decide +kernel
theorem dX5_put_20 : decode cX5_put 20 = .ok (.getfield 15, 3) := by decide +kernel
theorem dX5_put_23 : decode cX5_put 23 = .ok (.iload_n 1, 1) := by decide +kernel
theorem dX5_put_24 : decode cX5_put 24 = .ok (.bipush 8, 2) := by decide +kernel
theorem dX5_put_26 : decode cX5_put 26 = .ok (.iload_n 2, 1) := by decide +kernel
theorem dX5_put_27 : decode cX5_put 27 = .ok (.imul, 1) := by decide +kernel
theorem dX5_put_28 : decode cX5_put 28 = .ok (.ishr, 1) := by decide +kernel
end
section
theorem dX5_put_29 : decode cX5_put 29 = .ok (.sipush 255, 3) := by decide +kernel
theorem dX5_put_32 : decode cX5_put 32 = .ok (.iand, 1) := by decide +kernel
theorem dX5_put_33 : decode cX5_put 33 = .ok (.iastore, 1) := by decide +kernel
theorem dX5_put_34 : decode cX5_put 34 = .ok (.aload_n 0, 1) := by decide +kernel
theorem dX5_put_35 : decode cX5_put 35 = .ok (.dup, 1) := by decide +kernel
theorem dX5_put_36 : decode cX5_put 36 = .ok (.getfield 15, 3) := by decide +kernel
theorem dX5_put_39 : decode cX5_put 39 = .ok (.iconst 1, 1) := by decide +kernel
theorem dX5_put_40 : decode cX5_put 40 = .ok (.iadd, 1) := by decide +kernel
theorem dX5_put_41 : decode cX5_put 41 = .ok (.putfield 15, 3) := by decide +kernel
theorem dX5_put_44 : decode cX5_put 44 = .ok (.iinc 2 (-1), 3) := by decide +kernel
theorem dX5_put_47 : decode cX5_put 47 = .ok (.goto (-45), 3) := by decide +kernel
theorem dX5_put_50 : decode cX5_put 50 = .ok (.return_, 1) := by decide +kernel
theorem dX6_init_0 : decode cX6_init 0 = .ok (.aload_n 0, 1) := by decide +kernel
theorem dX6_init_1 : decode cX6_init 1 = .ok (.invokespecial 3, 3) := by decide +kernel
theorem dX6_init_4 : decode cX6_init 4 = .ok (.aload_n 0, 1) := by decide +kernel
theorem dX6_init_5 : decode cX6_init 5 = .ok (.new 9, 3) := by decide +kernel
theorem dX6_init_8 : decode cX6_init 8 = .ok (.dup, 1) := by decide +kernel
theorem dX6_init_9 : decode cX6_init 9 = .ok (.invokespecial 11, 3) := by decide +kernel
theorem dX6_init_12 : decode cX6_init 12 = .ok (.putfield 12, 3) := by decide +kernel
theorem dX6_init_15 : decode cX6_init 15 = .ok (.aload_n 0, 1) := by decide +kernel
theorem dX6_init_16 : decode cX6_init 16 = .ok (.new 16, 3) := by decide +kernel
theorem dX6_init_19 : decode cX6_init 19 = .ok (.dup, 1) := by decide +kernel
theorem dX6_init_20 : decode cX6_init 20 = .ok (.invokespecial 18, 3) := by decide +kernel
theorem dX6_init_23 : decode cX6_init 23 = .ok (.putfield 19, 3) := by decide +kernel
theorem dX6_init_26 : decode cX6_init 26 = .ok (.aload_n 0, 1) := by decide +kernel
theorem dX6_init_27 : decode cX6_init 27 = .ok (.new 23, 3) := by decide +kernel
theorem dX6_init_30 : decode cX6_init 30 = .ok (.dup, 1) := by decide +kernel
theorem dX6_init_31 : decode cX6_init 31 = .ok (.invokespecial 25, 3) := by decide +kernel
theorem dX6_init_34 : decode cX6_init 34 = .ok (.putfield 26, 3) := by decide +kernel
theorem dX6_init_37 : decode cX6_init 37 = .ok (.aload_n 0, 1) := by decide +kernel
theorem dX6_init_38 : decode cX6_init 38 = .ok (.new 23, 3) := by decide +kernel
theorem dX6_init_41 : decode cX6_init 41 = .ok (.dup, 1) := by decide +kernel
theorem dX6_init_42 : decode cX6_init 42 = .ok (.invokespecial 25, 3) := by decide +kernel
theorem dX6_init_45 : decode cX6_init 45 = .ok (.putfield 30, 3) := by decide +kernel
theorem dX6_init_48 : decode cX6_init 48 = .ok (.aload_n 0, 1) := by decide +kernel
theorem dX6_init_49 : decode cX6_init 49 = .ok (.new 33, 3) := by decide +kernel
theorem dX6_init_52 : decode cX6_init 52 = .ok (.dup, 1) := by decide +kernel
theorem dX6_init_53 : decode cX6_init 53 = .ok (.aload_n 0, 1) := by decide +kernel
theorem dX6_init_54 : decode cX6_init 54 = .ok (.getfield 12, 3) := by decide +kernel
theorem dX6_init_57 : decode cX6_init 57 = .ok (.invokespecial 35, 3) := by decide +kernel
theorem dX6_init_60 : decode cX6_init 60 = .ok (.putfield 38, 3) := by decide +kernel
theorem dX6_init_63 : decode cX6_init 63 = .ok (.aload_n 0, 1) := by decide +kernel
theorem dX6_init_64 : decode cX6_init 64 = .ok (.new 42, 3) := by decide +kernel
theorem dX6_init_67 : decode cX6_init 67 = .ok (.dup, 1) := by decide +kernel
theorem dX6_init_68 : decode cX6_init 68 = .ok (.invokespecial 44, 3) := by decide +kernel
theorem dX6_init_71 : decode cX6_init 71 = .ok (.putfield 45, 3) := by decide +kernel
theorem dX6_init_74 : decode cX6_init 74 = .ok (.aload_n 0, 1) := by decide +kernel
theorem dX6_init_75 : decode cX6_init 75 = .ok (.new 49, 3) := by decide +kernel
theorem dX6_init_78 : decode cX6_init 78 = .ok (.dup, 1) := by decide +kernel
theorem dX6_init_79 : decode cX6_init 79 = .ok (.invokespecial 51, 3) := by decide +kernel
theorem dX6_init_82 : decode cX6_init 82 = .ok (.putfield 52, 3) := by decide +kernel
theorem dX6_init_85 : decode cX6_init 85 = .ok (.return_, 1) := by decide +kernel
theorem dX6_flow_0 : decode cX6_flow 0 = .ok (.iload_n 1, 1) := by decide +kernel
theorem dX6_flow_1 : decode cX6_flow 1 = .ok (.iconst 2, 1) := by decide +kernel
theorem dX6_flow_2 : decode cX6_flow 2 = .ok (.if_icmp .lt 9, 3) := by decide +kernel
theorem dX6_flow_5 : decode cX6_flow 5 = .ok (.iload_n 1, 1) := by decide +kernel
theorem dX6_flow_6 : decode cX6_flow 6 = .ok (.bipush 12, 2) := by decide +kernel
theorem dX6_flow_8 : decode cX6_flow 8 = .ok (.if_icmp .le 5, 3) := by decide +kernel
theorem dX6_flow_11 : decode cX6_flow 11 = .ok (.iconst 0, 1) := by decide +kernel
theorem dX6_flow_12 : decode cX6_flow 12 = .ok (.ireturn, 1) := by decide +kernel
theorem dX6_flow_13 : decode cX6_flow 13 = .ok (.aload_n 0, 1) := by decide +kernel
theorem dX6_flow_14 : decode cX6_flow 14 = .ok (.getfield 12, 3) := by decide +kernel
theorem dX6_flow_17 : decode cX6_flow 17 = .ok (.iload_n 1, 1) := by decide +kernel
theorem dX6_flow_18 : decode cX6_flow 18 = .ok (.invokevirtual 56, 3) := by decide +kernel
theorem dX6_flow_21 : decode cX6_flow 21 = .ok (.aload_n 0, 1) := by decide +kernel
theorem dX6_flow_22 : decode cX6_flow 22 = .ok (.getfield 52, 3) := by decide +kernel
theorem dX6_flow_25 : decode cX6_flow 25 = .ok (.invokevirtual 60, 3) := by decide +kernel
theorem dX6_flow_28 : decode cX6_flow 28 = .ok (.aload_n 0, 1) := by decide +kernel
theorem dX6_flow_29 : decode cX6_flow 29 = .ok (.invokevirtual 63, 3) := by decide +kernel
theorem dX6_flow_32 : decode cX6_flow 32 = .ok (.iconst 1, 1) := by decide +kernel
theorem dX6_flow_33 : decode cX6_flow 33 = .ok (.ireturn, 1) := by decide +kernel
theorem dX6_step_0 : decode cX6_step 0 = .ok (.aload_n 0, 1) := by decide +kernel
theorem dX6_step_1 : decode cX6_step 1 = .ok (.getfield 12, 3) := by decide +kernel
theorem dX6_step_4 : decode cX6_step 4 = .ok (.iload_n 1, 1) := by decide +kernel
theorem dX6_step_5 : decode cX6_step 5 = .ok (.invokevirtual 66, 3) := by decide +kernel
theorem dX6_step_8 : decode cX6_step 8 = .ok (.ifCond .eq 23, 3) := by decide +kernel
theorem dX6_step_11 : decode cX6_step 11 = .ok (.aload_n 0, 1) := by decide +kernel
theorem dX6_step_12 : decode cX6_step 12 = .ok (.getfield 12, 3) := by decide +kernel
theorem dX6_step_15 : decode cX6_step 15 = .ok (.iload_n 2, 1) := by decide +kernel
theorem dX6_step_16 : decode cX6_step 16 = .ok (.invokevirtual 66, 3) := by decide +kernel
theorem dX6_step_19 : decode cX6_step 19 = .ok (.ifCond .eq 12, 3) := by decide +kernel
theorem dX6_step_22 : decode cX6_step 22 = .ok (.iload_n 2, 1) := by decide +kernel
theorem dX6_step_23 : decode cX6_step 23 = .ok (.iload_n 1, 1) := by decide +kernel
theorem dX6_step_24 : decode cX6_step 24 = .ok (.if_icmp .le 7, 3) := by decide +kernel
theorem dX6_step_27 : decode cX6_step 27 = .ok (.iconst 1, 1) := by decide +kernel
theorem dX6_step_28 : decode cX6_step 28 = .ok (.goto 4, 3) := by decide +kernel
theorem dX6_step_31 : decode cX6_step 31 = .ok (.iconst 0, 1) := by decide +kernel
theorem dX6_step_32 : decode cX6_step 32 = .ok (.istore 4, 2) := by decide +kernel
theorem dX6_step_34 : decode cX6_step 34 = .ok (.iload 4, 2) := by decide +kernel
theorem dX6_step_36 : decode cX6_step 36 = .ok (.ifCond .eq 22, 3) := by decide +kernel
theorem dX6_step_39 : decode cX6_step 39 = .ok (.iload_n 3, 1) := by decide +kernel
theorem dX6_step_40 : decode cX6_step 40 = .ok (.invokestatic 70, 3) := by decide +kernel
theorem dX6_step_43 : decode cX6_step 43 = .ok (.ifCond .eq 15, 3) := by decide +kernel
theorem dX6_step_46 : decode cX6_step 46 = .ok (.aload_n 0, 1) := by decide +kernel
theorem dX6_step_47 : decode cX6_step 47 = .ok (.getfield 12, 3) := by decide +kernel
theorem dX6_step_50 : decode cX6_step 50 = .ok (.getfield 73, 3) := by decide +kernel
theorem dX6_step_53 : decode cX6_step 53 = .ok (.bipush 16, 2) := by decide +kernel
theorem dX6_step_55 : decode cX6_step 55 = .ok (.if_icmp .lt 5, 3) := by decide +kernel
theorem dX6_step_58 : decode cX6_step 58 = .ok (.iconst (-1), 1) := by decide +kernel
theorem dX6_step_59 : decode cX6_step 59 = .ok (.ireturn, 1) := by decide +kernel
theorem dX6_step_60 : decode cX6_step 60 = .ok (.aload_n 0, 1) := by decide +kernel
theorem dX6_step_61 : decode cX6_step 61 = .ok (.invokevirtual 63, 3) := by decide +kernel
theorem dX6_step_64 : decode cX6_step 64 = .ok (.aload_n 0, 1) := by decide +kernel
theorem dX6_step_65 : decode cX6_step 65 = .ok (.getfield 12, 3) := by decide +kernel
theorem dX6_step_68 : decode cX6_step 68 = .ok (.iload_n 1, 1) := by decide +kernel
theorem dX6_step_69 : decode cX6_step 69 = .ok (.iload_n 2, 1) := by decide +kernel
theorem dX6_step_70 : decode cX6_step 70 = .ok (.iload_n 3, 1) := by decide +kernel
theorem dX6_step_71 : decode cX6_step 71 = .ok (.invokevirtual 77, 3) := by decide +kernel
theorem dX6_step_74 : decode cX6_step 74 = .ok (.ireturn, 1) := by decide +kernel
theorem dX6_counted_0 : decode cX6_counted 0 = .ok (.aload_n 0, 1) := by decide +kernel
theorem dX6_counted_1 : decode cX6_counted 1 = .ok (.getfield 12, 3) := by decide +kernel
theorem dX6_counted_4 : decode cX6_counted 4 = .ok (.iload_n 1, 1) := by decide +kernel
theorem dX6_counted_5 : decode cX6_counted 5 = .ok (.invokevirtual 81, 3) := by decide +kernel
theorem dX6_counted_8 : decode cX6_counted 8 = .ok (.ifCond .eq 10, 3) := by decide +kernel
theorem dX6_counted_11 : decode cX6_counted 11 = .ok (.iload_n 2, 1) := by decide +kernel
theorem dX6_counted_12 : decode cX6_counted 12 = .ok (.invokestatic 70, 3) := by decide +kernel
theorem dX6_counted_15 : decode cX6_counted 15 = .ok (.ifCond .ne 5, 3) := by decide +kernel
theorem dX6_counted_18 : decode cX6_counted 18 = .ok (.iconst 0, 1) := by decide +kernel
theorem dX6_counted_19 : decode cX6_counted 19 = .ok (.ireturn, 1) := by decide +kernel
theorem dX6_counted_20 : decode cX6_counted 20 = .ok (.aload_n 0, 1) := by decide +kernel
theorem dX6_counted_21 : decode cX6_counted 21 = .ok (.getfield 12, 3) := by decide +kernel
theorem dX6_counted_24 : decode cX6_counted 24 = .ok (.getfield 84, 3) := by decide +kernel
theorem dX6_counted_27 : decode cX6_counted 27 = .ok (.iload_n 1, 1) := by decide +kernel
theorem dX6_counted_28 : decode cX6_counted 28 = .ok (.iload_n 2, 1) := by decide +kernel
theorem dX6_counted_29 : decode cX6_counted 29 = .ok (.iastore, 1) := by decide +kernel
theorem dX6_counted_30 : decode cX6_counted 30 = .ok (.iconst 1, 1) := by decide +kernel
theorem dX6_counted_31 : decode cX6_counted 31 = .ok (.ireturn, 1) := by decide +kernel
theorem dX6_line_0 : decode cX6_line 0 = .ok (.aload_n 0, 1) := by decide +kernel
theorem dX6_line_1 : decode cX6_line 1 = .ok (.getfield 12, 3) := by decide +kernel
theorem dX6_line_4 : decode cX6_line 4 = .ok (.iload_n 1, 1) := by decide +kernel
theorem dX6_line_5 : decode cX6_line 5 = .ok (.invokevirtual 81, 3) := by decide +kernel
theorem dX6_line_8 : decode cX6_line 8 = .ok (.ifCond .eq 18, 3) := by decide +kernel
theorem dX6_line_11 : decode cX6_line 11 = .ok (.aload_n 0, 1) := by decide +kernel
theorem dX6_line_12 : decode cX6_line 12 = .ok (.getfield 12, 3) := by decide +kernel
theorem dX6_line_15 : decode cX6_line 15 = .ok (.getfield 88, 3) := by decide +kernel
theorem dX6_line_18 : decode cX6_line 18 = .ok (.iload_n 1, 1) := by decide +kernel
theorem dX6_line_19 : decode cX6_line 19 = .ok (.invokestatic 91, 3) := by decide +kernel
theorem dX6_line_22 : decode cX6_line 22 = .ok (.iload_n 2, 1) := by decide +kernel
theorem dX6_line_23 : decode cX6_line 23 = .ok (.if_icmp .ne 5, 3) := by decide +kernel
theorem dX6_line_26 : decode cX6_line 26 = .ok (.iconst 0, 1) := by decide +kernel
theorem dX6_line_27 : decode cX6_line 27 = .ok (.ireturn, 1) := by decide +kernel
theorem dX6_line_28 : decode cX6_line 28 = .ok (.aload_n 0, 1) := by decide +kernel
theorem dX6_line_29 : decode cX6_line 29 = .ok (.getfield 12, 3) := by decide +kernel
theorem dX6_line_32 : decode cX6_line 32 = .ok (.dup, 1) := by decide +kernel
theorem dX6_line_33 : decode cX6_line 33 = .ok (.getfield 88, 3) := by decide +kernel
theorem dX6_line_36 : decode cX6_line 36 = .ok (.iconst 1, 1) := by decide +kernel
theorem dX6_line_37 : decode cX6_line 37 = .ok (.iload_n 1, 1) := by decide +kernel
theorem dX6_line_38 : decode cX6_line 38 = .ok (.ishl, 1) := by decide +kernel
theorem dX6_line_39 : decode cX6_line 39 = .ok (.ixor, 1) := by decide +kernel
theorem dX6_line_40 : decode cX6_line 40 = .ok (.putfield 88, 3) := by decide +kernel
theorem dX6_line_43 : decode cX6_line 43 = .ok (.iconst 1, 1) := by decide +kernel
theorem dX6_line_44 : decode cX6_line 44 = .ok (.ireturn, 1) := by decide +kernel
theorem dX6_fault_0 : decode cX6_fault 0 = .ok (.aload_n 0, 1) := by decide +kernel
theorem dX6_fault_1 : decode cX6_fault 1 = .ok (.getfield 12, 3) := by decide +kernel
theorem dX6_fault_4 : decode cX6_fault 4 = .ok (.iload_n 1, 1) := by decide +kernel
theorem dX6_fault_5 : decode cX6_fault 5 = .ok (.invokevirtual 66, 3) := by decide +kernel
theorem dX6_fault_8 : decode cX6_fault 8 = .ok (.ifCond .eq 18, 3) := by decide +kernel
theorem dX6_fault_11 : decode cX6_fault 11 = .ok (.aload_n 0, 1) := by decide +kernel
theorem dX6_fault_12 : decode cX6_fault 12 = .ok (.getfield 12, 3) := by decide +kernel
theorem dX6_fault_15 : decode cX6_fault 15 = .ok (.getfield 95, 3) := by decide +kernel
theorem dX6_fault_18 : decode cX6_fault 18 = .ok (.iload_n 1, 1) := by decide +kernel
theorem dX6_fault_19 : decode cX6_fault 19 = .ok (.invokestatic 91, 3) := by decide +kernel
theorem dX6_fault_22 : decode cX6_fault 22 = .ok (.iload_n 2, 1) := by decide +kernel
theorem dX6_fault_23 : decode cX6_fault 23 = .ok (.if_icmp .ne 5, 3) := by decide +kernel
theorem dX6_fault_26 : decode cX6_fault 26 = .ok (.iconst 0, 1) := by decide +kernel
theorem dX6_fault_27 : decode cX6_fault 27 = .ok (.ireturn, 1) := by decide +kernel
theorem dX6_fault_28 : decode cX6_fault 28 = .ok (.aload_n 0, 1) := by decide +kernel
theorem dX6_fault_29 : decode cX6_fault 29 = .ok (.getfield 12, 3) := by decide +kernel
theorem dX6_fault_32 : decode cX6_fault 32 = .ok (.dup, 1) := by decide +kernel
theorem dX6_fault_33 : decode cX6_fault 33 = .ok (.getfield 95, 3) := by decide +kernel
theorem dX6_fault_36 : decode cX6_fault 36 = .ok (.iconst 1, 1) := by decide +kernel
theorem dX6_fault_37 : decode cX6_fault 37 = .ok (.iload_n 1, 1) := by decide +kernel
theorem dX6_fault_38 : decode cX6_fault 38 = .ok (.ishl, 1) := by decide +kernel
theorem dX6_fault_39 : decode cX6_fault 39 = .ok (.ixor, 1) := by decide +kernel
theorem dX6_fault_40 : decode cX6_fault 40 = .ok (.putfield 95, 3) := by decide +kernel
theorem dX6_fault_43 : decode cX6_fault 43 = .ok (.aload_n 0, 1) := by decide +kernel
theorem dX6_fault_44 : decode cX6_fault 44 = .ok (.getfield 30, 3) := by decide +kernel
theorem dX6_fault_47 : decode cX6_fault 47 = .ok (.iconst 1, 1) := by decide +kernel
theorem dX6_fault_48 : decode cX6_fault 48 = .ok (.putfield 98, 3) := by decide +kernel
theorem dX6_fault_51 : decode cX6_fault 51 = .ok (.iconst 1, 1) := by decide +kernel
theorem dX6_fault_52 : decode cX6_fault 52 = .ok (.ireturn, 1) := by decide +kernel
theorem dX6_ways_0 : decode cX6_ways 0 = .ok (.aload_n 0, 1) := by decide +kernel
theorem dX6_ways_1 : decode cX6_ways 1 = .ok (.invokevirtual 102, 3) := by decide +kernel
theorem dX6_ways_4 : decode cX6_ways 4 = .ok (.ifCond .eq 8, 3) := by decide +kernel
theorem dX6_ways_7 : decode cX6_ways 7 = .ok (.bipush (-2), 2) := by decide +kernel
theorem dX6_ways_9 : decode cX6_ways 9 = .ok (.goto 10, 3) := by decide +kernel
theorem dX6_ways_12 : decode cX6_ways 12 = .ok (.aload_n 0, 1) := by decide +kernel
theorem dX6_ways_13 : decode cX6_ways 13 = .ok (.getfield 19, 3) := by decide +kernel
theorem dX6_ways_16 : decode cX6_ways 16 = .ok (.getfield 106, 3) := by decide +kernel
theorem dX6_ways_19 : decode cX6_ways 19 = .ok (.ireturn, 1) := by decide +kernel
theorem dX6_way_0 : decode cX6_way 0 = .ok (.aload_n 0, 1) := by decide +kernel
theorem dX6_way_1 : decode cX6_way 1 = .ok (.iload_n 1, 1) := by decide +kernel
theorem dX6_way_2 : decode cX6_way 2 = .ok (.invokevirtual 109, 3) := by decide +kernel
theorem dX6_way_5 : decode cX6_way 5 = .ok (.ifCond .eq 23, 3) := by decide +kernel
theorem dX6_way_8 : decode cX6_way 8 = .ok (.aload_n 0, 1) := by decide +kernel
theorem dX6_way_9 : decode cX6_way 9 = .ok (.getfield 12, 3) := by decide +kernel
theorem dX6_way_12 : decode cX6_way 12 = .ok (.aload_n 0, 1) := by decide +kernel
theorem dX6_way_13 : decode cX6_way 13 = .ok (.getfield 19, 3) := by decide +kernel
theorem dX6_way_16 : decode cX6_way 16 = .ok (.getfield 112, 3) := by decide +kernel
theorem dX6_way_19 : decode cX6_way 19 = .ok (.iload_n 1, 1) := by decide +kernel
theorem dX6_way_20 : decode cX6_way 20 = .ok (.iaload, 1) := by decide +kernel
theorem dX6_way_21 : decode cX6_way 21 = .ok (.iload_n 2, 1) := by decide +kernel
theorem dX6_way_22 : decode cX6_way 22 = .ok (.invokevirtual 115, 3) := by decide +kernel
theorem dX6_way_25 : decode cX6_way 25 = .ok (.goto 4, 3) := by decide +kernel
theorem dX6_way_28 : decode cX6_way 28 = .ok (.iconst (-1), 1) := by decide +kernel
theorem dX6_way_29 : decode cX6_way 29 = .ok (.ireturn, 1) := by decide +kernel
theorem dX6_log_0 : decode cX6_log 0 = .ok (.aload_n 0, 1) := by decide +kernel
theorem dX6_log_1 : decode cX6_log 1 = .ok (.iload_n 1, 1) := by decide +kernel
theorem dX6_log_2 : decode cX6_log 2 = .ok (.invokevirtual 109, 3) := by decide +kernel
theorem dX6_log_5 : decode cX6_log 5 = .ok (.ifCond .eq 31, 3) := by decide +kernel
theorem dX6_log_8 : decode cX6_log 8 = .ok (.aload_n 0, 1) := by decide +kernel
theorem dX6_log_9 : decode cX6_log 9 = .ok (.getfield 12, 3) := by decide +kernel
theorem dX6_log_12 : decode cX6_log 12 = .ok (.aload_n 0, 1) := by decide +kernel
theorem dX6_log_13 : decode cX6_log 13 = .ok (.getfield 19, 3) := by decide +kernel
theorem dX6_log_16 : decode cX6_log 16 = .ok (.getfield 112, 3) := by decide +kernel
theorem dX6_log_19 : decode cX6_log 19 = .ok (.iload_n 1, 1) := by decide +kernel
theorem dX6_log_20 : decode cX6_log 20 = .ok (.iaload, 1) := by decide +kernel
theorem dX6_log_21 : decode cX6_log 21 = .ok (.aload_n 0, 1) := by decide +kernel
theorem dX6_log_22 : decode cX6_log 22 = .ok (.getfield 12, 3) := by decide +kernel
theorem dX6_log_25 : decode cX6_log 25 = .ok (.getfield 88, 3) := by decide +kernel
theorem dX6_log_28 : decode cX6_log 28 = .ok (.iand, 1) := by decide +kernel
theorem dX6_log_29 : decode cX6_log 29 = .ok (.iload_n 2, 1) := by decide +kernel
theorem dX6_log_30 : decode cX6_log 30 = .ok (.invokevirtual 115, 3) := by decide +kernel
theorem dX6_log_33 : decode cX6_log 33 = .ok (.goto 4, 3) := by decide +kernel
theorem dX6_log_36 : decode cX6_log 36 = .ok (.iconst (-1), 1) := by decide +kernel
theorem dX6_log_37 : decode cX6_log 37 = .ok (.ireturn, 1) := by decide +kernel
theorem dX6_heaps_0 : decode cX6_heaps 0 = .ok (.aload_n 0, 1) := by decide +kernel
theorem dX6_heaps_1 : decode cX6_heaps 1 = .ok (.invokevirtual 102, 3) := by decide +kernel
theorem dX6_heaps_4 : decode cX6_heaps 4 = .ok (.ifCond .eq 8, 3) := by decide +kernel
theorem dX6_heaps_7 : decode cX6_heaps 7 = .ok (.bipush (-2), 2) := by decide +kernel
theorem dX6_heaps_9 : decode cX6_heaps 9 = .ok (.goto 17, 3) := by decide +kernel
theorem dX6_heaps_12 : decode cX6_heaps 12 = .ok (.aload_n 0, 1) := by decide +kernel
theorem dX6_heaps_13 : decode cX6_heaps 13 = .ok (.getfield 19, 3) := by decide +kernel
theorem dX6_heaps_16 : decode cX6_heaps 16 = .ok (.aload_n 0, 1) := by decide +kernel
theorem dX6_heaps_17 : decode cX6_heaps 17 = .ok (.getfield 12, 3) := by decide +kernel
theorem dX6_heaps_20 : decode cX6_heaps 20 = .ok (.getfield 88, 3) := by decide +kernel
theorem dX6_heaps_23 : decode cX6_heaps 23 = .ok (.invokevirtual 119, 3) := by decide +kernel
theorem dX6_heaps_26 : decode cX6_heaps 26 = .ok (.ireturn, 1) := by decide +kernel
theorem dX6_heap_0 : decode cX6_heap 0 = .ok (.aload_n 0, 1) := by decide +kernel
theorem dX6_heap_1 : decode cX6_heap 1 = .ok (.iload_n 1, 1) := by decide +kernel
theorem dX6_heap_2 : decode cX6_heap 2 = .ok (.invokevirtual 109, 3) := by decide +kernel
theorem dX6_heap_5 : decode cX6_heap 5 = .ok (.ifCond .eq 21, 3) := by decide +kernel
theorem dX6_heap_8 : decode cX6_heap 8 = .ok (.aload_n 0, 1) := by decide +kernel
theorem dX6_heap_9 : decode cX6_heap 9 = .ok (.getfield 19, 3) := by decide +kernel
theorem dX6_heap_12 : decode cX6_heap 12 = .ok (.iload_n 1, 1) := by decide +kernel
theorem dX6_heap_13 : decode cX6_heap 13 = .ok (.aload_n 0, 1) := by decide +kernel
theorem dX6_heap_14 : decode cX6_heap 14 = .ok (.getfield 12, 3) := by decide +kernel
theorem dX6_heap_17 : decode cX6_heap 17 = .ok (.getfield 88, 3) := by decide +kernel
theorem dX6_heap_20 : decode cX6_heap 20 = .ok (.invokevirtual 123, 3) := by decide +kernel
theorem dX6_heap_23 : decode cX6_heap 23 = .ok (.goto 4, 3) := by decide +kernel
theorem dX6_heap_26 : decode cX6_heap 26 = .ok (.iconst (-1), 1) := by decide +kernel
theorem dX6_heap_27 : decode cX6_heap 27 = .ok (.ireturn, 1) := by decide +kernel
theorem dX6_apart_0 : decode cX6_apart 0 = .ok (.iload_n 1, 1) := by decide +kernel
theorem dX6_apart_1 : decode cX6_apart 1 = .ok (.invokestatic 126, 3) := by decide +kernel
theorem dX6_apart_4 : decode cX6_apart 4 = .ok (.ifCond .ne 5, 3) := by decide +kernel
theorem dX6_apart_7 : decode cX6_apart 7 = .ok (.iconst (-1), 1) := by decide +kernel
theorem dX6_apart_8 : decode cX6_apart 8 = .ok (.ireturn, 1) := by decide +kernel
theorem dX6_apart_9 : decode cX6_apart 9 = .ok (.aload_n 0, 1) := by decide +kernel
theorem dX6_apart_10 : decode cX6_apart 10 = .ok (.invokevirtual 102, 3) := by decide +kernel
theorem dX6_apart_13 : decode cX6_apart 13 = .ok (.ifCond .eq 6, 3) := by decide +kernel
theorem dX6_apart_16 : decode cX6_apart 16 = .ok (.bipush (-2), 2) := by decide +kernel
theorem dX6_apart_18 : decode cX6_apart 18 = .ok (.ireturn, 1) := by decide +kernel
theorem dX6_apart_19 : decode cX6_apart 19 = .ok (.aload_n 0, 1) := by decide +kernel
theorem dX6_apart_20 : decode cX6_apart 20 = .ok (.iload_n 1, 1) := by decide +kernel
theorem dX6_apart_21 : decode cX6_apart 21 = .ok (.invokevirtual 129, 3) := by decide +kernel
theorem dX6_apart_24 : decode cX6_apart 24 = .ok (.aload_n 0, 1) := by decide +kernel
theorem dX6_apart_25 : decode cX6_apart 25 = .ok (.getfield 12, 3) := by decide +kernel
theorem dX6_apart_28 : decode cX6_apart 28 = .ok (.getfield 88, 3) := by decide +kernel
theorem dX6_apart_31 : decode cX6_apart 31 = .ok (.invokevirtual 133, 3) := by decide +kernel
theorem dX6_apart_34 : decode cX6_apart 34 = .ok (.ifCond .eq 7, 3) := by decide +kernel
theorem dX6_apart_37 : decode cX6_apart 37 = .ok (.iconst 1, 1) := by decide +kernel
theorem dX6_apart_38 : decode cX6_apart 38 = .ok (.goto 4, 3) := by decide +kernel
theorem dX6_apart_41 : decode cX6_apart 41 = .ok (.iconst 0, 1) := by decide +kernel
theorem dX6_apart_42 : decode cX6_apart 42 = .ok (.ireturn, 1) := by decide +kernel
theorem dX6_cheapest_0 : decode cX6_cheapest 0 = .ok (.iload_n 1, 1) := by decide +kernel
theorem dX6_cheapest_1 : decode cX6_cheapest 1 = .ok (.invokestatic 126, 3) := by decide +kernel
theorem dX6_cheapest_4 : decode cX6_cheapest 4 = .ok (.ifCond .ne 5, 3) := by decide +kernel
theorem dX6_cheapest_7 : decode cX6_cheapest 7 = .ok (.iconst (-1), 1) := by decide +kernel
theorem dX6_cheapest_8 : decode cX6_cheapest 8 = .ok (.ireturn, 1) := by decide +kernel
theorem dX6_cheapest_9 : decode cX6_cheapest 9 = .ok (.aload_n 0, 1) := by decide +kernel
theorem dX6_cheapest_10 : decode cX6_cheapest 10 = .ok (.invokevirtual 102, 3) := by decide +kernel
theorem dX6_cheapest_13 : decode cX6_cheapest 13 = .ok (.ifCond .eq 6, 3) := by decide +kernel
theorem dX6_cheapest_16 : decode cX6_cheapest 16 = .ok (.bipush (-2), 2) := by decide +kernel
theorem dX6_cheapest_18 : decode cX6_cheapest 18 = .ok (.ireturn, 1) := by decide +kernel
theorem dX6_cheapest_19 : decode cX6_cheapest 19 = .ok (.aload_n 0, 1) := by decide +kernel
theorem dX6_cheapest_20 : decode cX6_cheapest 20 = .ok (.getfield 38, 3) := by decide +kernel
theorem dX6_cheapest_23 : decode cX6_cheapest 23 = .ok (.iload_n 2, 1) := by decide +kernel
theorem dX6_cheapest_24 : decode cX6_cheapest 24 = .ok (.ifCond .eq 13, 3) := by decide +kernel
theorem dX6_cheapest_27 : decode cX6_cheapest 27 = .ok (.aload_n 0, 1) := by decide +kernel
theorem dX6_cheapest_28 : decode cX6_cheapest 28 = .ok (.getfield 12, 3) := by decide +kernel
theorem dX6_cheapest_31 : decode cX6_cheapest 31 = .ok (.getfield 88, 3) := by decide +kernel
theorem dX6_cheapest_34 : decode cX6_cheapest 34 = .ok (.goto 4, 3) := by decide +kernel
theorem dX6_cheapest_37 : decode cX6_cheapest 37 = .ok (.iconst 0, 1) := by decide +kernel
theorem dX6_cheapest_38 : decode cX6_cheapest 38 = .ok (.aload_n 0, 1) := by decide +kernel
theorem dX6_cheapest_39 : decode cX6_cheapest 39 = .ok (.iload_n 1, 1) := by decide +kernel
theorem dX6_cheapest_40 : decode cX6_cheapest 40 = .ok (.invokevirtual 129, 3) := by decide +kernel
theorem dX6_cheapest_43 : decode cX6_cheapest 43 = .ok (.invokevirtual 136, 3) := by decide +kernel
theorem dX6_cheapest_46 : decode cX6_cheapest 46 = .ok (.ireturn, 1) := by decide +kernel
theorem dX6_price_0 : decode cX6_price 0 = .ok (.iload_n 1, 1) := by decide +kernel
theorem dX6_price_1 : decode cX6_price 1 = .ok (.aload_n 0, 1) := by decide +kernel
theorem dX6_price_2 : decode cX6_price 2 = .ok (.getfield 12, 3) := by decide +kernel
theorem dX6_price_5 : decode cX6_price 5 = .ok (.invokevirtual 140, 3) := by decide +kernel
theorem dX6_price_8 : decode cX6_price 8 = .ok (.iconst (-1), 1) := by decide +kernel
theorem dX6_price_9 : decode cX6_price 9 = .ok (.ixor, 1) := by decide +kernel
theorem dX6_price_10 : decode cX6_price 10 = .ok (.iand, 1) := by decide +kernel
theorem dX6_price_11 : decode cX6_price 11 = .ok (.ifCond .ne 14, 3) := by decide +kernel
theorem dX6_price_14 : decode cX6_price 14 = .ok (.aload_n 0, 1) := by decide +kernel
theorem dX6_price_15 : decode cX6_price 15 = .ok (.getfield 12, 3) := by decide +kernel
theorem dX6_price_18 : decode cX6_price 18 = .ok (.iload_n 1, 1) := by decide +kernel
theorem dX6_price_19 : decode cX6_price 19 = .ok (.invokevirtual 144, 3) := by decide +kernel
theorem dX6_price_22 : decode cX6_price 22 = .ok (.goto 6, 3) := by decide +kernel
theorem dX6_price_25 : decode cX6_price 25 = .ok (.ldc2_w 148, 3) := by decide +kernel
theorem dX6_price_28 : decode cX6_price 28 = .ok (.lreturn, 1) := by decide +kernel
theorem dX6_useless_0 : decode cX6_useless 0 = .ok (.aload_n 0, 1) := by decide +kernel
theorem dX6_useless_1 : decode cX6_useless 1 = .ok (.invokevirtual 102, 3) := by decide +kernel
theorem dX6_useless_4 : decode cX6_useless 4 = .ok (.ifCond .eq 5, 3) := by decide +kernel
theorem dX6_useless_7 : decode cX6_useless 7 = .ok (.iconst (-1), 1) := by decide +kernel
theorem dX6_useless_8 : decode cX6_useless 8 = .ok (.ireturn, 1) := by decide +kernel
theorem dX6_useless_9 : decode cX6_useless 9 = .ok (.aload_n 0, 1) := by decide +kernel
theorem dX6_useless_10 : decode cX6_useless 10 = .ok (.getfield 12, 3) := by decide +kernel
theorem dX6_useless_13 : decode cX6_useless 13 = .ok (.getfield 88, 3) := by decide +kernel
theorem dX6_useless_16 : decode cX6_useless 16 = .ok (.aload_n 0, 1) := by decide +kernel
theorem dX6_useless_17 : decode cX6_useless 17 = .ok (.getfield 19, 3) := by decide +kernel
theorem dX6_useless_20 : decode cX6_useless 20 = .ok (.aload_n 0, 1) := by decide +kernel
theorem dX6_useless_21 : decode cX6_useless 21 = .ok (.getfield 12, 3) := by decide +kernel
theorem dX6_useless_24 : decode cX6_useless 24 = .ok (.getfield 88, 3) := by decide +kernel
theorem dX6_useless_27 : decode cX6_useless 27 = .ok (.invokevirtual 150, 3) := by decide +kernel
theorem dX6_useless_30 : decode cX6_useless 30 = .ok (.iconst (-1), 1) := by decide +kernel
theorem dX6_useless_31 : decode cX6_useless 31 = .ok (.ixor, 1) := by decide +kernel
theorem dX6_useless_32 : decode cX6_useless 32 = .ok (.iand, 1) := by decide +kernel
theorem dX6_useless_33 : decode cX6_useless 33 = .ok (.iload_n 1, 1) := by decide +kernel
theorem dX6_useless_34 : decode cX6_useless 34 = .ok (.invokestatic 153, 3) := by decide +kernel
theorem dX6_useless_37 : decode cX6_useless 37 = .ok (.ireturn, 1) := by decide +kernel
theorem dX6_why_0 : decode cX6_why 0 = .ok (.iload_n 2, 1) := by decide +kernel
theorem dX6_why_1 : decode cX6_why 1 = .ok (.invokestatic 156, 3) := by decide +kernel
theorem dX6_why_4 : decode cX6_why 4 = .ok (.ifCond .eq 35, 3) := by decide +kernel
theorem dX6_why_7 : decode cX6_why 7 = .ok (.aload_n 0, 1) := by decide +kernel
theorem dX6_why_8 : decode cX6_why 8 = .ok (.getfield 12, 3) := by decide +kernel
theorem dX6_why_11 : decode cX6_why 11 = .ok (.iload_n 1, 1) := by decide +kernel
theorem dX6_why_12 : decode cX6_why 12 = .ok (.invokevirtual 81, 3) := by decide +kernel
theorem dX6_why_15 : decode cX6_why 15 = .ok (.ifCond .eq 24, 3) := by decide +kernel
theorem dX6_why_18 : decode cX6_why 18 = .ok (.aload_n 0, 1) := by decide +kernel
theorem dX6_why_19 : decode cX6_why 19 = .ok (.getfield 12, 3) := by decide +kernel
theorem dX6_why_22 : decode cX6_why 22 = .ok (.getfield 88, 3) := by decide +kernel
theorem dX6_why_25 : decode cX6_why 25 = .ok (.iload_n 1, 1) := by decide +kernel
theorem dX6_why_26 : decode cX6_why 26 = .ok (.invokestatic 91, 3) := by decide +kernel
theorem dX6_why_29 : decode cX6_why 29 = .ok (.ifCond .eq 10, 3) := by decide +kernel
theorem dX6_why_32 : decode cX6_why 32 = .ok (.aload_n 0, 1) := by decide +kernel
theorem dX6_why_33 : decode cX6_why 33 = .ok (.invokevirtual 102, 3) := by decide +kernel
theorem dX6_why_36 : decode cX6_why 36 = .ok (.ifCond .eq 5, 3) := by decide +kernel
theorem dX6_why_39 : decode cX6_why 39 = .ok (.iconst (-1), 1) := by decide +kernel
theorem dX6_why_40 : decode cX6_why 40 = .ok (.ireturn, 1) := by decide +kernel
theorem dX6_why_41 : decode cX6_why 41 = .ok (.aload_n 0, 1) := by decide +kernel
theorem dX6_why_42 : decode cX6_why 42 = .ok (.getfield 19, 3) := by decide +kernel
theorem dX6_why_45 : decode cX6_why 45 = .ok (.iconst 1, 1) := by decide +kernel
theorem dX6_why_46 : decode cX6_why 46 = .ok (.iload_n 1, 1) := by decide +kernel
theorem dX6_why_47 : decode cX6_why 47 = .ok (.ishl, 1) := by decide +kernel
theorem dX6_why_48 : decode cX6_why 48 = .ok (.aload_n 0, 1) := by decide +kernel
theorem dX6_why_49 : decode cX6_why 49 = .ok (.getfield 12, 3) := by decide +kernel
theorem dX6_why_52 : decode cX6_why 52 = .ok (.getfield 88, 3) := by decide +kernel
theorem dX6_why_55 : decode cX6_why 55 = .ok (.invokevirtual 159, 3) := by decide +kernel
theorem dX6_why_58 : decode cX6_why 58 = .ok (.istore_n 3, 1) := by decide +kernel
theorem dX6_why_59 : decode cX6_why 59 = .ok (.iload_n 3, 1) := by decide +kernel
theorem dX6_why_60 : decode cX6_why 60 = .ok (.iconst (-1), 1) := by decide +kernel
theorem dX6_why_61 : decode cX6_why 61 = .ok (.if_icmp .ne 5, 3) := by decide +kernel
theorem dX6_why_64 : decode cX6_why 64 = .ok (.iconst (-1), 1) := by decide +kernel
theorem dX6_why_65 : decode cX6_why 65 = .ok (.ireturn, 1) := by decide +kernel
theorem dX6_why_66 : decode cX6_why 66 = .ok (.iload_n 2, 1) := by decide +kernel
theorem dX6_why_67 : decode cX6_why 67 = .ok (.ifCond .ne 11, 3) := by decide +kernel
theorem dX6_why_70 : decode cX6_why 70 = .ok (.iload_n 3, 1) := by decide +kernel
theorem dX6_why_71 : decode cX6_why 71 = .ok (.sipush 200, 3) := by decide +kernel
theorem dX6_why_74 : decode cX6_why 74 = .ok (.idiv, 1) := by decide +kernel
theorem dX6_why_75 : decode cX6_why 75 = .ok (.goto 8, 3) := by decide +kernel
theorem dX6_why_78 : decode cX6_why 78 = .ok (.iload_n 3, 1) := by decide +kernel
theorem dX6_why_79 : decode cX6_why 79 = .ok (.sipush 200, 3) := by decide +kernel
theorem dX6_why_82 : decode cX6_why 82 = .ok (.irem, 1) := by decide +kernel
theorem dX6_why_83 : decode cX6_why 83 = .ok (.ireturn, 1) := by decide +kernel
theorem dX6_feed_0 : decode cX6_feed 0 = .ok (.aload_n 0, 1) := by decide +kernel
theorem dX6_feed_1 : decode cX6_feed 1 = .ok (.getfield 45, 3) := by decide +kernel
theorem dX6_feed_4 : decode cX6_feed 4 = .ok (.getfield 162, 3) := by decide +kernel
theorem dX6_feed_7 : decode cX6_feed 7 = .ok (.bipush 20, 2) := by decide +kernel
theorem dX6_feed_9 : decode cX6_feed 9 = .ok (.iadd, 1) := by decide +kernel
theorem dX6_feed_10 : decode cX6_feed 10 = .ok (.bipush 40, 2) := by decide +kernel
theorem dX6_feed_12 : decode cX6_feed 12 = .ok (.if_icmp .le 5, 3) := by decide +kernel
theorem dX6_feed_15 : decode cX6_feed 15 = .ok (.iconst (-1), 1) := by decide +kernel
theorem dX6_feed_16 : decode cX6_feed 16 = .ok (.ireturn, 1) := by decide +kernel
theorem dX6_feed_17 : decode cX6_feed 17 = .ok (.aload_n 0, 1) := by decide +kernel
theorem dX6_feed_18 : decode cX6_feed 18 = .ok (.getfield 45, 3) := by decide +kernel
theorem dX6_feed_21 : decode cX6_feed 21 = .ok (.iload_n 1, 1) := by decide +kernel
theorem dX6_feed_22 : decode cX6_feed 22 = .ok (.invokevirtual 165, 3) := by decide +kernel
theorem dX6_feed_25 : decode cX6_feed 25 = .ok (.aload_n 0, 1) := by decide +kernel
theorem dX6_feed_26 : decode cX6_feed 26 = .ok (.getfield 45, 3) := by decide +kernel
theorem dX6_feed_29 : decode cX6_feed 29 = .ok (.iload_n 2, 1) := by decide +kernel
theorem dX6_feed_30 : decode cX6_feed 30 = .ok (.invokevirtual 165, 3) := by decide +kernel
theorem dX6_feed_33 : decode cX6_feed 33 = .ok (.aload_n 0, 1) := by decide +kernel
theorem dX6_feed_34 : decode cX6_feed 34 = .ok (.getfield 45, 3) := by decide +kernel
theorem dX6_feed_37 : decode cX6_feed 37 = .ok (.iload_n 3, 1) := by decide +kernel
theorem dX6_feed_38 : decode cX6_feed 38 = .ok (.invokevirtual 165, 3) := by decide +kernel
theorem dX6_feed_41 : decode cX6_feed 41 = .ok (.aload_n 0, 1) := by decide +kernel
theorem dX6_feed_42 : decode cX6_feed 42 = .ok (.getfield 45, 3) := by decide +kernel
theorem dX6_feed_45 : decode cX6_feed 45 = .ok (.iload 4, 2) := by decide +kernel
theorem dX6_feed_47 : decode cX6_feed 47 = .ok (.invokevirtual 165, 3) := by decide +kernel
theorem dX6_feed_50 : decode cX6_feed 50 = .ok (.aload_n 0, 1) := by decide +kernel
theorem dX6_feed_51 : decode cX6_feed 51 = .ok (.getfield 45, 3) := by decide +kernel
theorem dX6_feed_54 : decode cX6_feed 54 = .ok (.iload 5, 2) := by decide +kernel
theorem dX6_feed_56 : decode cX6_feed 56 = .ok (.invokevirtual 165, 3) := by decide +kernel
theorem dX6_feed_59 : decode cX6_feed 59 = .ok (.aload_n 0, 1) := by decide +kernel
theorem dX6_feed_60 : decode cX6_feed 60 = .ok (.getfield 45, 3) := by decide +kernel
theorem dX6_feed_63 : decode cX6_feed 63 = .ok (.getfield 162, 3) := by decide +kernel
theorem dX6_feed_66 : decode cX6_feed 66 = .ok (.ireturn, 1) := by decide +kernel
theorem dX6_read_0 : decode cX6_read 0 = .ok (.iload_n 1, 1) := by decide +kernel
theorem dX6_read_1 : decode cX6_read 1 = .ok (.ifCond .lt 20, 3) := by decide +kernel
theorem dX6_read_4 : decode cX6_read 4 = .ok (.iload_n 1, 1) := by decide +kernel
theorem dX6_read_5 : decode cX6_read 5 = .ok (.bipush 16, 2) := by decide +kernel
theorem dX6_read_7 : decode cX6_read 7 = .ok (.if_icmp .gt 14, 3) := by decide +kernel
theorem dX6_read_10 : decode cX6_read 10 = .ok (.iload_n 1, 1) := by decide +kernel
theorem dX6_read_11 : decode cX6_read 11 = .ok (.aload_n 0, 1) := by decide +kernel
theorem dX6_read_12 : decode cX6_read 12 = .ok (.getfield 45, 3) := by decide +kernel
theorem dX6_read_15 : decode cX6_read 15 = .ok (.getfield 162, 3) := by decide +kernel
theorem dX6_read_18 : decode cX6_read 18 = .ok (.if_icmp .le 5, 3) := by decide +kernel
theorem dX6_read_21 : decode cX6_read 21 = .ok (.iconst (-1), 1) := by decide +kernel
theorem dX6_read_22 : decode cX6_read 22 = .ok (.ireturn, 1) := by decide +kernel
theorem dX6_read_23 : decode cX6_read 23 = .ok (.aload_n 0, 1) := by decide +kernel
theorem dX6_read_24 : decode cX6_read 24 = .ok (.getfield 52, 3) := by decide +kernel
theorem dX6_read_27 : decode cX6_read 27 = .ok (.aload_n 0, 1) := by decide +kernel
theorem dX6_read_28 : decode cX6_read 28 = .ok (.getfield 45, 3) := by decide +kernel
theorem dX6_read_31 : decode cX6_read 31 = .ok (.iload_n 1, 1) := by decide +kernel
theorem dX6_read_32 : decode cX6_read 32 = .ok (.iload_n 2, 1) := by decide +kernel
theorem dX6_read_33 : decode cX6_read 33 = .ok (.invokevirtual 168, 3) := by decide +kernel
theorem dX6_read_36 : decode cX6_read 36 = .ok (.aload_n 0, 1) := by decide +kernel
theorem dX6_read_37 : decode cX6_read 37 = .ok (.getfield 45, 3) := by decide +kernel
theorem dX6_read_40 : decode cX6_read 40 = .ok (.iconst 0, 1) := by decide +kernel
theorem dX6_read_41 : decode cX6_read 41 = .ok (.putfield 162, 3) := by decide +kernel
theorem dX6_read_44 : decode cX6_read 44 = .ok (.aload_n 0, 1) := by decide +kernel
theorem dX6_read_45 : decode cX6_read 45 = .ok (.invokevirtual 102, 3) := by decide +kernel
theorem dX6_read_48 : decode cX6_read 48 = .ok (.ifCond .eq 6, 3) := by decide +kernel
theorem dX6_read_51 : decode cX6_read 51 = .ok (.bipush (-2), 2) := by decide +kernel
theorem dX6_read_53 : decode cX6_read 53 = .ok (.ireturn, 1) := by decide +kernel
theorem dX6_read_54 : decode cX6_read 54 = .ok (.aload_n 0, 1) := by decide +kernel
theorem dX6_read_55 : decode cX6_read 55 = .ok (.getfield 52, 3) := by decide +kernel
theorem dX6_read_58 : decode cX6_read 58 = .ok (.aload_n 0, 1) := by decide +kernel
theorem dX6_read_59 : decode cX6_read 59 = .ok (.getfield 12, 3) := by decide +kernel
theorem dX6_read_62 : decode cX6_read 62 = .ok (.invokevirtual 172, 3) := by decide +kernel
theorem dX6_read_65 : decode cX6_read 65 = .ok (.aload_n 0, 1) := by decide +kernel
theorem dX6_read_66 : decode cX6_read 66 = .ok (.getfield 52, 3) := by decide +kernel
theorem dX6_read_69 : decode cX6_read 69 = .ok (.aload_n 0, 1) := by decide +kernel
theorem dX6_read_70 : decode cX6_read 70 = .ok (.getfield 19, 3) := by decide +kernel
theorem dX6_read_73 : decode cX6_read 73 = .ok (.invokevirtual 175, 3) := by decide +kernel
theorem dX6_read_76 : decode cX6_read 76 = .ok (.ireturn, 1) := by decide +kernel
theorem dX6_allowed_0 : decode cX6_allowed 0 = .ok (.aload_n 0, 1) := by decide +kernel
theorem dX6_allowed_1 : decode cX6_allowed 1 = .ok (.invokevirtual 102, 3) := by decide +kernel
theorem dX6_allowed_4 : decode cX6_allowed 4 = .ok (.ifCond .eq 5, 3) := by decide +kernel
theorem dX6_allowed_7 : decode cX6_allowed 7 = .ok (.iconst (-1), 1) := by decide +kernel
theorem dX6_allowed_8 : decode cX6_allowed 8 = .ok (.ireturn, 1) := by decide +kernel
theorem dX6_allowed_9 : decode cX6_allowed 9 = .ok (.aload_n 0, 1) := by decide +kernel
theorem dX6_allowed_10 : decode cX6_allowed 10 = .ok (.getfield 52, 3) := by decide +kernel
theorem dX6_allowed_13 : decode cX6_allowed 13 = .ok (.aload_n 0, 1) := by decide +kernel
theorem dX6_allowed_14 : decode cX6_allowed 14 = .ok (.getfield 12, 3) := by decide +kernel
theorem dX6_allowed_17 : decode cX6_allowed 17 = .ok (.invokevirtual 172, 3) := by decide +kernel
theorem dX6_allowed_20 : decode cX6_allowed 20 = .ok (.aload_n 0, 1) := by decide +kernel
theorem dX6_allowed_21 : decode cX6_allowed 21 = .ok (.getfield 52, 3) := by decide +kernel
theorem dX6_allowed_24 : decode cX6_allowed 24 = .ok (.aload_n 0, 1) := by decide +kernel
theorem dX6_allowed_25 : decode cX6_allowed 25 = .ok (.getfield 19, 3) := by decide +kernel
theorem dX6_allowed_28 : decode cX6_allowed 28 = .ok (.iload_n 1, 1) := by decide +kernel
theorem dX6_allowed_29 : decode cX6_allowed 29 = .ok (.invokevirtual 179, 3) := by decide +kernel
theorem dX6_allowed_32 : decode cX6_allowed 32 = .ok (.ireturn, 1) := by decide +kernel
theorem dX6_found_0 : decode cX6_found 0 = .ok (.iload_n 1, 1) := by decide +kernel
theorem dX6_found_1 : decode cX6_found 1 = .ok (.ifCond .lt 15, 3) := by decide +kernel
theorem dX6_found_4 : decode cX6_found 4 = .ok (.iload_n 1, 1) := by decide +kernel
theorem dX6_found_5 : decode cX6_found 5 = .ok (.iconst 3, 1) := by decide +kernel
theorem dX6_found_6 : decode cX6_found 6 = .ok (.if_icmp .gt 10, 3) := by decide +kernel
theorem dX6_found_9 : decode cX6_found 9 = .ok (.aload_n 0, 1) := by decide +kernel
theorem dX6_found_10 : decode cX6_found 10 = .ok (.invokevirtual 102, 3) := by decide +kernel
theorem dX6_found_13 : decode cX6_found 13 = .ok (.ifCond .eq 5, 3) := by decide +kernel
theorem dX6_found_16 : decode cX6_found 16 = .ok (.iconst (-1), 1) := by decide +kernel
theorem dX6_found_17 : decode cX6_found 17 = .ok (.ireturn, 1) := by decide +kernel
theorem dX6_found_18 : decode cX6_found 18 = .ok (.aload_n 0, 1) := by decide +kernel
theorem dX6_found_19 : decode cX6_found 19 = .ok (.getfield 52, 3) := by decide +kernel
theorem dX6_found_22 : decode cX6_found 22 = .ok (.aload_n 0, 1) := by decide +kernel
theorem dX6_found_23 : decode cX6_found 23 = .ok (.getfield 12, 3) := by decide +kernel
theorem dX6_found_26 : decode cX6_found 26 = .ok (.invokevirtual 172, 3) := by decide +kernel
theorem dX6_found_29 : decode cX6_found 29 = .ok (.aload_n 0, 1) := by decide +kernel
theorem dX6_found_30 : decode cX6_found 30 = .ok (.getfield 52, 3) := by decide +kernel
theorem dX6_found_33 : decode cX6_found 33 = .ok (.aload_n 0, 1) := by decide +kernel
theorem dX6_found_34 : decode cX6_found 34 = .ok (.getfield 19, 3) := by decide +kernel
theorem dX6_found_37 : decode cX6_found 37 = .ok (.invokevirtual 175, 3) := by decide +kernel
theorem dX6_found_40 : decode cX6_found 40 = .ok (.ifCond .ne 5, 3) := by decide +kernel
theorem dX6_found_43 : decode cX6_found 43 = .ok (.iconst (-1), 1) := by decide +kernel
theorem dX6_found_44 : decode cX6_found 44 = .ok (.ireturn, 1) := by decide +kernel
theorem dX6_found_45 : decode cX6_found 45 = .ok (.iload_n 1, 1) := by decide +kernel
theorem dX6_found_46 : decode cX6_found 46 = .ok (.iconst 2, 1) := by decide +kernel
theorem dX6_found_47 : decode cX6_found 47 = .ok (.if_icmp .ge 13, 3) := by decide +kernel
theorem dX6_found_50 : decode cX6_found 50 = .ok (.aload_n 0, 1) := by decide +kernel
theorem dX6_found_51 : decode cX6_found 51 = .ok (.getfield 19, 3) := by decide +kernel
theorem dX6_found_54 : decode cX6_found 54 = .ok (.getfield 112, 3) := by decide +kernel
theorem dX6_found_57 : decode cX6_found 57 = .ok (.goto 10, 3) := by decide +kernel
theorem dX6_found_60 : decode cX6_found 60 = .ok (.aload_n 0, 1) := by decide +kernel
theorem dX6_found_61 : decode cX6_found 61 = .ok (.getfield 19, 3) := by decide +kernel
theorem dX6_found_64 : decode cX6_found 64 = .ok (.getfield 183, 3) := by decide +kernel
theorem dX6_found_67 : decode cX6_found 67 = .ok (.astore_n 2, 1) := by decide +kernel
theorem dX6_found_68 : decode cX6_found 68 = .ok (.iload_n 1, 1) := by decide +kernel
theorem dX6_found_69 : decode cX6_found 69 = .ok (.iconst 2, 1) := by decide +kernel
theorem dX6_found_70 : decode cX6_found 70 = .ok (.if_icmp .ge 13, 3) := by decide +kernel
theorem dX6_found_73 : decode cX6_found 73 = .ok (.aload_n 0, 1) := by decide +kernel
theorem dX6_found_74 : decode cX6_found 74 = .ok (.getfield 12, 3) := by decide +kernel
theorem dX6_found_77 : decode cX6_found 77 = .ok (.invokevirtual 140, 3) := by decide +kernel
theorem dX6_found_80 : decode cX6_found 80 = .ok (.goto 10, 3) := by decide +kernel
theorem dX6_found_83 : decode cX6_found 83 = .ok (.aload_n 0, 1) := by decide +kernel
theorem dX6_found_84 : decode cX6_found 84 = .ok (.getfield 12, 3) := by decide +kernel
theorem dX6_found_87 : decode cX6_found 87 = .ok (.getfield 95, 3) := by decide +kernel
theorem dX6_found_90 : decode cX6_found 90 = .ok (.istore_n 3, 1) := by decide +kernel
theorem dX6_found_91 : decode cX6_found 91 = .ok (.iload_n 1, 1) := by decide +kernel
theorem dX6_found_92 : decode cX6_found 92 = .ok (.iconst 2, 1) := by decide +kernel
theorem dX6_found_93 : decode cX6_found 93 = .ok (.irem, 1) := by decide +kernel
theorem dX6_found_94 : decode cX6_found 94 = .ok (.ifCond .ne 7, 3) := by decide +kernel
theorem dX6_found_97 : decode cX6_found 97 = .ok (.iconst 1, 1) := by decide +kernel
theorem dX6_found_98 : decode cX6_found 98 = .ok (.goto 4, 3) := by decide +kernel
theorem dX6_found_101 : decode cX6_found 101 = .ok (.iconst 0, 1) := by decide +kernel
theorem dX6_found_102 : decode cX6_found 102 = .ok (.istore 4, 2) := by decide +kernel
theorem dX6_found_104 : decode cX6_found 104 = .ok (.iload_n 3, 1) := by decide +kernel
theorem dX6_found_105 : decode cX6_found 105 = .ok (.iload 4, 2) := by decide +kernel
theorem dX6_found_107 : decode cX6_found 107 = .ok (.ifCond .eq 18, 3) := by decide +kernel
theorem dX6_found_110 : decode cX6_found 110 = .ok (.aload_n 0, 1) := by decide +kernel
theorem dX6_found_111 : decode cX6_found 111 = .ok (.getfield 52, 3) := by decide +kernel
theorem dX6_found_114 : decode cX6_found 114 = .ok (.aload_n 0, 1) := by decide +kernel
theorem dX6_found_115 : decode cX6_found 115 = .ok (.getfield 19, 3) := by decide +kernel
theorem dX6_found_118 : decode cX6_found 118 = .ok (.aload_n 2, 1) := by decide +kernel
theorem dX6_found_119 : decode cX6_found 119 = .ok (.invokevirtual 186, 3) := by decide +kernel
theorem dX6_found_122 : decode cX6_found 122 = .ok (.goto 15, 3) := by decide +kernel
theorem dX6_found_125 : decode cX6_found 125 = .ok (.aload_n 0, 1) := by decide +kernel
theorem dX6_found_126 : decode cX6_found 126 = .ok (.getfield 52, 3) := by decide +kernel
theorem dX6_found_129 : decode cX6_found 129 = .ok (.aload_n 0, 1) := by decide +kernel
theorem dX6_found_130 : decode cX6_found 130 = .ok (.getfield 19, 3) := by decide +kernel
theorem dX6_found_133 : decode cX6_found 133 = .ok (.aload_n 2, 1) := by decide +kernel
theorem dX6_found_134 : decode cX6_found 134 = .ok (.invokevirtual 190, 3) := by decide +kernel
theorem dX6_found_137 : decode cX6_found 137 = .ok (.iand, 1) := by decide +kernel
theorem dX6_found_138 : decode cX6_found 138 = .ok (.ireturn, 1) := by decide +kernel
theorem dX6_look_0 : decode cX6_look 0 = .ok (.aload_n 0, 1) := by decide +kernel
theorem dX6_look_1 : decode cX6_look 1 = .ok (.getfield 12, 3) := by decide +kernel
theorem dX6_look_4 : decode cX6_look 4 = .ok (.iload_n 1, 1) := by decide +kernel
theorem dX6_look_5 : decode cX6_look 5 = .ok (.invokevirtual 81, 3) := by decide +kernel
theorem dX6_look_8 : decode cX6_look 8 = .ok (.ifCond .ne 5, 3) := by decide +kernel
theorem dX6_look_11 : decode cX6_look 11 = .ok (.iconst (-1), 1) := by decide +kernel
theorem dX6_look_12 : decode cX6_look 12 = .ok (.ireturn, 1) := by decide +kernel
theorem dX6_look_13 : decode cX6_look 13 = .ok (.iload_n 2, 1) := by decide +kernel
theorem dX6_look_14 : decode cX6_look 14 = .ok (.tableswitch 80 0 3 #[30, 40, 50, 60], 30) := by decide +kernel
theorem dX6_look_44 : decode cX6_look 44 = .ok (.aload_n 0, 1) := by decide +kernel
theorem dX6_look_45 : decode cX6_look 45 = .ok (.getfield 12, 3) := by decide +kernel
theorem dX6_look_48 : decode cX6_look 48 = .ok (.getfield 193, 3) := by decide +kernel
theorem dX6_look_51 : decode cX6_look 51 = .ok (.iload_n 1, 1) := by decide +kernel
theorem dX6_look_52 : decode cX6_look 52 = .ok (.iaload, 1) := by decide +kernel
theorem dX6_look_53 : decode cX6_look 53 = .ok (.ireturn, 1) := by decide +kernel
theorem dX6_look_54 : decode cX6_look 54 = .ok (.aload_n 0, 1) := by decide +kernel
theorem dX6_look_55 : decode cX6_look 55 = .ok (.getfield 12, 3) := by decide +kernel
theorem dX6_look_58 : decode cX6_look 58 = .ok (.getfield 196, 3) := by decide +kernel
theorem dX6_look_61 : decode cX6_look 61 = .ok (.iload_n 1, 1) := by decide +kernel
theorem dX6_look_62 : decode cX6_look 62 = .ok (.iaload, 1) := by decide +kernel
theorem dX6_look_63 : decode cX6_look 63 = .ok (.ireturn, 1) := by decide +kernel
theorem dX6_look_64 : decode cX6_look 64 = .ok (.aload_n 0, 1) := by decide +kernel
theorem dX6_look_65 : decode cX6_look 65 = .ok (.getfield 12, 3) := by decide +kernel
theorem dX6_look_68 : decode cX6_look 68 = .ok (.getfield 84, 3) := by decide +kernel
theorem dX6_look_71 : decode cX6_look 71 = .ok (.iload_n 1, 1) := by decide +kernel
theorem dX6_look_72 : decode cX6_look 72 = .ok (.iaload, 1) := by decide +kernel
theorem dX6_look_73 : decode cX6_look 73 = .ok (.ireturn, 1) := by decide +kernel
theorem dX6_look_74 : decode cX6_look 74 = .ok (.aload_n 0, 1) := by decide +kernel
theorem dX6_look_75 : decode cX6_look 75 = .ok (.getfield 12, 3) := by decide +kernel
theorem dX6_look_78 : decode cX6_look 78 = .ok (.getfield 88, 3) := by decide +kernel
theorem dX6_look_81 : decode cX6_look 81 = .ok (.iload_n 1, 1) := by decide +kernel
theorem dX6_look_82 : decode cX6_look 82 = .ok (.invokestatic 91, 3) := by decide +kernel
theorem dX6_look_85 : decode cX6_look 85 = .ok (.ifCond .eq 7, 3) := by decide +kernel
theorem dX6_look_88 : decode cX6_look 88 = .ok (.iconst 1, 1) := by decide +kernel
theorem dX6_look_89 : decode cX6_look 89 = .ok (.goto 4, 3) := by decide +kernel
theorem dX6_look_92 : decode cX6_look 92 = .ok (.iconst 0, 1) := by decide +kernel
theorem dX6_look_93 : decode cX6_look 93 = .ok (.ireturn, 1) := by decide +kernel
theorem dX6_look_94 : decode cX6_look 94 = .ok (.iconst (-1), 1) := by decide +kernel
theorem dX6_look_95 : decode cX6_look 95 = .ok (.ireturn, 1) := by decide +kernel
theorem dX6_count_0 : decode cX6_count 0 = .ok (.iload_n 1, 1) := by decide +kernel
theorem dX6_count_1 : decode cX6_count 1 = .ok (.tableswitch 105 0 5 #[39, 48, 57, 69, 81, 96], 39) := by decide +kernel
theorem dX6_count_40 : decode cX6_count 40 = .ok (.aload_n 0, 1) := by decide +kernel
theorem dX6_count_41 : decode cX6_count 41 = .ok (.getfield 12, 3) := by decide +kernel
theorem dX6_count_44 : decode cX6_count 44 = .ok (.getfield 199, 3) := by decide +kernel
theorem dX6_count_47 : decode cX6_count 47 = .ok (.i2l, 1) := by decide +kernel
theorem dX6_count_48 : decode cX6_count 48 = .ok (.lreturn, 1) := by decide +kernel
theorem dX6_count_49 : decode cX6_count 49 = .ok (.aload_n 0, 1) := by decide +kernel
theorem dX6_count_50 : decode cX6_count 50 = .ok (.getfield 12, 3) := by decide +kernel
theorem dX6_count_53 : decode cX6_count 53 = .ok (.getfield 73, 3) := by decide +kernel
theorem dX6_count_56 : decode cX6_count 56 = .ok (.i2l, 1) := by decide +kernel
theorem dX6_count_57 : decode cX6_count 57 = .ok (.lreturn, 1) := by decide +kernel
theorem dX6_count_58 : decode cX6_count 58 = .ok (.aload_n 0, 1) := by decide +kernel
theorem dX6_count_59 : decode cX6_count 59 = .ok (.getfield 12, 3) := by decide +kernel
theorem dX6_count_62 : decode cX6_count 62 = .ok (.getfield 88, 3) := by decide +kernel
theorem dX6_count_65 : decode cX6_count 65 = .ok (.invokestatic 202, 3) := by decide +kernel
theorem dX6_count_68 : decode cX6_count 68 = .ok (.i2l, 1) := by decide +kernel
theorem dX6_count_69 : decode cX6_count 69 = .ok (.lreturn, 1) := by decide +kernel
theorem dX6_count_70 : decode cX6_count 70 = .ok (.aload_n 0, 1) := by decide +kernel
theorem dX6_count_71 : decode cX6_count 71 = .ok (.getfield 12, 3) := by decide +kernel
theorem dX6_count_74 : decode cX6_count 74 = .ok (.getfield 95, 3) := by decide +kernel
theorem dX6_count_77 : decode cX6_count 77 = .ok (.invokestatic 202, 3) := by decide +kernel
theorem dX6_count_80 : decode cX6_count 80 = .ok (.i2l, 1) := by decide +kernel
theorem dX6_count_81 : decode cX6_count 81 = .ok (.lreturn, 1) := by decide +kernel
theorem dX6_count_82 : decode cX6_count 82 = .ok (.aload_n 0, 1) := by decide +kernel
theorem dX6_count_83 : decode cX6_count 83 = .ok (.getfield 12, 3) := by decide +kernel
theorem dX6_count_86 : decode cX6_count 86 = .ok (.aload_n 0, 1) := by decide +kernel
theorem dX6_count_87 : decode cX6_count 87 = .ok (.getfield 12, 3) := by decide +kernel
theorem dX6_count_90 : decode cX6_count 90 = .ok (.getfield 88, 3) := by decide +kernel
theorem dX6_count_93 : decode cX6_count 93 = .ok (.invokevirtual 144, 3) := by decide +kernel
theorem dX6_count_96 : decode cX6_count 96 = .ok (.lreturn, 1) := by decide +kernel
theorem dX6_count_97 : decode cX6_count 97 = .ok (.aload_n 0, 1) := by decide +kernel
theorem dX6_count_98 : decode cX6_count 98 = .ok (.getfield 45, 3) := by decide +kernel
theorem dX6_count_101 : decode cX6_count 101 = .ok (.getfield 162, 3) := by decide +kernel
theorem dX6_count_104 : decode cX6_count 104 = .ok (.i2l, 1) := by decide +kernel
theorem dX6_count_105 : decode cX6_count 105 = .ok (.lreturn, 1) := by decide +kernel
theorem dX6_count_106 : decode cX6_count 106 = .ok (.ldc2_w 148, 3) := by decide +kernel
theorem dX6_count_109 : decode cX6_count 109 = .ok (.lreturn, 1) := by decide +kernel
theorem dX6_canBeCounted_0 : decode cX6_canBeCounted 0 = .ok (.iload_n 0, 1) := by decide +kernel
theorem dX6_canBeCounted_1 : decode cX6_canBeCounted 1 = .ok (.ifCond .lt 13, 3) := by decide +kernel
theorem dX6_canBeCounted_4 : decode cX6_canBeCounted 4 = .ok (.iload_n 0, 1) := by decide +kernel
theorem dX6_canBeCounted_5 : decode cX6_canBeCounted 5 = .ok (.ldc 207, 2) := by decide +kernel
theorem dX6_canBeCounted_7 : decode cX6_canBeCounted 7 = .ok (.if_icmp .gt 7, 3) := by decide +kernel
theorem dX6_canBeCounted_10 : decode cX6_canBeCounted 10 = .ok (.iconst 1, 1) := by decide +kernel
theorem dX6_canBeCounted_11 : decode cX6_canBeCounted 11 = .ok (.goto 4, 3) := by decide +kernel
theorem dX6_canBeCounted_14 : decode cX6_canBeCounted 14 = .ok (.iconst 0, 1) := by decide +kernel
theorem dX6_canBeCounted_15 : decode cX6_canBeCounted 15 = .ok (.ireturn, 1) := by decide +kernel
theorem dX6_isWaysOrFaults_0 : decode cX6_isWaysOrFaults 0 = .ok (.iload_n 0, 1) := by decide +kernel
theorem dX6_isWaysOrFaults_1 : decode cX6_isWaysOrFaults 1 = .ok (.ifCond .eq 8, 3) := by decide +kernel
theorem dX6_isWaysOrFaults_4 : decode cX6_isWaysOrFaults 4 = .ok (.iload_n 0, 1) := by decide +kernel
theorem dX6_isWaysOrFaults_5 : decode cX6_isWaysOrFaults 5 = .ok (.iconst 1, 1) := by decide +kernel
theorem dX6_isWaysOrFaults_6 : decode cX6_isWaysOrFaults 6 = .ok (.if_icmp .ne 7, 3) := by decide +kernel
theorem dX6_isWaysOrFaults_9 : decode cX6_isWaysOrFaults 9 = .ok (.iconst 1, 1) := by decide +kernel
theorem dX6_isWaysOrFaults_10 : decode cX6_isWaysOrFaults 10 = .ok (.goto 4, 3) := by decide +kernel
theorem dX6_isWaysOrFaults_13 : decode cX6_isWaysOrFaults 13 = .ok (.iconst 0, 1) := by decide +kernel
theorem dX6_isWaysOrFaults_14 : decode cX6_isWaysOrFaults 14 = .ok (.ireturn, 1) := by decide +kernel
theorem dX6_isFirstOrOther_0 : decode cX6_isFirstOrOther 0 = .ok (.iload_n 0, 1) := by decide +kernel
theorem dX6_isFirstOrOther_1 : decode cX6_isFirstOrOther 1 = .ok (.ifCond .eq 8, 3) := by decide +kernel
theorem dX6_isFirstOrOther_4 : decode cX6_isFirstOrOther 4 = .ok (.iload_n 0, 1) := by decide +kernel
theorem dX6_isFirstOrOther_5 : decode cX6_isFirstOrOther 5 = .ok (.iconst 1, 1) := by decide +kernel
theorem dX6_isFirstOrOther_6 : decode cX6_isFirstOrOther 6 = .ok (.if_icmp .ne 7, 3) := by decide +kernel
theorem dX6_isFirstOrOther_9 : decode cX6_isFirstOrOther 9 = .ok (.iconst 1, 1) := by decide +kernel
theorem dX6_isFirstOrOther_10 : decode cX6_isFirstOrOther 10 = .ok (.goto 4, 3) := by decide +kernel
theorem dX6_isFirstOrOther_13 : decode cX6_isFirstOrOther 13 = .ok (.iconst 0, 1) := by decide +kernel
theorem dX6_isFirstOrOther_14 : decode cX6_isFirstOrOther 14 = .ok (.ireturn, 1) := by decide +kernel
theorem dX6_has_0 : decode cX6_has 0 = .ok (.iload_n 0, 1) := by decide +kernel
theorem dX6_has_1 : decode cX6_has 1 = .ok (.iload_n 1, 1) := by decide +kernel
theorem dX6_has_2 : decode cX6_has 2 = .ok (.ishr, 1) := by decide +kernel
theorem dX6_has_3 : decode cX6_has 3 = .ok (.iconst 1, 1) := by decide +kernel
theorem dX6_has_4 : decode cX6_has 4 = .ok (.iand, 1) := by decide +kernel
theorem dX6_has_5 : decode cX6_has 5 = .ok (.iconst 1, 1) := by decide +kernel
theorem dX6_has_6 : decode cX6_has 6 = .ok (.if_icmp .ne 7, 3) := by decide +kernel
theorem dX6_has_9 : decode cX6_has 9 = .ok (.iconst 1, 1) := by decide +kernel
theorem dX6_has_10 : decode cX6_has 10 = .ok (.goto 4, 3) := by decide +kernel
theorem dX6_has_13 : decode cX6_has 13 = .ok (.iconst 0, 1) := by decide +kernel
theorem dX6_has_14 : decode cX6_has 14 = .ok (.ireturn, 1) := by decide +kernel
theorem dX6_member_0 : decode cX6_member 0 = .ok (.iload_n 1, 1) := by decide +kernel
theorem dX6_member_1 : decode cX6_member 1 = .ok (.istore_n 2, 1) := by decide +kernel
theorem dX6_member_2 : decode cX6_member 2 = .ok (.iconst 0, 1) := by decide +kernel
theorem dX6_member_3 : decode cX6_member 3 = .ok (.istore_n 3, 1) := by decide +kernel
theorem dX6_member_4 : decode cX6_member 4 = .ok (.iload_n 3, 1) := by decide +kernel
theorem dX6_member_5 : decode cX6_member 5 = .ok (.bipush 16, 2) := by decide +kernel
theorem dX6_member_7 : decode cX6_member 7 = .ok (.if_icmp .ge 26, 3) := by decide +kernel
theorem dX6_member_10 : decode cX6_member 10 = .ok (.iload_n 0, 1) := by decide +kernel
theorem dX6_member_11 : decode cX6_member 11 = .ok (.iload_n 3, 1) := by decide +kernel
theorem dX6_member_12 : decode cX6_member 12 = .ok (.invokestatic 91, 3) := by decide +kernel
theorem dX6_member_15 : decode cX6_member 15 = .ok (.ifCond .eq 12, 3) := by decide +kernel
theorem dX6_member_18 : decode cX6_member 18 = .ok (.iload_n 2, 1) := by decide +kernel
theorem dX6_member_19 : decode cX6_member 19 = .ok (.ifCond .ne 5, 3) := by decide +kernel
theorem dX6_member_22 : decode cX6_member 22 = .ok (.iload_n 3, 1) := by decide +kernel
theorem dX6_member_23 : decode cX6_member 23 = .ok (.ireturn, 1) := by decide +kernel
theorem dX6_member_24 : decode cX6_member 24 = .ok (.iinc 2 (-1), 3) := by decide +kernel
theorem dX6_member_27 : decode cX6_member 27 = .ok (.iinc 3 1, 3) := by decide +kernel
theorem dX6_member_30 : decode cX6_member 30 = .ok (.goto (-26), 3) := by decide +kernel
theorem dX6_member_33 : decode cX6_member 33 = .ok (.iconst (-1), 1) := by decide +kernel
theorem dX6_member_34 : decode cX6_member 34 = .ok (.ireturn, 1) := by decide +kernel
theorem dX6_forgetWays_0 : decode cX6_forgetWays 0 = .ok (.aload_n 0, 1) := by decide +kernel
theorem dX6_forgetWays_1 : decode cX6_forgetWays 1 = .ok (.getfield 19, 3) := by decide +kernel
theorem dX6_forgetWays_4 : decode cX6_forgetWays 4 = .ok (.iconst 1, 1) := by decide +kernel
theorem dX6_forgetWays_5 : decode cX6_forgetWays 5 = .ok (.putfield 208, 3) := by decide +kernel
theorem dX6_forgetWays_8 : decode cX6_forgetWays 8 = .ok (.aload_n 0, 1) := by decide +kernel
theorem dX6_forgetWays_9 : decode cX6_forgetWays 9 = .ok (.getfield 26, 3) := by decide +kernel
theorem dX6_forgetWays_12 : decode cX6_forgetWays 12 = .ok (.iconst 1, 1) := by decide +kernel
theorem dX6_forgetWays_13 : decode cX6_forgetWays 13 = .ok (.putfield 98, 3) := by decide +kernel
theorem dX6_forgetWays_16 : decode cX6_forgetWays 16 = .ok (.aload_n 0, 1) := by decide +kernel
theorem dX6_forgetWays_17 : decode cX6_forgetWays 17 = .ok (.getfield 30, 3) := by decide +kernel
theorem dX6_forgetWays_20 : decode cX6_forgetWays 20 = .ok (.iconst 1, 1) := by decide +kernel
theorem dX6_forgetWays_21 : decode cX6_forgetWays 21 = .ok (.putfield 98, 3) := by decide +kernel
theorem dX6_forgetWays_24 : decode cX6_forgetWays 24 = .ok (.return_, 1) := by decide +kernel
theorem dX6_tooMany_0 : decode cX6_tooMany 0 = .ok (.aload_n 0, 1) := by decide +kernel
theorem dX6_tooMany_1 : decode cX6_tooMany 1 = .ok (.getfield 19, 3) := by decide +kernel
theorem dX6_tooMany_4 : decode cX6_tooMany 4 = .ok (.getfield 208, 3) := by decide +kernel
theorem dX6_tooMany_7 : decode cX6_tooMany 7 = .ok (.ifCond .eq 14, 3) := by decide +kernel
theorem dX6_tooMany_10 : decode cX6_tooMany 10 = .ok (.aload_n 0, 1) := by decide +kernel
theorem dX6_tooMany_11 : decode cX6_tooMany 11 = .ok (.getfield 19, 3) := by decide +kernel
theorem dX6_tooMany_14 : decode cX6_tooMany 14 = .ok (.aload_n 0, 1) := by decide +kernel
theorem dX6_tooMany_15 : decode cX6_tooMany 15 = .ok (.getfield 12, 3) := by decide +kernel
theorem dX6_tooMany_18 : decode cX6_tooMany 18 = .ok (.invokevirtual 209, 3) := by decide +kernel
theorem dX6_tooMany_21 : decode cX6_tooMany 21 = .ok (.aload_n 0, 1) := by decide +kernel
theorem dX6_tooMany_22 : decode cX6_tooMany 22 = .ok (.getfield 19, 3) := by decide +kernel
theorem dX6_tooMany_25 : decode cX6_tooMany 25 = .ok (.getfield 212, 3) := by decide +kernel
theorem dX6_tooMany_28 : decode cX6_tooMany 28 = .ok (.ireturn, 1) := by decide +kernel
theorem dX6_hasWay_0 : decode cX6_hasWay 0 = .ok (.aload_n 0, 1) := by decide +kernel
theorem dX6_hasWay_1 : decode cX6_hasWay 1 = .ok (.invokevirtual 102, 3) := by decide +kernel
theorem dX6_hasWay_4 : decode cX6_hasWay 4 = .ok (.ifCond .ne 22, 3) := by decide +kernel
theorem dX6_hasWay_7 : decode cX6_hasWay 7 = .ok (.iload_n 1, 1) := by decide +kernel
theorem dX6_hasWay_8 : decode cX6_hasWay 8 = .ok (.ifCond .lt 18, 3) := by decide +kernel
theorem dX6_hasWay_11 : decode cX6_hasWay 11 = .ok (.iload_n 1, 1) := by decide +kernel
theorem dX6_hasWay_12 : decode cX6_hasWay 12 = .ok (.aload_n 0, 1) := by decide +kernel
theorem dX6_hasWay_13 : decode cX6_hasWay 13 = .ok (.getfield 19, 3) := by decide +kernel
theorem dX6_hasWay_16 : decode cX6_hasWay 16 = .ok (.getfield 106, 3) := by decide +kernel
theorem dX6_hasWay_19 : decode cX6_hasWay 19 = .ok (.if_icmp .ge 7, 3) := by decide +kernel
theorem dX6_hasWay_22 : decode cX6_hasWay 22 = .ok (.iconst 1, 1) := by decide +kernel
theorem dX6_hasWay_23 : decode cX6_hasWay 23 = .ok (.goto 4, 3) := by decide +kernel
theorem dX6_hasWay_26 : decode cX6_hasWay 26 = .ok (.iconst 0, 1) := by decide +kernel
theorem dX6_hasWay_27 : decode cX6_hasWay 27 = .ok (.ireturn, 1) := by decide +kernel
theorem dX6_partings_0 : decode cX6_partings 0 = .ok (.iload_n 1, 1) := by decide +kernel
theorem dX6_partings_1 : decode cX6_partings 1 = .ok (.ifCond .ne 10, 3) := by decide +kernel
theorem dX6_partings_4 : decode cX6_partings 4 = .ok (.aload_n 0, 1) := by decide +kernel
theorem dX6_partings_5 : decode cX6_partings 5 = .ok (.getfield 26, 3) := by decide +kernel
theorem dX6_partings_8 : decode cX6_partings 8 = .ok (.goto 7, 3) := by decide +kernel
theorem dX6_partings_11 : decode cX6_partings 11 = .ok (.aload_n 0, 1) := by decide +kernel
theorem dX6_partings_12 : decode cX6_partings 12 = .ok (.getfield 30, 3) := by decide +kernel
theorem dX6_partings_15 : decode cX6_partings 15 = .ok (.astore_n 2, 1) := by decide +kernel
theorem dX6_partings_16 : decode cX6_partings 16 = .ok (.aload_n 2, 1) := by decide +kernel
theorem dX6_partings_17 : decode cX6_partings 17 = .ok (.getfield 98, 3) := by decide +kernel
theorem dX6_partings_20 : decode cX6_partings 20 = .ok (.ifCond .eq 27, 3) := by decide +kernel
theorem dX6_partings_23 : decode cX6_partings 23 = .ok (.aload_n 2, 1) := by decide +kernel
theorem dX6_partings_24 : decode cX6_partings 24 = .ok (.aload_n 0, 1) := by decide +kernel
theorem dX6_partings_25 : decode cX6_partings 25 = .ok (.getfield 19, 3) := by decide +kernel
theorem dX6_partings_28 : decode cX6_partings 28 = .ok (.iload_n 1, 1) := by decide +kernel
theorem dX6_partings_29 : decode cX6_partings 29 = .ok (.ifCond .ne 7, 3) := by decide +kernel
theorem dX6_partings_32 : decode cX6_partings 32 = .ok (.iconst 1, 1) := by decide +kernel
theorem dX6_partings_33 : decode cX6_partings 33 = .ok (.goto 4, 3) := by decide +kernel
theorem dX6_partings_36 : decode cX6_partings 36 = .ok (.iconst 0, 1) := by decide +kernel
theorem dX6_partings_37 : decode cX6_partings 37 = .ok (.aload_n 0, 1) := by decide +kernel
theorem dX6_partings_38 : decode cX6_partings 38 = .ok (.getfield 12, 3) := by decide +kernel
theorem dX6_partings_41 : decode cX6_partings 41 = .ok (.getfield 95, 3) := by decide +kernel
theorem dX6_partings_44 : decode cX6_partings 44 = .ok (.invokevirtual 214, 3) := by decide +kernel
theorem dX6_partings_47 : decode cX6_partings 47 = .ok (.aload_n 2, 1) := by decide +kernel
theorem dX6_partings_48 : decode cX6_partings 48 = .ok (.areturn, 1) := by decide +kernel
theorem dX7_init_0 : decode cX7_init 0 = .ok (.aload_n 0, 1) := by decide +kernel
theorem dX7_init_1 : decode cX7_init 1 = .ok (.invokespecial 1, 3) := by decide +kernel
theorem dX7_init_4 : decode cX7_init 4 = .ok (.aload_n 0, 1) := by decide +kernel
theorem dX7_init_5 : decode cX7_init 5 = .ok (.bipush 40, 2) := by decide +kernel
theorem dX7_init_7 : decode cX7_init 7 = .ok (.newarray .byte, 2) := by decide +kernel
theorem dX7_init_9 : decode cX7_init 9 = .ok (.putfield 7, 3) := by decide +kernel
theorem dX7_init_12 : decode cX7_init 12 = .ok (.aload_n 0, 1) := by decide +kernel
theorem dX7_init_13 : decode cX7_init 13 = .ok (.iconst 2, 1) := by decide +kernel
theorem dX7_init_14 : decode cX7_init 14 = .ok (.putfield 13, 3) := by decide +kernel
theorem dX7_init_17 : decode cX7_init 17 = .ok (.aload_n 0, 1) := by decide +kernel
theorem dX7_init_18 : decode cX7_init 18 = .ok (.bipush 16, 2) := by decide +kernel
theorem dX7_init_20 : decode cX7_init 20 = .ok (.newarray .int, 2) := by decide +kernel
theorem dX7_init_22 : decode cX7_init 22 = .ok (.putfield 17, 3) := by decide +kernel
theorem dX7_init_25 : decode cX7_init 25 = .ok (.aload_n 0, 1) := by decide +kernel
theorem dX7_init_26 : decode cX7_init 26 = .ok (.bipush 16, 2) := by decide +kernel
theorem dX7_init_28 : decode cX7_init 28 = .ok (.newarray .int, 2) := by decide +kernel
theorem dX7_init_30 : decode cX7_init 30 = .ok (.putfield 21, 3) := by decide +kernel
theorem dX7_init_33 : decode cX7_init 33 = .ok (.aload_n 0, 1) := by decide +kernel
theorem dX7_init_34 : decode cX7_init 34 = .ok (.bipush 16, 2) := by decide +kernel
theorem dX7_init_36 : decode cX7_init 36 = .ok (.newarray .int, 2) := by decide +kernel
theorem dX7_init_38 : decode cX7_init 38 = .ok (.putfield 24, 3) := by decide +kernel
theorem dX7_init_41 : decode cX7_init 41 = .ok (.aload_n 0, 1) := by decide +kernel
theorem dX7_init_42 : decode cX7_init 42 = .ok (.sipush 3200, 3) := by decide +kernel
theorem dX7_init_45 : decode cX7_init 45 = .ok (.newarray .int, 2) := by decide +kernel
theorem dX7_init_47 : decode cX7_init 47 = .ok (.putfield 27, 3) := by decide +kernel
theorem dX7_init_50 : decode cX7_init 50 = .ok (.aload_n 0, 1) := by decide +kernel
theorem dX7_init_51 : decode cX7_init 51 = .ok (.sipush 200, 3) := by decide +kernel
theorem dX7_init_54 : decode cX7_init 54 = .ok (.newarray .int, 2) := by decide +kernel
theorem dX7_init_56 : decode cX7_init 56 = .ok (.putfield 30, 3) := by decide +kernel
theorem dX7_init_59 : decode cX7_init 59 = .ok (.aload_n 0, 1) := by decide +kernel
theorem dX7_init_60 : decode cX7_init 60 = .ok (.sipush 200, 3) := by decide +kernel
theorem dX7_init_63 : decode cX7_init 63 = .ok (.newarray .int, 2) := by decide +kernel
theorem dX7_init_65 : decode cX7_init 65 = .ok (.putfield 33, 3) := by decide +kernel
theorem dX7_init_68 : decode cX7_init 68 = .ok (.aload_n 0, 1) := by decide +kernel
theorem dX7_init_69 : decode cX7_init 69 = .ok (.sipush 200, 3) := by decide +kernel
theorem dX7_init_72 : decode cX7_init 72 = .ok (.newarray .int, 2) := by decide +kernel
theorem dX7_init_74 : decode cX7_init 74 = .ok (.putfield 36, 3) := by decide +kernel
theorem dX7_init_77 : decode cX7_init 77 = .ok (.aload_n 0, 1) := by decide +kernel
theorem dX7_init_78 : decode cX7_init 78 = .ok (.bipush 16, 2) := by decide +kernel
theorem dX7_init_80 : decode cX7_init 80 = .ok (.newarray .int, 2) := by decide +kernel
theorem dX7_init_82 : decode cX7_init 82 = .ok (.putfield 39, 3) := by decide +kernel
theorem dX7_init_85 : decode cX7_init 85 = .ok (.aload_n 0, 1) := by decide +kernel
theorem dX7_init_86 : decode cX7_init 86 = .ok (.bipush 16, 2) := by decide +kernel
theorem dX7_init_88 : decode cX7_init 88 = .ok (.newarray .int, 2) := by decide +kernel
theorem dX7_init_90 : decode cX7_init 90 = .ok (.putfield 42, 3) := by decide +kernel
theorem dX7_init_93 : decode cX7_init 93 = .ok (.aload_n 0, 1) := by decide +kernel
theorem dX7_init_94 : decode cX7_init 94 = .ok (.ldc 45, 2) := by decide +kernel
theorem dX7_init_96 : decode cX7_init 96 = .ok (.newarray .int, 2) := by decide +kernel
theorem dX7_init_98 : decode cX7_init 98 = .ok (.putfield 46, 3) := by decide +kernel
theorem dX7_init_101 : decode cX7_init 101 = .ok (.aload_n 0, 1) := by decide +kernel
theorem dX7_init_102 : decode cX7_init 102 = .ok (.ldc 45, 2) := by decide +kernel
theorem dX7_init_104 : decode cX7_init 104 = .ok (.newarray .int, 2) := by decide +kernel
theorem dX7_init_106 : decode cX7_init 106 = .ok (.putfield 49, 3) := by decide +kernel
theorem dX7_init_109 : decode cX7_init 109 = .ok (.return_, 1) := by decide +kernel
theorem dX7_lies_0 : decode cX7_lies 0 = .ok (.lload_n 0, 1) := by decide +kernel
theorem dX7_lies_1 : decode cX7_lies 1 = .ok (.lload_n 2, 1) := by decide +kernel
theorem dX7_lies_2 : decode cX7_lies 2 = .ok (.lcmp, 1) := by decide +kernel
theorem dX7_lies_3 : decode cX7_lies 3 = .ok (.ifCond .lt 14, 3) := by decide +kernel
theorem dX7_lies_6 : decode cX7_lies 6 = .ok (.lload_n 0, 1) := by decide +kernel
theorem dX7_lies_7 : decode cX7_lies 7 = .ok (.lload 4, 2) := by decide +kernel
theorem dX7_lies_9 : decode cX7_lies 9 = .ok (.lcmp, 1) := by decide +kernel
theorem dX7_lies_10 : decode cX7_lies 10 = .ok (.ifCond .gt 7, 3) := by decide +kernel
theorem dX7_lies_13 : decode cX7_lies 13 = .ok (.iconst 1, 1) := by decide +kernel
theorem dX7_lies_14 : decode cX7_lies 14 = .ok (.goto 4, 3) := by decide +kernel
theorem dX7_lies_17 : decode cX7_lies 17 = .ok (.iconst 0, 1) := by decide +kernel
theorem dX7_lies_18 : decode cX7_lies 18 = .ok (.ireturn, 1) := by decide +kernel
theorem dX7_isStep_0 : decode cX7_isStep 0 = .ok (.iload_n 1, 1) := by decide +kernel
theorem dX7_isStep_1 : decode cX7_isStep 1 = .ok (.i2l, 1) := by decide +kernel
theorem dX7_isStep_2 : decode cX7_isStep 2 = .ok (.lconst 0, 1) := by decide +kernel
theorem dX7_isStep_3 : decode cX7_isStep 3 = .ok (.aload_n 0, 1) := by decide +kernel
theorem dX7_isStep_4 : decode cX7_isStep 4 = .ok (.getfield 52, 3) := by decide +kernel
theorem dX7_isStep_7 : decode cX7_isStep 7 = .ok (.iconst 1, 1) := by decide +kernel
theorem dX7_isStep_8 : decode cX7_isStep 8 = .ok (.isub, 1) := by decide +kernel
theorem dX7_isStep_9 : decode cX7_isStep 9 = .ok (.i2l, 1) := by decide +kernel
theorem dX7_isStep_10 : decode cX7_isStep 10 = .ok (.invokestatic 55, 3) := by decide +kernel
theorem dX7_isStep_13 : decode cX7_isStep 13 = .ok (.ireturn, 1) := by decide +kernel
theorem dX7_isIn_0 : decode cX7_isIn 0 = .ok (.iload_n 0, 1) := by decide +kernel
theorem dX7_isIn_1 : decode cX7_isIn 1 = .ok (.iload_n 1, 1) := by decide +kernel
theorem dX7_isIn_2 : decode cX7_isIn 2 = .ok (.ishr, 1) := by decide +kernel
theorem dX7_isIn_3 : decode cX7_isIn 3 = .ok (.iconst 1, 1) := by decide +kernel
theorem dX7_isIn_4 : decode cX7_isIn 4 = .ok (.iand, 1) := by decide +kernel
theorem dX7_isIn_5 : decode cX7_isIn 5 = .ok (.iconst 1, 1) := by decide +kernel
theorem dX7_isIn_6 : decode cX7_isIn 6 = .ok (.if_icmp .ne 7, 3) := by decide +kernel
theorem dX7_isIn_9 : decode cX7_isIn 9 = .ok (.iconst 1, 1) := by decide +kernel
theorem dX7_isIn_10 : decode cX7_isIn 10 = .ok (.goto 4, 3) := by decide +kernel
theorem dX7_isIn_13 : decode cX7_isIn 13 = .ok (.iconst 0, 1) := by decide +kernel
theorem dX7_isIn_14 : decode cX7_isIn 14 = .ok (.ireturn, 1) := by decide +kernel
theorem dX7_sizeOf_0 : decode cX7_sizeOf 0 = .ok (.iconst 0, 1) := by decide +kernel
theorem dX7_sizeOf_1 : decode cX7_sizeOf 1 = .ok (.istore_n 1, 1) := by decide +kernel
theorem dX7_sizeOf_2 : decode cX7_sizeOf 2 = .ok (.iload_n 0, 1) := by decide +kernel
theorem dX7_sizeOf_3 : decode cX7_sizeOf 3 = .ok (.istore_n 2, 1) := by decide +kernel
theorem dX7_sizeOf_4 : decode cX7_sizeOf 4 = .ok (.iload_n 2, 1) := by decide +kernel
theorem dX7_sizeOf_5 : decode cX7_sizeOf 5 = .ok (.ifCond .eq 15, 3) := by decide +kernel
theorem dX7_sizeOf_8 : decode cX7_sizeOf 8 = .ok (.iinc 1 1, 3) := by decide +kernel
theorem dX7_sizeOf_11 : decode cX7_sizeOf 11 = .ok (.iload_n 2, 1) := by decide +kernel
theorem dX7_sizeOf_12 : decode cX7_sizeOf 12 = .ok (.iload_n 2, 1) := by decide +kernel
theorem dX7_sizeOf_13 : decode cX7_sizeOf 13 = .ok (.iconst 1, 1) := by decide +kernel
theorem dX7_sizeOf_14 : decode cX7_sizeOf 14 = .ok (.isub, 1) := by decide +kernel
theorem dX7_sizeOf_15 : decode cX7_sizeOf 15 = .ok (.iand, 1) := by decide +kernel
theorem dX7_sizeOf_16 : decode cX7_sizeOf 16 = .ok (.istore_n 2, 1) := by decide +kernel
theorem dX7_sizeOf_17 : decode cX7_sizeOf 17 = .ok (.goto (-13), 3) := by decide +kernel
theorem dX7_sizeOf_20 : decode cX7_sizeOf 20 = .ok (.iload_n 1, 1) := by decide +kernel
theorem dX7_sizeOf_21 : decode cX7_sizeOf 21 = .ok (.ireturn, 1) := by decide +kernel
theorem dX7_flow_0 : decode cX7_flow 0 = .ok (.iload_n 1, 1) := by decide +kernel
theorem dX7_flow_1 : decode cX7_flow 1 = .ok (.i2l, 1) := by decide +kernel
theorem dX7_flow_2 : decode cX7_flow 2 = .ok (.ldc2_w 59, 3) := by decide +kernel
theorem dX7_flow_5 : decode cX7_flow 5 = .ok (.ldc2_w 61, 3) := by decide +kernel
theorem dX7_flow_8 : decode cX7_flow 8 = .ok (.invokestatic 55, 3) := by decide +kernel
theorem dX7_flow_11 : decode cX7_flow 11 = .ok (.ifCond .ne 5, 3) := by decide +kernel
theorem dX7_flow_14 : decode cX7_flow 14 = .ok (.iconst 0, 1) := by decide +kernel
theorem dX7_flow_15 : decode cX7_flow 15 = .ok (.ireturn, 1) := by decide +kernel
theorem dX7_flow_16 : decode cX7_flow 16 = .ok (.aload_n 0, 1) := by decide +kernel
theorem dX7_flow_17 : decode cX7_flow 17 = .ok (.iload_n 1, 1) := by decide +kernel
theorem dX7_flow_18 : decode cX7_flow 18 = .ok (.putfield 13, 3) := by decide +kernel
theorem dX7_flow_21 : decode cX7_flow 21 = .ok (.aload_n 0, 1) := by decide +kernel
theorem dX7_flow_22 : decode cX7_flow 22 = .ok (.iconst 0, 1) := by decide +kernel
theorem dX7_flow_23 : decode cX7_flow 23 = .ok (.putfield 52, 3) := by decide +kernel
theorem dX7_flow_26 : decode cX7_flow 26 = .ok (.aload_n 0, 1) := by decide +kernel
theorem dX7_flow_27 : decode cX7_flow 27 = .ok (.iconst 0, 1) := by decide +kernel
theorem dX7_flow_28 : decode cX7_flow 28 = .ok (.putfield 63, 3) := by decide +kernel
theorem dX7_flow_31 : decode cX7_flow 31 = .ok (.aload_n 0, 1) := by decide +kernel
theorem dX7_flow_32 : decode cX7_flow 32 = .ok (.iconst 0, 1) := by decide +kernel
theorem dX7_flow_33 : decode cX7_flow 33 = .ok (.putfield 66, 3) := by decide +kernel
theorem dX7_flow_36 : decode cX7_flow 36 = .ok (.aload_n 0, 1) := by decide +kernel
theorem dX7_flow_37 : decode cX7_flow 37 = .ok (.iconst 0, 1) := by decide +kernel
theorem dX7_flow_38 : decode cX7_flow 38 = .ok (.putfield 69, 3) := by decide +kernel
theorem dX7_flow_41 : decode cX7_flow 41 = .ok (.iconst 1, 1) := by decide +kernel
theorem dX7_flow_42 : decode cX7_flow 42 = .ok (.ireturn, 1) := by decide +kernel
theorem dX7_step_0 : decode cX7_step 0 = .ok (.aload_n 0, 1) := by decide +kernel
theorem dX7_step_1 : decode cX7_step 1 = .ok (.getfield 52, 3) := by decide +kernel
theorem dX7_step_4 : decode cX7_step 4 = .ok (.bipush 16, 2) := by decide +kernel
theorem dX7_step_6 : decode cX7_step 6 = .ok (.if_icmp .eq 50, 3) := by decide +kernel
theorem dX7_step_9 : decode cX7_step 9 = .ok (.iload_n 1, 1) := by decide +kernel
theorem dX7_step_10 : decode cX7_step 10 = .ok (.i2l, 1) := by decide +kernel
theorem dX7_step_11 : decode cX7_step 11 = .ok (.lconst 0, 1) := by decide +kernel
theorem dX7_step_12 : decode cX7_step 12 = .ok (.aload_n 0, 1) := by decide +kernel
theorem dX7_step_13 : decode cX7_step 13 = .ok (.getfield 13, 3) := by decide +kernel
theorem dX7_step_16 : decode cX7_step 16 = .ok (.iconst 1, 1) := by decide +kernel
theorem dX7_step_17 : decode cX7_step 17 = .ok (.isub, 1) := by decide +kernel
theorem dX7_step_18 : decode cX7_step 18 = .ok (.i2l, 1) := by decide +kernel
theorem dX7_step_19 : decode cX7_step 19 = .ok (.invokestatic 55, 3) := by decide +kernel
theorem dX7_step_22 : decode cX7_step 22 = .ok (.ifCond .eq 34, 3) := by decide +kernel
theorem dX7_step_25 : decode cX7_step 25 = .ok (.iload_n 2, 1) := by decide +kernel
theorem dX7_step_26 : decode cX7_step 26 = .ok (.i2l, 1) := by decide +kernel
theorem dX7_step_27 : decode cX7_step 27 = .ok (.iload_n 1, 1) := by decide +kernel
theorem dX7_step_28 : decode cX7_step 28 = .ok (.iconst 1, 1) := by decide +kernel
theorem dX7_step_29 : decode cX7_step 29 = .ok (.iadd, 1) := by decide +kernel
theorem dX7_step_30 : decode cX7_step 30 = .ok (.i2l, 1) := by decide +kernel
theorem dX7_step_31 : decode cX7_step 31 = .ok (.aload_n 0, 1) := by decide +kernel
theorem dX7_step_32 : decode cX7_step 32 = .ok (.getfield 13, 3) := by decide +kernel
theorem dX7_step_35 : decode cX7_step 35 = .ok (.iconst 1, 1) := by decide +kernel
theorem dX7_step_36 : decode cX7_step 36 = .ok (.isub, 1) := by decide +kernel
theorem dX7_step_37 : decode cX7_step 37 = .ok (.i2l, 1) := by decide +kernel
theorem dX7_step_38 : decode cX7_step 38 = .ok (.invokestatic 55, 3) := by decide +kernel
theorem dX7_step_41 : decode cX7_step 41 = .ok (.ifCond .eq 15, 3) := by decide +kernel
theorem dX7_step_44 : decode cX7_step 44 = .ok (.iload_n 3, 1) := by decide +kernel
theorem dX7_step_45 : decode cX7_step 45 = .ok (.i2l, 1) := by decide +kernel
theorem dX7_step_46 : decode cX7_step 46 = .ok (.lconst 0, 1) := by decide +kernel
theorem dX7_step_47 : decode cX7_step 47 = .ok (.ldc2_w 73, 3) := by decide +kernel
theorem dX7_step_50 : decode cX7_step 50 = .ok (.invokestatic 55, 3) := by decide +kernel
theorem dX7_step_53 : decode cX7_step 53 = .ok (.ifCond .ne 5, 3) := by decide +kernel
theorem dX7_step_56 : decode cX7_step 56 = .ok (.iconst (-1), 1) := by decide +kernel
theorem dX7_step_57 : decode cX7_step 57 = .ok (.ireturn, 1) := by decide +kernel
theorem dX7_step_58 : decode cX7_step 58 = .ok (.aload_n 0, 1) := by decide +kernel
theorem dX7_step_59 : decode cX7_step 59 = .ok (.getfield 17, 3) := by decide +kernel
theorem dX7_step_62 : decode cX7_step 62 = .ok (.aload_n 0, 1) := by decide +kernel
theorem dX7_step_63 : decode cX7_step 63 = .ok (.getfield 52, 3) := by decide +kernel
theorem dX7_step_66 : decode cX7_step 66 = .ok (.iload_n 1, 1) := by decide +kernel
theorem dX7_step_67 : decode cX7_step 67 = .ok (.iastore, 1) := by decide +kernel
theorem dX7_step_68 : decode cX7_step 68 = .ok (.aload_n 0, 1) := by decide +kernel
theorem dX7_step_69 : decode cX7_step 69 = .ok (.getfield 21, 3) := by decide +kernel
theorem dX7_step_72 : decode cX7_step 72 = .ok (.aload_n 0, 1) := by decide +kernel
theorem dX7_step_73 : decode cX7_step 73 = .ok (.getfield 52, 3) := by decide +kernel
theorem dX7_step_76 : decode cX7_step 76 = .ok (.iload_n 2, 1) := by decide +kernel
theorem dX7_step_77 : decode cX7_step 77 = .ok (.iastore, 1) := by decide +kernel
theorem dX7_step_78 : decode cX7_step 78 = .ok (.aload_n 0, 1) := by decide +kernel
theorem dX7_step_79 : decode cX7_step 79 = .ok (.getfield 24, 3) := by decide +kernel
theorem dX7_step_82 : decode cX7_step 82 = .ok (.aload_n 0, 1) := by decide +kernel
theorem dX7_step_83 : decode cX7_step 83 = .ok (.getfield 52, 3) := by decide +kernel
theorem dX7_step_86 : decode cX7_step 86 = .ok (.iload_n 3, 1) := by decide +kernel
theorem dX7_step_87 : decode cX7_step 87 = .ok (.iastore, 1) := by decide +kernel
theorem dX7_step_88 : decode cX7_step 88 = .ok (.aload_n 0, 1) := by decide +kernel
theorem dX7_step_89 : decode cX7_step 89 = .ok (.dup, 1) := by decide +kernel
theorem dX7_step_90 : decode cX7_step 90 = .ok (.getfield 52, 3) := by decide +kernel
theorem dX7_step_93 : decode cX7_step 93 = .ok (.iconst 1, 1) := by decide +kernel
theorem dX7_step_94 : decode cX7_step 94 = .ok (.iadd, 1) := by decide +kernel
theorem dX7_step_95 : decode cX7_step 95 = .ok (.putfield 52, 3) := by decide +kernel
theorem dX7_step_98 : decode cX7_step 98 = .ok (.aload_n 0, 1) := by decide +kernel
theorem dX7_step_99 : decode cX7_step 99 = .ok (.getfield 52, 3) := by decide +kernel
theorem dX7_step_102 : decode cX7_step 102 = .ok (.iconst 1, 1) := by decide +kernel
theorem dX7_step_103 : decode cX7_step 103 = .ok (.isub, 1) := by decide +kernel
theorem dX7_step_104 : decode cX7_step 104 = .ok (.ireturn, 1) := by decide +kernel
theorem dX7_counted_0 : decode cX7_counted 0 = .ok (.aload_n 0, 1) := by decide +kernel
theorem dX7_counted_1 : decode cX7_counted 1 = .ok (.iload_n 1, 1) := by decide +kernel
theorem dX7_counted_2 : decode cX7_counted 2 = .ok (.invokevirtual 75, 3) := by decide +kernel
theorem dX7_counted_5 : decode cX7_counted 5 = .ok (.ifCond .eq 15, 3) := by decide +kernel
theorem dX7_counted_8 : decode cX7_counted 8 = .ok (.iload_n 2, 1) := by decide +kernel
theorem dX7_counted_9 : decode cX7_counted 9 = .ok (.i2l, 1) := by decide +kernel
theorem dX7_counted_10 : decode cX7_counted 10 = .ok (.lconst 0, 1) := by decide +kernel
theorem dX7_counted_11 : decode cX7_counted 11 = .ok (.ldc2_w 73, 3) := by decide +kernel
theorem dX7_counted_14 : decode cX7_counted 14 = .ok (.invokestatic 55, 3) := by decide +kernel
theorem dX7_counted_17 : decode cX7_counted 17 = .ok (.ifCond .ne 5, 3) := by decide +kernel
theorem dX7_counted_20 : decode cX7_counted 20 = .ok (.iconst 0, 1) := by decide +kernel
theorem dX7_counted_21 : decode cX7_counted 21 = .ok (.ireturn, 1) := by decide +kernel
theorem dX7_counted_22 : decode cX7_counted 22 = .ok (.aload_n 0, 1) := by decide +kernel
theorem dX7_counted_23 : decode cX7_counted 23 = .ok (.getfield 24, 3) := by decide +kernel
theorem dX7_counted_26 : decode cX7_counted 26 = .ok (.iload_n 1, 1) := by decide +kernel
theorem dX7_counted_27 : decode cX7_counted 27 = .ok (.iload_n 2, 1) := by decide +kernel
theorem dX7_counted_28 : decode cX7_counted 28 = .ok (.iastore, 1) := by decide +kernel
theorem dX7_counted_29 : decode cX7_counted 29 = .ok (.iconst 1, 1) := by decide +kernel
theorem dX7_counted_30 : decode cX7_counted 30 = .ok (.ireturn, 1) := by decide +kernel
theorem dX7_line_0 : decode cX7_line 0 = .ok (.aload_n 0, 1) := by decide +kernel
theorem dX7_line_1 : decode cX7_line 1 = .ok (.iload_n 1, 1) := by decide +kernel
theorem dX7_line_2 : decode cX7_line 2 = .ok (.invokevirtual 75, 3) := by decide +kernel
theorem dX7_line_5 : decode cX7_line 5 = .ok (.ifCond .eq 15, 3) := by decide +kernel
theorem dX7_line_8 : decode cX7_line 8 = .ok (.aload_n 0, 1) := by decide +kernel
theorem dX7_line_9 : decode cX7_line 9 = .ok (.getfield 63, 3) := by decide +kernel
theorem dX7_line_12 : decode cX7_line 12 = .ok (.iload_n 1, 1) := by decide +kernel
theorem dX7_line_13 : decode cX7_line 13 = .ok (.invokestatic 79, 3) := by decide +kernel
theorem dX7_line_16 : decode cX7_line 16 = .ok (.iload_n 2, 1) := by decide +kernel
theorem dX7_line_17 : decode cX7_line 17 = .ok (.if_icmp .ne 5, 3) := by decide +kernel
theorem dX7_line_20 : decode cX7_line 20 = .ok (.iconst 0, 1) := by decide +kernel
theorem dX7_line_21 : decode cX7_line 21 = .ok (.ireturn, 1) := by decide +kernel
theorem dX7_line_22 : decode cX7_line 22 = .ok (.aload_n 0, 1) := by decide +kernel
theorem dX7_line_23 : decode cX7_line 23 = .ok (.dup, 1) := by decide +kernel
theorem dX7_line_24 : decode cX7_line 24 = .ok (.getfield 63, 3) := by decide +kernel
theorem dX7_line_27 : decode cX7_line 27 = .ok (.iconst 1, 1) := by decide +kernel
theorem dX7_line_28 : decode cX7_line 28 = .ok (.iload_n 1, 1) := by decide +kernel
theorem dX7_line_29 : decode cX7_line 29 = .ok (.ishl, 1) := by decide +kernel
theorem dX7_line_30 : decode cX7_line 30 = .ok (.ixor, 1) := by decide +kernel
theorem dX7_line_31 : decode cX7_line 31 = .ok (.putfield 63, 3) := by decide +kernel
theorem dX7_line_34 : decode cX7_line 34 = .ok (.iconst 1, 1) := by decide +kernel
theorem dX7_line_35 : decode cX7_line 35 = .ok (.ireturn, 1) := by decide +kernel
theorem dX7_fault_0 : decode cX7_fault 0 = .ok (.iload_n 1, 1) := by decide +kernel
theorem dX7_fault_1 : decode cX7_fault 1 = .ok (.i2l, 1) := by decide +kernel
theorem dX7_fault_2 : decode cX7_fault 2 = .ok (.lconst 0, 1) := by decide +kernel
theorem dX7_fault_3 : decode cX7_fault 3 = .ok (.aload_n 0, 1) := by decide +kernel
theorem dX7_fault_4 : decode cX7_fault 4 = .ok (.getfield 13, 3) := by decide +kernel
theorem dX7_fault_7 : decode cX7_fault 7 = .ok (.iconst 1, 1) := by decide +kernel
theorem dX7_fault_8 : decode cX7_fault 8 = .ok (.isub, 1) := by decide +kernel
theorem dX7_fault_9 : decode cX7_fault 9 = .ok (.i2l, 1) := by decide +kernel
theorem dX7_fault_10 : decode cX7_fault 10 = .ok (.invokestatic 55, 3) := by decide +kernel
theorem dX7_fault_13 : decode cX7_fault 13 = .ok (.ifCond .eq 15, 3) := by decide +kernel
theorem dX7_fault_16 : decode cX7_fault 16 = .ok (.aload_n 0, 1) := by decide +kernel
theorem dX7_fault_17 : decode cX7_fault 17 = .ok (.getfield 66, 3) := by decide +kernel
theorem dX7_fault_20 : decode cX7_fault 20 = .ok (.iload_n 1, 1) := by decide +kernel
theorem dX7_fault_21 : decode cX7_fault 21 = .ok (.invokestatic 79, 3) := by decide +kernel
theorem dX7_fault_24 : decode cX7_fault 24 = .ok (.iload_n 2, 1) := by decide +kernel
theorem dX7_fault_25 : decode cX7_fault 25 = .ok (.if_icmp .ne 5, 3) := by decide +kernel
theorem dX7_fault_28 : decode cX7_fault 28 = .ok (.iconst 0, 1) := by decide +kernel
theorem dX7_fault_29 : decode cX7_fault 29 = .ok (.ireturn, 1) := by decide +kernel
theorem dX7_fault_30 : decode cX7_fault 30 = .ok (.aload_n 0, 1) := by decide +kernel
theorem dX7_fault_31 : decode cX7_fault 31 = .ok (.dup, 1) := by decide +kernel
theorem dX7_fault_32 : decode cX7_fault 32 = .ok (.getfield 66, 3) := by decide +kernel
theorem dX7_fault_35 : decode cX7_fault 35 = .ok (.iconst 1, 1) := by decide +kernel
theorem dX7_fault_36 : decode cX7_fault 36 = .ok (.iload_n 1, 1) := by decide +kernel
theorem dX7_fault_37 : decode cX7_fault 37 = .ok (.ishl, 1) := by decide +kernel
theorem dX7_fault_38 : decode cX7_fault 38 = .ok (.ixor, 1) := by decide +kernel
theorem dX7_fault_39 : decode cX7_fault 39 = .ok (.putfield 66, 3) := by decide +kernel
theorem dX7_fault_42 : decode cX7_fault 42 = .ok (.iconst 1, 1) := by decide +kernel
theorem dX7_fault_43 : decode cX7_fault 43 = .ok (.ireturn, 1) := by decide +kernel
theorem dX7_keeps_0 : decode cX7_keeps 0 = .ok (.aload_n 0, 1) := by decide +kernel
theorem dX7_keeps_1 : decode cX7_keeps 1 = .ok (.getfield 83, 3) := by decide +kernel
end
section
theorem dX7_keeps_4 : decode cX7_keeps 4 = .ok (.sipush 200, 3) := by decide +kernel
theorem dX7_keeps_7 : decode cX7_keeps 7 = .ok (.if_icmp .ne 9, 3) := by decide +kernel
theorem dX7_keeps_10 : decode cX7_keeps 10 = .ok (.aload_n 0, 1) := by decide +kernel
theorem dX7_keeps_11 : decode cX7_keeps 11 = .ok (.iconst 1, 1) := by decide +kernel
theorem dX7_keeps_12 : decode cX7_keeps 12 = .ok (.putfield 86, 3) := by decide +kernel
theorem dX7_keeps_15 : decode cX7_keeps 15 = .ok (.return_, 1) := by decide +kernel
theorem dX7_keeps_16 : decode cX7_keeps 16 = .ok (.aload_n 0, 1) := by decide +kernel
theorem dX7_keeps_17 : decode cX7_keeps 17 = .ok (.getfield 30, 3) := by decide +kernel
theorem dX7_keeps_20 : decode cX7_keeps 20 = .ok (.aload_n 0, 1) := by decide +kernel
theorem dX7_keeps_21 : decode cX7_keeps 21 = .ok (.getfield 83, 3) := by decide +kernel
theorem dX7_keeps_24 : decode cX7_keeps 24 = .ok (.iload_n 1, 1) := by decide +kernel
theorem dX7_keeps_25 : decode cX7_keeps 25 = .ok (.iastore, 1) := by decide +kernel
theorem dX7_keeps_26 : decode cX7_keeps 26 = .ok (.aload_n 0, 1) := by decide +kernel
theorem dX7_keeps_27 : decode cX7_keeps 27 = .ok (.getfield 33, 3) := by decide +kernel
theorem dX7_keeps_30 : decode cX7_keeps 30 = .ok (.aload_n 0, 1) := by decide +kernel
theorem dX7_keeps_31 : decode cX7_keeps 31 = .ok (.getfield 83, 3) := by decide +kernel
theorem dX7_keeps_34 : decode cX7_keeps 34 = .ok (.iconst 0, 1) := by decide +kernel
theorem dX7_keeps_35 : decode cX7_keeps 35 = .ok (.iastore, 1) := by decide +kernel
theorem dX7_keeps_36 : decode cX7_keeps 36 = .ok (.aload_n 0, 1) := by decide +kernel
theorem dX7_keeps_37 : decode cX7_keeps 37 = .ok (.getfield 36, 3) := by decide +kernel
theorem dX7_keeps_40 : decode cX7_keeps 40 = .ok (.aload_n 0, 1) := by decide +kernel
theorem dX7_keeps_41 : decode cX7_keeps 41 = .ok (.getfield 83, 3) := by decide +kernel
theorem dX7_keeps_44 : decode cX7_keeps 44 = .ok (.aload_n 0, 1) := by decide +kernel
theorem dX7_keeps_45 : decode cX7_keeps 45 = .ok (.getfield 66, 3) := by decide +kernel
theorem dX7_keeps_48 : decode cX7_keeps 48 = .ok (.iconst 1, 1) := by decide +kernel
theorem dX7_keeps_49 : decode cX7_keeps 49 = .ok (.iand, 1) := by decide +kernel
theorem dX7_keeps_50 : decode cX7_keeps 50 = .ok (.iastore, 1) := by decide +kernel
theorem dX7_keeps_51 : decode cX7_keeps 51 = .ok (.iconst 0, 1) := by decide +kernel
theorem dX7_keeps_52 : decode cX7_keeps 52 = .ok (.istore_n 2, 1) := by decide +kernel
theorem dX7_keeps_53 : decode cX7_keeps 53 = .ok (.iload_n 2, 1) := by decide +kernel
theorem dX7_keeps_54 : decode cX7_keeps 54 = .ok (.iload_n 1, 1) := by decide +kernel
theorem dX7_keeps_55 : decode cX7_keeps 55 = .ok (.if_icmp .ge 79, 3) := by decide +kernel
theorem dX7_keeps_58 : decode cX7_keeps 58 = .ok (.aload_n 0, 1) := by decide +kernel
theorem dX7_keeps_59 : decode cX7_keeps 59 = .ok (.getfield 27, 3) := by decide +kernel
theorem dX7_keeps_62 : decode cX7_keeps 62 = .ok (.bipush 16, 2) := by decide +kernel
theorem dX7_keeps_64 : decode cX7_keeps 64 = .ok (.aload_n 0, 1) := by decide +kernel
theorem dX7_keeps_65 : decode cX7_keeps 65 = .ok (.getfield 83, 3) := by decide +kernel
theorem dX7_keeps_68 : decode cX7_keeps 68 = .ok (.imul, 1) := by decide +kernel
theorem dX7_keeps_69 : decode cX7_keeps 69 = .ok (.iload_n 2, 1) := by decide +kernel
theorem dX7_keeps_70 : decode cX7_keeps 70 = .ok (.iadd, 1) := by decide +kernel
theorem dX7_keeps_71 : decode cX7_keeps 71 = .ok (.aload_n 0, 1) := by decide +kernel
theorem dX7_keeps_72 : decode cX7_keeps 72 = .ok (.getfield 42, 3) := by decide +kernel
theorem dX7_keeps_75 : decode cX7_keeps 75 = .ok (.iload_n 2, 1) := by decide +kernel
theorem dX7_keeps_76 : decode cX7_keeps 76 = .ok (.iaload, 1) := by decide +kernel
theorem dX7_keeps_77 : decode cX7_keeps 77 = .ok (.iastore, 1) := by decide +kernel
theorem dX7_keeps_78 : decode cX7_keeps 78 = .ok (.aload_n 0, 1) := by decide +kernel
theorem dX7_keeps_79 : decode cX7_keeps 79 = .ok (.getfield 33, 3) := by decide +kernel
theorem dX7_keeps_82 : decode cX7_keeps 82 = .ok (.aload_n 0, 1) := by decide +kernel
theorem dX7_keeps_83 : decode cX7_keeps 83 = .ok (.getfield 83, 3) := by decide +kernel
theorem dX7_keeps_86 : decode cX7_keeps 86 = .ok (.dup2, 1) := by decide +kernel
theorem dX7_keeps_87 : decode cX7_keeps 87 = .ok (.iaload, 1) := by decide +kernel
theorem dX7_keeps_88 : decode cX7_keeps 88 = .ok (.iconst 1, 1) := by decide +kernel
theorem dX7_keeps_89 : decode cX7_keeps 89 = .ok (.aload_n 0, 1) := by decide +kernel
theorem dX7_keeps_90 : decode cX7_keeps 90 = .ok (.getfield 42, 3) := by decide +kernel
theorem dX7_keeps_93 : decode cX7_keeps 93 = .ok (.iload_n 2, 1) := by decide +kernel
theorem dX7_keeps_94 : decode cX7_keeps 94 = .ok (.iaload, 1) := by decide +kernel
theorem dX7_keeps_95 : decode cX7_keeps 95 = .ok (.ishl, 1) := by decide +kernel
theorem dX7_keeps_96 : decode cX7_keeps 96 = .ok (.ior, 1) := by decide +kernel
theorem dX7_keeps_97 : decode cX7_keeps 97 = .ok (.iastore, 1) := by decide +kernel
theorem dX7_keeps_98 : decode cX7_keeps 98 = .ok (.aload_n 0, 1) := by decide +kernel
theorem dX7_keeps_99 : decode cX7_keeps 99 = .ok (.getfield 36, 3) := by decide +kernel
theorem dX7_keeps_102 : decode cX7_keeps 102 = .ok (.aload_n 0, 1) := by decide +kernel
theorem dX7_keeps_103 : decode cX7_keeps 103 = .ok (.getfield 83, 3) := by decide +kernel
theorem dX7_keeps_106 : decode cX7_keeps 106 = .ok (.dup2, 1) := by decide +kernel
theorem dX7_keeps_107 : decode cX7_keeps 107 = .ok (.iaload, 1) := by decide +kernel
theorem dX7_keeps_108 : decode cX7_keeps 108 = .ok (.aload_n 0, 1) := by decide +kernel
theorem dX7_keeps_109 : decode cX7_keeps 109 = .ok (.getfield 66, 3) := by decide +kernel
theorem dX7_keeps_112 : decode cX7_keeps 112 = .ok (.iconst 1, 1) := by decide +kernel
theorem dX7_keeps_113 : decode cX7_keeps 113 = .ok (.aload_n 0, 1) := by decide +kernel
theorem dX7_keeps_114 : decode cX7_keeps 114 = .ok (.getfield 21, 3) := by decide +kernel
theorem dX7_keeps_117 : decode cX7_keeps 117 = .ok (.aload_n 0, 1) := by decide +kernel
theorem dX7_keeps_118 : decode cX7_keeps 118 = .ok (.getfield 42, 3) := by decide +kernel
theorem dX7_keeps_121 : decode cX7_keeps 121 = .ok (.iload_n 2, 1) := by decide +kernel
theorem dX7_keeps_122 : decode cX7_keeps 122 = .ok (.iaload, 1) := by decide +kernel
theorem dX7_keeps_123 : decode cX7_keeps 123 = .ok (.iaload, 1) := by decide +kernel
theorem dX7_keeps_124 : decode cX7_keeps 124 = .ok (.ishl, 1) := by decide +kernel
theorem dX7_keeps_125 : decode cX7_keeps 125 = .ok (.iand, 1) := by decide +kernel
theorem dX7_keeps_126 : decode cX7_keeps 126 = .ok (.ior, 1) := by decide +kernel
theorem dX7_keeps_127 : decode cX7_keeps 127 = .ok (.iastore, 1) := by decide +kernel
theorem dX7_keeps_128 : decode cX7_keeps 128 = .ok (.iinc 2 1, 3) := by decide +kernel
theorem dX7_keeps_131 : decode cX7_keeps 131 = .ok (.goto (-78), 3) := by decide +kernel
theorem dX7_keeps_134 : decode cX7_keeps 134 = .ok (.aload_n 0, 1) := by decide +kernel
theorem dX7_keeps_135 : decode cX7_keeps 135 = .ok (.dup, 1) := by decide +kernel
theorem dX7_keeps_136 : decode cX7_keeps 136 = .ok (.getfield 83, 3) := by decide +kernel
theorem dX7_keeps_139 : decode cX7_keeps 139 = .ok (.iconst 1, 1) := by decide +kernel
theorem dX7_keeps_140 : decode cX7_keeps 140 = .ok (.iadd, 1) := by decide +kernel
theorem dX7_keeps_141 : decode cX7_keeps 141 = .ok (.putfield 83, 3) := by decide +kernel
theorem dX7_keeps_144 : decode cX7_keeps 144 = .ok (.return_, 1) := by decide +kernel
theorem dX7_works_0 : decode cX7_works 0 = .ok (.aload_n 0, 1) := by decide +kernel
theorem dX7_works_1 : decode cX7_works 1 = .ok (.iconst 0, 1) := by decide +kernel
theorem dX7_works_2 : decode cX7_works 2 = .ok (.putfield 83, 3) := by decide +kernel
theorem dX7_works_5 : decode cX7_works 5 = .ok (.aload_n 0, 1) := by decide +kernel
theorem dX7_works_6 : decode cX7_works 6 = .ok (.iconst 0, 1) := by decide +kernel
theorem dX7_works_7 : decode cX7_works 7 = .ok (.putfield 86, 3) := by decide +kernel
theorem dX7_works_10 : decode cX7_works 10 = .ok (.iconst 0, 1) := by decide +kernel
theorem dX7_works_11 : decode cX7_works 11 = .ok (.istore_n 1, 1) := by decide +kernel
theorem dX7_works_12 : decode cX7_works 12 = .ok (.iconst 0, 1) := by decide +kernel
theorem dX7_works_13 : decode cX7_works 13 = .ok (.istore_n 2, 1) := by decide +kernel
theorem dX7_works_14 : decode cX7_works 14 = .ok (.iload_n 1, 1) := by decide +kernel
theorem dX7_works_15 : decode cX7_works 15 = .ok (.ifCond .lt 136, 3) := by decide +kernel
theorem dX7_works_18 : decode cX7_works 18 = .ok (.aload_n 0, 1) := by decide +kernel
theorem dX7_works_19 : decode cX7_works 19 = .ok (.getfield 86, 3) := by decide +kernel
theorem dX7_works_22 : decode cX7_works 22 = .ok (.ifCond .ne 129, 3) := by decide +kernel
theorem dX7_works_25 : decode cX7_works 25 = .ok (.iload_n 1, 1) := by decide +kernel
theorem dX7_works_26 : decode cX7_works 26 = .ok (.ifCond .ne 7, 3) := by decide +kernel
theorem dX7_works_29 : decode cX7_works 29 = .ok (.iconst 0, 1) := by decide +kernel
theorem dX7_works_30 : decode cX7_works 30 = .ok (.goto 16, 3) := by decide +kernel
theorem dX7_works_33 : decode cX7_works 33 = .ok (.aload_n 0, 1) := by decide +kernel
theorem dX7_works_34 : decode cX7_works 34 = .ok (.getfield 21, 3) := by decide +kernel
theorem dX7_works_37 : decode cX7_works 37 = .ok (.aload_n 0, 1) := by decide +kernel
theorem dX7_works_38 : decode cX7_works 38 = .ok (.getfield 42, 3) := by decide +kernel
theorem dX7_works_41 : decode cX7_works 41 = .ok (.iload_n 1, 1) := by decide +kernel
theorem dX7_works_42 : decode cX7_works 42 = .ok (.iconst 1, 1) := by decide +kernel
theorem dX7_works_43 : decode cX7_works 43 = .ok (.isub, 1) := by decide +kernel
theorem dX7_works_44 : decode cX7_works 44 = .ok (.iaload, 1) := by decide +kernel
theorem dX7_works_45 : decode cX7_works 45 = .ok (.iaload, 1) := by decide +kernel
theorem dX7_works_46 : decode cX7_works 46 = .ok (.istore_n 3, 1) := by decide +kernel
theorem dX7_works_47 : decode cX7_works 47 = .ok (.iload_n 1, 1) := by decide +kernel
theorem dX7_works_48 : decode cX7_works 48 = .ok (.ifCond .le 33, 3) := by decide +kernel
theorem dX7_works_51 : decode cX7_works 51 = .ok (.iload_n 3, 1) := by decide +kernel
theorem dX7_works_52 : decode cX7_works 52 = .ok (.aload_n 0, 1) := by decide +kernel
theorem dX7_works_53 : decode cX7_works 53 = .ok (.getfield 13, 3) := by decide +kernel
theorem dX7_works_56 : decode cX7_works 56 = .ok (.iconst 1, 1) := by decide +kernel
theorem dX7_works_57 : decode cX7_works 57 = .ok (.isub, 1) := by decide +kernel
theorem dX7_works_58 : decode cX7_works 58 = .ok (.if_icmp .ne 23, 3) := by decide +kernel
theorem dX7_works_61 : decode cX7_works 61 = .ok (.aload_n 0, 1) := by decide +kernel
theorem dX7_works_62 : decode cX7_works 62 = .ok (.iload_n 1, 1) := by decide +kernel
theorem dX7_works_63 : decode cX7_works 63 = .ok (.invokevirtual 89, 3) := by decide +kernel
theorem dX7_works_66 : decode cX7_works 66 = .ok (.iinc 1 (-1), 3) := by decide +kernel
theorem dX7_works_69 : decode cX7_works 69 = .ok (.aload_n 0, 1) := by decide +kernel
theorem dX7_works_70 : decode cX7_works 70 = .ok (.getfield 42, 3) := by decide +kernel
theorem dX7_works_73 : decode cX7_works 73 = .ok (.iload_n 1, 1) := by decide +kernel
theorem dX7_works_74 : decode cX7_works 74 = .ok (.iaload, 1) := by decide +kernel
theorem dX7_works_75 : decode cX7_works 75 = .ok (.iconst 1, 1) := by decide +kernel
theorem dX7_works_76 : decode cX7_works 76 = .ok (.iadd, 1) := by decide +kernel
theorem dX7_works_77 : decode cX7_works 77 = .ok (.istore_n 2, 1) := by decide +kernel
theorem dX7_works_78 : decode cX7_works 78 = .ok (.goto (-64), 3) := by decide +kernel
theorem dX7_works_81 : decode cX7_works 81 = .ok (.iload_n 2, 1) := by decide +kernel
theorem dX7_works_82 : decode cX7_works 82 = .ok (.aload_n 0, 1) := by decide +kernel
theorem dX7_works_83 : decode cX7_works 83 = .ok (.getfield 52, 3) := by decide +kernel
theorem dX7_works_86 : decode cX7_works 86 = .ok (.if_icmp .ge 19, 3) := by decide +kernel
theorem dX7_works_89 : decode cX7_works 89 = .ok (.aload_n 0, 1) := by decide +kernel
theorem dX7_works_90 : decode cX7_works 90 = .ok (.getfield 17, 3) := by decide +kernel
theorem dX7_works_93 : decode cX7_works 93 = .ok (.iload_n 2, 1) := by decide +kernel
theorem dX7_works_94 : decode cX7_works 94 = .ok (.iaload, 1) := by decide +kernel
theorem dX7_works_95 : decode cX7_works 95 = .ok (.iload_n 3, 1) := by decide +kernel
theorem dX7_works_96 : decode cX7_works 96 = .ok (.if_icmp .eq 9, 3) := by decide +kernel
theorem dX7_works_99 : decode cX7_works 99 = .ok (.iinc 2 1, 3) := by decide +kernel
theorem dX7_works_102 : decode cX7_works 102 = .ok (.goto (-21), 3) := by decide +kernel
theorem dX7_works_105 : decode cX7_works 105 = .ok (.iload_n 2, 1) := by decide +kernel
theorem dX7_works_106 : decode cX7_works 106 = .ok (.aload_n 0, 1) := by decide +kernel
theorem dX7_works_107 : decode cX7_works 107 = .ok (.getfield 52, 3) := by decide +kernel
theorem dX7_works_110 : decode cX7_works 110 = .ok (.if_icmp .ge 18, 3) := by decide +kernel
theorem dX7_works_113 : decode cX7_works 113 = .ok (.aload_n 0, 1) := by decide +kernel
theorem dX7_works_114 : decode cX7_works 114 = .ok (.getfield 42, 3) := by decide +kernel
theorem dX7_works_117 : decode cX7_works 117 = .ok (.iload_n 1, 1) := by decide +kernel
theorem dX7_works_118 : decode cX7_works 118 = .ok (.iload_n 2, 1) := by decide +kernel
theorem dX7_works_119 : decode cX7_works 119 = .ok (.iastore, 1) := by decide +kernel
theorem dX7_works_120 : decode cX7_works 120 = .ok (.iinc 1 1, 3) := by decide +kernel
theorem dX7_works_123 : decode cX7_works 123 = .ok (.iconst 0, 1) := by decide +kernel
theorem dX7_works_124 : decode cX7_works 124 = .ok (.istore_n 2, 1) := by decide +kernel
theorem dX7_works_125 : decode cX7_works 125 = .ok (.goto (-111), 3) := by decide +kernel
theorem dX7_works_128 : decode cX7_works 128 = .ok (.iinc 1 (-1), 3) := by decide +kernel
theorem dX7_works_131 : decode cX7_works 131 = .ok (.iload_n 1, 1) := by decide +kernel
theorem dX7_works_132 : decode cX7_works 132 = .ok (.ifCond .lt 14, 3) := by decide +kernel
theorem dX7_works_135 : decode cX7_works 135 = .ok (.aload_n 0, 1) := by decide +kernel
theorem dX7_works_136 : decode cX7_works 136 = .ok (.getfield 42, 3) := by decide +kernel
theorem dX7_works_139 : decode cX7_works 139 = .ok (.iload_n 1, 1) := by decide +kernel
theorem dX7_works_140 : decode cX7_works 140 = .ok (.iaload, 1) := by decide +kernel
theorem dX7_works_141 : decode cX7_works 141 = .ok (.iconst 1, 1) := by decide +kernel
theorem dX7_works_142 : decode cX7_works 142 = .ok (.iadd, 1) := by decide +kernel
theorem dX7_works_143 : decode cX7_works 143 = .ok (.goto 4, 3) := by decide +kernel
theorem dX7_works_146 : decode cX7_works 146 = .ok (.iconst 0, 1) := by decide +kernel
theorem dX7_works_147 : decode cX7_works 147 = .ok (.istore_n 2, 1) := by decide +kernel
theorem dX7_works_148 : decode cX7_works 148 = .ok (.goto (-134), 3) := by decide +kernel
theorem dX7_works_151 : decode cX7_works 151 = .ok (.return_, 1) := by decide +kernel
theorem dX7_isTooMany_0 : decode cX7_isTooMany 0 = .ok (.aload_n 0, 1) := by decide +kernel
theorem dX7_isTooMany_1 : decode cX7_isTooMany 1 = .ok (.invokevirtual 93, 3) := by decide +kernel
theorem dX7_isTooMany_4 : decode cX7_isTooMany 4 = .ok (.aload_n 0, 1) := by decide +kernel
theorem dX7_isTooMany_5 : decode cX7_isTooMany 5 = .ok (.getfield 86, 3) := by decide +kernel
theorem dX7_isTooMany_8 : decode cX7_isTooMany 8 = .ok (.ireturn, 1) := by decide +kernel
theorem dX7_ways_0 : decode cX7_ways 0 = .ok (.aload_n 0, 1) := by decide +kernel
theorem dX7_ways_1 : decode cX7_ways 1 = .ok (.invokevirtual 96, 3) := by decide +kernel
theorem dX7_ways_4 : decode cX7_ways 4 = .ok (.ifCond .eq 8, 3) := by decide +kernel
theorem dX7_ways_7 : decode cX7_ways 7 = .ok (.bipush (-2), 2) := by decide +kernel
theorem dX7_ways_9 : decode cX7_ways 9 = .ok (.goto 7, 3) := by decide +kernel
theorem dX7_ways_12 : decode cX7_ways 12 = .ok (.aload_n 0, 1) := by decide +kernel
theorem dX7_ways_13 : decode cX7_ways 13 = .ok (.getfield 83, 3) := by decide +kernel
theorem dX7_ways_16 : decode cX7_ways 16 = .ok (.ireturn, 1) := by decide +kernel
theorem dX7_way_0 : decode cX7_way 0 = .ok (.aload_n 0, 1) := by decide +kernel
theorem dX7_way_1 : decode cX7_way 1 = .ok (.invokevirtual 96, 3) := by decide +kernel
theorem dX7_way_4 : decode cX7_way 4 = .ok (.ifCond .ne 37, 3) := by decide +kernel
theorem dX7_way_7 : decode cX7_way 7 = .ok (.iload_n 1, 1) := by decide +kernel
theorem dX7_way_8 : decode cX7_way 8 = .ok (.i2l, 1) := by decide +kernel
theorem dX7_way_9 : decode cX7_way 9 = .ok (.lconst 0, 1) := by decide +kernel
theorem dX7_way_10 : decode cX7_way 10 = .ok (.aload_n 0, 1) := by decide +kernel
theorem dX7_way_11 : decode cX7_way 11 = .ok (.getfield 83, 3) := by decide +kernel
theorem dX7_way_14 : decode cX7_way 14 = .ok (.iconst 1, 1) := by decide +kernel
theorem dX7_way_15 : decode cX7_way 15 = .ok (.isub, 1) := by decide +kernel
theorem dX7_way_16 : decode cX7_way 16 = .ok (.i2l, 1) := by decide +kernel
theorem dX7_way_17 : decode cX7_way 17 = .ok (.invokestatic 55, 3) := by decide +kernel
theorem dX7_way_20 : decode cX7_way 20 = .ok (.ifCond .eq 21, 3) := by decide +kernel
theorem dX7_way_23 : decode cX7_way 23 = .ok (.iload_n 2, 1) := by decide +kernel
theorem dX7_way_24 : decode cX7_way 24 = .ok (.i2l, 1) := by decide +kernel
theorem dX7_way_25 : decode cX7_way 25 = .ok (.lconst 0, 1) := by decide +kernel
theorem dX7_way_26 : decode cX7_way 26 = .ok (.aload_n 0, 1) := by decide +kernel
theorem dX7_way_27 : decode cX7_way 27 = .ok (.getfield 30, 3) := by decide +kernel
theorem dX7_way_30 : decode cX7_way 30 = .ok (.iload_n 1, 1) := by decide +kernel
theorem dX7_way_31 : decode cX7_way 31 = .ok (.iaload, 1) := by decide +kernel
theorem dX7_way_32 : decode cX7_way 32 = .ok (.iconst 1, 1) := by decide +kernel
theorem dX7_way_33 : decode cX7_way 33 = .ok (.isub, 1) := by decide +kernel
theorem dX7_way_34 : decode cX7_way 34 = .ok (.i2l, 1) := by decide +kernel
theorem dX7_way_35 : decode cX7_way 35 = .ok (.invokestatic 55, 3) := by decide +kernel
theorem dX7_way_38 : decode cX7_way 38 = .ok (.ifCond .ne 5, 3) := by decide +kernel
theorem dX7_way_41 : decode cX7_way 41 = .ok (.iconst (-1), 1) := by decide +kernel
theorem dX7_way_42 : decode cX7_way 42 = .ok (.ireturn, 1) := by decide +kernel
theorem dX7_way_43 : decode cX7_way 43 = .ok (.aload_n 0, 1) := by decide +kernel
theorem dX7_way_44 : decode cX7_way 44 = .ok (.getfield 27, 3) := by decide +kernel
theorem dX7_way_47 : decode cX7_way 47 = .ok (.bipush 16, 2) := by decide +kernel
theorem dX7_way_49 : decode cX7_way 49 = .ok (.iload_n 1, 1) := by decide +kernel
theorem dX7_way_50 : decode cX7_way 50 = .ok (.imul, 1) := by decide +kernel
theorem dX7_way_51 : decode cX7_way 51 = .ok (.iload_n 2, 1) := by decide +kernel
theorem dX7_way_52 : decode cX7_way 52 = .ok (.iadd, 1) := by decide +kernel
theorem dX7_way_53 : decode cX7_way 53 = .ok (.iaload, 1) := by decide +kernel
theorem dX7_way_54 : decode cX7_way 54 = .ok (.ireturn, 1) := by decide +kernel
theorem dX7_logOf_0 : decode cX7_logOf 0 = .ok (.iconst 0, 1) := by decide +kernel
theorem dX7_logOf_1 : decode cX7_logOf 1 = .ok (.istore_n 3, 1) := by decide +kernel
theorem dX7_logOf_2 : decode cX7_logOf 2 = .ok (.iconst 0, 1) := by decide +kernel
theorem dX7_logOf_3 : decode cX7_logOf 3 = .ok (.istore 4, 2) := by decide +kernel
theorem dX7_logOf_5 : decode cX7_logOf 5 = .ok (.iload 4, 2) := by decide +kernel
theorem dX7_logOf_7 : decode cX7_logOf 7 = .ok (.aload_n 0, 1) := by decide +kernel
theorem dX7_logOf_8 : decode cX7_logOf 8 = .ok (.getfield 30, 3) := by decide +kernel
theorem dX7_logOf_11 : decode cX7_logOf 11 = .ok (.iload_n 1, 1) := by decide +kernel
theorem dX7_logOf_12 : decode cX7_logOf 12 = .ok (.iaload, 1) := by decide +kernel
theorem dX7_logOf_13 : decode cX7_logOf 13 = .ok (.if_icmp .ge 55, 3) := by decide +kernel
theorem dX7_logOf_16 : decode cX7_logOf 16 = .ok (.aload_n 0, 1) := by decide +kernel
theorem dX7_logOf_17 : decode cX7_logOf 17 = .ok (.getfield 63, 3) := by decide +kernel
theorem dX7_logOf_20 : decode cX7_logOf 20 = .ok (.aload_n 0, 1) := by decide +kernel
theorem dX7_logOf_21 : decode cX7_logOf 21 = .ok (.getfield 27, 3) := by decide +kernel
theorem dX7_logOf_24 : decode cX7_logOf 24 = .ok (.bipush 16, 2) := by decide +kernel
theorem dX7_logOf_26 : decode cX7_logOf 26 = .ok (.iload_n 1, 1) := by decide +kernel
theorem dX7_logOf_27 : decode cX7_logOf 27 = .ok (.imul, 1) := by decide +kernel
theorem dX7_logOf_28 : decode cX7_logOf 28 = .ok (.iload 4, 2) := by decide +kernel
theorem dX7_logOf_30 : decode cX7_logOf 30 = .ok (.iadd, 1) := by decide +kernel
theorem dX7_logOf_31 : decode cX7_logOf 31 = .ok (.iaload, 1) := by decide +kernel
theorem dX7_logOf_32 : decode cX7_logOf 32 = .ok (.invokestatic 79, 3) := by decide +kernel
theorem dX7_logOf_35 : decode cX7_logOf 35 = .ok (.ifCond .ne 6, 3) := by decide +kernel
theorem dX7_logOf_38 : decode cX7_logOf 38 = .ok (.goto 24, 3) := by decide +kernel
theorem dX7_logOf_41 : decode cX7_logOf 41 = .ok (.iload_n 3, 1) := by decide +kernel
theorem dX7_logOf_42 : decode cX7_logOf 42 = .ok (.iload_n 2, 1) := by decide +kernel
theorem dX7_logOf_43 : decode cX7_logOf 43 = .ok (.if_icmp .ne 16, 3) := by decide +kernel
theorem dX7_logOf_46 : decode cX7_logOf 46 = .ok (.aload_n 0, 1) := by decide +kernel
theorem dX7_logOf_47 : decode cX7_logOf 47 = .ok (.getfield 27, 3) := by decide +kernel
theorem dX7_logOf_50 : decode cX7_logOf 50 = .ok (.bipush 16, 2) := by decide +kernel
theorem dX7_logOf_52 : decode cX7_logOf 52 = .ok (.iload_n 1, 1) := by decide +kernel
theorem dX7_logOf_53 : decode cX7_logOf 53 = .ok (.imul, 1) := by decide +kernel
theorem dX7_logOf_54 : decode cX7_logOf 54 = .ok (.iload 4, 2) := by decide +kernel
theorem dX7_logOf_56 : decode cX7_logOf 56 = .ok (.iadd, 1) := by decide +kernel
theorem dX7_logOf_57 : decode cX7_logOf 57 = .ok (.iaload, 1) := by decide +kernel
theorem dX7_logOf_58 : decode cX7_logOf 58 = .ok (.ireturn, 1) := by decide +kernel
theorem dX7_logOf_59 : decode cX7_logOf 59 = .ok (.iinc 3 1, 3) := by decide +kernel
theorem dX7_logOf_62 : decode cX7_logOf 62 = .ok (.iinc 4 1, 3) := by decide +kernel
theorem dX7_logOf_65 : decode cX7_logOf 65 = .ok (.goto (-60), 3) := by decide +kernel
theorem dX7_logOf_68 : decode cX7_logOf 68 = .ok (.iconst (-1), 1) := by decide +kernel
theorem dX7_logOf_69 : decode cX7_logOf 69 = .ok (.ireturn, 1) := by decide +kernel
theorem dX7_log_0 : decode cX7_log 0 = .ok (.aload_n 0, 1) := by decide +kernel
theorem dX7_log_1 : decode cX7_log 1 = .ok (.invokevirtual 96, 3) := by decide +kernel
theorem dX7_log_4 : decode cX7_log 4 = .ok (.ifCond .ne 23, 3) := by decide +kernel
theorem dX7_log_7 : decode cX7_log 7 = .ok (.iload_n 1, 1) := by decide +kernel
theorem dX7_log_8 : decode cX7_log 8 = .ok (.i2l, 1) := by decide +kernel
theorem dX7_log_9 : decode cX7_log 9 = .ok (.lconst 0, 1) := by decide +kernel
theorem dX7_log_10 : decode cX7_log 10 = .ok (.aload_n 0, 1) := by decide +kernel
theorem dX7_log_11 : decode cX7_log 11 = .ok (.getfield 83, 3) := by decide +kernel
theorem dX7_log_14 : decode cX7_log 14 = .ok (.iconst 1, 1) := by decide +kernel
theorem dX7_log_15 : decode cX7_log 15 = .ok (.isub, 1) := by decide +kernel
theorem dX7_log_16 : decode cX7_log 16 = .ok (.i2l, 1) := by decide +kernel
theorem dX7_log_17 : decode cX7_log 17 = .ok (.invokestatic 55, 3) := by decide +kernel
theorem dX7_log_20 : decode cX7_log 20 = .ok (.ifCond .eq 7, 3) := by decide +kernel
theorem dX7_log_23 : decode cX7_log 23 = .ok (.iload_n 2, 1) := by decide +kernel
theorem dX7_log_24 : decode cX7_log 24 = .ok (.ifCond .ge 7, 3) := by decide +kernel
theorem dX7_log_27 : decode cX7_log 27 = .ok (.iconst (-1), 1) := by decide +kernel
theorem dX7_log_28 : decode cX7_log 28 = .ok (.goto 9, 3) := by decide +kernel
theorem dX7_log_31 : decode cX7_log 31 = .ok (.aload_n 0, 1) := by decide +kernel
theorem dX7_log_32 : decode cX7_log 32 = .ok (.iload_n 1, 1) := by decide +kernel
theorem dX7_log_33 : decode cX7_log 33 = .ok (.iload_n 2, 1) := by decide +kernel
theorem dX7_log_34 : decode cX7_log 34 = .ok (.invokevirtual 100, 3) := by decide +kernel
theorem dX7_log_37 : decode cX7_log 37 = .ok (.ireturn, 1) := by decide +kernel
theorem dX7_areParted_0 : decode cX7_areParted 0 = .ok (.aload_n 0, 1) := by decide +kernel
theorem dX7_areParted_1 : decode cX7_areParted 1 = .ok (.getfield 33, 3) := by decide +kernel
theorem dX7_areParted_4 : decode cX7_areParted 4 = .ok (.iload_n 1, 1) := by decide +kernel
theorem dX7_areParted_5 : decode cX7_areParted 5 = .ok (.iaload, 1) := by decide +kernel
theorem dX7_areParted_6 : decode cX7_areParted 6 = .ok (.iload_n 3, 1) := by decide +kernel
theorem dX7_areParted_7 : decode cX7_areParted 7 = .ok (.iand, 1) := by decide +kernel
theorem dX7_areParted_8 : decode cX7_areParted 8 = .ok (.aload_n 0, 1) := by decide +kernel
theorem dX7_areParted_9 : decode cX7_areParted 9 = .ok (.getfield 33, 3) := by decide +kernel
theorem dX7_areParted_12 : decode cX7_areParted 12 = .ok (.iload_n 2, 1) := by decide +kernel
theorem dX7_areParted_13 : decode cX7_areParted 13 = .ok (.iaload, 1) := by decide +kernel
theorem dX7_areParted_14 : decode cX7_areParted 14 = .ok (.iload_n 3, 1) := by decide +kernel
theorem dX7_areParted_15 : decode cX7_areParted 15 = .ok (.iand, 1) := by decide +kernel
theorem dX7_areParted_16 : decode cX7_areParted 16 = .ok (.if_icmp .eq 7, 3) := by decide +kernel
theorem dX7_areParted_19 : decode cX7_areParted 19 = .ok (.iconst 1, 1) := by decide +kernel
theorem dX7_areParted_20 : decode cX7_areParted 20 = .ok (.goto 4, 3) := by decide +kernel
theorem dX7_areParted_23 : decode cX7_areParted 23 = .ok (.iconst 0, 1) := by decide +kernel
theorem dX7_areParted_24 : decode cX7_areParted 24 = .ok (.ireturn, 1) := by decide +kernel
theorem dX7_firstOf_0 : decode cX7_firstOf 0 = .ok (.iconst 0, 1) := by decide +kernel
theorem dX7_firstOf_1 : decode cX7_firstOf 1 = .ok (.istore_n 3, 1) := by decide +kernel
theorem dX7_firstOf_2 : decode cX7_firstOf 2 = .ok (.aload_n 0, 1) := by decide +kernel
theorem dX7_firstOf_3 : decode cX7_firstOf 3 = .ok (.iload_n 1, 1) := by decide +kernel
theorem dX7_firstOf_4 : decode cX7_firstOf 4 = .ok (.iload_n 3, 1) := by decide +kernel
theorem dX7_firstOf_5 : decode cX7_firstOf 5 = .ok (.iload_n 2, 1) := by decide +kernel
theorem dX7_firstOf_6 : decode cX7_firstOf 6 = .ok (.invokevirtual 104, 3) := by decide +kernel
theorem dX7_firstOf_9 : decode cX7_firstOf 9 = .ok (.ifCond .eq 9, 3) := by decide +kernel
theorem dX7_firstOf_12 : decode cX7_firstOf 12 = .ok (.iinc 3 1, 3) := by decide +kernel
theorem dX7_firstOf_15 : decode cX7_firstOf 15 = .ok (.goto (-13), 3) := by decide +kernel
theorem dX7_firstOf_18 : decode cX7_firstOf 18 = .ok (.iload_n 3, 1) := by decide +kernel
theorem dX7_firstOf_19 : decode cX7_firstOf 19 = .ok (.ireturn, 1) := by decide +kernel
theorem dX7_heapsBy_0 : decode cX7_heapsBy 0 = .ok (.iconst 0, 1) := by decide +kernel
theorem dX7_heapsBy_1 : decode cX7_heapsBy 1 = .ok (.istore_n 2, 1) := by decide +kernel
theorem dX7_heapsBy_2 : decode cX7_heapsBy 2 = .ok (.iconst 0, 1) := by decide +kernel
theorem dX7_heapsBy_3 : decode cX7_heapsBy 3 = .ok (.istore_n 3, 1) := by decide +kernel
theorem dX7_heapsBy_4 : decode cX7_heapsBy 4 = .ok (.iload_n 3, 1) := by decide +kernel
theorem dX7_heapsBy_5 : decode cX7_heapsBy 5 = .ok (.aload_n 0, 1) := by decide +kernel
theorem dX7_heapsBy_6 : decode cX7_heapsBy 6 = .ok (.getfield 83, 3) := by decide +kernel
theorem dX7_heapsBy_9 : decode cX7_heapsBy 9 = .ok (.if_icmp .ge 27, 3) := by decide +kernel
theorem dX7_heapsBy_12 : decode cX7_heapsBy 12 = .ok (.iload_n 2, 1) := by decide +kernel
theorem dX7_heapsBy_13 : decode cX7_heapsBy 13 = .ok (.aload_n 0, 1) := by decide +kernel
theorem dX7_heapsBy_14 : decode cX7_heapsBy 14 = .ok (.iload_n 3, 1) := by decide +kernel
theorem dX7_heapsBy_15 : decode cX7_heapsBy 15 = .ok (.iload_n 1, 1) := by decide +kernel
theorem dX7_heapsBy_16 : decode cX7_heapsBy 16 = .ok (.invokevirtual 108, 3) := by decide +kernel
theorem dX7_heapsBy_19 : decode cX7_heapsBy 19 = .ok (.iload_n 3, 1) := by decide +kernel
theorem dX7_heapsBy_20 : decode cX7_heapsBy 20 = .ok (.if_icmp .ne 7, 3) := by decide +kernel
theorem dX7_heapsBy_23 : decode cX7_heapsBy 23 = .ok (.iconst 1, 1) := by decide +kernel
theorem dX7_heapsBy_24 : decode cX7_heapsBy 24 = .ok (.goto 4, 3) := by decide +kernel
theorem dX7_heapsBy_27 : decode cX7_heapsBy 27 = .ok (.iconst 0, 1) := by decide +kernel
theorem dX7_heapsBy_28 : decode cX7_heapsBy 28 = .ok (.iadd, 1) := by decide +kernel
theorem dX7_heapsBy_29 : decode cX7_heapsBy 29 = .ok (.istore_n 2, 1) := by decide +kernel
theorem dX7_heapsBy_30 : decode cX7_heapsBy 30 = .ok (.iinc 3 1, 3) := by decide +kernel
theorem dX7_heapsBy_33 : decode cX7_heapsBy 33 = .ok (.goto (-29), 3) := by decide +kernel
theorem dX7_heapsBy_36 : decode cX7_heapsBy 36 = .ok (.iload_n 2, 1) := by decide +kernel
theorem dX7_heapsBy_37 : decode cX7_heapsBy 37 = .ok (.ireturn, 1) := by decide +kernel
theorem dX7_heaps_0 : decode cX7_heaps 0 = .ok (.aload_n 0, 1) := by decide +kernel
theorem dX7_heaps_1 : decode cX7_heaps 1 = .ok (.invokevirtual 96, 3) := by decide +kernel
theorem dX7_heaps_4 : decode cX7_heaps 4 = .ok (.ifCond .eq 8, 3) := by decide +kernel
theorem dX7_heaps_7 : decode cX7_heaps 7 = .ok (.bipush (-2), 2) := by decide +kernel
theorem dX7_heaps_9 : decode cX7_heaps 9 = .ok (.goto 11, 3) := by decide +kernel
theorem dX7_heaps_12 : decode cX7_heaps 12 = .ok (.aload_n 0, 1) := by decide +kernel
theorem dX7_heaps_13 : decode cX7_heaps 13 = .ok (.aload_n 0, 1) := by decide +kernel
theorem dX7_heaps_14 : decode cX7_heaps 14 = .ok (.getfield 63, 3) := by decide +kernel
theorem dX7_heaps_17 : decode cX7_heaps 17 = .ok (.invokevirtual 111, 3) := by decide +kernel
theorem dX7_heaps_20 : decode cX7_heaps 20 = .ok (.ireturn, 1) := by decide +kernel
theorem dX7_heap_0 : decode cX7_heap 0 = .ok (.aload_n 0, 1) := by decide +kernel
theorem dX7_heap_1 : decode cX7_heap 1 = .ok (.invokevirtual 96, 3) := by decide +kernel
theorem dX7_heap_4 : decode cX7_heap 4 = .ok (.ifCond .ne 19, 3) := by decide +kernel
theorem dX7_heap_7 : decode cX7_heap 7 = .ok (.iload_n 1, 1) := by decide +kernel
theorem dX7_heap_8 : decode cX7_heap 8 = .ok (.i2l, 1) := by decide +kernel
theorem dX7_heap_9 : decode cX7_heap 9 = .ok (.lconst 0, 1) := by decide +kernel
theorem dX7_heap_10 : decode cX7_heap 10 = .ok (.aload_n 0, 1) := by decide +kernel
theorem dX7_heap_11 : decode cX7_heap 11 = .ok (.getfield 83, 3) := by decide +kernel
theorem dX7_heap_14 : decode cX7_heap 14 = .ok (.iconst 1, 1) := by decide +kernel
theorem dX7_heap_15 : decode cX7_heap 15 = .ok (.isub, 1) := by decide +kernel
theorem dX7_heap_16 : decode cX7_heap 16 = .ok (.i2l, 1) := by decide +kernel
theorem dX7_heap_17 : decode cX7_heap 17 = .ok (.invokestatic 55, 3) := by decide +kernel
theorem dX7_heap_20 : decode cX7_heap 20 = .ok (.ifCond .ne 7, 3) := by decide +kernel
theorem dX7_heap_23 : decode cX7_heap 23 = .ok (.iconst (-1), 1) := by decide +kernel
theorem dX7_heap_24 : decode cX7_heap 24 = .ok (.goto 12, 3) := by decide +kernel
theorem dX7_heap_27 : decode cX7_heap 27 = .ok (.aload_n 0, 1) := by decide +kernel
theorem dX7_heap_28 : decode cX7_heap 28 = .ok (.iload_n 1, 1) := by decide +kernel
theorem dX7_heap_29 : decode cX7_heap 29 = .ok (.aload_n 0, 1) := by decide +kernel
theorem dX7_heap_30 : decode cX7_heap 30 = .ok (.getfield 63, 3) := by decide +kernel
theorem dX7_heap_33 : decode cX7_heap 33 = .ok (.invokevirtual 108, 3) := by decide +kernel
theorem dX7_heap_36 : decode cX7_heap 36 = .ok (.ireturn, 1) := by decide +kernel
theorem dX7_isApart_0 : decode cX7_isApart 0 = .ok (.aload_n 0, 1) := by decide +kernel
theorem dX7_isApart_1 : decode cX7_isApart 1 = .ok (.dup, 1) := by decide +kernel
theorem dX7_isApart_2 : decode cX7_isApart 2 = .ok (.getfield 115, 3) := by decide +kernel
theorem dX7_isApart_5 : decode cX7_isApart 5 = .ok (.iconst 1, 1) := by decide +kernel
theorem dX7_isApart_6 : decode cX7_isApart 6 = .ok (.iadd, 1) := by decide +kernel
theorem dX7_isApart_7 : decode cX7_isApart 7 = .ok (.putfield 115, 3) := by decide +kernel
theorem dX7_isApart_10 : decode cX7_isApart 10 = .ok (.iconst 0, 1) := by decide +kernel
theorem dX7_isApart_11 : decode cX7_isApart 11 = .ok (.istore_n 3, 1) := by decide +kernel
theorem dX7_isApart_12 : decode cX7_isApart 12 = .ok (.iload_n 3, 1) := by decide +kernel
theorem dX7_isApart_13 : decode cX7_isApart 13 = .ok (.aload_n 0, 1) := by decide +kernel
theorem dX7_isApart_14 : decode cX7_isApart 14 = .ok (.getfield 83, 3) := by decide +kernel
theorem dX7_isApart_17 : decode cX7_isApart 17 = .ok (.if_icmp .ge 79, 3) := by decide +kernel
theorem dX7_isApart_20 : decode cX7_isApart 20 = .ok (.aload_n 0, 1) := by decide +kernel
theorem dX7_isApart_21 : decode cX7_isApart 21 = .ok (.getfield 33, 3) := by decide +kernel
theorem dX7_isApart_24 : decode cX7_isApart 24 = .ok (.iload_n 3, 1) := by decide +kernel
theorem dX7_isApart_25 : decode cX7_isApart 25 = .ok (.iaload, 1) := by decide +kernel
theorem dX7_isApart_26 : decode cX7_isApart 26 = .ok (.iload_n 2, 1) := by decide +kernel
theorem dX7_isApart_27 : decode cX7_isApart 27 = .ok (.iand, 1) := by decide +kernel
theorem dX7_isApart_28 : decode cX7_isApart 28 = .ok (.istore 4, 2) := by decide +kernel
theorem dX7_isApart_30 : decode cX7_isApart 30 = .ok (.aload_n 0, 1) := by decide +kernel
theorem dX7_isApart_31 : decode cX7_isApart 31 = .ok (.getfield 46, 3) := by decide +kernel
theorem dX7_isApart_34 : decode cX7_isApart 34 = .ok (.iload 4, 2) := by decide +kernel
theorem dX7_isApart_36 : decode cX7_isApart 36 = .ok (.iaload, 1) := by decide +kernel
theorem dX7_isApart_37 : decode cX7_isApart 37 = .ok (.aload_n 0, 1) := by decide +kernel
theorem dX7_isApart_38 : decode cX7_isApart 38 = .ok (.getfield 115, 3) := by decide +kernel
theorem dX7_isApart_41 : decode cX7_isApart 41 = .ok (.if_icmp .ne 30, 3) := by decide +kernel
theorem dX7_isApart_44 : decode cX7_isApart 44 = .ok (.iload_n 1, 1) := by decide +kernel
theorem dX7_isApart_45 : decode cX7_isApart 45 = .ok (.ifCond .eq 24, 3) := by decide +kernel
theorem dX7_isApart_48 : decode cX7_isApart 48 = .ok (.aload_n 0, 1) := by decide +kernel
theorem dX7_isApart_49 : decode cX7_isApart 49 = .ok (.getfield 36, 3) := by decide +kernel
theorem dX7_isApart_52 : decode cX7_isApart 52 = .ok (.aload_n 0, 1) := by decide +kernel
theorem dX7_isApart_53 : decode cX7_isApart 53 = .ok (.getfield 49, 3) := by decide +kernel
theorem dX7_isApart_56 : decode cX7_isApart 56 = .ok (.iload 4, 2) := by decide +kernel
theorem dX7_isApart_58 : decode cX7_isApart 58 = .ok (.iaload, 1) := by decide +kernel
theorem dX7_isApart_59 : decode cX7_isApart 59 = .ok (.iaload, 1) := by decide +kernel
theorem dX7_isApart_60 : decode cX7_isApart 60 = .ok (.aload_n 0, 1) := by decide +kernel
theorem dX7_isApart_61 : decode cX7_isApart 61 = .ok (.getfield 36, 3) := by decide +kernel
theorem dX7_isApart_64 : decode cX7_isApart 64 = .ok (.iload_n 3, 1) := by decide +kernel
theorem dX7_isApart_65 : decode cX7_isApart 65 = .ok (.iaload, 1) := by decide +kernel
theorem dX7_isApart_66 : decode cX7_isApart 66 = .ok (.if_icmp .eq 5, 3) := by decide +kernel
theorem dX7_isApart_69 : decode cX7_isApart 69 = .ok (.iconst 0, 1) := by decide +kernel
theorem dX7_isApart_70 : decode cX7_isApart 70 = .ok (.ireturn, 1) := by decide +kernel
theorem dX7_isApart_71 : decode cX7_isApart 71 = .ok (.aload_n 0, 1) := by decide +kernel
theorem dX7_isApart_72 : decode cX7_isApart 72 = .ok (.getfield 46, 3) := by decide +kernel
theorem dX7_isApart_75 : decode cX7_isApart 75 = .ok (.iload 4, 2) := by decide +kernel
theorem dX7_isApart_77 : decode cX7_isApart 77 = .ok (.aload_n 0, 1) := by decide +kernel
theorem dX7_isApart_78 : decode cX7_isApart 78 = .ok (.getfield 115, 3) := by decide +kernel
theorem dX7_isApart_81 : decode cX7_isApart 81 = .ok (.iastore, 1) := by decide +kernel
theorem dX7_isApart_82 : decode cX7_isApart 82 = .ok (.aload_n 0, 1) := by decide +kernel
theorem dX7_isApart_83 : decode cX7_isApart 83 = .ok (.getfield 49, 3) := by decide +kernel
theorem dX7_isApart_86 : decode cX7_isApart 86 = .ok (.iload 4, 2) := by decide +kernel
theorem dX7_isApart_88 : decode cX7_isApart 88 = .ok (.iload_n 3, 1) := by decide +kernel
theorem dX7_isApart_89 : decode cX7_isApart 89 = .ok (.iastore, 1) := by decide +kernel
theorem dX7_isApart_90 : decode cX7_isApart 90 = .ok (.iinc 3 1, 3) := by decide +kernel
theorem dX7_isApart_93 : decode cX7_isApart 93 = .ok (.goto (-81), 3) := by decide +kernel
theorem dX7_isApart_96 : decode cX7_isApart 96 = .ok (.iconst 1, 1) := by decide +kernel
theorem dX7_isApart_97 : decode cX7_isApart 97 = .ok (.ireturn, 1) := by decide +kernel
theorem dX7_apart_0 : decode cX7_apart 0 = .ok (.iload_n 1, 1) := by decide +kernel
theorem dX7_apart_1 : decode cX7_apart 1 = .ok (.i2l, 1) := by decide +kernel
theorem dX7_apart_2 : decode cX7_apart 2 = .ok (.lconst 0, 1) := by decide +kernel
theorem dX7_apart_3 : decode cX7_apart 3 = .ok (.lconst 1, 1) := by decide +kernel
theorem dX7_apart_4 : decode cX7_apart 4 = .ok (.invokestatic 55, 3) := by decide +kernel
theorem dX7_apart_7 : decode cX7_apart 7 = .ok (.ifCond .ne 5, 3) := by decide +kernel
theorem dX7_apart_10 : decode cX7_apart 10 = .ok (.iconst (-1), 1) := by decide +kernel
theorem dX7_apart_11 : decode cX7_apart 11 = .ok (.ireturn, 1) := by decide +kernel
theorem dX7_apart_12 : decode cX7_apart 12 = .ok (.aload_n 0, 1) := by decide +kernel
theorem dX7_apart_13 : decode cX7_apart 13 = .ok (.invokevirtual 96, 3) := by decide +kernel
theorem dX7_apart_16 : decode cX7_apart 16 = .ok (.ifCond .eq 8, 3) := by decide +kernel
theorem dX7_apart_19 : decode cX7_apart 19 = .ok (.bipush (-2), 2) := by decide +kernel
theorem dX7_apart_21 : decode cX7_apart 21 = .ok (.goto 20, 3) := by decide +kernel
theorem dX7_apart_24 : decode cX7_apart 24 = .ok (.aload_n 0, 1) := by decide +kernel
theorem dX7_apart_25 : decode cX7_apart 25 = .ok (.iload_n 1, 1) := by decide +kernel
theorem dX7_apart_26 : decode cX7_apart 26 = .ok (.aload_n 0, 1) := by decide +kernel
theorem dX7_apart_27 : decode cX7_apart 27 = .ok (.getfield 63, 3) := by decide +kernel
theorem dX7_apart_30 : decode cX7_apart 30 = .ok (.invokevirtual 118, 3) := by decide +kernel
theorem dX7_apart_33 : decode cX7_apart 33 = .ok (.ifCond .eq 7, 3) := by decide +kernel
theorem dX7_apart_36 : decode cX7_apart 36 = .ok (.iconst 1, 1) := by decide +kernel
theorem dX7_apart_37 : decode cX7_apart 37 = .ok (.goto 4, 3) := by decide +kernel
theorem dX7_apart_40 : decode cX7_apart 40 = .ok (.iconst 0, 1) := by decide +kernel
theorem dX7_apart_41 : decode cX7_apart 41 = .ok (.ireturn, 1) := by decide +kernel
theorem dX7_priceOf_0 : decode cX7_priceOf 0 = .ok (.lconst 0, 1) := by decide +kernel
theorem dX7_priceOf_1 : decode cX7_priceOf 1 = .ok (.lstore_n 2, 1) := by decide +kernel
theorem dX7_priceOf_2 : decode cX7_priceOf 2 = .ok (.iconst 0, 1) := by decide +kernel
theorem dX7_priceOf_3 : decode cX7_priceOf 3 = .ok (.istore 4, 2) := by decide +kernel
theorem dX7_priceOf_5 : decode cX7_priceOf 5 = .ok (.iload 4, 2) := by decide +kernel
theorem dX7_priceOf_7 : decode cX7_priceOf 7 = .ok (.aload_n 0, 1) := by decide +kernel
theorem dX7_priceOf_8 : decode cX7_priceOf 8 = .ok (.getfield 52, 3) := by decide +kernel
theorem dX7_priceOf_11 : decode cX7_priceOf 11 = .ok (.if_icmp .ge 35, 3) := by decide +kernel
theorem dX7_priceOf_14 : decode cX7_priceOf 14 = .ok (.lload_n 2, 1) := by decide +kernel
theorem dX7_priceOf_15 : decode cX7_priceOf 15 = .ok (.iload_n 1, 1) := by decide +kernel
theorem dX7_priceOf_16 : decode cX7_priceOf 16 = .ok (.iload 4, 2) := by decide +kernel
theorem dX7_priceOf_18 : decode cX7_priceOf 18 = .ok (.invokestatic 79, 3) := by decide +kernel
theorem dX7_priceOf_21 : decode cX7_priceOf 21 = .ok (.ifCond .eq 16, 3) := by decide +kernel
theorem dX7_priceOf_24 : decode cX7_priceOf 24 = .ok (.aload_n 0, 1) := by decide +kernel
theorem dX7_priceOf_25 : decode cX7_priceOf 25 = .ok (.getfield 24, 3) := by decide +kernel
theorem dX7_priceOf_28 : decode cX7_priceOf 28 = .ok (.iload 4, 2) := by decide +kernel
theorem dX7_priceOf_30 : decode cX7_priceOf 30 = .ok (.iaload, 1) := by decide +kernel
theorem dX7_priceOf_31 : decode cX7_priceOf 31 = .ok (.i2l, 1) := by decide +kernel
theorem dX7_priceOf_32 : decode cX7_priceOf 32 = .ok (.lconst 1, 1) := by decide +kernel
theorem dX7_priceOf_33 : decode cX7_priceOf 33 = .ok (.ladd, 1) := by decide +kernel
theorem dX7_priceOf_34 : decode cX7_priceOf 34 = .ok (.goto 4, 3) := by decide +kernel
theorem dX7_priceOf_37 : decode cX7_priceOf 37 = .ok (.lconst 0, 1) := by decide +kernel
theorem dX7_priceOf_38 : decode cX7_priceOf 38 = .ok (.ladd, 1) := by decide +kernel
theorem dX7_priceOf_39 : decode cX7_priceOf 39 = .ok (.lstore_n 2, 1) := by decide +kernel
theorem dX7_priceOf_40 : decode cX7_priceOf 40 = .ok (.iinc 4 1, 3) := by decide +kernel
theorem dX7_priceOf_43 : decode cX7_priceOf 43 = .ok (.goto (-38), 3) := by decide +kernel
theorem dX7_priceOf_46 : decode cX7_priceOf 46 = .ok (.lload_n 2, 1) := by decide +kernel
theorem dX7_priceOf_47 : decode cX7_priceOf 47 = .ok (.lreturn, 1) := by decide +kernel
theorem dX7_price_0 : decode cX7_price 0 = .ok (.iload_n 1, 1) := by decide +kernel
theorem dX7_price_1 : decode cX7_price 1 = .ok (.i2l, 1) := by decide +kernel
theorem dX7_price_2 : decode cX7_price 2 = .ok (.lconst 0, 1) := by decide +kernel
theorem dX7_price_3 : decode cX7_price 3 = .ok (.iconst 1, 1) := by decide +kernel
theorem dX7_price_4 : decode cX7_price 4 = .ok (.aload_n 0, 1) := by decide +kernel
theorem dX7_price_5 : decode cX7_price 5 = .ok (.getfield 52, 3) := by decide +kernel
theorem dX7_price_8 : decode cX7_price 8 = .ok (.ishl, 1) := by decide +kernel
theorem dX7_price_9 : decode cX7_price 9 = .ok (.iconst 1, 1) := by decide +kernel
theorem dX7_price_10 : decode cX7_price 10 = .ok (.isub, 1) := by decide +kernel
theorem dX7_price_11 : decode cX7_price 11 = .ok (.i2l, 1) := by decide +kernel
theorem dX7_price_12 : decode cX7_price 12 = .ok (.invokestatic 55, 3) := by decide +kernel
theorem dX7_price_15 : decode cX7_price 15 = .ok (.ifCond .eq 11, 3) := by decide +kernel
theorem dX7_price_18 : decode cX7_price 18 = .ok (.aload_n 0, 1) := by decide +kernel
theorem dX7_price_19 : decode cX7_price 19 = .ok (.iload_n 1, 1) := by decide +kernel
theorem dX7_price_20 : decode cX7_price 20 = .ok (.invokevirtual 121, 3) := by decide +kernel
theorem dX7_price_23 : decode cX7_price 23 = .ok (.goto 6, 3) := by decide +kernel
theorem dX7_price_26 : decode cX7_price 26 = .ok (.ldc2_w 125, 3) := by decide +kernel
theorem dX7_price_29 : decode cX7_price 29 = .ok (.lreturn, 1) := by decide +kernel
theorem dX7_isBetter_0 : decode cX7_isBetter 0 = .ok (.iload_n 0, 1) := by decide +kernel
theorem dX7_isBetter_1 : decode cX7_isBetter 1 = .ok (.invokestatic 127, 3) := by decide +kernel
theorem dX7_isBetter_4 : decode cX7_isBetter 4 = .ok (.iload_n 1, 1) := by decide +kernel
theorem dX7_isBetter_5 : decode cX7_isBetter 5 = .ok (.invokestatic 127, 3) := by decide +kernel
theorem dX7_isBetter_8 : decode cX7_isBetter 8 = .ok (.if_icmp .eq 20, 3) := by decide +kernel
theorem dX7_isBetter_11 : decode cX7_isBetter 11 = .ok (.iload_n 0, 1) := by decide +kernel
theorem dX7_isBetter_12 : decode cX7_isBetter 12 = .ok (.invokestatic 127, 3) := by decide +kernel
theorem dX7_isBetter_15 : decode cX7_isBetter 15 = .ok (.iload_n 1, 1) := by decide +kernel
theorem dX7_isBetter_16 : decode cX7_isBetter 16 = .ok (.invokestatic 127, 3) := by decide +kernel
theorem dX7_isBetter_19 : decode cX7_isBetter 19 = .ok (.if_icmp .ge 7, 3) := by decide +kernel
theorem dX7_isBetter_22 : decode cX7_isBetter 22 = .ok (.iconst 1, 1) := by decide +kernel
theorem dX7_isBetter_23 : decode cX7_isBetter 23 = .ok (.goto 4, 3) := by decide +kernel
theorem dX7_isBetter_26 : decode cX7_isBetter 26 = .ok (.iconst 0, 1) := by decide +kernel
theorem dX7_isBetter_27 : decode cX7_isBetter 27 = .ok (.ireturn, 1) := by decide +kernel
theorem dX7_isBetter_28 : decode cX7_isBetter 28 = .ok (.iload_n 0, 1) := by decide +kernel
theorem dX7_isBetter_29 : decode cX7_isBetter 29 = .ok (.iload_n 1, 1) := by decide +kernel
theorem dX7_isBetter_30 : decode cX7_isBetter 30 = .ok (.ixor, 1) := by decide +kernel
theorem dX7_isBetter_31 : decode cX7_isBetter 31 = .ok (.iload_n 0, 1) := by decide +kernel
theorem dX7_isBetter_32 : decode cX7_isBetter 32 = .ok (.iload_n 1, 1) := by decide +kernel
theorem dX7_isBetter_33 : decode cX7_isBetter 33 = .ok (.ixor, 1) := by decide +kernel
theorem dX7_isBetter_34 : decode cX7_isBetter 34 = .ok (.ineg, 1) := by decide +kernel
theorem dX7_isBetter_35 : decode cX7_isBetter 35 = .ok (.iand, 1) := by decide +kernel
theorem dX7_isBetter_36 : decode cX7_isBetter 36 = .ok (.istore_n 2, 1) := by decide +kernel
theorem dX7_isBetter_37 : decode cX7_isBetter 37 = .ok (.iload_n 0, 1) := by decide +kernel
theorem dX7_isBetter_38 : decode cX7_isBetter 38 = .ok (.iload_n 2, 1) := by decide +kernel
theorem dX7_isBetter_39 : decode cX7_isBetter 39 = .ok (.iand, 1) := by decide +kernel
theorem dX7_isBetter_40 : decode cX7_isBetter 40 = .ok (.ifCond .eq 7, 3) := by decide +kernel
theorem dX7_isBetter_43 : decode cX7_isBetter 43 = .ok (.iconst 1, 1) := by decide +kernel
theorem dX7_isBetter_44 : decode cX7_isBetter 44 = .ok (.goto 4, 3) := by decide +kernel
theorem dX7_isBetter_47 : decode cX7_isBetter 47 = .ok (.iconst 0, 1) := by decide +kernel
theorem dX7_isBetter_48 : decode cX7_isBetter 48 = .ok (.ireturn, 1) := by decide +kernel
theorem dX7_cheapest_0 : decode cX7_cheapest 0 = .ok (.iload_n 1, 1) := by decide +kernel
theorem dX7_cheapest_1 : decode cX7_cheapest 1 = .ok (.i2l, 1) := by decide +kernel
theorem dX7_cheapest_2 : decode cX7_cheapest 2 = .ok (.lconst 0, 1) := by decide +kernel
theorem dX7_cheapest_3 : decode cX7_cheapest 3 = .ok (.lconst 1, 1) := by decide +kernel
theorem dX7_cheapest_4 : decode cX7_cheapest 4 = .ok (.invokestatic 55, 3) := by decide +kernel
theorem dX7_cheapest_7 : decode cX7_cheapest 7 = .ok (.ifCond .ne 5, 3) := by decide +kernel
theorem dX7_cheapest_10 : decode cX7_cheapest 10 = .ok (.iconst (-1), 1) := by decide +kernel
theorem dX7_cheapest_11 : decode cX7_cheapest 11 = .ok (.ireturn, 1) := by decide +kernel
theorem dX7_cheapest_12 : decode cX7_cheapest 12 = .ok (.aload_n 0, 1) := by decide +kernel
theorem dX7_cheapest_13 : decode cX7_cheapest 13 = .ok (.invokevirtual 96, 3) := by decide +kernel
theorem dX7_cheapest_16 : decode cX7_cheapest 16 = .ok (.ifCond .eq 6, 3) := by decide +kernel
theorem dX7_cheapest_19 : decode cX7_cheapest 19 = .ok (.bipush (-2), 2) := by decide +kernel
theorem dX7_cheapest_21 : decode cX7_cheapest 21 = .ok (.ireturn, 1) := by decide +kernel
theorem dX7_cheapest_22 : decode cX7_cheapest 22 = .ok (.iload_n 2, 1) := by decide +kernel
theorem dX7_cheapest_23 : decode cX7_cheapest 23 = .ok (.ifCond .eq 10, 3) := by decide +kernel
theorem dX7_cheapest_26 : decode cX7_cheapest 26 = .ok (.aload_n 0, 1) := by decide +kernel
theorem dX7_cheapest_27 : decode cX7_cheapest 27 = .ok (.getfield 63, 3) := by decide +kernel
theorem dX7_cheapest_30 : decode cX7_cheapest 30 = .ok (.goto 4, 3) := by decide +kernel
theorem dX7_cheapest_33 : decode cX7_cheapest 33 = .ok (.iconst 0, 1) := by decide +kernel
theorem dX7_cheapest_34 : decode cX7_cheapest 34 = .ok (.istore_n 3, 1) := by decide +kernel
theorem dX7_cheapest_35 : decode cX7_cheapest 35 = .ok (.iconst (-1), 1) := by decide +kernel
theorem dX7_cheapest_36 : decode cX7_cheapest 36 = .ok (.istore 4, 2) := by decide +kernel
theorem dX7_cheapest_38 : decode cX7_cheapest 38 = .ok (.lconst 0, 1) := by decide +kernel
theorem dX7_cheapest_39 : decode cX7_cheapest 39 = .ok (.lstore 5, 2) := by decide +kernel
theorem dX7_cheapest_41 : decode cX7_cheapest 41 = .ok (.iconst 0, 1) := by decide +kernel
theorem dX7_cheapest_42 : decode cX7_cheapest 42 = .ok (.istore 7, 2) := by decide +kernel
theorem dX7_cheapest_44 : decode cX7_cheapest 44 = .ok (.iload 7, 2) := by decide +kernel
theorem dX7_cheapest_46 : decode cX7_cheapest 46 = .ok (.iconst 1, 1) := by decide +kernel
theorem dX7_cheapest_47 : decode cX7_cheapest 47 = .ok (.aload_n 0, 1) := by decide +kernel
theorem dX7_cheapest_48 : decode cX7_cheapest 48 = .ok (.getfield 52, 3) := by decide +kernel
theorem dX7_cheapest_51 : decode cX7_cheapest 51 = .ok (.ishl, 1) := by decide +kernel
theorem dX7_cheapest_52 : decode cX7_cheapest 52 = .ok (.if_icmp .ge 81, 3) := by decide +kernel
theorem dX7_cheapest_55 : decode cX7_cheapest 55 = .ok (.iload 7, 2) := by decide +kernel
theorem dX7_cheapest_57 : decode cX7_cheapest 57 = .ok (.iload_n 3, 1) := by decide +kernel
theorem dX7_cheapest_58 : decode cX7_cheapest 58 = .ok (.iand, 1) := by decide +kernel
theorem dX7_cheapest_59 : decode cX7_cheapest 59 = .ok (.iload_n 3, 1) := by decide +kernel
theorem dX7_cheapest_60 : decode cX7_cheapest 60 = .ok (.if_icmp .eq 6, 3) := by decide +kernel
theorem dX7_cheapest_63 : decode cX7_cheapest 63 = .ok (.goto 64, 3) := by decide +kernel
theorem dX7_cheapest_66 : decode cX7_cheapest 66 = .ok (.aload_n 0, 1) := by decide +kernel
theorem dX7_cheapest_67 : decode cX7_cheapest 67 = .ok (.iload 7, 2) := by decide +kernel
theorem dX7_cheapest_69 : decode cX7_cheapest 69 = .ok (.invokevirtual 121, 3) := by decide +kernel
theorem dX7_cheapest_72 : decode cX7_cheapest 72 = .ok (.lstore 8, 2) := by decide +kernel
theorem dX7_cheapest_74 : decode cX7_cheapest 74 = .ok (.iload 4, 2) := by decide +kernel
theorem dX7_cheapest_76 : decode cX7_cheapest 76 = .ok (.iconst (-1), 1) := by decide +kernel
theorem dX7_cheapest_77 : decode cX7_cheapest 77 = .ok (.if_icmp .eq 29, 3) := by decide +kernel
theorem dX7_cheapest_80 : decode cX7_cheapest 80 = .ok (.lload 8, 2) := by decide +kernel
theorem dX7_cheapest_82 : decode cX7_cheapest 82 = .ok (.lload 5, 2) := by decide +kernel
theorem dX7_cheapest_84 : decode cX7_cheapest 84 = .ok (.lcmp, 1) := by decide +kernel
theorem dX7_cheapest_85 : decode cX7_cheapest 85 = .ok (.ifCond .gt 42, 3) := by decide +kernel
theorem dX7_cheapest_88 : decode cX7_cheapest 88 = .ok (.lload 8, 2) := by decide +kernel
theorem dX7_cheapest_90 : decode cX7_cheapest 90 = .ok (.lload 5, 2) := by decide +kernel
theorem dX7_cheapest_92 : decode cX7_cheapest 92 = .ok (.lcmp, 1) := by decide +kernel
theorem dX7_cheapest_93 : decode cX7_cheapest 93 = .ok (.ifCond .ne 13, 3) := by decide +kernel
theorem dX7_cheapest_96 : decode cX7_cheapest 96 = .ok (.iload 7, 2) := by decide +kernel
theorem dX7_cheapest_98 : decode cX7_cheapest 98 = .ok (.iload 4, 2) := by decide +kernel
theorem dX7_cheapest_100 : decode cX7_cheapest 100 = .ok (.invokestatic 130, 3) := by decide +kernel
theorem dX7_cheapest_103 : decode cX7_cheapest 103 = .ok (.ifCond .eq 24, 3) := by decide +kernel
theorem dX7_cheapest_106 : decode cX7_cheapest 106 = .ok (.aload_n 0, 1) := by decide +kernel
theorem dX7_cheapest_107 : decode cX7_cheapest 107 = .ok (.iload_n 1, 1) := by decide +kernel
theorem dX7_cheapest_108 : decode cX7_cheapest 108 = .ok (.iload 7, 2) := by decide +kernel
theorem dX7_cheapest_110 : decode cX7_cheapest 110 = .ok (.invokevirtual 118, 3) := by decide +kernel
theorem dX7_cheapest_113 : decode cX7_cheapest 113 = .ok (.ifCond .ne 6, 3) := by decide +kernel
theorem dX7_cheapest_116 : decode cX7_cheapest 116 = .ok (.goto 11, 3) := by decide +kernel
theorem dX7_cheapest_119 : decode cX7_cheapest 119 = .ok (.iload 7, 2) := by decide +kernel
theorem dX7_cheapest_121 : decode cX7_cheapest 121 = .ok (.istore 4, 2) := by decide +kernel
theorem dX7_cheapest_123 : decode cX7_cheapest 123 = .ok (.lload 8, 2) := by decide +kernel
theorem dX7_cheapest_125 : decode cX7_cheapest 125 = .ok (.lstore 5, 2) := by decide +kernel
theorem dX7_cheapest_127 : decode cX7_cheapest 127 = .ok (.iinc 7 1, 3) := by decide +kernel
theorem dX7_cheapest_130 : decode cX7_cheapest 130 = .ok (.goto (-86), 3) := by decide +kernel
theorem dX7_cheapest_133 : decode cX7_cheapest 133 = .ok (.iload 4, 2) := by decide +kernel
theorem dX7_cheapest_135 : decode cX7_cheapest 135 = .ok (.ireturn, 1) := by decide +kernel
theorem dX7_isUseless_0 : decode cX7_isUseless 0 = .ok (.aload_n 0, 1) := by decide +kernel
theorem dX7_isUseless_1 : decode cX7_isUseless 1 = .ok (.aload_n 0, 1) := by decide +kernel
theorem dX7_isUseless_2 : decode cX7_isUseless 2 = .ok (.getfield 63, 3) := by decide +kernel
theorem dX7_isUseless_5 : decode cX7_isUseless 5 = .ok (.iconst 1, 1) := by decide +kernel
theorem dX7_isUseless_6 : decode cX7_isUseless 6 = .ok (.iload_n 1, 1) := by decide +kernel
theorem dX7_isUseless_7 : decode cX7_isUseless 7 = .ok (.ishl, 1) := by decide +kernel
theorem dX7_isUseless_8 : decode cX7_isUseless 8 = .ok (.iconst (-1), 1) := by decide +kernel
theorem dX7_isUseless_9 : decode cX7_isUseless 9 = .ok (.ixor, 1) := by decide +kernel
theorem dX7_isUseless_10 : decode cX7_isUseless 10 = .ok (.iand, 1) := by decide +kernel
theorem dX7_isUseless_11 : decode cX7_isUseless 11 = .ok (.invokevirtual 111, 3) := by decide +kernel
theorem dX7_isUseless_14 : decode cX7_isUseless 14 = .ok (.aload_n 0, 1) := by decide +kernel
theorem dX7_isUseless_15 : decode cX7_isUseless 15 = .ok (.aload_n 0, 1) := by decide +kernel
theorem dX7_isUseless_16 : decode cX7_isUseless 16 = .ok (.getfield 63, 3) := by decide +kernel
theorem dX7_isUseless_19 : decode cX7_isUseless 19 = .ok (.invokevirtual 111, 3) := by decide +kernel
theorem dX7_isUseless_22 : decode cX7_isUseless 22 = .ok (.if_icmp .ne 7, 3) := by decide +kernel
theorem dX7_isUseless_25 : decode cX7_isUseless 25 = .ok (.iconst 1, 1) := by decide +kernel
theorem dX7_isUseless_26 : decode cX7_isUseless 26 = .ok (.goto 4, 3) := by decide +kernel
theorem dX7_isUseless_29 : decode cX7_isUseless 29 = .ok (.iconst 0, 1) := by decide +kernel
theorem dX7_isUseless_30 : decode cX7_isUseless 30 = .ok (.ireturn, 1) := by decide +kernel
theorem dX7_useless_0 : decode cX7_useless 0 = .ok (.aload_n 0, 1) := by decide +kernel
theorem dX7_useless_1 : decode cX7_useless 1 = .ok (.invokevirtual 96, 3) := by decide +kernel
theorem dX7_useless_4 : decode cX7_useless 4 = .ok (.ifCond .ne 7, 3) := by decide +kernel
theorem dX7_useless_7 : decode cX7_useless 7 = .ok (.iload_n 1, 1) := by decide +kernel
theorem dX7_useless_8 : decode cX7_useless 8 = .ok (.ifCond .ge 5, 3) := by decide +kernel
theorem dX7_useless_11 : decode cX7_useless 11 = .ok (.iconst (-1), 1) := by decide +kernel
theorem dX7_useless_12 : decode cX7_useless 12 = .ok (.ireturn, 1) := by decide +kernel
theorem dX7_useless_13 : decode cX7_useless 13 = .ok (.iconst 0, 1) := by decide +kernel
theorem dX7_useless_14 : decode cX7_useless 14 = .ok (.istore_n 2, 1) := by decide +kernel
theorem dX7_useless_15 : decode cX7_useless 15 = .ok (.iconst 0, 1) := by decide +kernel
theorem dX7_useless_16 : decode cX7_useless 16 = .ok (.istore_n 3, 1) := by decide +kernel
theorem dX7_useless_17 : decode cX7_useless 17 = .ok (.iload_n 3, 1) := by decide +kernel
theorem dX7_useless_18 : decode cX7_useless 18 = .ok (.aload_n 0, 1) := by decide +kernel
theorem dX7_useless_19 : decode cX7_useless 19 = .ok (.getfield 52, 3) := by decide +kernel
theorem dX7_useless_22 : decode cX7_useless 22 = .ok (.if_icmp .ge 41, 3) := by decide +kernel
theorem dX7_useless_25 : decode cX7_useless 25 = .ok (.aload_n 0, 1) := by decide +kernel
theorem dX7_useless_26 : decode cX7_useless 26 = .ok (.getfield 63, 3) := by decide +kernel
theorem dX7_useless_29 : decode cX7_useless 29 = .ok (.iload_n 3, 1) := by decide +kernel
theorem dX7_useless_30 : decode cX7_useless 30 = .ok (.invokestatic 79, 3) := by decide +kernel
theorem dX7_useless_33 : decode cX7_useless 33 = .ok (.ifCond .eq 24, 3) := by decide +kernel
theorem dX7_useless_36 : decode cX7_useless 36 = .ok (.aload_n 0, 1) := by decide +kernel
theorem dX7_useless_37 : decode cX7_useless 37 = .ok (.iload_n 3, 1) := by decide +kernel
theorem dX7_useless_38 : decode cX7_useless 38 = .ok (.invokevirtual 133, 3) := by decide +kernel
theorem dX7_useless_41 : decode cX7_useless 41 = .ok (.ifCond .ne 6, 3) := by decide +kernel
theorem dX7_useless_44 : decode cX7_useless 44 = .ok (.goto 13, 3) := by decide +kernel
theorem dX7_useless_47 : decode cX7_useless 47 = .ok (.iload_n 2, 1) := by decide +kernel
theorem dX7_useless_48 : decode cX7_useless 48 = .ok (.iload_n 1, 1) := by decide +kernel
theorem dX7_useless_49 : decode cX7_useless 49 = .ok (.if_icmp .ne 5, 3) := by decide +kernel
theorem dX7_useless_52 : decode cX7_useless 52 = .ok (.iload_n 3, 1) := by decide +kernel
theorem dX7_useless_53 : decode cX7_useless 53 = .ok (.ireturn, 1) := by decide +kernel
theorem dX7_useless_54 : decode cX7_useless 54 = .ok (.iinc 2 1, 3) := by decide +kernel
theorem dX7_useless_57 : decode cX7_useless 57 = .ok (.iinc 3 1, 3) := by decide +kernel
theorem dX7_useless_60 : decode cX7_useless 60 = .ok (.goto (-43), 3) := by decide +kernel
theorem dX7_useless_63 : decode cX7_useless 63 = .ok (.iconst (-1), 1) := by decide +kernel
theorem dX7_useless_64 : decode cX7_useless 64 = .ok (.ireturn, 1) := by decide +kernel
theorem dX7_why_0 : decode cX7_why 0 = .ok (.aload_n 0, 1) := by decide +kernel
theorem dX7_why_1 : decode cX7_why 1 = .ok (.iload_n 1, 1) := by decide +kernel
theorem dX7_why_2 : decode cX7_why 2 = .ok (.invokevirtual 75, 3) := by decide +kernel
theorem dX7_why_5 : decode cX7_why 5 = .ok (.ifCond .eq 31, 3) := by decide +kernel
theorem dX7_why_8 : decode cX7_why 8 = .ok (.aload_n 0, 1) := by decide +kernel
theorem dX7_why_9 : decode cX7_why 9 = .ok (.getfield 63, 3) := by decide +kernel
theorem dX7_why_12 : decode cX7_why 12 = .ok (.iload_n 1, 1) := by decide +kernel
theorem dX7_why_13 : decode cX7_why 13 = .ok (.invokestatic 79, 3) := by decide +kernel
theorem dX7_why_16 : decode cX7_why 16 = .ok (.ifCond .eq 20, 3) := by decide +kernel
theorem dX7_why_19 : decode cX7_why 19 = .ok (.iload_n 2, 1) := by decide +kernel
theorem dX7_why_20 : decode cX7_why 20 = .ok (.i2l, 1) := by decide +kernel
theorem dX7_why_21 : decode cX7_why 21 = .ok (.lconst 0, 1) := by decide +kernel
theorem dX7_why_22 : decode cX7_why 22 = .ok (.lconst 1, 1) := by decide +kernel
theorem dX7_why_23 : decode cX7_why 23 = .ok (.invokestatic 55, 3) := by decide +kernel
theorem dX7_why_26 : decode cX7_why 26 = .ok (.ifCond .eq 10, 3) := by decide +kernel
theorem dX7_why_29 : decode cX7_why 29 = .ok (.aload_n 0, 1) := by decide +kernel
theorem dX7_why_30 : decode cX7_why 30 = .ok (.invokevirtual 96, 3) := by decide +kernel
theorem dX7_why_33 : decode cX7_why 33 = .ok (.ifCond .eq 5, 3) := by decide +kernel
theorem dX7_why_36 : decode cX7_why 36 = .ok (.iconst (-1), 1) := by decide +kernel
theorem dX7_why_37 : decode cX7_why 37 = .ok (.ireturn, 1) := by decide +kernel
theorem dX7_why_38 : decode cX7_why 38 = .ok (.aload_n 0, 1) := by decide +kernel
theorem dX7_why_39 : decode cX7_why 39 = .ok (.getfield 63, 3) := by decide +kernel
theorem dX7_why_42 : decode cX7_why 42 = .ok (.iconst 1, 1) := by decide +kernel
theorem dX7_why_43 : decode cX7_why 43 = .ok (.iload_n 1, 1) := by decide +kernel
theorem dX7_why_44 : decode cX7_why 44 = .ok (.ishl, 1) := by decide +kernel
theorem dX7_why_45 : decode cX7_why 45 = .ok (.iconst (-1), 1) := by decide +kernel
theorem dX7_why_46 : decode cX7_why 46 = .ok (.ixor, 1) := by decide +kernel
theorem dX7_why_47 : decode cX7_why 47 = .ok (.iand, 1) := by decide +kernel
theorem dX7_why_48 : decode cX7_why 48 = .ok (.istore_n 3, 1) := by decide +kernel
theorem dX7_why_49 : decode cX7_why 49 = .ok (.iconst 0, 1) := by decide +kernel
theorem dX7_why_50 : decode cX7_why 50 = .ok (.istore 4, 2) := by decide +kernel
theorem dX7_why_52 : decode cX7_why 52 = .ok (.iload 4, 2) := by decide +kernel
theorem dX7_why_54 : decode cX7_why 54 = .ok (.aload_n 0, 1) := by decide +kernel
theorem dX7_why_55 : decode cX7_why 55 = .ok (.getfield 83, 3) := by decide +kernel
theorem dX7_why_58 : decode cX7_why 58 = .ok (.if_icmp .ge 66, 3) := by decide +kernel
theorem dX7_why_61 : decode cX7_why 61 = .ok (.iconst 0, 1) := by decide +kernel
theorem dX7_why_62 : decode cX7_why 62 = .ok (.istore 5, 2) := by decide +kernel
theorem dX7_why_64 : decode cX7_why 64 = .ok (.iload 5, 2) := by decide +kernel
theorem dX7_why_66 : decode cX7_why 66 = .ok (.aload_n 0, 1) := by decide +kernel
theorem dX7_why_67 : decode cX7_why 67 = .ok (.getfield 83, 3) := by decide +kernel
theorem dX7_why_70 : decode cX7_why 70 = .ok (.if_icmp .ge 48, 3) := by decide +kernel
theorem dX7_why_73 : decode cX7_why 73 = .ok (.aload_n 0, 1) := by decide +kernel
theorem dX7_why_74 : decode cX7_why 74 = .ok (.iload 4, 2) := by decide +kernel
theorem dX7_why_76 : decode cX7_why 76 = .ok (.iload 5, 2) := by decide +kernel
theorem dX7_why_78 : decode cX7_why 78 = .ok (.aload_n 0, 1) := by decide +kernel
theorem dX7_why_79 : decode cX7_why 79 = .ok (.getfield 63, 3) := by decide +kernel
theorem dX7_why_82 : decode cX7_why 82 = .ok (.invokevirtual 104, 3) := by decide +kernel
theorem dX7_why_85 : decode cX7_why 85 = .ok (.ifCond .eq 27, 3) := by decide +kernel
theorem dX7_why_88 : decode cX7_why 88 = .ok (.aload_n 0, 1) := by decide +kernel
theorem dX7_why_89 : decode cX7_why 89 = .ok (.iload 4, 2) := by decide +kernel
theorem dX7_why_91 : decode cX7_why 91 = .ok (.iload 5, 2) := by decide +kernel
theorem dX7_why_93 : decode cX7_why 93 = .ok (.iload_n 3, 1) := by decide +kernel
theorem dX7_why_94 : decode cX7_why 94 = .ok (.invokevirtual 104, 3) := by decide +kernel
theorem dX7_why_97 : decode cX7_why 97 = .ok (.ifCond .ne 15, 3) := by decide +kernel
theorem dX7_why_100 : decode cX7_why 100 = .ok (.iload_n 2, 1) := by decide +kernel
theorem dX7_why_101 : decode cX7_why 101 = .ok (.ifCond .ne 8, 3) := by decide +kernel
theorem dX7_why_104 : decode cX7_why 104 = .ok (.iload 4, 2) := by decide +kernel
theorem dX7_why_106 : decode cX7_why 106 = .ok (.goto 5, 3) := by decide +kernel
theorem dX7_why_109 : decode cX7_why 109 = .ok (.iload 5, 2) := by decide +kernel
theorem dX7_why_111 : decode cX7_why 111 = .ok (.ireturn, 1) := by decide +kernel
theorem dX7_why_112 : decode cX7_why 112 = .ok (.iinc 5 1, 3) := by decide +kernel
theorem dX7_why_115 : decode cX7_why 115 = .ok (.goto (-51), 3) := by decide +kernel
theorem dX7_why_118 : decode cX7_why 118 = .ok (.iinc 4 1, 3) := by decide +kernel
theorem dX7_why_121 : decode cX7_why 121 = .ok (.goto (-69), 3) := by decide +kernel
theorem dX7_why_124 : decode cX7_why 124 = .ok (.iconst (-1), 1) := by decide +kernel
theorem dX7_why_125 : decode cX7_why 125 = .ok (.ireturn, 1) := by decide +kernel
theorem dX7_push_0 : decode cX7_push 0 = .ok (.bipush 24, 2) := by decide +kernel
theorem dX7_push_2 : decode cX7_push 2 = .ok (.istore_n 2, 1) := by decide +kernel
theorem dX7_push_3 : decode cX7_push 3 = .ok (.iload_n 2, 1) := by decide +kernel
theorem dX7_push_4 : decode cX7_push 4 = .ok (.ifCond .lt 32, 3) := by decide +kernel
theorem dX7_push_7 : decode cX7_push 7 = .ok (.aload_n 0, 1) := by decide +kernel
theorem dX7_push_8 : decode cX7_push 8 = .ok (.getfield 7, 3) := by decide +kernel
theorem dX7_push_11 : decode cX7_push 11 = .ok (.aload_n 0, 1) := by decide +kernel
theorem dX7_push_12 : decode cX7_push 12 = .ok (.getfield 136, 3) := by decide +kernel
theorem dX7_push_15 : decode cX7_push 15 = .ok (.iload_n 1, 1) := by decide +kernel
theorem dX7_push_16 : decode cX7_push 16 = .ok (.iload_n 2, 1) := by decide +kernel
theorem dX7_push_17 : decode cX7_push 17 = .ok (.ishr, 1) := by decide +kernel
theorem dX7_push_18 : decode cX7_push 18 = .ok (.i2b, 1) := by decide +kernel
theorem dX7_push_19 : decode cX7_push 19 = .ok (.bastore, 1) := by decide +kernel
theorem dX7_push_20 : decode cX7_push 20 = .ok (.aload_n 0, 1) := by decide +kernel
theorem dX7_push_21 : decode cX7_push 21 = .ok (.dup, 1) := by decide +kernel
theorem dX7_push_22 : decode cX7_push 22 = .ok (.getfield 136, 3) := by decide +kernel
theorem dX7_push_25 : decode cX7_push 25 = .ok (.iconst 1, 1) := by decide +kernel
theorem dX7_push_26 : decode cX7_push 26 = .ok (.iadd, 1) := by decide +kernel
theorem dX7_push_27 : decode cX7_push 27 = .ok (.putfield 136, 3) := by decide +kernel
theorem dX7_push_30 : decode cX7_push 30 = .ok (.iinc 2 (-8), 3) := by decide +kernel
theorem dX7_push_33 : decode cX7_push 33 = .ok (.goto (-30), 3) := by decide +kernel
theorem dX7_push_36 : decode cX7_push 36 = .ok (.return_, 1) := by decide +kernel
theorem dX7_feed_0 : decode cX7_feed 0 = .ok (.aload_n 0, 1) := by decide +kernel
theorem dX7_feed_1 : decode cX7_feed 1 = .ok (.getfield 136, 3) := by decide +kernel
theorem dX7_feed_4 : decode cX7_feed 4 = .ok (.bipush 20, 2) := by decide +kernel
theorem dX7_feed_6 : decode cX7_feed 6 = .ok (.iadd, 1) := by decide +kernel
theorem dX7_feed_7 : decode cX7_feed 7 = .ok (.bipush 40, 2) := by decide +kernel
theorem dX7_feed_9 : decode cX7_feed 9 = .ok (.if_icmp .le 5, 3) := by decide +kernel
theorem dX7_feed_12 : decode cX7_feed 12 = .ok (.iconst (-1), 1) := by decide +kernel
theorem dX7_feed_13 : decode cX7_feed 13 = .ok (.ireturn, 1) := by decide +kernel
theorem dX7_feed_14 : decode cX7_feed 14 = .ok (.aload_n 0, 1) := by decide +kernel
theorem dX7_feed_15 : decode cX7_feed 15 = .ok (.iload_n 1, 1) := by decide +kernel
theorem dX7_feed_16 : decode cX7_feed 16 = .ok (.invokevirtual 139, 3) := by decide +kernel
theorem dX7_feed_19 : decode cX7_feed 19 = .ok (.aload_n 0, 1) := by decide +kernel
theorem dX7_feed_20 : decode cX7_feed 20 = .ok (.iload_n 2, 1) := by decide +kernel
theorem dX7_feed_21 : decode cX7_feed 21 = .ok (.invokevirtual 139, 3) := by decide +kernel
theorem dX7_feed_24 : decode cX7_feed 24 = .ok (.aload_n 0, 1) := by decide +kernel
theorem dX7_feed_25 : decode cX7_feed 25 = .ok (.iload_n 3, 1) := by decide +kernel
theorem dX7_feed_26 : decode cX7_feed 26 = .ok (.invokevirtual 139, 3) := by decide +kernel
theorem dX7_feed_29 : decode cX7_feed 29 = .ok (.aload_n 0, 1) := by decide +kernel
theorem dX7_feed_30 : decode cX7_feed 30 = .ok (.iload 4, 2) := by decide +kernel
theorem dX7_feed_32 : decode cX7_feed 32 = .ok (.invokevirtual 139, 3) := by decide +kernel
theorem dX7_feed_35 : decode cX7_feed 35 = .ok (.aload_n 0, 1) := by decide +kernel
theorem dX7_feed_36 : decode cX7_feed 36 = .ok (.iload 5, 2) := by decide +kernel
theorem dX7_feed_38 : decode cX7_feed 38 = .ok (.invokevirtual 139, 3) := by decide +kernel
theorem dX7_feed_41 : decode cX7_feed 41 = .ok (.aload_n 0, 1) := by decide +kernel
theorem dX7_feed_42 : decode cX7_feed 42 = .ok (.getfield 136, 3) := by decide +kernel
theorem dX7_feed_45 : decode cX7_feed 45 = .ok (.ireturn, 1) := by decide +kernel
theorem dX7_allows_0 : decode cX7_allows 0 = .ok (.iconst 0, 1) := by decide +kernel
theorem dX7_allows_1 : decode cX7_allows 1 = .ok (.istore_n 2, 1) := by decide +kernel
theorem dX7_allows_2 : decode cX7_allows 2 = .ok (.iload_n 2, 1) := by decide +kernel
theorem dX7_allows_3 : decode cX7_allows 3 = .ok (.aload_n 0, 1) := by decide +kernel
theorem dX7_allows_4 : decode cX7_allows 4 = .ok (.getfield 142, 3) := by decide +kernel
theorem dX7_allows_7 : decode cX7_allows 7 = .ok (.if_icmp .ge 35, 3) := by decide +kernel
theorem dX7_allows_10 : decode cX7_allows 10 = .ok (.aload_n 0, 1) := by decide +kernel
theorem dX7_allows_11 : decode cX7_allows 11 = .ok (.getfield 39, 3) := by decide +kernel
theorem dX7_allows_14 : decode cX7_allows 14 = .ok (.iload_n 2, 1) := by decide +kernel
theorem dX7_allows_15 : decode cX7_allows 15 = .ok (.iaload, 1) := by decide +kernel
theorem dX7_allows_16 : decode cX7_allows 16 = .ok (.ifCond .lt 18, 3) := by decide +kernel
theorem dX7_allows_19 : decode cX7_allows 19 = .ok (.aload_n 0, 1) := by decide +kernel
theorem dX7_allows_20 : decode cX7_allows 20 = .ok (.iload_n 1, 1) := by decide +kernel
theorem dX7_allows_21 : decode cX7_allows 21 = .ok (.iload_n 2, 1) := by decide +kernel
theorem dX7_allows_22 : decode cX7_allows 22 = .ok (.invokevirtual 100, 3) := by decide +kernel
theorem dX7_allows_25 : decode cX7_allows 25 = .ok (.aload_n 0, 1) := by decide +kernel
theorem dX7_allows_26 : decode cX7_allows 26 = .ok (.getfield 39, 3) := by decide +kernel
theorem dX7_allows_29 : decode cX7_allows 29 = .ok (.iload_n 2, 1) := by decide +kernel
theorem dX7_allows_30 : decode cX7_allows 30 = .ok (.iaload, 1) := by decide +kernel
theorem dX7_allows_31 : decode cX7_allows 31 = .ok (.if_icmp .eq 5, 3) := by decide +kernel
theorem dX7_allows_34 : decode cX7_allows 34 = .ok (.iconst 0, 1) := by decide +kernel
theorem dX7_allows_35 : decode cX7_allows 35 = .ok (.ireturn, 1) := by decide +kernel
theorem dX7_allows_36 : decode cX7_allows 36 = .ok (.iinc 2 1, 3) := by decide +kernel
theorem dX7_allows_39 : decode cX7_allows 39 = .ok (.goto (-37), 3) := by decide +kernel
theorem dX7_allows_42 : decode cX7_allows 42 = .ok (.aload_n 0, 1) := by decide +kernel
theorem dX7_allows_43 : decode cX7_allows 43 = .ok (.getfield 145, 3) := by decide +kernel
theorem dX7_allows_46 : decode cX7_allows 46 = .ok (.ifCond .ne 16, 3) := by decide +kernel
theorem dX7_allows_49 : decode cX7_allows 49 = .ok (.aload_n 0, 1) := by decide +kernel
theorem dX7_allows_50 : decode cX7_allows 50 = .ok (.iload_n 1, 1) := by decide +kernel
theorem dX7_allows_51 : decode cX7_allows 51 = .ok (.aload_n 0, 1) := by decide +kernel
theorem dX7_allows_52 : decode cX7_allows 52 = .ok (.getfield 142, 3) := by decide +kernel
theorem dX7_allows_55 : decode cX7_allows 55 = .ok (.invokevirtual 100, 3) := by decide +kernel
theorem dX7_allows_58 : decode cX7_allows 58 = .ok (.iconst (-1), 1) := by decide +kernel
theorem dX7_allows_59 : decode cX7_allows 59 = .ok (.if_icmp .ne 7, 3) := by decide +kernel
theorem dX7_allows_62 : decode cX7_allows 62 = .ok (.iconst 1, 1) := by decide +kernel
theorem dX7_allows_63 : decode cX7_allows 63 = .ok (.goto 4, 3) := by decide +kernel
theorem dX7_allows_66 : decode cX7_allows 66 = .ok (.iconst 0, 1) := by decide +kernel
theorem dX7_allows_67 : decode cX7_allows 67 = .ok (.ireturn, 1) := by decide +kernel
theorem dX7_read_0 : decode cX7_read 0 = .ok (.iload_n 1, 1) := by decide +kernel
theorem dX7_read_1 : decode cX7_read 1 = .ok (.i2l, 1) := by decide +kernel
theorem dX7_read_2 : decode cX7_read 2 = .ok (.lconst 0, 1) := by decide +kernel
theorem dX7_read_3 : decode cX7_read 3 = .ok (.ldc2_w 148, 3) := by decide +kernel
theorem dX7_read_6 : decode cX7_read 6 = .ok (.invokestatic 55, 3) := by decide +kernel
theorem dX7_read_9 : decode cX7_read 9 = .ok (.ifCond .eq 11, 3) := by decide +kernel
theorem dX7_read_12 : decode cX7_read 12 = .ok (.iload_n 1, 1) := by decide +kernel
theorem dX7_read_13 : decode cX7_read 13 = .ok (.aload_n 0, 1) := by decide +kernel
theorem dX7_read_14 : decode cX7_read 14 = .ok (.getfield 136, 3) := by decide +kernel
theorem dX7_read_17 : decode cX7_read 17 = .ok (.if_icmp .le 5, 3) := by decide +kernel
theorem dX7_read_20 : decode cX7_read 20 = .ok (.iconst (-1), 1) := by decide +kernel
theorem dX7_read_21 : decode cX7_read 21 = .ok (.ireturn, 1) := by decide +kernel
theorem dX7_read_22 : decode cX7_read 22 = .ok (.aload_n 0, 1) := by decide +kernel
theorem dX7_read_23 : decode cX7_read 23 = .ok (.iconst 0, 1) := by decide +kernel
theorem dX7_read_24 : decode cX7_read 24 = .ok (.putfield 136, 3) := by decide +kernel
theorem dX7_read_27 : decode cX7_read 27 = .ok (.aload_n 0, 1) := by decide +kernel
theorem dX7_read_28 : decode cX7_read 28 = .ok (.iconst 1, 1) := by decide +kernel
theorem dX7_read_29 : decode cX7_read 29 = .ok (.putfield 69, 3) := by decide +kernel
theorem dX7_read_32 : decode cX7_read 32 = .ok (.aload_n 0, 1) := by decide +kernel
theorem dX7_read_33 : decode cX7_read 33 = .ok (.iload_n 2, 1) := by decide +kernel
theorem dX7_read_34 : decode cX7_read 34 = .ok (.putfield 145, 3) := by decide +kernel
theorem dX7_read_37 : decode cX7_read 37 = .ok (.aload_n 0, 1) := by decide +kernel
theorem dX7_read_38 : decode cX7_read 38 = .ok (.iload_n 1, 1) := by decide +kernel
theorem dX7_read_39 : decode cX7_read 39 = .ok (.putfield 142, 3) := by decide +kernel
theorem dX7_read_42 : decode cX7_read 42 = .ok (.iconst 0, 1) := by decide +kernel
theorem dX7_read_43 : decode cX7_read 43 = .ok (.istore_n 3, 1) := by decide +kernel
theorem dX7_read_44 : decode cX7_read 44 = .ok (.iload_n 3, 1) := by decide +kernel
theorem dX7_read_45 : decode cX7_read 45 = .ok (.iload_n 1, 1) := by decide +kernel
theorem dX7_read_46 : decode cX7_read 46 = .ok (.if_icmp .ge 21, 3) := by decide +kernel
theorem dX7_read_49 : decode cX7_read 49 = .ok (.aload_n 0, 1) := by decide +kernel
theorem dX7_read_50 : decode cX7_read 50 = .ok (.getfield 39, 3) := by decide +kernel
theorem dX7_read_53 : decode cX7_read 53 = .ok (.iload_n 3, 1) := by decide +kernel
theorem dX7_read_54 : decode cX7_read 54 = .ok (.aload_n 0, 1) := by decide +kernel
theorem dX7_read_55 : decode cX7_read 55 = .ok (.getfield 7, 3) := by decide +kernel
theorem dX7_read_58 : decode cX7_read 58 = .ok (.iload_n 3, 1) := by decide +kernel
theorem dX7_read_59 : decode cX7_read 59 = .ok (.baload, 1) := by decide +kernel
theorem dX7_read_60 : decode cX7_read 60 = .ok (.iastore, 1) := by decide +kernel
theorem dX7_read_61 : decode cX7_read 61 = .ok (.iinc 3 1, 3) := by decide +kernel
theorem dX7_read_64 : decode cX7_read 64 = .ok (.goto (-20), 3) := by decide +kernel
theorem dX7_read_67 : decode cX7_read 67 = .ok (.aload_n 0, 1) := by decide +kernel
theorem dX7_read_68 : decode cX7_read 68 = .ok (.invokevirtual 96, 3) := by decide +kernel
theorem dX7_read_71 : decode cX7_read 71 = .ok (.ifCond .eq 6, 3) := by decide +kernel
theorem dX7_read_74 : decode cX7_read 74 = .ok (.bipush (-2), 2) := by decide +kernel
theorem dX7_read_76 : decode cX7_read 76 = .ok (.ireturn, 1) := by decide +kernel
theorem dX7_read_77 : decode cX7_read 77 = .ok (.iconst 0, 1) := by decide +kernel
theorem dX7_read_78 : decode cX7_read 78 = .ok (.istore_n 3, 1) := by decide +kernel
theorem dX7_read_79 : decode cX7_read 79 = .ok (.iconst 0, 1) := by decide +kernel
theorem dX7_read_80 : decode cX7_read 80 = .ok (.istore 4, 2) := by decide +kernel
theorem dX7_read_82 : decode cX7_read 82 = .ok (.iload 4, 2) := by decide +kernel
theorem dX7_read_84 : decode cX7_read 84 = .ok (.aload_n 0, 1) := by decide +kernel
theorem dX7_read_85 : decode cX7_read 85 = .ok (.getfield 83, 3) := by decide +kernel
theorem dX7_read_88 : decode cX7_read 88 = .ok (.if_icmp .ge 26, 3) := by decide +kernel
theorem dX7_read_91 : decode cX7_read 91 = .ok (.iload_n 3, 1) := by decide +kernel
theorem dX7_read_92 : decode cX7_read 92 = .ok (.aload_n 0, 1) := by decide +kernel
theorem dX7_read_93 : decode cX7_read 93 = .ok (.iload 4, 2) := by decide +kernel
theorem dX7_read_95 : decode cX7_read 95 = .ok (.invokevirtual 150, 3) := by decide +kernel
theorem dX7_read_98 : decode cX7_read 98 = .ok (.ifCond .eq 7, 3) := by decide +kernel
theorem dX7_read_101 : decode cX7_read 101 = .ok (.iconst 1, 1) := by decide +kernel
theorem dX7_read_102 : decode cX7_read 102 = .ok (.goto 4, 3) := by decide +kernel
theorem dX7_read_105 : decode cX7_read 105 = .ok (.iconst 0, 1) := by decide +kernel
theorem dX7_read_106 : decode cX7_read 106 = .ok (.iadd, 1) := by decide +kernel
theorem dX7_read_107 : decode cX7_read 107 = .ok (.istore_n 3, 1) := by decide +kernel
theorem dX7_read_108 : decode cX7_read 108 = .ok (.iinc 4 1, 3) := by decide +kernel
theorem dX7_read_111 : decode cX7_read 111 = .ok (.goto (-29), 3) := by decide +kernel
theorem dX7_read_114 : decode cX7_read 114 = .ok (.iload_n 3, 1) := by decide +kernel
theorem dX7_read_115 : decode cX7_read 115 = .ok (.ireturn, 1) := by decide +kernel
theorem dX7_allowed_0 : decode cX7_allowed 0 = .ok (.aload_n 0, 1) := by decide +kernel
theorem dX7_allowed_1 : decode cX7_allowed 1 = .ok (.getfield 69, 3) := by decide +kernel
theorem dX7_allowed_4 : decode cX7_allowed 4 = .ok (.ifCond .eq 14, 3) := by decide +kernel
theorem dX7_allowed_7 : decode cX7_allowed 7 = .ok (.iload_n 1, 1) := by decide +kernel
theorem dX7_allowed_8 : decode cX7_allowed 8 = .ok (.ifCond .lt 10, 3) := by decide +kernel
theorem dX7_allowed_11 : decode cX7_allowed 11 = .ok (.aload_n 0, 1) := by decide +kernel
theorem dX7_allowed_12 : decode cX7_allowed 12 = .ok (.invokevirtual 96, 3) := by decide +kernel
theorem dX7_allowed_15 : decode cX7_allowed 15 = .ok (.ifCond .eq 5, 3) := by decide +kernel
theorem dX7_allowed_18 : decode cX7_allowed 18 = .ok (.iconst (-1), 1) := by decide +kernel
theorem dX7_allowed_19 : decode cX7_allowed 19 = .ok (.ireturn, 1) := by decide +kernel
theorem dX7_allowed_20 : decode cX7_allowed 20 = .ok (.iconst 0, 1) := by decide +kernel
theorem dX7_allowed_21 : decode cX7_allowed 21 = .ok (.istore_n 2, 1) := by decide +kernel
theorem dX7_allowed_22 : decode cX7_allowed 22 = .ok (.iconst 0, 1) := by decide +kernel
theorem dX7_allowed_23 : decode cX7_allowed 23 = .ok (.istore_n 3, 1) := by decide +kernel
theorem dX7_allowed_24 : decode cX7_allowed 24 = .ok (.iload_n 3, 1) := by decide +kernel
theorem dX7_allowed_25 : decode cX7_allowed 25 = .ok (.aload_n 0, 1) := by decide +kernel
theorem dX7_allowed_26 : decode cX7_allowed 26 = .ok (.getfield 83, 3) := by decide +kernel
theorem dX7_allowed_29 : decode cX7_allowed 29 = .ok (.if_icmp .ge 30, 3) := by decide +kernel
theorem dX7_allowed_32 : decode cX7_allowed 32 = .ok (.aload_n 0, 1) := by decide +kernel
theorem dX7_allowed_33 : decode cX7_allowed 33 = .ok (.iload_n 3, 1) := by decide +kernel
theorem dX7_allowed_34 : decode cX7_allowed 34 = .ok (.invokevirtual 150, 3) := by decide +kernel
theorem dX7_allowed_37 : decode cX7_allowed 37 = .ok (.ifCond .ne 6, 3) := by decide +kernel
theorem dX7_allowed_40 : decode cX7_allowed 40 = .ok (.goto 13, 3) := by decide +kernel
theorem dX7_allowed_43 : decode cX7_allowed 43 = .ok (.iload_n 2, 1) := by decide +kernel
theorem dX7_allowed_44 : decode cX7_allowed 44 = .ok (.iload_n 1, 1) := by decide +kernel
theorem dX7_allowed_45 : decode cX7_allowed 45 = .ok (.if_icmp .ne 5, 3) := by decide +kernel
theorem dX7_allowed_48 : decode cX7_allowed 48 = .ok (.iload_n 3, 1) := by decide +kernel
theorem dX7_allowed_49 : decode cX7_allowed 49 = .ok (.ireturn, 1) := by decide +kernel
theorem dX7_allowed_50 : decode cX7_allowed 50 = .ok (.iinc 2 1, 3) := by decide +kernel
theorem dX7_allowed_53 : decode cX7_allowed 53 = .ok (.iinc 3 1, 3) := by decide +kernel
theorem dX7_allowed_56 : decode cX7_allowed 56 = .ok (.goto (-32), 3) := by decide +kernel
theorem dX7_allowed_59 : decode cX7_allowed 59 = .ok (.iconst (-1), 1) := by decide +kernel
theorem dX7_allowed_60 : decode cX7_allowed 60 = .ok (.ireturn, 1) := by decide +kernel
theorem dX7_found_0 : decode cX7_found 0 = .ok (.aload_n 0, 1) := by decide +kernel
theorem dX7_found_1 : decode cX7_found 1 = .ok (.getfield 69, 3) := by decide +kernel
theorem dX7_found_4 : decode cX7_found 4 = .ok (.ifCond .eq 22, 3) := by decide +kernel
theorem dX7_found_7 : decode cX7_found 7 = .ok (.iload_n 1, 1) := by decide +kernel
theorem dX7_found_8 : decode cX7_found 8 = .ok (.i2l, 1) := by decide +kernel
theorem dX7_found_9 : decode cX7_found 9 = .ok (.lconst 0, 1) := by decide +kernel
theorem dX7_found_10 : decode cX7_found 10 = .ok (.ldc2_w 153, 3) := by decide +kernel
theorem dX7_found_13 : decode cX7_found 13 = .ok (.invokestatic 55, 3) := by decide +kernel
theorem dX7_found_16 : decode cX7_found 16 = .ok (.ifCond .eq 10, 3) := by decide +kernel
theorem dX7_found_19 : decode cX7_found 19 = .ok (.aload_n 0, 1) := by decide +kernel
theorem dX7_found_20 : decode cX7_found 20 = .ok (.invokevirtual 96, 3) := by decide +kernel
theorem dX7_found_23 : decode cX7_found 23 = .ok (.ifCond .eq 5, 3) := by decide +kernel
theorem dX7_found_26 : decode cX7_found 26 = .ok (.iconst (-1), 1) := by decide +kernel
theorem dX7_found_27 : decode cX7_found 27 = .ok (.ireturn, 1) := by decide +kernel
theorem dX7_found_28 : decode cX7_found 28 = .ok (.iconst (-1), 1) := by decide +kernel
theorem dX7_found_29 : decode cX7_found 29 = .ok (.istore_n 2, 1) := by decide +kernel
theorem dX7_found_30 : decode cX7_found 30 = .ok (.iconst 0, 1) := by decide +kernel
theorem dX7_found_31 : decode cX7_found 31 = .ok (.istore_n 3, 1) := by decide +kernel
theorem dX7_found_32 : decode cX7_found 32 = .ok (.iconst 0, 1) := by decide +kernel
theorem dX7_found_33 : decode cX7_found 33 = .ok (.istore 4, 2) := by decide +kernel
theorem dX7_found_35 : decode cX7_found 35 = .ok (.iconst 0, 1) := by decide +kernel
theorem dX7_found_36 : decode cX7_found 36 = .ok (.istore 5, 2) := by decide +kernel
theorem dX7_found_38 : decode cX7_found 38 = .ok (.iload 5, 2) := by decide +kernel
theorem dX7_found_40 : decode cX7_found 40 = .ok (.aload_n 0, 1) := by decide +kernel
theorem dX7_found_41 : decode cX7_found 41 = .ok (.getfield 83, 3) := by decide +kernel
theorem dX7_found_44 : decode cX7_found 44 = .ok (.if_icmp .ge 58, 3) := by decide +kernel
theorem dX7_found_47 : decode cX7_found 47 = .ok (.aload_n 0, 1) := by decide +kernel
theorem dX7_found_48 : decode cX7_found 48 = .ok (.iload 5, 2) := by decide +kernel
theorem dX7_found_50 : decode cX7_found 50 = .ok (.invokevirtual 150, 3) := by decide +kernel
theorem dX7_found_53 : decode cX7_found 53 = .ok (.ifCond .ne 6, 3) := by decide +kernel
theorem dX7_found_56 : decode cX7_found 56 = .ok (.goto 40, 3) := by decide +kernel
theorem dX7_found_59 : decode cX7_found 59 = .ok (.iload_n 1, 1) := by decide +kernel
theorem dX7_found_60 : decode cX7_found 60 = .ok (.iconst 2, 1) := by decide +kernel
theorem dX7_found_61 : decode cX7_found 61 = .ok (.if_icmp .ge 13, 3) := by decide +kernel
theorem dX7_found_64 : decode cX7_found 64 = .ok (.aload_n 0, 1) := by decide +kernel
theorem dX7_found_65 : decode cX7_found 65 = .ok (.getfield 33, 3) := by decide +kernel
theorem dX7_found_68 : decode cX7_found 68 = .ok (.iload 5, 2) := by decide +kernel
theorem dX7_found_70 : decode cX7_found 70 = .ok (.iaload, 1) := by decide +kernel
theorem dX7_found_71 : decode cX7_found 71 = .ok (.goto 10, 3) := by decide +kernel
theorem dX7_found_74 : decode cX7_found 74 = .ok (.aload_n 0, 1) := by decide +kernel
theorem dX7_found_75 : decode cX7_found 75 = .ok (.getfield 36, 3) := by decide +kernel
theorem dX7_found_78 : decode cX7_found 78 = .ok (.iload 5, 2) := by decide +kernel
theorem dX7_found_80 : decode cX7_found 80 = .ok (.iaload, 1) := by decide +kernel
theorem dX7_found_81 : decode cX7_found 81 = .ok (.istore 6, 2) := by decide +kernel
theorem dX7_found_83 : decode cX7_found 83 = .ok (.iload_n 2, 1) := by decide +kernel
theorem dX7_found_84 : decode cX7_found 84 = .ok (.iload 6, 2) := by decide +kernel
theorem dX7_found_86 : decode cX7_found 86 = .ok (.iand, 1) := by decide +kernel
theorem dX7_found_87 : decode cX7_found 87 = .ok (.istore_n 2, 1) := by decide +kernel
theorem dX7_found_88 : decode cX7_found 88 = .ok (.iload_n 3, 1) := by decide +kernel
theorem dX7_found_89 : decode cX7_found 89 = .ok (.iload 6, 2) := by decide +kernel
theorem dX7_found_91 : decode cX7_found 91 = .ok (.ior, 1) := by decide +kernel
theorem dX7_found_92 : decode cX7_found 92 = .ok (.istore_n 3, 1) := by decide +kernel
theorem dX7_found_93 : decode cX7_found 93 = .ok (.iconst 1, 1) := by decide +kernel
theorem dX7_found_94 : decode cX7_found 94 = .ok (.istore 4, 2) := by decide +kernel
theorem dX7_found_96 : decode cX7_found 96 = .ok (.iinc 5 1, 3) := by decide +kernel
theorem dX7_found_99 : decode cX7_found 99 = .ok (.goto (-61), 3) := by decide +kernel
theorem dX7_found_102 : decode cX7_found 102 = .ok (.iload 4, 2) := by decide +kernel
theorem dX7_found_104 : decode cX7_found 104 = .ok (.ifCond .ne 7, 3) := by decide +kernel
theorem dX7_found_107 : decode cX7_found 107 = .ok (.iconst (-1), 1) := by decide +kernel
theorem dX7_found_108 : decode cX7_found 108 = .ok (.goto 14, 3) := by decide +kernel
theorem dX7_found_111 : decode cX7_found 111 = .ok (.iload_n 1, 1) := by decide +kernel
theorem dX7_found_112 : decode cX7_found 112 = .ok (.iconst 2, 1) := by decide +kernel
theorem dX7_found_113 : decode cX7_found 113 = .ok (.irem, 1) := by decide +kernel
theorem dX7_found_114 : decode cX7_found 114 = .ok (.ifCond .ne 7, 3) := by decide +kernel
theorem dX7_found_117 : decode cX7_found 117 = .ok (.iload_n 2, 1) := by decide +kernel
theorem dX7_found_118 : decode cX7_found 118 = .ok (.goto 4, 3) := by decide +kernel
theorem dX7_found_121 : decode cX7_found 121 = .ok (.iload_n 3, 1) := by decide +kernel
theorem dX7_found_122 : decode cX7_found 122 = .ok (.ireturn, 1) := by decide +kernel
theorem dX7_look_0 : decode cX7_look 0 = .ok (.aload_n 0, 1) := by decide +kernel
theorem dX7_look_1 : decode cX7_look 1 = .ok (.iload_n 1, 1) := by decide +kernel
theorem dX7_look_2 : decode cX7_look 2 = .ok (.invokevirtual 75, 3) := by decide +kernel
theorem dX7_look_5 : decode cX7_look 5 = .ok (.ifCond .ne 5, 3) := by decide +kernel
theorem dX7_look_8 : decode cX7_look 8 = .ok (.iconst (-1), 1) := by decide +kernel
theorem dX7_look_9 : decode cX7_look 9 = .ok (.ireturn, 1) := by decide +kernel
theorem dX7_look_10 : decode cX7_look 10 = .ok (.iload_n 2, 1) := by decide +kernel
theorem dX7_look_11 : decode cX7_look 11 = .ok (.tableswitch 67 0 3 #[29, 36, 43, 50], 29) := by decide +kernel
theorem dX7_look_40 : decode cX7_look 40 = .ok (.aload_n 0, 1) := by decide +kernel
theorem dX7_look_41 : decode cX7_look 41 = .ok (.getfield 17, 3) := by decide +kernel
theorem dX7_look_44 : decode cX7_look 44 = .ok (.iload_n 1, 1) := by decide +kernel
theorem dX7_look_45 : decode cX7_look 45 = .ok (.iaload, 1) := by decide +kernel
theorem dX7_look_46 : decode cX7_look 46 = .ok (.ireturn, 1) := by decide +kernel
theorem dX7_look_47 : decode cX7_look 47 = .ok (.aload_n 0, 1) := by decide +kernel
theorem dX7_look_48 : decode cX7_look 48 = .ok (.getfield 21, 3) := by decide +kernel
theorem dX7_look_51 : decode cX7_look 51 = .ok (.iload_n 1, 1) := by decide +kernel
theorem dX7_look_52 : decode cX7_look 52 = .ok (.iaload, 1) := by decide +kernel
theorem dX7_look_53 : decode cX7_look 53 = .ok (.ireturn, 1) := by decide +kernel
theorem dX7_look_54 : decode cX7_look 54 = .ok (.aload_n 0, 1) := by decide +kernel
theorem dX7_look_55 : decode cX7_look 55 = .ok (.getfield 24, 3) := by decide +kernel
theorem dX7_look_58 : decode cX7_look 58 = .ok (.iload_n 1, 1) := by decide +kernel
theorem dX7_look_59 : decode cX7_look 59 = .ok (.iaload, 1) := by decide +kernel
theorem dX7_look_60 : decode cX7_look 60 = .ok (.ireturn, 1) := by decide +kernel
theorem dX7_look_61 : decode cX7_look 61 = .ok (.aload_n 0, 1) := by decide +kernel
theorem dX7_look_62 : decode cX7_look 62 = .ok (.getfield 63, 3) := by decide +kernel
theorem dX7_look_65 : decode cX7_look 65 = .ok (.iload_n 1, 1) := by decide +kernel
theorem dX7_look_66 : decode cX7_look 66 = .ok (.invokestatic 79, 3) := by decide +kernel
theorem dX7_look_69 : decode cX7_look 69 = .ok (.ifCond .eq 7, 3) := by decide +kernel
end
section
theorem dX7_look_72 : decode cX7_look 72 = .ok (.iconst 1, 1) := by decide +kernel
theorem dX7_look_73 : decode cX7_look 73 = .ok (.goto 4, 3) := by decide +kernel
theorem dX7_look_76 : decode cX7_look 76 = .ok (.iconst 0, 1) := by decide +kernel
theorem dX7_look_77 : decode cX7_look 77 = .ok (.ireturn, 1) := by decide +kernel
theorem dX7_look_78 : decode cX7_look 78 = .ok (.iconst (-1), 1) := by decide +kernel
theorem dX7_look_79 : decode cX7_look 79 = .ok (.ireturn, 1) := by decide +kernel
theorem dX7_count_0 : decode cX7_count 0 = .ok (.iload_n 1, 1) := by decide +kernel
theorem dX7_count_1 : decode cX7_count 1 = .ok (.tableswitch 84 0 5 #[39, 45, 51, 60, 69, 78], 39) := by decide +kernel
theorem dX7_count_40 : decode cX7_count 40 = .ok (.aload_n 0, 1) := by decide +kernel
theorem dX7_count_41 : decode cX7_count 41 = .ok (.getfield 13, 3) := by decide +kernel
theorem dX7_count_44 : decode cX7_count 44 = .ok (.i2l, 1) := by decide +kernel
theorem dX7_count_45 : decode cX7_count 45 = .ok (.lreturn, 1) := by decide +kernel
theorem dX7_count_46 : decode cX7_count 46 = .ok (.aload_n 0, 1) := by decide +kernel
theorem dX7_count_47 : decode cX7_count 47 = .ok (.getfield 52, 3) := by decide +kernel
theorem dX7_count_50 : decode cX7_count 50 = .ok (.i2l, 1) := by decide +kernel
theorem dX7_count_51 : decode cX7_count 51 = .ok (.lreturn, 1) := by decide +kernel
theorem dX7_count_52 : decode cX7_count 52 = .ok (.aload_n 0, 1) := by decide +kernel
theorem dX7_count_53 : decode cX7_count 53 = .ok (.getfield 63, 3) := by decide +kernel
theorem dX7_count_56 : decode cX7_count 56 = .ok (.invokestatic 127, 3) := by decide +kernel
theorem dX7_count_59 : decode cX7_count 59 = .ok (.i2l, 1) := by decide +kernel
theorem dX7_count_60 : decode cX7_count 60 = .ok (.lreturn, 1) := by decide +kernel
theorem dX7_count_61 : decode cX7_count 61 = .ok (.aload_n 0, 1) := by decide +kernel
theorem dX7_count_62 : decode cX7_count 62 = .ok (.getfield 66, 3) := by decide +kernel
theorem dX7_count_65 : decode cX7_count 65 = .ok (.invokestatic 127, 3) := by decide +kernel
theorem dX7_count_68 : decode cX7_count 68 = .ok (.i2l, 1) := by decide +kernel
theorem dX7_count_69 : decode cX7_count 69 = .ok (.lreturn, 1) := by decide +kernel
theorem dX7_count_70 : decode cX7_count 70 = .ok (.aload_n 0, 1) := by decide +kernel
theorem dX7_count_71 : decode cX7_count 71 = .ok (.aload_n 0, 1) := by decide +kernel
theorem dX7_count_72 : decode cX7_count 72 = .ok (.getfield 63, 3) := by decide +kernel
theorem dX7_count_75 : decode cX7_count 75 = .ok (.invokevirtual 121, 3) := by decide +kernel
theorem dX7_count_78 : decode cX7_count 78 = .ok (.lreturn, 1) := by decide +kernel
theorem dX7_count_79 : decode cX7_count 79 = .ok (.aload_n 0, 1) := by decide +kernel
theorem dX7_count_80 : decode cX7_count 80 = .ok (.getfield 136, 3) := by decide +kernel
theorem dX7_count_83 : decode cX7_count 83 = .ok (.i2l, 1) := by decide +kernel
theorem dX7_count_84 : decode cX7_count 84 = .ok (.lreturn, 1) := by decide +kernel
theorem dX7_count_85 : decode cX7_count 85 = .ok (.ldc2_w 125, 3) := by decide +kernel
theorem dX7_count_88 : decode cX7_count 88 = .ok (.lreturn, 1) := by decide +kernel
theorem dJ6_bitCount_0f7a4_0 : decode cJ6_bitCount_0f7a4 0 = .ok (.iload_n 0, 1) := by decide +kernel
theorem dJ6_bitCount_0f7a4_1 : decode cJ6_bitCount_0f7a4 1 = .ok (.iload_n 0, 1) := by decide +kernel
theorem dJ6_bitCount_0f7a4_2 : decode cJ6_bitCount_0f7a4 2 = .ok (.iconst 1, 1) := by decide +kernel
theorem dJ6_bitCount_0f7a4_3 : decode cJ6_bitCount_0f7a4 3 = .ok (.iushr, 1) := by decide +kernel
theorem dJ6_bitCount_0f7a4_4 : decode cJ6_bitCount_0f7a4 4 = .ok (.ldc_w 265, 3) := by decide +kernel
theorem dJ6_bitCount_0f7a4_7 : decode cJ6_bitCount_0f7a4 7 = .ok (.iand, 1) := by decide +kernel
theorem dJ6_bitCount_0f7a4_8 : decode cJ6_bitCount_0f7a4 8 = .ok (.isub, 1) := by decide +kernel
theorem dJ6_bitCount_0f7a4_9 : decode cJ6_bitCount_0f7a4 9 = .ok (.istore_n 0, 1) := by decide +kernel
theorem dJ6_bitCount_0f7a4_10 : decode cJ6_bitCount_0f7a4 10 = .ok (.iload_n 0, 1) := by decide +kernel
theorem dJ6_bitCount_0f7a4_11 : decode cJ6_bitCount_0f7a4 11 = .ok (.ldc_w 266, 3) := by decide +kernel
theorem dJ6_bitCount_0f7a4_14 : decode cJ6_bitCount_0f7a4 14 = .ok (.iand, 1) := by decide +kernel
theorem dJ6_bitCount_0f7a4_15 : decode cJ6_bitCount_0f7a4 15 = .ok (.iload_n 0, 1) := by decide +kernel
theorem dJ6_bitCount_0f7a4_16 : decode cJ6_bitCount_0f7a4 16 = .ok (.iconst 2, 1) := by decide +kernel
theorem dJ6_bitCount_0f7a4_17 : decode cJ6_bitCount_0f7a4 17 = .ok (.iushr, 1) := by decide +kernel
theorem dJ6_bitCount_0f7a4_18 : decode cJ6_bitCount_0f7a4 18 = .ok (.ldc_w 266, 3) := by decide +kernel
theorem dJ6_bitCount_0f7a4_21 : decode cJ6_bitCount_0f7a4 21 = .ok (.iand, 1) := by decide +kernel
theorem dJ6_bitCount_0f7a4_22 : decode cJ6_bitCount_0f7a4 22 = .ok (.iadd, 1) := by decide +kernel
theorem dJ6_bitCount_0f7a4_23 : decode cJ6_bitCount_0f7a4 23 = .ok (.istore_n 0, 1) := by decide +kernel
theorem dJ6_bitCount_0f7a4_24 : decode cJ6_bitCount_0f7a4 24 = .ok (.iload_n 0, 1) := by decide +kernel
theorem dJ6_bitCount_0f7a4_25 : decode cJ6_bitCount_0f7a4 25 = .ok (.iload_n 0, 1) := by decide +kernel
theorem dJ6_bitCount_0f7a4_26 : decode cJ6_bitCount_0f7a4 26 = .ok (.iconst 4, 1) := by decide +kernel
theorem dJ6_bitCount_0f7a4_27 : decode cJ6_bitCount_0f7a4 27 = .ok (.iushr, 1) := by decide +kernel
theorem dJ6_bitCount_0f7a4_28 : decode cJ6_bitCount_0f7a4 28 = .ok (.iadd, 1) := by decide +kernel
theorem dJ6_bitCount_0f7a4_29 : decode cJ6_bitCount_0f7a4 29 = .ok (.ldc_w 267, 3) := by decide +kernel
theorem dJ6_bitCount_0f7a4_32 : decode cJ6_bitCount_0f7a4 32 = .ok (.iand, 1) := by decide +kernel
theorem dJ6_bitCount_0f7a4_33 : decode cJ6_bitCount_0f7a4 33 = .ok (.istore_n 0, 1) := by decide +kernel
theorem dJ6_bitCount_0f7a4_34 : decode cJ6_bitCount_0f7a4 34 = .ok (.iload_n 0, 1) := by decide +kernel
theorem dJ6_bitCount_0f7a4_35 : decode cJ6_bitCount_0f7a4 35 = .ok (.iload_n 0, 1) := by decide +kernel
theorem dJ6_bitCount_0f7a4_36 : decode cJ6_bitCount_0f7a4 36 = .ok (.bipush 8, 2) := by decide +kernel
theorem dJ6_bitCount_0f7a4_38 : decode cJ6_bitCount_0f7a4 38 = .ok (.iushr, 1) := by decide +kernel
theorem dJ6_bitCount_0f7a4_39 : decode cJ6_bitCount_0f7a4 39 = .ok (.iadd, 1) := by decide +kernel
theorem dJ6_bitCount_0f7a4_40 : decode cJ6_bitCount_0f7a4 40 = .ok (.istore_n 0, 1) := by decide +kernel
theorem dJ6_bitCount_0f7a4_41 : decode cJ6_bitCount_0f7a4 41 = .ok (.iload_n 0, 1) := by decide +kernel
theorem dJ6_bitCount_0f7a4_42 : decode cJ6_bitCount_0f7a4 42 = .ok (.iload_n 0, 1) := by decide +kernel
theorem dJ6_bitCount_0f7a4_43 : decode cJ6_bitCount_0f7a4 43 = .ok (.bipush 16, 2) := by decide +kernel
theorem dJ6_bitCount_0f7a4_45 : decode cJ6_bitCount_0f7a4 45 = .ok (.iushr, 1) := by decide +kernel
theorem dJ6_bitCount_0f7a4_46 : decode cJ6_bitCount_0f7a4 46 = .ok (.iadd, 1) := by decide +kernel
theorem dJ6_bitCount_0f7a4_47 : decode cJ6_bitCount_0f7a4 47 = .ok (.istore_n 0, 1) := by decide +kernel
theorem dJ6_bitCount_0f7a4_48 : decode cJ6_bitCount_0f7a4 48 = .ok (.iload_n 0, 1) := by decide +kernel
theorem dJ6_bitCount_0f7a4_49 : decode cJ6_bitCount_0f7a4 49 = .ok (.bipush 63, 2) := by decide +kernel
theorem dJ6_bitCount_0f7a4_51 : decode cJ6_bitCount_0f7a4 51 = .ok (.iand, 1) := by decide +kernel
theorem dJ6_bitCount_0f7a4_52 : decode cJ6_bitCount_0f7a4 52 = .ok (.ireturn, 1) := by decide +kernel
theorem dJ9_min_7cf53_0 : decode cJ9_min_7cf53 0 = .ok (.iload_n 0, 1) := by decide +kernel
theorem dJ9_min_7cf53_1 : decode cJ9_min_7cf53 1 = .ok (.iload_n 1, 1) := by decide +kernel
theorem dJ9_min_7cf53_2 : decode cJ9_min_7cf53 2 = .ok (.if_icmp .gt 7, 3) := by decide +kernel
theorem dJ9_min_7cf53_5 : decode cJ9_min_7cf53 5 = .ok (.iload_n 0, 1) := by decide +kernel
theorem dJ9_min_7cf53_6 : decode cJ9_min_7cf53 6 = .ok (.goto 4, 3) := by decide +kernel
theorem dJ9_min_7cf53_9 : decode cJ9_min_7cf53 9 = .ok (.iload_n 1, 1) := by decide +kernel
theorem dJ9_min_7cf53_10 : decode cJ9_min_7cf53 10 = .ok (.ireturn, 1) := by decide +kernel
theorem dJ7_fill_53178_0 : decode cJ7_fill_53178 0 = .ok (.iconst 0, 1) := by decide +kernel
theorem dJ7_fill_53178_1 : decode cJ7_fill_53178 1 = .ok (.istore_n 2, 1) := by decide +kernel
theorem dJ7_fill_53178_2 : decode cJ7_fill_53178 2 = .ok (.aload_n 0, 1) := by decide +kernel
theorem dJ7_fill_53178_3 : decode cJ7_fill_53178 3 = .ok (.arraylength, 1) := by decide +kernel
theorem dJ7_fill_53178_4 : decode cJ7_fill_53178 4 = .ok (.istore_n 3, 1) := by decide +kernel
theorem dJ7_fill_53178_5 : decode cJ7_fill_53178 5 = .ok (.iload_n 2, 1) := by decide +kernel
theorem dJ7_fill_53178_6 : decode cJ7_fill_53178 6 = .ok (.iload_n 3, 1) := by decide +kernel
theorem dJ7_fill_53178_7 : decode cJ7_fill_53178 7 = .ok (.if_icmp .ge 13, 3) := by decide +kernel
theorem dJ7_fill_53178_10 : decode cJ7_fill_53178 10 = .ok (.aload_n 0, 1) := by decide +kernel
theorem dJ7_fill_53178_11 : decode cJ7_fill_53178 11 = .ok (.iload_n 2, 1) := by decide +kernel
theorem dJ7_fill_53178_12 : decode cJ7_fill_53178 12 = .ok (.iload_n 1, 1) := by decide +kernel
theorem dJ7_fill_53178_13 : decode cJ7_fill_53178 13 = .ok (.iastore, 1) := by decide +kernel
theorem dJ7_fill_53178_14 : decode cJ7_fill_53178 14 = .ok (.iinc 2 1, 3) := by decide +kernel
theorem dJ7_fill_53178_17 : decode cJ7_fill_53178 17 = .ok (.goto (-12), 3) := by decide +kernel
theorem dJ7_fill_53178_20 : decode cJ7_fill_53178 20 = .ok (.return_, 1) := by decide +kernel
theorem dJ7_copyOf_59c91_0 : decode cJ7_copyOf_59c91 0 = .ok (.iload_n 1, 1) := by decide +kernel
theorem dJ7_copyOf_59c91_1 : decode cJ7_copyOf_59c91 1 = .ok (.aload_n 0, 1) := by decide +kernel
theorem dJ7_copyOf_59c91_2 : decode cJ7_copyOf_59c91 2 = .ok (.arraylength, 1) := by decide +kernel
theorem dJ7_copyOf_59c91_3 : decode cJ7_copyOf_59c91 3 = .ok (.if_icmp .ne 11, 3) := by decide +kernel
theorem dJ7_copyOf_59c91_6 : decode cJ7_copyOf_59c91 6 = .ok (.aload_n 0, 1) := by decide +kernel
theorem dJ7_copyOf_59c91_7 : decode cJ7_copyOf_59c91 7 = .ok (.invokevirtual 316, 3) := by decide +kernel
theorem dJ7_copyOf_59c91_10 : decode cJ7_copyOf_59c91 10 = .ok (.checkcast 317, 3) := by decide +kernel
theorem dJ7_copyOf_59c91_13 : decode cJ7_copyOf_59c91 13 = .ok (.areturn, 1) := by decide +kernel
theorem dJ7_copyOf_59c91_14 : decode cJ7_copyOf_59c91 14 = .ok (.iload_n 1, 1) := by decide +kernel
theorem dJ7_copyOf_59c91_15 : decode cJ7_copyOf_59c91 15 = .ok (.newarray .int, 2) := by decide +kernel
theorem dJ7_copyOf_59c91_17 : decode cJ7_copyOf_59c91 17 = .ok (.astore_n 2, 1) := by decide +kernel
theorem dJ7_copyOf_59c91_18 : decode cJ7_copyOf_59c91 18 = .ok (.aload_n 0, 1) := by decide +kernel
theorem dJ7_copyOf_59c91_19 : decode cJ7_copyOf_59c91 19 = .ok (.iconst 0, 1) := by decide +kernel
theorem dJ7_copyOf_59c91_20 : decode cJ7_copyOf_59c91 20 = .ok (.aload_n 2, 1) := by decide +kernel
theorem dJ7_copyOf_59c91_21 : decode cJ7_copyOf_59c91 21 = .ok (.iconst 0, 1) := by decide +kernel
theorem dJ7_copyOf_59c91_22 : decode cJ7_copyOf_59c91 22 = .ok (.aload_n 0, 1) := by decide +kernel
theorem dJ7_copyOf_59c91_23 : decode cJ7_copyOf_59c91 23 = .ok (.arraylength, 1) := by decide +kernel
theorem dJ7_copyOf_59c91_24 : decode cJ7_copyOf_59c91 24 = .ok (.iload_n 1, 1) := by decide +kernel
theorem dJ7_copyOf_59c91_25 : decode cJ7_copyOf_59c91 25 = .ok (.invokestatic 304, 3) := by decide +kernel
theorem dJ7_copyOf_59c91_28 : decode cJ7_copyOf_59c91 28 = .ok (.invokestatic 150, 3) := by decide +kernel
theorem dJ7_copyOf_59c91_31 : decode cJ7_copyOf_59c91 31 = .ok (.aload_n 2, 1) := by decide +kernel
theorem dJ7_copyOf_59c91_32 : decode cJ7_copyOf_59c91 32 = .ok (.areturn, 1) := by decide +kernel
theorem dL_law_0 : decode cL_law 0 = .ok (.new 7, 3) := by decide +kernel
theorem dL_law_3 : decode cL_law 3 = .ok (.dup, 1) := by decide +kernel
theorem dL_law_4 : decode cL_law 4 = .ok (.invokespecial 9, 3) := by decide +kernel
theorem dL_law_7 : decode cL_law 7 = .ok (.astore_n 1, 1) := by decide +kernel
theorem dL_law_8 : decode cL_law 8 = .ok (.new 10, 3) := by decide +kernel
theorem dL_law_11 : decode cL_law 11 = .ok (.dup, 1) := by decide +kernel
theorem dL_law_12 : decode cL_law 12 = .ok (.invokespecial 12, 3) := by decide +kernel
theorem dL_law_15 : decode cL_law 15 = .ok (.astore_n 2, 1) := by decide +kernel
theorem dL_law_16 : decode cL_law 16 = .ok (.iconst 0, 1) := by decide +kernel
theorem dL_law_17 : decode cL_law 17 = .ok (.istore_n 3, 1) := by decide +kernel
theorem dL_law_18 : decode cL_law 18 = .ok (.iload_n 3, 1) := by decide +kernel
theorem dL_law_19 : decode cL_law 19 = .ok (.aload_n 0, 1) := by decide +kernel
theorem dL_law_20 : decode cL_law 20 = .ok (.arraylength, 1) := by decide +kernel
theorem dL_law_21 : decode cL_law 21 = .ok (.bipush 6, 2) := by decide +kernel
theorem dL_law_23 : decode cL_law 23 = .ok (.isub, 1) := by decide +kernel
theorem dL_law_24 : decode cL_law 24 = .ok (.if_icmp .gt 793, 3) := by decide +kernel
theorem dL_law_27 : decode cL_law 27 = .ok (.aload_n 0, 1) := by decide +kernel
theorem dL_law_28 : decode cL_law 28 = .ok (.iload_n 3, 1) := by decide +kernel
theorem dL_law_29 : decode cL_law 29 = .ok (.iaload, 1) := by decide +kernel
theorem dL_law_30 : decode cL_law 30 = .ok (.bipush 31, 2) := by decide +kernel
theorem dL_law_32 : decode cL_law 32 = .ok (.iand, 1) := by decide +kernel
theorem dL_law_33 : decode cL_law 33 = .ok (.tableswitch 778 0 20 #[99, 122, 165, 198, 247, 296, 309, 342, 375, 388, 411, 434, 483, 507, 530, 563, 626, 675, 698, 721, 754], 99) := by decide +kernel
theorem dL_law_132 : decode cL_law 132 = .ok (.aload_n 1, 1) := by decide +kernel
theorem dL_law_133 : decode cL_law 133 = .ok (.aload_n 0, 1) := by decide +kernel
theorem dL_law_134 : decode cL_law 134 = .ok (.iload_n 3, 1) := by decide +kernel
theorem dL_law_135 : decode cL_law 135 = .ok (.iconst 1, 1) := by decide +kernel
theorem dL_law_136 : decode cL_law 136 = .ok (.iadd, 1) := by decide +kernel
theorem dL_law_137 : decode cL_law 137 = .ok (.iaload, 1) := by decide +kernel
theorem dL_law_138 : decode cL_law 138 = .ok (.invokevirtual 13, 3) := by decide +kernel
theorem dL_law_141 : decode cL_law 141 = .ok (.aload_n 2, 1) := by decide +kernel
theorem dL_law_142 : decode cL_law 142 = .ok (.aload_n 0, 1) := by decide +kernel
theorem dL_law_143 : decode cL_law 143 = .ok (.iload_n 3, 1) := by decide +kernel
theorem dL_law_144 : decode cL_law 144 = .ok (.iconst 1, 1) := by decide +kernel
theorem dL_law_145 : decode cL_law 145 = .ok (.iadd, 1) := by decide +kernel
theorem dL_law_146 : decode cL_law 146 = .ok (.iaload, 1) := by decide +kernel
theorem dL_law_147 : decode cL_law 147 = .ok (.invokevirtual 17, 3) := by decide +kernel
theorem dL_law_150 : decode cL_law 150 = .ok (.if_icmp .eq 661, 3) := by decide +kernel
theorem dL_law_153 : decode cL_law 153 = .ok (.iconst 0, 1) := by decide +kernel
theorem dL_law_154 : decode cL_law 154 = .ok (.ireturn, 1) := by decide +kernel
theorem dL_law_155 : decode cL_law 155 = .ok (.aload_n 1, 1) := by decide +kernel
theorem dL_law_156 : decode cL_law 156 = .ok (.aload_n 0, 1) := by decide +kernel
theorem dL_law_157 : decode cL_law 157 = .ok (.iload_n 3, 1) := by decide +kernel
theorem dL_law_158 : decode cL_law 158 = .ok (.iconst 1, 1) := by decide +kernel
theorem dL_law_159 : decode cL_law 159 = .ok (.iadd, 1) := by decide +kernel
theorem dL_law_160 : decode cL_law 160 = .ok (.iaload, 1) := by decide +kernel
theorem dL_law_161 : decode cL_law 161 = .ok (.aload_n 0, 1) := by decide +kernel
theorem dL_law_162 : decode cL_law 162 = .ok (.iload_n 3, 1) := by decide +kernel
theorem dL_law_163 : decode cL_law 163 = .ok (.iconst 2, 1) := by decide +kernel
theorem dL_law_164 : decode cL_law 164 = .ok (.iadd, 1) := by decide +kernel
theorem dL_law_165 : decode cL_law 165 = .ok (.iaload, 1) := by decide +kernel
theorem dL_law_166 : decode cL_law 166 = .ok (.aload_n 0, 1) := by decide +kernel
theorem dL_law_167 : decode cL_law 167 = .ok (.iload_n 3, 1) := by decide +kernel
theorem dL_law_168 : decode cL_law 168 = .ok (.iconst 3, 1) := by decide +kernel
theorem dL_law_169 : decode cL_law 169 = .ok (.iadd, 1) := by decide +kernel
theorem dL_law_170 : decode cL_law 170 = .ok (.iaload, 1) := by decide +kernel
theorem dL_law_171 : decode cL_law 171 = .ok (.invokevirtual 18, 3) := by decide +kernel
theorem dL_law_174 : decode cL_law 174 = .ok (.aload_n 2, 1) := by decide +kernel
theorem dL_law_175 : decode cL_law 175 = .ok (.aload_n 0, 1) := by decide +kernel
theorem dL_law_176 : decode cL_law 176 = .ok (.iload_n 3, 1) := by decide +kernel
theorem dL_law_177 : decode cL_law 177 = .ok (.iconst 1, 1) := by decide +kernel
theorem dL_law_178 : decode cL_law 178 = .ok (.iadd, 1) := by decide +kernel
theorem dL_law_179 : decode cL_law 179 = .ok (.iaload, 1) := by decide +kernel
theorem dL_law_180 : decode cL_law 180 = .ok (.aload_n 0, 1) := by decide +kernel
theorem dL_law_181 : decode cL_law 181 = .ok (.iload_n 3, 1) := by decide +kernel
theorem dL_law_182 : decode cL_law 182 = .ok (.iconst 2, 1) := by decide +kernel
theorem dL_law_183 : decode cL_law 183 = .ok (.iadd, 1) := by decide +kernel
theorem dL_law_184 : decode cL_law 184 = .ok (.iaload, 1) := by decide +kernel
theorem dL_law_185 : decode cL_law 185 = .ok (.aload_n 0, 1) := by decide +kernel
theorem dL_law_186 : decode cL_law 186 = .ok (.iload_n 3, 1) := by decide +kernel
theorem dL_law_187 : decode cL_law 187 = .ok (.iconst 3, 1) := by decide +kernel
theorem dL_law_188 : decode cL_law 188 = .ok (.iadd, 1) := by decide +kernel
theorem dL_law_189 : decode cL_law 189 = .ok (.iaload, 1) := by decide +kernel
theorem dL_law_190 : decode cL_law 190 = .ok (.invokevirtual 22, 3) := by decide +kernel
theorem dL_law_193 : decode cL_law 193 = .ok (.if_icmp .eq 618, 3) := by decide +kernel
theorem dL_law_196 : decode cL_law 196 = .ok (.iconst 0, 1) := by decide +kernel
theorem dL_law_197 : decode cL_law 197 = .ok (.ireturn, 1) := by decide +kernel
theorem dL_law_198 : decode cL_law 198 = .ok (.aload_n 1, 1) := by decide +kernel
theorem dL_law_199 : decode cL_law 199 = .ok (.aload_n 0, 1) := by decide +kernel
theorem dL_law_200 : decode cL_law 200 = .ok (.iload_n 3, 1) := by decide +kernel
theorem dL_law_201 : decode cL_law 201 = .ok (.iconst 1, 1) := by decide +kernel
theorem dL_law_202 : decode cL_law 202 = .ok (.iadd, 1) := by decide +kernel
theorem dL_law_203 : decode cL_law 203 = .ok (.iaload, 1) := by decide +kernel
theorem dL_law_204 : decode cL_law 204 = .ok (.aload_n 0, 1) := by decide +kernel
theorem dL_law_205 : decode cL_law 205 = .ok (.iload_n 3, 1) := by decide +kernel
theorem dL_law_206 : decode cL_law 206 = .ok (.iconst 2, 1) := by decide +kernel
theorem dL_law_207 : decode cL_law 207 = .ok (.iadd, 1) := by decide +kernel
theorem dL_law_208 : decode cL_law 208 = .ok (.iaload, 1) := by decide +kernel
theorem dL_law_209 : decode cL_law 209 = .ok (.invokevirtual 23, 3) := by decide +kernel
theorem dL_law_212 : decode cL_law 212 = .ok (.aload_n 2, 1) := by decide +kernel
theorem dL_law_213 : decode cL_law 213 = .ok (.aload_n 0, 1) := by decide +kernel
theorem dL_law_214 : decode cL_law 214 = .ok (.iload_n 3, 1) := by decide +kernel
theorem dL_law_215 : decode cL_law 215 = .ok (.iconst 1, 1) := by decide +kernel
theorem dL_law_216 : decode cL_law 216 = .ok (.iadd, 1) := by decide +kernel
theorem dL_law_217 : decode cL_law 217 = .ok (.iaload, 1) := by decide +kernel
theorem dL_law_218 : decode cL_law 218 = .ok (.aload_n 0, 1) := by decide +kernel
theorem dL_law_219 : decode cL_law 219 = .ok (.iload_n 3, 1) := by decide +kernel
theorem dL_law_220 : decode cL_law 220 = .ok (.iconst 2, 1) := by decide +kernel
theorem dL_law_221 : decode cL_law 221 = .ok (.iadd, 1) := by decide +kernel
theorem dL_law_222 : decode cL_law 222 = .ok (.iaload, 1) := by decide +kernel
theorem dL_law_223 : decode cL_law 223 = .ok (.invokevirtual 27, 3) := by decide +kernel
theorem dL_law_226 : decode cL_law 226 = .ok (.if_icmp .eq 585, 3) := by decide +kernel
theorem dL_law_229 : decode cL_law 229 = .ok (.iconst 0, 1) := by decide +kernel
theorem dL_law_230 : decode cL_law 230 = .ok (.ireturn, 1) := by decide +kernel
theorem dL_law_231 : decode cL_law 231 = .ok (.aload_n 1, 1) := by decide +kernel
theorem dL_law_232 : decode cL_law 232 = .ok (.aload_n 0, 1) := by decide +kernel
theorem dL_law_233 : decode cL_law 233 = .ok (.iload_n 3, 1) := by decide +kernel
theorem dL_law_234 : decode cL_law 234 = .ok (.iconst 1, 1) := by decide +kernel
theorem dL_law_235 : decode cL_law 235 = .ok (.iadd, 1) := by decide +kernel
theorem dL_law_236 : decode cL_law 236 = .ok (.iaload, 1) := by decide +kernel
theorem dL_law_237 : decode cL_law 237 = .ok (.aload_n 0, 1) := by decide +kernel
theorem dL_law_238 : decode cL_law 238 = .ok (.iload_n 3, 1) := by decide +kernel
theorem dL_law_239 : decode cL_law 239 = .ok (.iconst 2, 1) := by decide +kernel
theorem dL_law_240 : decode cL_law 240 = .ok (.iadd, 1) := by decide +kernel
theorem dL_law_241 : decode cL_law 241 = .ok (.iaload, 1) := by decide +kernel
theorem dL_law_242 : decode cL_law 242 = .ok (.ifCond .eq 7, 3) := by decide +kernel
theorem dL_law_245 : decode cL_law 245 = .ok (.iconst 1, 1) := by decide +kernel
theorem dL_law_246 : decode cL_law 246 = .ok (.goto 4, 3) := by decide +kernel
theorem dL_law_249 : decode cL_law 249 = .ok (.iconst 0, 1) := by decide +kernel
theorem dL_law_250 : decode cL_law 250 = .ok (.invokevirtual 28, 3) := by decide +kernel
theorem dL_law_253 : decode cL_law 253 = .ok (.aload_n 2, 1) := by decide +kernel
theorem dL_law_254 : decode cL_law 254 = .ok (.aload_n 0, 1) := by decide +kernel
theorem dL_law_255 : decode cL_law 255 = .ok (.iload_n 3, 1) := by decide +kernel
theorem dL_law_256 : decode cL_law 256 = .ok (.iconst 1, 1) := by decide +kernel
theorem dL_law_257 : decode cL_law 257 = .ok (.iadd, 1) := by decide +kernel
theorem dL_law_258 : decode cL_law 258 = .ok (.iaload, 1) := by decide +kernel
theorem dL_law_259 : decode cL_law 259 = .ok (.aload_n 0, 1) := by decide +kernel
theorem dL_law_260 : decode cL_law 260 = .ok (.iload_n 3, 1) := by decide +kernel
theorem dL_law_261 : decode cL_law 261 = .ok (.iconst 2, 1) := by decide +kernel
theorem dL_law_262 : decode cL_law 262 = .ok (.iadd, 1) := by decide +kernel
theorem dL_law_263 : decode cL_law 263 = .ok (.iaload, 1) := by decide +kernel
theorem dL_law_264 : decode cL_law 264 = .ok (.ifCond .eq 7, 3) := by decide +kernel
theorem dL_law_267 : decode cL_law 267 = .ok (.iconst 1, 1) := by decide +kernel
theorem dL_law_268 : decode cL_law 268 = .ok (.goto 4, 3) := by decide +kernel
theorem dL_law_271 : decode cL_law 271 = .ok (.iconst 0, 1) := by decide +kernel
theorem dL_law_272 : decode cL_law 272 = .ok (.invokevirtual 32, 3) := by decide +kernel
theorem dL_law_275 : decode cL_law 275 = .ok (.if_icmp .eq 536, 3) := by decide +kernel
theorem dL_law_278 : decode cL_law 278 = .ok (.iconst 0, 1) := by decide +kernel
theorem dL_law_279 : decode cL_law 279 = .ok (.ireturn, 1) := by decide +kernel
theorem dL_law_280 : decode cL_law 280 = .ok (.aload_n 1, 1) := by decide +kernel
theorem dL_law_281 : decode cL_law 281 = .ok (.aload_n 0, 1) := by decide +kernel
theorem dL_law_282 : decode cL_law 282 = .ok (.iload_n 3, 1) := by decide +kernel
theorem dL_law_283 : decode cL_law 283 = .ok (.iconst 1, 1) := by decide +kernel
theorem dL_law_284 : decode cL_law 284 = .ok (.iadd, 1) := by decide +kernel
theorem dL_law_285 : decode cL_law 285 = .ok (.iaload, 1) := by decide +kernel
theorem dL_law_286 : decode cL_law 286 = .ok (.aload_n 0, 1) := by decide +kernel
theorem dL_law_287 : decode cL_law 287 = .ok (.iload_n 3, 1) := by decide +kernel
theorem dL_law_288 : decode cL_law 288 = .ok (.iconst 2, 1) := by decide +kernel
theorem dL_law_289 : decode cL_law 289 = .ok (.iadd, 1) := by decide +kernel
theorem dL_law_290 : decode cL_law 290 = .ok (.iaload, 1) := by decide +kernel
theorem dL_law_291 : decode cL_law 291 = .ok (.ifCond .eq 7, 3) := by decide +kernel
theorem dL_law_294 : decode cL_law 294 = .ok (.iconst 1, 1) := by decide +kernel
theorem dL_law_295 : decode cL_law 295 = .ok (.goto 4, 3) := by decide +kernel
theorem dL_law_298 : decode cL_law 298 = .ok (.iconst 0, 1) := by decide +kernel
theorem dL_law_299 : decode cL_law 299 = .ok (.invokevirtual 33, 3) := by decide +kernel
theorem dL_law_302 : decode cL_law 302 = .ok (.aload_n 2, 1) := by decide +kernel
theorem dL_law_303 : decode cL_law 303 = .ok (.aload_n 0, 1) := by decide +kernel
theorem dL_law_304 : decode cL_law 304 = .ok (.iload_n 3, 1) := by decide +kernel
theorem dL_law_305 : decode cL_law 305 = .ok (.iconst 1, 1) := by decide +kernel
theorem dL_law_306 : decode cL_law 306 = .ok (.iadd, 1) := by decide +kernel
theorem dL_law_307 : decode cL_law 307 = .ok (.iaload, 1) := by decide +kernel
theorem dL_law_308 : decode cL_law 308 = .ok (.aload_n 0, 1) := by decide +kernel
theorem dL_law_309 : decode cL_law 309 = .ok (.iload_n 3, 1) := by decide +kernel
theorem dL_law_310 : decode cL_law 310 = .ok (.iconst 2, 1) := by decide +kernel
theorem dL_law_311 : decode cL_law 311 = .ok (.iadd, 1) := by decide +kernel
theorem dL_law_312 : decode cL_law 312 = .ok (.iaload, 1) := by decide +kernel
theorem dL_law_313 : decode cL_law 313 = .ok (.ifCond .eq 7, 3) := by decide +kernel
theorem dL_law_316 : decode cL_law 316 = .ok (.iconst 1, 1) := by decide +kernel
theorem dL_law_317 : decode cL_law 317 = .ok (.goto 4, 3) := by decide +kernel
theorem dL_law_320 : decode cL_law 320 = .ok (.iconst 0, 1) := by decide +kernel
theorem dL_law_321 : decode cL_law 321 = .ok (.invokevirtual 36, 3) := by decide +kernel
theorem dL_law_324 : decode cL_law 324 = .ok (.if_icmp .eq 487, 3) := by decide +kernel
theorem dL_law_327 : decode cL_law 327 = .ok (.iconst 0, 1) := by decide +kernel
theorem dL_law_328 : decode cL_law 328 = .ok (.ireturn, 1) := by decide +kernel
theorem dL_law_329 : decode cL_law 329 = .ok (.aload_n 1, 1) := by decide +kernel
theorem dL_law_330 : decode cL_law 330 = .ok (.invokevirtual 37, 3) := by decide +kernel
theorem dL_law_333 : decode cL_law 333 = .ok (.aload_n 2, 1) := by decide +kernel
theorem dL_law_334 : decode cL_law 334 = .ok (.invokevirtual 41, 3) := by decide +kernel
theorem dL_law_337 : decode cL_law 337 = .ok (.if_icmp .eq 474, 3) := by decide +kernel
theorem dL_law_340 : decode cL_law 340 = .ok (.iconst 0, 1) := by decide +kernel
theorem dL_law_341 : decode cL_law 341 = .ok (.ireturn, 1) := by decide +kernel
theorem dL_law_342 : decode cL_law 342 = .ok (.aload_n 1, 1) := by decide +kernel
theorem dL_law_343 : decode cL_law 343 = .ok (.aload_n 0, 1) := by decide +kernel
theorem dL_law_344 : decode cL_law 344 = .ok (.iload_n 3, 1) := by decide +kernel
theorem dL_law_345 : decode cL_law 345 = .ok (.iconst 1, 1) := by decide +kernel
theorem dL_law_346 : decode cL_law 346 = .ok (.iadd, 1) := by decide +kernel
theorem dL_law_347 : decode cL_law 347 = .ok (.iaload, 1) := by decide +kernel
theorem dL_law_348 : decode cL_law 348 = .ok (.aload_n 0, 1) := by decide +kernel
theorem dL_law_349 : decode cL_law 349 = .ok (.iload_n 3, 1) := by decide +kernel
theorem dL_law_350 : decode cL_law 350 = .ok (.iconst 2, 1) := by decide +kernel
theorem dL_law_351 : decode cL_law 351 = .ok (.iadd, 1) := by decide +kernel
theorem dL_law_352 : decode cL_law 352 = .ok (.iaload, 1) := by decide +kernel
theorem dL_law_353 : decode cL_law 353 = .ok (.invokevirtual 42, 3) := by decide +kernel
theorem dL_law_356 : decode cL_law 356 = .ok (.aload_n 2, 1) := by decide +kernel
theorem dL_law_357 : decode cL_law 357 = .ok (.aload_n 0, 1) := by decide +kernel
theorem dL_law_358 : decode cL_law 358 = .ok (.iload_n 3, 1) := by decide +kernel
theorem dL_law_359 : decode cL_law 359 = .ok (.iconst 1, 1) := by decide +kernel
theorem dL_law_360 : decode cL_law 360 = .ok (.iadd, 1) := by decide +kernel
theorem dL_law_361 : decode cL_law 361 = .ok (.iaload, 1) := by decide +kernel
theorem dL_law_362 : decode cL_law 362 = .ok (.aload_n 0, 1) := by decide +kernel
theorem dL_law_363 : decode cL_law 363 = .ok (.iload_n 3, 1) := by decide +kernel
theorem dL_law_364 : decode cL_law 364 = .ok (.iconst 2, 1) := by decide +kernel
theorem dL_law_365 : decode cL_law 365 = .ok (.iadd, 1) := by decide +kernel
theorem dL_law_366 : decode cL_law 366 = .ok (.iaload, 1) := by decide +kernel
theorem dL_law_367 : decode cL_law 367 = .ok (.invokevirtual 46, 3) := by decide +kernel
theorem dL_law_370 : decode cL_law 370 = .ok (.if_icmp .eq 441, 3) := by decide +kernel
theorem dL_law_373 : decode cL_law 373 = .ok (.iconst 0, 1) := by decide +kernel
theorem dL_law_374 : decode cL_law 374 = .ok (.ireturn, 1) := by decide +kernel
theorem dL_law_375 : decode cL_law 375 = .ok (.aload_n 1, 1) := by decide +kernel
theorem dL_law_376 : decode cL_law 376 = .ok (.aload_n 0, 1) := by decide +kernel
theorem dL_law_377 : decode cL_law 377 = .ok (.iload_n 3, 1) := by decide +kernel
theorem dL_law_378 : decode cL_law 378 = .ok (.iconst 1, 1) := by decide +kernel
theorem dL_law_379 : decode cL_law 379 = .ok (.iadd, 1) := by decide +kernel
theorem dL_law_380 : decode cL_law 380 = .ok (.iaload, 1) := by decide +kernel
theorem dL_law_381 : decode cL_law 381 = .ok (.aload_n 0, 1) := by decide +kernel
theorem dL_law_382 : decode cL_law 382 = .ok (.iload_n 3, 1) := by decide +kernel
theorem dL_law_383 : decode cL_law 383 = .ok (.iconst 2, 1) := by decide +kernel
theorem dL_law_384 : decode cL_law 384 = .ok (.iadd, 1) := by decide +kernel
theorem dL_law_385 : decode cL_law 385 = .ok (.iaload, 1) := by decide +kernel
theorem dL_law_386 : decode cL_law 386 = .ok (.invokevirtual 47, 3) := by decide +kernel
theorem dL_law_389 : decode cL_law 389 = .ok (.aload_n 2, 1) := by decide +kernel
theorem dL_law_390 : decode cL_law 390 = .ok (.aload_n 0, 1) := by decide +kernel
theorem dL_law_391 : decode cL_law 391 = .ok (.iload_n 3, 1) := by decide +kernel
theorem dL_law_392 : decode cL_law 392 = .ok (.iconst 1, 1) := by decide +kernel
theorem dL_law_393 : decode cL_law 393 = .ok (.iadd, 1) := by decide +kernel
theorem dL_law_394 : decode cL_law 394 = .ok (.iaload, 1) := by decide +kernel
theorem dL_law_395 : decode cL_law 395 = .ok (.aload_n 0, 1) := by decide +kernel
theorem dL_law_396 : decode cL_law 396 = .ok (.iload_n 3, 1) := by decide +kernel
theorem dL_law_397 : decode cL_law 397 = .ok (.iconst 2, 1) := by decide +kernel
theorem dL_law_398 : decode cL_law 398 = .ok (.iadd, 1) := by decide +kernel
theorem dL_law_399 : decode cL_law 399 = .ok (.iaload, 1) := by decide +kernel
theorem dL_law_400 : decode cL_law 400 = .ok (.invokevirtual 50, 3) := by decide +kernel
theorem dL_law_403 : decode cL_law 403 = .ok (.if_icmp .eq 408, 3) := by decide +kernel
theorem dL_law_406 : decode cL_law 406 = .ok (.iconst 0, 1) := by decide +kernel
theorem dL_law_407 : decode cL_law 407 = .ok (.ireturn, 1) := by decide +kernel
theorem dL_law_408 : decode cL_law 408 = .ok (.aload_n 1, 1) := by decide +kernel
theorem dL_law_409 : decode cL_law 409 = .ok (.invokevirtual 51, 3) := by decide +kernel
theorem dL_law_412 : decode cL_law 412 = .ok (.aload_n 2, 1) := by decide +kernel
theorem dL_law_413 : decode cL_law 413 = .ok (.invokevirtual 54, 3) := by decide +kernel
theorem dL_law_416 : decode cL_law 416 = .ok (.if_icmp .eq 395, 3) := by decide +kernel
theorem dL_law_419 : decode cL_law 419 = .ok (.iconst 0, 1) := by decide +kernel
theorem dL_law_420 : decode cL_law 420 = .ok (.ireturn, 1) := by decide +kernel
theorem dL_law_421 : decode cL_law 421 = .ok (.aload_n 1, 1) := by decide +kernel
theorem dL_law_422 : decode cL_law 422 = .ok (.aload_n 0, 1) := by decide +kernel
theorem dL_law_423 : decode cL_law 423 = .ok (.iload_n 3, 1) := by decide +kernel
theorem dL_law_424 : decode cL_law 424 = .ok (.iconst 1, 1) := by decide +kernel
theorem dL_law_425 : decode cL_law 425 = .ok (.iadd, 1) := by decide +kernel
theorem dL_law_426 : decode cL_law 426 = .ok (.iaload, 1) := by decide +kernel
theorem dL_law_427 : decode cL_law 427 = .ok (.invokevirtual 55, 3) := by decide +kernel
theorem dL_law_430 : decode cL_law 430 = .ok (.aload_n 2, 1) := by decide +kernel
theorem dL_law_431 : decode cL_law 431 = .ok (.aload_n 0, 1) := by decide +kernel
theorem dL_law_432 : decode cL_law 432 = .ok (.iload_n 3, 1) := by decide +kernel
theorem dL_law_433 : decode cL_law 433 = .ok (.iconst 1, 1) := by decide +kernel
theorem dL_law_434 : decode cL_law 434 = .ok (.iadd, 1) := by decide +kernel
theorem dL_law_435 : decode cL_law 435 = .ok (.iaload, 1) := by decide +kernel
theorem dL_law_436 : decode cL_law 436 = .ok (.invokevirtual 59, 3) := by decide +kernel
theorem dL_law_439 : decode cL_law 439 = .ok (.if_icmp .eq 372, 3) := by decide +kernel
theorem dL_law_442 : decode cL_law 442 = .ok (.iconst 0, 1) := by decide +kernel
theorem dL_law_443 : decode cL_law 443 = .ok (.ireturn, 1) := by decide +kernel
theorem dL_law_444 : decode cL_law 444 = .ok (.aload_n 1, 1) := by decide +kernel
theorem dL_law_445 : decode cL_law 445 = .ok (.aload_n 0, 1) := by decide +kernel
theorem dL_law_446 : decode cL_law 446 = .ok (.iload_n 3, 1) := by decide +kernel
theorem dL_law_447 : decode cL_law 447 = .ok (.iconst 1, 1) := by decide +kernel
theorem dL_law_448 : decode cL_law 448 = .ok (.iadd, 1) := by decide +kernel
theorem dL_law_449 : decode cL_law 449 = .ok (.iaload, 1) := by decide +kernel
theorem dL_law_450 : decode cL_law 450 = .ok (.invokevirtual 60, 3) := by decide +kernel
theorem dL_law_453 : decode cL_law 453 = .ok (.aload_n 2, 1) := by decide +kernel
theorem dL_law_454 : decode cL_law 454 = .ok (.aload_n 0, 1) := by decide +kernel
theorem dL_law_455 : decode cL_law 455 = .ok (.iload_n 3, 1) := by decide +kernel
theorem dL_law_456 : decode cL_law 456 = .ok (.iconst 1, 1) := by decide +kernel
theorem dL_law_457 : decode cL_law 457 = .ok (.iadd, 1) := by decide +kernel
theorem dL_law_458 : decode cL_law 458 = .ok (.iaload, 1) := by decide +kernel
theorem dL_law_459 : decode cL_law 459 = .ok (.invokevirtual 63, 3) := by decide +kernel
theorem dL_law_462 : decode cL_law 462 = .ok (.if_icmp .eq 349, 3) := by decide +kernel
theorem dL_law_465 : decode cL_law 465 = .ok (.iconst 0, 1) := by decide +kernel
theorem dL_law_466 : decode cL_law 466 = .ok (.ireturn, 1) := by decide +kernel
theorem dL_law_467 : decode cL_law 467 = .ok (.aload_n 1, 1) := by decide +kernel
theorem dL_law_468 : decode cL_law 468 = .ok (.aload_n 0, 1) := by decide +kernel
theorem dL_law_469 : decode cL_law 469 = .ok (.iload_n 3, 1) := by decide +kernel
theorem dL_law_470 : decode cL_law 470 = .ok (.iconst 1, 1) := by decide +kernel
theorem dL_law_471 : decode cL_law 471 = .ok (.iadd, 1) := by decide +kernel
theorem dL_law_472 : decode cL_law 472 = .ok (.iaload, 1) := by decide +kernel
theorem dL_law_473 : decode cL_law 473 = .ok (.aload_n 0, 1) := by decide +kernel
theorem dL_law_474 : decode cL_law 474 = .ok (.iload_n 3, 1) := by decide +kernel
theorem dL_law_475 : decode cL_law 475 = .ok (.iconst 2, 1) := by decide +kernel
theorem dL_law_476 : decode cL_law 476 = .ok (.iadd, 1) := by decide +kernel
theorem dL_law_477 : decode cL_law 477 = .ok (.iaload, 1) := by decide +kernel
theorem dL_law_478 : decode cL_law 478 = .ok (.ifCond .eq 7, 3) := by decide +kernel
theorem dL_law_481 : decode cL_law 481 = .ok (.iconst 1, 1) := by decide +kernel
theorem dL_law_482 : decode cL_law 482 = .ok (.goto 4, 3) := by decide +kernel
theorem dL_law_485 : decode cL_law 485 = .ok (.iconst 0, 1) := by decide +kernel
theorem dL_law_486 : decode cL_law 486 = .ok (.invokevirtual 64, 3) := by decide +kernel
theorem dL_law_489 : decode cL_law 489 = .ok (.aload_n 2, 1) := by decide +kernel
theorem dL_law_490 : decode cL_law 490 = .ok (.aload_n 0, 1) := by decide +kernel
theorem dL_law_491 : decode cL_law 491 = .ok (.iload_n 3, 1) := by decide +kernel
theorem dL_law_492 : decode cL_law 492 = .ok (.iconst 1, 1) := by decide +kernel
theorem dL_law_493 : decode cL_law 493 = .ok (.iadd, 1) := by decide +kernel
theorem dL_law_494 : decode cL_law 494 = .ok (.iaload, 1) := by decide +kernel
theorem dL_law_495 : decode cL_law 495 = .ok (.aload_n 0, 1) := by decide +kernel
theorem dL_law_496 : decode cL_law 496 = .ok (.iload_n 3, 1) := by decide +kernel
theorem dL_law_497 : decode cL_law 497 = .ok (.iconst 2, 1) := by decide +kernel
theorem dL_law_498 : decode cL_law 498 = .ok (.iadd, 1) := by decide +kernel
theorem dL_law_499 : decode cL_law 499 = .ok (.iaload, 1) := by decide +kernel
theorem dL_law_500 : decode cL_law 500 = .ok (.ifCond .eq 7, 3) := by decide +kernel
theorem dL_law_503 : decode cL_law 503 = .ok (.iconst 1, 1) := by decide +kernel
theorem dL_law_504 : decode cL_law 504 = .ok (.goto 4, 3) := by decide +kernel
theorem dL_law_507 : decode cL_law 507 = .ok (.iconst 0, 1) := by decide +kernel
theorem dL_law_508 : decode cL_law 508 = .ok (.invokevirtual 68, 3) := by decide +kernel
theorem dL_law_511 : decode cL_law 511 = .ok (.if_icmp .eq 300, 3) := by decide +kernel
theorem dL_law_514 : decode cL_law 514 = .ok (.iconst 0, 1) := by decide +kernel
theorem dL_law_515 : decode cL_law 515 = .ok (.ireturn, 1) := by decide +kernel
theorem dL_law_516 : decode cL_law 516 = .ok (.aload_n 1, 1) := by decide +kernel
theorem dL_law_517 : decode cL_law 517 = .ok (.aload_n 0, 1) := by decide +kernel
theorem dL_law_518 : decode cL_law 518 = .ok (.iload_n 3, 1) := by decide +kernel
theorem dL_law_519 : decode cL_law 519 = .ok (.iconst 1, 1) := by decide +kernel
theorem dL_law_520 : decode cL_law 520 = .ok (.iadd, 1) := by decide +kernel
theorem dL_law_521 : decode cL_law 521 = .ok (.iaload, 1) := by decide +kernel
theorem dL_law_522 : decode cL_law 522 = .ok (.invokevirtual 69, 3) := by decide +kernel
theorem dL_law_525 : decode cL_law 525 = .ok (.aload_n 2, 1) := by decide +kernel
theorem dL_law_526 : decode cL_law 526 = .ok (.aload_n 0, 1) := by decide +kernel
theorem dL_law_527 : decode cL_law 527 = .ok (.iload_n 3, 1) := by decide +kernel
theorem dL_law_528 : decode cL_law 528 = .ok (.iconst 1, 1) := by decide +kernel
theorem dL_law_529 : decode cL_law 529 = .ok (.iadd, 1) := by decide +kernel
theorem dL_law_530 : decode cL_law 530 = .ok (.iaload, 1) := by decide +kernel
theorem dL_law_531 : decode cL_law 531 = .ok (.invokevirtual 73, 3) := by decide +kernel
theorem dL_law_534 : decode cL_law 534 = .ok (.lcmp, 1) := by decide +kernel
theorem dL_law_535 : decode cL_law 535 = .ok (.ifCond .eq 276, 3) := by decide +kernel
theorem dL_law_538 : decode cL_law 538 = .ok (.iconst 0, 1) := by decide +kernel
theorem dL_law_539 : decode cL_law 539 = .ok (.ireturn, 1) := by decide +kernel
theorem dL_law_540 : decode cL_law 540 = .ok (.aload_n 1, 1) := by decide +kernel
theorem dL_law_541 : decode cL_law 541 = .ok (.aload_n 0, 1) := by decide +kernel
theorem dL_law_542 : decode cL_law 542 = .ok (.iload_n 3, 1) := by decide +kernel
theorem dL_law_543 : decode cL_law 543 = .ok (.iconst 1, 1) := by decide +kernel
theorem dL_law_544 : decode cL_law 544 = .ok (.iadd, 1) := by decide +kernel
theorem dL_law_545 : decode cL_law 545 = .ok (.iaload, 1) := by decide +kernel
theorem dL_law_546 : decode cL_law 546 = .ok (.invokevirtual 74, 3) := by decide +kernel
theorem dL_law_549 : decode cL_law 549 = .ok (.aload_n 2, 1) := by decide +kernel
theorem dL_law_550 : decode cL_law 550 = .ok (.aload_n 0, 1) := by decide +kernel
theorem dL_law_551 : decode cL_law 551 = .ok (.iload_n 3, 1) := by decide +kernel
theorem dL_law_552 : decode cL_law 552 = .ok (.iconst 1, 1) := by decide +kernel
theorem dL_law_553 : decode cL_law 553 = .ok (.iadd, 1) := by decide +kernel
theorem dL_law_554 : decode cL_law 554 = .ok (.iaload, 1) := by decide +kernel
theorem dL_law_555 : decode cL_law 555 = .ok (.invokevirtual 77, 3) := by decide +kernel
theorem dL_law_558 : decode cL_law 558 = .ok (.if_icmp .eq 253, 3) := by decide +kernel
theorem dL_law_561 : decode cL_law 561 = .ok (.iconst 0, 1) := by decide +kernel
theorem dL_law_562 : decode cL_law 562 = .ok (.ireturn, 1) := by decide +kernel
theorem dL_law_563 : decode cL_law 563 = .ok (.aload_n 1, 1) := by decide +kernel
theorem dL_law_564 : decode cL_law 564 = .ok (.aload_n 0, 1) := by decide +kernel
theorem dL_law_565 : decode cL_law 565 = .ok (.iload_n 3, 1) := by decide +kernel
theorem dL_law_566 : decode cL_law 566 = .ok (.iconst 1, 1) := by decide +kernel
theorem dL_law_567 : decode cL_law 567 = .ok (.iadd, 1) := by decide +kernel
theorem dL_law_568 : decode cL_law 568 = .ok (.iaload, 1) := by decide +kernel
theorem dL_law_569 : decode cL_law 569 = .ok (.aload_n 0, 1) := by decide +kernel
theorem dL_law_570 : decode cL_law 570 = .ok (.iload_n 3, 1) := by decide +kernel
theorem dL_law_571 : decode cL_law 571 = .ok (.iconst 2, 1) := by decide +kernel
theorem dL_law_572 : decode cL_law 572 = .ok (.iadd, 1) := by decide +kernel
theorem dL_law_573 : decode cL_law 573 = .ok (.iaload, 1) := by decide +kernel
theorem dL_law_574 : decode cL_law 574 = .ok (.invokevirtual 78, 3) := by decide +kernel
theorem dL_law_577 : decode cL_law 577 = .ok (.aload_n 2, 1) := by decide +kernel
theorem dL_law_578 : decode cL_law 578 = .ok (.aload_n 0, 1) := by decide +kernel
theorem dL_law_579 : decode cL_law 579 = .ok (.iload_n 3, 1) := by decide +kernel
theorem dL_law_580 : decode cL_law 580 = .ok (.iconst 1, 1) := by decide +kernel
theorem dL_law_581 : decode cL_law 581 = .ok (.iadd, 1) := by decide +kernel
theorem dL_law_582 : decode cL_law 582 = .ok (.iaload, 1) := by decide +kernel
theorem dL_law_583 : decode cL_law 583 = .ok (.aload_n 0, 1) := by decide +kernel
theorem dL_law_584 : decode cL_law 584 = .ok (.iload_n 3, 1) := by decide +kernel
theorem dL_law_585 : decode cL_law 585 = .ok (.iconst 2, 1) := by decide +kernel
theorem dL_law_586 : decode cL_law 586 = .ok (.iadd, 1) := by decide +kernel
theorem dL_law_587 : decode cL_law 587 = .ok (.iaload, 1) := by decide +kernel
theorem dL_law_588 : decode cL_law 588 = .ok (.invokevirtual 81, 3) := by decide +kernel
theorem dL_law_591 : decode cL_law 591 = .ok (.if_icmp .eq 220, 3) := by decide +kernel
theorem dL_law_594 : decode cL_law 594 = .ok (.iconst 0, 1) := by decide +kernel
theorem dL_law_595 : decode cL_law 595 = .ok (.ireturn, 1) := by decide +kernel
theorem dL_law_596 : decode cL_law 596 = .ok (.aload_n 1, 1) := by decide +kernel
theorem dL_law_597 : decode cL_law 597 = .ok (.aload_n 0, 1) := by decide +kernel
theorem dL_law_598 : decode cL_law 598 = .ok (.iload_n 3, 1) := by decide +kernel
theorem dL_law_599 : decode cL_law 599 = .ok (.iconst 1, 1) := by decide +kernel
theorem dL_law_600 : decode cL_law 600 = .ok (.iadd, 1) := by decide +kernel
theorem dL_law_601 : decode cL_law 601 = .ok (.iaload, 1) := by decide +kernel
theorem dL_law_602 : decode cL_law 602 = .ok (.aload_n 0, 1) := by decide +kernel
theorem dL_law_603 : decode cL_law 603 = .ok (.iload_n 3, 1) := by decide +kernel
theorem dL_law_604 : decode cL_law 604 = .ok (.iconst 2, 1) := by decide +kernel
theorem dL_law_605 : decode cL_law 605 = .ok (.iadd, 1) := by decide +kernel
theorem dL_law_606 : decode cL_law 606 = .ok (.iaload, 1) := by decide +kernel
theorem dL_law_607 : decode cL_law 607 = .ok (.aload_n 0, 1) := by decide +kernel
theorem dL_law_608 : decode cL_law 608 = .ok (.iload_n 3, 1) := by decide +kernel
theorem dL_law_609 : decode cL_law 609 = .ok (.iconst 3, 1) := by decide +kernel
theorem dL_law_610 : decode cL_law 610 = .ok (.iadd, 1) := by decide +kernel
theorem dL_law_611 : decode cL_law 611 = .ok (.iaload, 1) := by decide +kernel
theorem dL_law_612 : decode cL_law 612 = .ok (.aload_n 0, 1) := by decide +kernel
theorem dL_law_613 : decode cL_law 613 = .ok (.iload_n 3, 1) := by decide +kernel
theorem dL_law_614 : decode cL_law 614 = .ok (.iconst 4, 1) := by decide +kernel
theorem dL_law_615 : decode cL_law 615 = .ok (.iadd, 1) := by decide +kernel
theorem dL_law_616 : decode cL_law 616 = .ok (.iaload, 1) := by decide +kernel
theorem dL_law_617 : decode cL_law 617 = .ok (.aload_n 0, 1) := by decide +kernel
theorem dL_law_618 : decode cL_law 618 = .ok (.iload_n 3, 1) := by decide +kernel
theorem dL_law_619 : decode cL_law 619 = .ok (.iconst 5, 1) := by decide +kernel
theorem dL_law_620 : decode cL_law 620 = .ok (.iadd, 1) := by decide +kernel
theorem dL_law_621 : decode cL_law 621 = .ok (.iaload, 1) := by decide +kernel
theorem dL_law_622 : decode cL_law 622 = .ok (.invokevirtual 82, 3) := by decide +kernel
theorem dL_law_625 : decode cL_law 625 = .ok (.aload_n 2, 1) := by decide +kernel
theorem dL_law_626 : decode cL_law 626 = .ok (.aload_n 0, 1) := by decide +kernel
theorem dL_law_627 : decode cL_law 627 = .ok (.iload_n 3, 1) := by decide +kernel
theorem dL_law_628 : decode cL_law 628 = .ok (.iconst 1, 1) := by decide +kernel
theorem dL_law_629 : decode cL_law 629 = .ok (.iadd, 1) := by decide +kernel
theorem dL_law_630 : decode cL_law 630 = .ok (.iaload, 1) := by decide +kernel
theorem dL_law_631 : decode cL_law 631 = .ok (.aload_n 0, 1) := by decide +kernel
theorem dL_law_632 : decode cL_law 632 = .ok (.iload_n 3, 1) := by decide +kernel
theorem dL_law_633 : decode cL_law 633 = .ok (.iconst 2, 1) := by decide +kernel
theorem dL_law_634 : decode cL_law 634 = .ok (.iadd, 1) := by decide +kernel
theorem dL_law_635 : decode cL_law 635 = .ok (.iaload, 1) := by decide +kernel
theorem dL_law_636 : decode cL_law 636 = .ok (.aload_n 0, 1) := by decide +kernel
theorem dL_law_637 : decode cL_law 637 = .ok (.iload_n 3, 1) := by decide +kernel
theorem dL_law_638 : decode cL_law 638 = .ok (.iconst 3, 1) := by decide +kernel
theorem dL_law_639 : decode cL_law 639 = .ok (.iadd, 1) := by decide +kernel
theorem dL_law_640 : decode cL_law 640 = .ok (.iaload, 1) := by decide +kernel
theorem dL_law_641 : decode cL_law 641 = .ok (.aload_n 0, 1) := by decide +kernel
theorem dL_law_642 : decode cL_law 642 = .ok (.iload_n 3, 1) := by decide +kernel
theorem dL_law_643 : decode cL_law 643 = .ok (.iconst 4, 1) := by decide +kernel
theorem dL_law_644 : decode cL_law 644 = .ok (.iadd, 1) := by decide +kernel
theorem dL_law_645 : decode cL_law 645 = .ok (.iaload, 1) := by decide +kernel
theorem dL_law_646 : decode cL_law 646 = .ok (.aload_n 0, 1) := by decide +kernel
theorem dL_law_647 : decode cL_law 647 = .ok (.iload_n 3, 1) := by decide +kernel
theorem dL_law_648 : decode cL_law 648 = .ok (.iconst 5, 1) := by decide +kernel
theorem dL_law_649 : decode cL_law 649 = .ok (.iadd, 1) := by decide +kernel
theorem dL_law_650 : decode cL_law 650 = .ok (.iaload, 1) := by decide +kernel
theorem dL_law_651 : decode cL_law 651 = .ok (.invokevirtual 86, 3) := by decide +kernel
theorem dL_law_654 : decode cL_law 654 = .ok (.if_icmp .eq 157, 3) := by decide +kernel
theorem dL_law_657 : decode cL_law 657 = .ok (.iconst 0, 1) := by decide +kernel
theorem dL_law_658 : decode cL_law 658 = .ok (.ireturn, 1) := by decide +kernel
theorem dL_law_659 : decode cL_law 659 = .ok (.aload_n 1, 1) := by decide +kernel
theorem dL_law_660 : decode cL_law 660 = .ok (.aload_n 0, 1) := by decide +kernel
theorem dL_law_661 : decode cL_law 661 = .ok (.iload_n 3, 1) := by decide +kernel
theorem dL_law_662 : decode cL_law 662 = .ok (.iconst 1, 1) := by decide +kernel
theorem dL_law_663 : decode cL_law 663 = .ok (.iadd, 1) := by decide +kernel
theorem dL_law_664 : decode cL_law 664 = .ok (.iaload, 1) := by decide +kernel
theorem dL_law_665 : decode cL_law 665 = .ok (.aload_n 0, 1) := by decide +kernel
theorem dL_law_666 : decode cL_law 666 = .ok (.iload_n 3, 1) := by decide +kernel
theorem dL_law_667 : decode cL_law 667 = .ok (.iconst 2, 1) := by decide +kernel
theorem dL_law_668 : decode cL_law 668 = .ok (.iadd, 1) := by decide +kernel
theorem dL_law_669 : decode cL_law 669 = .ok (.iaload, 1) := by decide +kernel
theorem dL_law_670 : decode cL_law 670 = .ok (.ifCond .eq 7, 3) := by decide +kernel
theorem dL_law_673 : decode cL_law 673 = .ok (.iconst 1, 1) := by decide +kernel
theorem dL_law_674 : decode cL_law 674 = .ok (.goto 4, 3) := by decide +kernel
theorem dL_law_677 : decode cL_law 677 = .ok (.iconst 0, 1) := by decide +kernel
theorem dL_law_678 : decode cL_law 678 = .ok (.invokevirtual 87, 3) := by decide +kernel
theorem dL_law_681 : decode cL_law 681 = .ok (.aload_n 2, 1) := by decide +kernel
theorem dL_law_682 : decode cL_law 682 = .ok (.aload_n 0, 1) := by decide +kernel
theorem dL_law_683 : decode cL_law 683 = .ok (.iload_n 3, 1) := by decide +kernel
theorem dL_law_684 : decode cL_law 684 = .ok (.iconst 1, 1) := by decide +kernel
theorem dL_law_685 : decode cL_law 685 = .ok (.iadd, 1) := by decide +kernel
theorem dL_law_686 : decode cL_law 686 = .ok (.iaload, 1) := by decide +kernel
theorem dL_law_687 : decode cL_law 687 = .ok (.aload_n 0, 1) := by decide +kernel
theorem dL_law_688 : decode cL_law 688 = .ok (.iload_n 3, 1) := by decide +kernel
theorem dL_law_689 : decode cL_law 689 = .ok (.iconst 2, 1) := by decide +kernel
theorem dL_law_690 : decode cL_law 690 = .ok (.iadd, 1) := by decide +kernel
theorem dL_law_691 : decode cL_law 691 = .ok (.iaload, 1) := by decide +kernel
theorem dL_law_692 : decode cL_law 692 = .ok (.ifCond .eq 7, 3) := by decide +kernel
theorem dL_law_695 : decode cL_law 695 = .ok (.iconst 1, 1) := by decide +kernel
theorem dL_law_696 : decode cL_law 696 = .ok (.goto 4, 3) := by decide +kernel
theorem dL_law_699 : decode cL_law 699 = .ok (.iconst 0, 1) := by decide +kernel
theorem dL_law_700 : decode cL_law 700 = .ok (.invokevirtual 90, 3) := by decide +kernel
theorem dL_law_703 : decode cL_law 703 = .ok (.if_icmp .eq 108, 3) := by decide +kernel
theorem dL_law_706 : decode cL_law 706 = .ok (.iconst 0, 1) := by decide +kernel
theorem dL_law_707 : decode cL_law 707 = .ok (.ireturn, 1) := by decide +kernel
theorem dL_law_708 : decode cL_law 708 = .ok (.aload_n 1, 1) := by decide +kernel
theorem dL_law_709 : decode cL_law 709 = .ok (.aload_n 0, 1) := by decide +kernel
theorem dL_law_710 : decode cL_law 710 = .ok (.iload_n 3, 1) := by decide +kernel
theorem dL_law_711 : decode cL_law 711 = .ok (.iconst 1, 1) := by decide +kernel
theorem dL_law_712 : decode cL_law 712 = .ok (.iadd, 1) := by decide +kernel
theorem dL_law_713 : decode cL_law 713 = .ok (.iaload, 1) := by decide +kernel
theorem dL_law_714 : decode cL_law 714 = .ok (.invokevirtual 91, 3) := by decide +kernel
theorem dL_law_717 : decode cL_law 717 = .ok (.aload_n 2, 1) := by decide +kernel
theorem dL_law_718 : decode cL_law 718 = .ok (.aload_n 0, 1) := by decide +kernel
theorem dL_law_719 : decode cL_law 719 = .ok (.iload_n 3, 1) := by decide +kernel
theorem dL_law_720 : decode cL_law 720 = .ok (.iconst 1, 1) := by decide +kernel
theorem dL_law_721 : decode cL_law 721 = .ok (.iadd, 1) := by decide +kernel
theorem dL_law_722 : decode cL_law 722 = .ok (.iaload, 1) := by decide +kernel
theorem dL_law_723 : decode cL_law 723 = .ok (.invokevirtual 94, 3) := by decide +kernel
theorem dL_law_726 : decode cL_law 726 = .ok (.if_icmp .eq 85, 3) := by decide +kernel
theorem dL_law_729 : decode cL_law 729 = .ok (.iconst 0, 1) := by decide +kernel
theorem dL_law_730 : decode cL_law 730 = .ok (.ireturn, 1) := by decide +kernel
theorem dL_law_731 : decode cL_law 731 = .ok (.aload_n 1, 1) := by decide +kernel
theorem dL_law_732 : decode cL_law 732 = .ok (.aload_n 0, 1) := by decide +kernel
theorem dL_law_733 : decode cL_law 733 = .ok (.iload_n 3, 1) := by decide +kernel
theorem dL_law_734 : decode cL_law 734 = .ok (.iconst 1, 1) := by decide +kernel
theorem dL_law_735 : decode cL_law 735 = .ok (.iadd, 1) := by decide +kernel
theorem dL_law_736 : decode cL_law 736 = .ok (.iaload, 1) := by decide +kernel
theorem dL_law_737 : decode cL_law 737 = .ok (.invokevirtual 95, 3) := by decide +kernel
theorem dL_law_740 : decode cL_law 740 = .ok (.aload_n 2, 1) := by decide +kernel
theorem dL_law_741 : decode cL_law 741 = .ok (.aload_n 0, 1) := by decide +kernel
theorem dL_law_742 : decode cL_law 742 = .ok (.iload_n 3, 1) := by decide +kernel
theorem dL_law_743 : decode cL_law 743 = .ok (.iconst 1, 1) := by decide +kernel
theorem dL_law_744 : decode cL_law 744 = .ok (.iadd, 1) := by decide +kernel
theorem dL_law_745 : decode cL_law 745 = .ok (.iaload, 1) := by decide +kernel
theorem dL_law_746 : decode cL_law 746 = .ok (.invokevirtual 98, 3) := by decide +kernel
theorem dL_law_749 : decode cL_law 749 = .ok (.if_icmp .eq 62, 3) := by decide +kernel
theorem dL_law_752 : decode cL_law 752 = .ok (.iconst 0, 1) := by decide +kernel
theorem dL_law_753 : decode cL_law 753 = .ok (.ireturn, 1) := by decide +kernel
theorem dL_law_754 : decode cL_law 754 = .ok (.aload_n 1, 1) := by decide +kernel
theorem dL_law_755 : decode cL_law 755 = .ok (.aload_n 0, 1) := by decide +kernel
theorem dL_law_756 : decode cL_law 756 = .ok (.iload_n 3, 1) := by decide +kernel
theorem dL_law_757 : decode cL_law 757 = .ok (.iconst 1, 1) := by decide +kernel
theorem dL_law_758 : decode cL_law 758 = .ok (.iadd, 1) := by decide +kernel
theorem dL_law_759 : decode cL_law 759 = .ok (.iaload, 1) := by decide +kernel
theorem dL_law_760 : decode cL_law 760 = .ok (.aload_n 0, 1) := by decide +kernel
theorem dL_law_761 : decode cL_law 761 = .ok (.iload_n 3, 1) := by decide +kernel
theorem dL_law_762 : decode cL_law 762 = .ok (.iconst 2, 1) := by decide +kernel
theorem dL_law_763 : decode cL_law 763 = .ok (.iadd, 1) := by decide +kernel
theorem dL_law_764 : decode cL_law 764 = .ok (.iaload, 1) := by decide +kernel
theorem dL_law_765 : decode cL_law 765 = .ok (.invokevirtual 99, 3) := by decide +kernel
theorem dL_law_768 : decode cL_law 768 = .ok (.aload_n 2, 1) := by decide +kernel
theorem dL_law_769 : decode cL_law 769 = .ok (.aload_n 0, 1) := by decide +kernel
theorem dL_law_770 : decode cL_law 770 = .ok (.iload_n 3, 1) := by decide +kernel
theorem dL_law_771 : decode cL_law 771 = .ok (.iconst 1, 1) := by decide +kernel
theorem dL_law_772 : decode cL_law 772 = .ok (.iadd, 1) := by decide +kernel
theorem dL_law_773 : decode cL_law 773 = .ok (.iaload, 1) := by decide +kernel
theorem dL_law_774 : decode cL_law 774 = .ok (.aload_n 0, 1) := by decide +kernel
theorem dL_law_775 : decode cL_law 775 = .ok (.iload_n 3, 1) := by decide +kernel
theorem dL_law_776 : decode cL_law 776 = .ok (.iconst 2, 1) := by decide +kernel
theorem dL_law_777 : decode cL_law 777 = .ok (.iadd, 1) := by decide +kernel
theorem dL_law_778 : decode cL_law 778 = .ok (.iaload, 1) := by decide +kernel
theorem dL_law_779 : decode cL_law 779 = .ok (.invokevirtual 102, 3) := by decide +kernel
theorem dL_law_782 : decode cL_law 782 = .ok (.if_icmp .eq 29, 3) := by decide +kernel
theorem dL_law_785 : decode cL_law 785 = .ok (.iconst 0, 1) := by decide +kernel
theorem dL_law_786 : decode cL_law 786 = .ok (.ireturn, 1) := by decide +kernel
theorem dL_law_787 : decode cL_law 787 = .ok (.aload_n 1, 1) := by decide +kernel
theorem dL_law_788 : decode cL_law 788 = .ok (.aload_n 0, 1) := by decide +kernel
theorem dL_law_789 : decode cL_law 789 = .ok (.iload_n 3, 1) := by decide +kernel
theorem dL_law_790 : decode cL_law 790 = .ok (.iconst 1, 1) := by decide +kernel
theorem dL_law_791 : decode cL_law 791 = .ok (.iadd, 1) := by decide +kernel
theorem dL_law_792 : decode cL_law 792 = .ok (.iaload, 1) := by decide +kernel
theorem dL_law_793 : decode cL_law 793 = .ok (.invokevirtual 103, 3) := by decide +kernel
theorem dL_law_796 : decode cL_law 796 = .ok (.aload_n 2, 1) := by decide +kernel
theorem dL_law_797 : decode cL_law 797 = .ok (.aload_n 0, 1) := by decide +kernel
theorem dL_law_798 : decode cL_law 798 = .ok (.iload_n 3, 1) := by decide +kernel
theorem dL_law_799 : decode cL_law 799 = .ok (.iconst 1, 1) := by decide +kernel
theorem dL_law_800 : decode cL_law 800 = .ok (.iadd, 1) := by decide +kernel
theorem dL_law_801 : decode cL_law 801 = .ok (.iaload, 1) := by decide +kernel
theorem dL_law_802 : decode cL_law 802 = .ok (.invokevirtual 106, 3) := by decide +kernel
theorem dL_law_805 : decode cL_law 805 = .ok (.lcmp, 1) := by decide +kernel
theorem dL_law_806 : decode cL_law 806 = .ok (.ifCond .eq 5, 3) := by decide +kernel
theorem dL_law_809 : decode cL_law 809 = .ok (.iconst 0, 1) := by decide +kernel
theorem dL_law_810 : decode cL_law 810 = .ok (.ireturn, 1) := by decide +kernel
theorem dL_law_811 : decode cL_law 811 = .ok (.iinc 3 6, 3) := by decide +kernel
theorem dL_law_814 : decode cL_law 814 = .ok (.goto (-796), 3) := by decide +kernel
theorem dL_law_817 : decode cL_law 817 = .ok (.iconst 1, 1) := by decide +kernel
theorem dL_law_818 : decode cL_law 818 = .ok (.ireturn, 1) := by decide +kernel
end
section
/-! THE FRAME: one word list for all methods (ga_tb), one contract form (ga_M), rows over numbers that are nI of a Nat -/
abbrev ga_G : Type := va_G × ClassId × ClassId
abbrev ga_ty (G : ga_G) : List (ClassId × FieldType) := [(G.2.1, .byte), (G.2.2, .int)]
def ga_K (G : ga_G) (U : State) : Prop := va_K G.1 vwCl (ga_ty G) U ∧ ∀ w ∈ ga_nw, va_Nw w U
abbrev ga_cx (p : Program) (m : MethodId) (c : Code) (cc : ByteArray) (nL : Nat) (s : State) (args : Array Value) (own : String) : Prop := CallFix p m c cc nL s args ga_tb own
abbrev ga_wd (G : ga_G) (A : Nat → Prop) (s : State) (H : Heap) (locs : List Loc) (ws : va_W) : Prop := va_P G.1 vwCl ws H ∧ va_D A ws ∧ va_S A s.heap H locs
def ga_Q (G : ga_G) (A : Nat → Prop) (post : Option Value → va_W → Prop) : Array Value → State → Outcome → State → Prop := fun _ st oc t => (∃ (r : Option Value) (w : va_W), oc = .returned r ∧ post r w ∧ va_P G.1 vwCl w t.heap ∧ va_D A w) ∧ va_F A st t
/-- the contract of a method: from the cells wi and the arguments av it returns r with the cells w, post r w; fr frames, lo words of locals, mc cells, ms slots -/
def ga_M (l : Launch) (G : ga_G) (y : MethodName) (cc : ByteArray) (n : Nat) (ret : Option FieldType) (fr lo mc ms : Nat) (av : List Value) (wi : va_W) (post : Option Value → va_W → Prop) : Prop :=
  ∀ sz : Nat, Met l y (.code y cc n ret :: ga_tb) { frames := fr, cells := mc, slots := ms, locals := lo } (va_Pc av (fun U => U.heap.size = sz ∧ va_P G.1 vwCl wi U.heap ∧ ga_K G U ∧ va_D (fun _ => True) wi)) (ga_Q G (va_A wi sz) post) mc ms (va_A wi sz)
theorem ga_nw_nest : ∀ w ∈ ga_nw, ∃ a i x h, w = .methodLinkNest a i x h := by
  intro w hw
  simp only [ga_nw, List.mem_cons, List.not_mem_nil, or_false] at hw
  rcases hw with h | h | h | h | h | h | h | h <;> exact ⟨_, _, _, _, h⟩
theorem ga_K.warm {G : ga_G} {s U : State} (h : ga_K G s) (hW : s.WarmedH U.vm) : ga_K G U := ⟨va_K.moved hW.alike h.1, fun w hw => by
  obtain ⟨a, i, x, hh, rfl⟩ := ga_nw_nest w hw
  exact va_Nw.warmM hW (h.2 _ hw)⟩
theorem ga_K.same {G : ga_G} {s U : State} (h : ga_K G s) (hv : s.vm = U.vm) : ga_K G U := ⟨va_K.moved (by rw [hv]; exact Vm.Alike.refl _) h.1, fun w hw => by
  obtain ⟨a, i, x, hh, rfl⟩ := ga_nw_nest w hw
  exact va_Nw.same rfl hv (h.2 _ hw)⟩
/-- a contract out of a walk -/
theorem ga_M.intro {l : Launch} {G : ga_G} {y : MethodName} {cc : ByteArray} {n : Nat} {ret : Option FieldType} {fr lo mc ms : Nat} {av : List Value} {wi : va_W} {post : Option Value → va_W → Prop} (hy : plainName y.cls = true) (hn : (lg_sl av).length ≤ n)
    (body : ∀ (p : Program) (e : Env) (s : State) (m : MethodId) (below : List Frame) (meth : Method) (c : Code) (A : Nat → Prop) (H : Heap) (locs : List Loc) (ls : Array Slot), ga_cx p m c cc n s av.toArray y.cls → meth.sig.returnType = ret → meth.locks = false → meth.name = y.name → (∀ q : Nat, s.heap.size ≤ q → A q) → ga_K G s → lv_has ls n (lv_args 0 av) → ga_wd G A s H locs wi →
      W p l e { frames := fr, cells := mc, slots := ms, locals := lo } s m av.toArray below meth c H locs 0 0 (MQ below (ga_Q G A post) av.toArray s mc ms A) (F0 m 0 ls [])) : ga_M l G y cc n ret fr lo mc ms av wi post := by
  intro sz
  refine Met.ofW (cc := cc) (maxL := n) (ret := ret) hy rfl ?_
  intro p e s m args below meth c s₁ B hml hv
  obtain ⟨rfl, hsz, hP, hK, hD0⟩ := hv
  have hts := atoms_spec (ws := .code y cc n ret :: ga_tb) B.pre
  have hown : s.vm.findClass y.cls = some m.cls := findClass_of_methodNamed B.named
  have hnm : meth.name = y.name := (name_of_methodNamed B.named B.method).1
  subst hsz
  have hl := lv_entry av (n := n) hn
  rw [lg_entry_eq]
  generalize (lg_sl av ++ List.replicate (n - (lg_sl av).length) Slot.unset).toArray = ls at hl ⊢
  exact body p e s m below meth c (va_A wi s.heap.size) s.heap [] ls ⟨B.exec, B.bytes, hml, hown, fun w h => hts w (List.mem_cons_of_mem _ h)⟩ B.returns B.notSynchronized hnm (fun q h => Or.inr h) hK hl ⟨hP, hD0.self, va_S.rf⟩
section GA
variable {p : Program} {l : Launch} {e : Env} {R : Room} {s : State} {m : MethodId} {args : Array Value} {below : List Frame} {meth : Method} {c : Code} {H : Heap} {locs : List Loc} {cells slots : Nat} {Q : State → Prop}
variable {G : ga_G} {A : Nat → Prop} {ws : va_W} {cc : ByteArray} {nL : Nat} {own : String} {pc : Nat} {ls : Array Slot} {rest : List Value} {a : Nat} {post : Option Value → va_W → Prop} {mc ms : Nat}
theorem ga_perm {ws' : va_W} (w : ga_wd G A s H locs ws) (is : List Nat) (hn : va_nd is = true) (hs : is.map (fun i => ws[i]?) = ws'.map some) : ga_wd G A s H locs ws' := by
  refine ⟨w.1.sub is ?_, w.2.1.sub is hn hs, w.2.2⟩
  have h2 : is.filterMap (fun i => ws[i]?) = (is.map (fun i => ws[i]?)).filterMap id := by rw [List.filterMap_map]; rfl
  rw [h2, hs, List.filterMap_map]
  show ws'.filterMap some = ws'
  exact List.filterMap_some
/-! ends -/
theorem ga_end {r : Option Value} (w : ga_wd G A s H locs ws) (hp : post r ws) : ∀ t : State, t.heap = H → s.WarmedH t.vm → ga_Q G A post args s (.returned r) t := fun t ht hW => ⟨⟨r, ws, rfl, hp, by rw [ht]; exact w.1, w.2.1⟩, w.2.2.F ht⟩
theorem ga_iret (cx : ga_cx p m c cc nL s args own) (hr : meth.sig.returnType = some .int) (hlk : meth.locks = false) {v : Int32} (w : ga_wd G A s H locs ws) (hdg : decode cc pc = .ok (.ireturn, 1)) (hc : cells ≤ mc ∧ slots ≤ ms) (hp : post (some (.int v)) ws) : W p l e R s m args below meth c H locs cells slots (MQ below (ga_Q G A post) args s mc ms A) (F0 m pc ls [.int v]) :=
  W.widen hc.1 hc.2 (W.iret cx.1 cx.2.1 hr (ga_end w hp) w.2.2.2.2 hdg hlk)
theorem ga_zret {ty : FieldType} (cx : ga_cx p m c cc nL s args own) (hr : meth.sig.returnType = some ty) (hlk : meth.locks = false) {v : Int32} (w : ga_wd G A s H locs ws) (hn : narrow ty (.int v) = .int v) (hdg : decode cc pc = .ok (.ireturn, 1)) (hc : cells ≤ mc ∧ slots ≤ ms) (hp : post (some (.int v)) ws) : W p l e R s m args below meth c H locs cells slots (MQ below (ga_Q G A post) args s mc ms A) (F0 m pc ls [.int v]) :=
  W.widen hc.1 hc.2 (W.zret cx.1 cx.2.1 hr hn (ga_end w hp) w.2.2.2.2 hdg hlk)
theorem ga_lret (cx : ga_cx p m c cc nL s args own) (hr : meth.sig.returnType = some .long) (hlk : meth.locks = false) {v : Int64} (w : ga_wd G A s H locs ws) (hdg : decode cc pc = .ok (.lreturn, 1)) (hc : cells ≤ mc ∧ slots ≤ ms) (hp : post (some (.long v)) ws) : W p l e R s m args below meth c H locs cells slots (MQ below (ga_Q G A post) args s mc ms A) (F0 m pc ls [.long v]) :=
  W.widen hc.1 hc.2 (W.lret cx.1 cx.2.1 hr (ga_end w hp) w.2.2.2.2 hdg hlk)
theorem ga_vret (cx : ga_cx p m c cc nL s args own) (hr : meth.sig.returnType = none) (hlk : meth.locks = false) (w : ga_wd G A s H locs ws) (hdg : decode cc pc = .ok (.return_, 1)) (hc : cells ≤ mc ∧ slots ≤ ms) (hp : post none ws) : W p l e R s m args below meth c H locs cells slots (MQ below (ga_Q G A post) args s mc ms A) (F0 m pc ls []) :=
  W.widen hc.1 hc.2 (W.vret cx.1 cx.2.1 hr (ga_end w hp) w.2.2.2.2 hdg hlk)
theorem ga_aret {rt : FieldType} (cx : ga_cx p m c cc nL s args own) (hr : meth.sig.returnType = some rt) (hrt : (∃ n, rt = .object n) ∨ ∃ t, rt = .array t) (hlk : meth.locks = false) {v : Nat} (w : ga_wd G A s H locs ws) (hdg : decode cc pc = .ok (.areturn, 1)) (hc : cells ≤ mc ∧ slots ≤ ms) (hp : post (some (.ref v)) ws) : W p l e R s m args below meth c H locs cells slots (MQ below (ga_Q G A post) args s mc ms A) (F0 m pc ls [.ref v]) :=
  W.widen hc.1 hc.2 (W.aret cx.1 cx.2.1 hr hrt (Or.inr ⟨v, rfl⟩) (ga_end w hp) w.2.2.2.2 hdg hlk)
/-! calls -/
theorem ga_call {y : MethodName} {bytes : ByteArray} {maxL fr lo index : Nat} {ret : Option FieldType} {av As : List Value} {wi wr : va_W} {st0 : List Value} (w : ga_wd G A s H locs ws) (hA : ∀ q : Nat, s.heap.size ≤ q → A q) (isC isR : List Nat) (hC : isC.map (fun i => ws[i]?) = wi.map some) (hR : isR.map (fun i => ws[i]?) = wr.map some) (hn : va_nd isR = true) (hdis : ∀ i ∈ isR, i ∉ isC)
    (hr : va_Run p l e R s m args below meth c H locs cells slots mc ms (F0 m pc ls st0) rest (ga_Q G (va_A wi H.size) post av.toArray) (va_A wi H.size))
    (kk : ∀ (r : Option Value) (w1 : va_W) (H1 : Heap) (locs1 : List Loc), post r w1 → ga_wd G A s H1 locs1 (wr ++ w1) → W p l e R s m args below meth c H1 locs1 (cells + mc) (slots + ms) Q (F0 m (pc + 3) ls (r.toList ++ rest))) : W p l e R s m args below meth c H locs cells slots Q (F0 m pc ls st0) := by
  obtain ⟨hP, hD, hS⟩ := w
  have hFc := va_free (wc := wi) hD hS hA isC hC
  intro T hT X
  obtain ⟨v, st₀, t, T', L, h0, X', hL, e1, e2, ⟨⟨r, w1, hv, hp, hb, hd⟩, hz, hk⟩, st⟩ := hr T hT X
  cases hv
  rw [h0] at hz hk
  have hk1 : ∀ q : Nat, q < H.size → ¬ va_A wi H.size q → t.heap[q]? = H[q]? := hk
  obtain ⟨hP2, hD2⟩ := va_join (wr := wr) (w1 := w1) hP hD isC isR hC hR hn hdis hk1 hFc hb hd
  have hS2 : va_S A s.heap T'.heap (locs ++ L) := ⟨Nat.le_trans hS.1 (by rw [e1]; exact hz), fun q h1 h2 => by rw [e1, hk q (Nat.lt_of_lt_of_le h1 hS.1) (fun z => h2 (hFc q z))]; exact hS.2.1 q h1 h2, fun q hq => by
      rcases List.mem_append.mp hq with h | h
      · exact hS.2.2 q h
      · exact hFc _ (hL q h)⟩
  obtain ⟨t2, a1, b1⟩ := kk v w1 T'.heap (locs ++ L) hp ⟨by rw [e1]; exact hP2, hD2, hS2⟩ T' rfl X'
  exact ⟨t2, st t2 a1, b1⟩
/-- what the tables say of a call of y at the place 'index' of own -/
def ga_lkV (own : String) (index : Nat) (C : String) (y : MethodName) (bytes : ByteArray) (maxL : Nat) (ret : Option FieldType) (n : Nat) : Prop := (Cond.methodLink own index y ∈ ga_tb ∧ Cond.instanceMethod y ∈ ga_tb ∧ Cond.selects C y y ∈ ga_tb ∧ Cond.initialized C ∈ ga_tb ∧ Cond.code y bytes maxL ret ∈ ga_tb) ∧ (y.cls = C ∧ y.cls ≠ "java/lang/invoke/MethodHandle" ∧ y.cls ≠ "java/lang/invoke/VarHandle" ∧ (parseMethodDescriptor y.desc).map (fun d => d.parameters.length) = some n)
def ga_lkS (own : String) (index : Nat) (y : MethodName) (bytes : ByteArray) (maxL : Nat) (ret : Option FieldType) (n : Nat) : Prop := (Cond.methodLink own index y ∈ ga_tb ∧ Cond.static y ∈ ga_tb ∧ Cond.initialized y.cls ∈ ga_tb ∧ Cond.code y bytes maxL ret ∈ ga_tb) ∧ (y.cls ≠ "java/lang/invoke/MethodHandle" ∧ y.cls ≠ "java/lang/invoke/VarHandle" ∧ (parseMethodDescriptor y.desc).map (fun d => d.parameters.length) = some n)
def ga_lkSN (own : String) (index : Nat) (y : MethodName) (host : String) (bytes : ByteArray) (maxL : Nat) (ret : Option FieldType) (n : Nat) : Prop := (Cond.methodLinkNest own index y host ∈ ga_nw ∧ Cond.static y ∈ ga_tb ∧ Cond.initialized y.cls ∈ ga_tb ∧ Cond.code y bytes maxL ret ∈ ga_tb) ∧ (y.cls ≠ "java/lang/invoke/MethodHandle" ∧ y.cls ≠ "java/lang/invoke/VarHandle" ∧ (parseMethodDescriptor y.desc).map (fun d => d.parameters.length) = some n)
def ga_lkIN (own : String) (index : Nat) (y : MethodName) (host : String) (bytes : ByteArray) (maxL : Nat) (n : Nat) : Prop := (Cond.methodLinkNest own index y host ∈ ga_nw ∧ Cond.instanceMethod y ∈ ga_tb ∧ Cond.initialized y.cls ∈ ga_tb ∧ Cond.code y bytes maxL none ∈ ga_tb) ∧ (y.name = "<init>" ∧ y.cls ≠ "java/lang/invoke/MethodHandle" ∧ y.cls ≠ "java/lang/invoke/VarHandle" ∧ (parseMethodDescriptor y.desc).map (fun d => d.parameters.length) = some n)
def ga_lkI (own : String) (index : Nat) (y : MethodName) (bytes : ByteArray) (maxL : Nat) (n : Nat) : Prop := (Cond.methodLink own index y ∈ ga_tb ∧ Cond.instanceMethod y ∈ ga_tb ∧ Cond.initialized y.cls ∈ ga_tb ∧ Cond.code y bytes maxL none ∈ ga_tb) ∧ (y.name = "<init>" ∧ y.cls ≠ "java/lang/invoke/MethodHandle" ∧ y.cls ≠ "java/lang/invoke/VarHandle" ∧ (parseMethodDescriptor y.desc).map (fun d => d.parameters.length) = some n)
theorem ga_gi {y : MethodName} {bytes : ByteArray} {maxL : Nat} {ret : Option FieldType} (h : Cond.code y bytes maxL ret ∈ ga_tb) : GoodIn ga_tb (.code y bytes maxL ret :: ga_tb) := fun w hw => by
  rcases List.mem_cons.mp hw with rfl | hw
  · exact ⟨h, ga_good _ h⟩
  · exact ⟨hw, ga_good _ hw⟩
theorem ga_blind {av : List Value} {wi : va_W} {sz : Nat} : FrameBlind (va_Pc av (fun U => U.heap.size = sz ∧ va_P G.1 vwCl wi U.heap ∧ ga_K G U ∧ va_D (fun _ => True) wi)) := fun a U g mk q => by
  obtain ⟨q0, q1, qP, qK, qD⟩ := q
  exact ⟨q0, q1, qP, qK.same rfl, qD⟩
theorem ga_pre {av : List Value} {wi : va_W} (hK : ga_K G s) (w : ga_wd G A s H locs ws) (isC : List Nat) (hC : isC.map (fun i => ws[i]?) = wi.map some) (hcn : va_nd isC = true) : ∀ U : State, U.heap = H → s.WarmedH U.vm → va_Pc av (fun U => U.heap.size = H.size ∧ va_P G.1 vwCl wi U.heap ∧ ga_K G U ∧ va_D (fun _ => True) wi) av.toArray U := fun U hU hW =>
  ⟨rfl, by rw [hU], by rw [hU]; exact (ga_perm w isC hcn hC).1, hK.warm hW, (ga_perm w isC hcn hC).2.1.weaken (fun _ _ _ _ => trivial)⟩
theorem ga_callV {y : MethodName} {C : String} {bytes : ByteArray} {maxL fr lo index n : Nat} {ret : Option FieldType} {As : List Value} {b : Nat} {wi wr : va_W} {lv : List (Nat × Value)} (cx : ga_cx p m c cc nL s args own) (hK : ga_K G s) (hA : ∀ q : Nat, s.heap.size ≤ q → A q) (w : ga_wd G A s H locs ws) (hl : lv_has ls nL lv)
    (lk : ga_lkV own index C y bytes maxL ret n) (M : ga_M l G y bytes maxL ret fr lo mc ms (.ref b :: As) wi post) (hR : fr + 1 ≤ R.frames ∧ 8 + (maxL + 11) + lo ≤ R.locals)
    (isC isR : List Nat) (hC : isC.map (fun i => ws[i]?) = wi.map some) (hRr : isR.map (fun i => ws[i]?) = wr.map some) (hcn : va_nd isC = true) (hn : va_nd isR = true) (hdis : ∀ i ∈ isR, i ∉ isC)
    (q0 ci : Nat) {q : vw_C} {fs : List Value} (he : ws[q0]? = some (b, .inr (ci, fs))) (hc : vwCl[ci]? = some q) (hq : q.1 = C) (hAs : As.length = n) (hroom : (rest.map fun v => v.category).sum ≤ 8) (hdg : decode cc pc = .ok (.invokevirtual index, 3)) (hf : cells + mc ≤ R.cells ∧ slots + ms ≤ R.slots) {st0 : List Value} (hst : st0 = As.reverse ++ .ref b :: rest)
    (kk : ∀ (r : Option Value) (w1 : va_W) (H1 : Heap) (locs1 : List Loc), post r w1 → ga_wd G A s H1 locs1 (wr ++ w1) → W p l e R s m args below meth c H1 locs1 (cells + mc) (slots + ms) Q (F0 m (pc + 3) ls (r.toList ++ rest))) : W p l e R s m args below meth c H locs cells slots Q (F0 m pc ls st0) := by
  subst hq
  refine ga_call (y := y) (bytes := bytes) (maxL := maxL) (fr := fr) (lo := lo) (index := index) (ret := ret) (As := As) w hA isC isR hC hRr hn hdis (av := .ref b :: As) ?_ kk
  refine va_runV (As := As) (rest := rest) cx (M H.size) ⟨⟨rfl, rfl, hR.1, hR.2, pay_in cx.2.2.2.2 (ga_gi lk.1.2.2.2.2), List.mem_cons_self, cx.2.2.2.2 _ lk.1.2.2.2.2, ?_, ⟨lk.2.2.1, lk.2.2.2.1⟩, fun sig h => ?_, cx.2.2.2.2 _ lk.1.1⟩, cx.2.2.2.2 _ lk.1.2.1, cx.2.2.2.2 _ lk.1.2.2.1⟩ ⟨ga_blind, va_recv hK.1 w.1 hc he, ga_pre hK w isC hC hcn⟩ rfl hAs hl.1 hst (lv_room hroom) hdg hf
  · rw [lk.2.1]; exact cx.2.2.2.2 _ lk.1.2.2.2.1
  · have h2 := lk.2.2.2.2
    rw [h] at h2
    exact (Option.some.inj h2).symm
theorem ga_callS {y : MethodName} {bytes : ByteArray} {maxL fr lo index n : Nat} {ret : Option FieldType} {As : List Value} {wi wr : va_W} {lv : List (Nat × Value)} (cx : ga_cx p m c cc nL s args own) (hK : ga_K G s) (hA : ∀ q : Nat, s.heap.size ≤ q → A q) (w : ga_wd G A s H locs ws) (hl : lv_has ls nL lv)
    (lk : ga_lkS own index y bytes maxL ret n) (M : ga_M l G y bytes maxL ret fr lo mc ms As wi post) (hR : fr + 1 ≤ R.frames ∧ 8 + (maxL + 11) + lo ≤ R.locals)
    (isC isR : List Nat) (hC : isC.map (fun i => ws[i]?) = wi.map some) (hRr : isR.map (fun i => ws[i]?) = wr.map some) (hcn : va_nd isC = true) (hn : va_nd isR = true) (hdis : ∀ i ∈ isR, i ∉ isC)
    (hAs : As.length = n) (hroom : (rest.map fun v => v.category).sum ≤ 8) (hdg : decode cc pc = .ok (.invokestatic index, 3)) (hf : cells + mc ≤ R.cells ∧ slots + ms ≤ R.slots) {st0 : List Value} (hst : st0 = As.reverse ++ rest)
    (kk : ∀ (r : Option Value) (w1 : va_W) (H1 : Heap) (locs1 : List Loc), post r w1 → ga_wd G A s H1 locs1 (wr ++ w1) → W p l e R s m args below meth c H1 locs1 (cells + mc) (slots + ms) Q (F0 m (pc + 3) ls (r.toList ++ rest))) : W p l e R s m args below meth c H locs cells slots Q (F0 m pc ls st0) := by
  refine ga_call (y := y) (bytes := bytes) (maxL := maxL) (fr := fr) (lo := lo) (index := index) (ret := ret) (As := As) w hA isC isR hC hRr hn hdis (av := As) ?_ kk
  refine va_runS (As := As) (rest := rest) cx (M H.size) ⟨⟨rfl, rfl, hR.1, hR.2, pay_in cx.2.2.2.2 (ga_gi lk.1.2.2.2), List.mem_cons_self, cx.2.2.2.2 _ lk.1.2.2.2, cx.2.2.2.2 _ lk.1.2.2.1, ⟨lk.2.1, lk.2.2.1⟩, fun sig h => ?_, cx.2.2.2.2 _ lk.1.1⟩, cx.2.2.2.2 _ lk.1.2.1⟩ ⟨ga_blind, ga_pre hK w isC hC hcn⟩ rfl hAs hl.1 hst (lv_room hroom) hdg hf
  have h2 := lk.2.2.2
  rw [h] at h2
  exact (Option.some.inj h2).symm
theorem ga_callI {y : MethodName} {bytes : ByteArray} {maxL fr lo index n : Nat} {As : List Value} {b : Nat} {wi wr : va_W} {lv : List (Nat × Value)} (cx : ga_cx p m c cc nL s args own) (hK : ga_K G s) (hA : ∀ q : Nat, s.heap.size ≤ q → A q) (w : ga_wd G A s H locs ws) (hl : lv_has ls nL lv)
    (lk : ga_lkI own index y bytes maxL n) (M : ga_M l G y bytes maxL none fr lo mc ms (.ref b :: As) wi post) (hR : fr + 1 ≤ R.frames ∧ 8 + (maxL + 11) + lo ≤ R.locals)
    (isC isR : List Nat) (hC : isC.map (fun i => ws[i]?) = wi.map some) (hRr : isR.map (fun i => ws[i]?) = wr.map some) (hcn : va_nd isC = true) (hn : va_nd isR = true) (hdis : ∀ i ∈ isR, i ∉ isC)
    (hAs : As.length = n) (hroom : (rest.map fun v => v.category).sum ≤ 8) (hdg : decode cc pc = .ok (.invokespecial index, 3)) (hf : cells + mc ≤ R.cells ∧ slots + ms ≤ R.slots) {st0 : List Value} (hst : st0 = As.reverse ++ .ref b :: rest)
    (kk : ∀ (r : Option Value) (w1 : va_W) (H1 : Heap) (locs1 : List Loc), post r w1 → ga_wd G A s H1 locs1 (wr ++ w1) → W p l e R s m args below meth c H1 locs1 (cells + mc) (slots + ms) Q (F0 m (pc + 3) ls (r.toList ++ rest))) : W p l e R s m args below meth c H locs cells slots Q (F0 m pc ls st0) := by
  refine ga_call (y := y) (bytes := bytes) (maxL := maxL) (fr := fr) (lo := lo) (index := index) (ret := none) (As := As) w hA isC isR hC hRr hn hdis (av := .ref b :: As) ?_ kk
  refine va_runI (As := As) (rest := rest) cx (M H.size) ⟨⟨rfl, rfl, hR.1, hR.2, pay_in cx.2.2.2.2 (ga_gi lk.1.2.2.2), List.mem_cons_self, cx.2.2.2.2 _ lk.1.2.2.2, cx.2.2.2.2 _ lk.1.2.2.1, ⟨lk.2.2.1, lk.2.2.2.1⟩, fun sig h => ?_, cx.2.2.2.2 _ lk.1.1⟩, lk.2.1, cx.2.2.2.2 _ lk.1.2.1⟩ ⟨ga_blind, ga_pre hK w isC hC hcn⟩ rfl hAs hl.1 hst (lv_room hroom) hdg hf
  have h2 := lk.2.2.2.2
  rw [h] at h2
  exact (Option.some.inj h2).symm
theorem ga_callSN {y : MethodName} {host : String} {bytes : ByteArray} {maxL fr lo index n : Nat} {ret : Option FieldType} {As : List Value} {wi wr : va_W} {lv : List (Nat × Value)} (cx : ga_cx p m c cc nL s args own) (hK : ga_K G s) (hA : ∀ q : Nat, s.heap.size ≤ q → A q) (w : ga_wd G A s H locs ws) (hl : lv_has ls nL lv)
    (lk : ga_lkSN own index y host bytes maxL ret n) (M : ga_M l G y bytes maxL ret fr lo mc ms As wi post) (hR : fr + 1 ≤ R.frames ∧ 8 + (maxL + 11) + lo ≤ R.locals)
    (isC isR : List Nat) (hC : isC.map (fun i => ws[i]?) = wi.map some) (hRr : isR.map (fun i => ws[i]?) = wr.map some) (hcn : va_nd isC = true) (hn : va_nd isR = true) (hdis : ∀ i ∈ isR, i ∉ isC)
    (hAs : As.length = n) (hroom : (rest.map fun v => v.category).sum ≤ 8) (hdg : decode cc pc = .ok (.invokestatic index, 3)) (hf : cells + mc ≤ R.cells ∧ slots + ms ≤ R.slots) {st0 : List Value} (hst : st0 = As.reverse ++ rest)
    (kk : ∀ (r : Option Value) (w1 : va_W) (H1 : Heap) (locs1 : List Loc), post r w1 → ga_wd G A s H1 locs1 (wr ++ w1) → W p l e R s m args below meth c H1 locs1 (cells + mc) (slots + ms) Q (F0 m (pc + 3) ls (r.toList ++ rest))) : W p l e R s m args below meth c H locs cells slots Q (F0 m pc ls st0) := by
  refine ga_call (y := y) (bytes := bytes) (maxL := maxL) (fr := fr) (lo := lo) (index := index) (ret := ret) (As := As) w hA isC isR hC hRr hn hdis (av := As) ?_ kk
  exact va_runSN (As := As) (rest := rest) cx (M H.size) ⟨va_cnB n cx.2.2.2.2 (ga_gi lk.1.2.2.2) rfl rfl rfl (hK.2 _ lk.1.1) (cx.2.2.2.2 _ lk.1.2.2.1) lk.2 hR, cx.2.2.2.2 _ lk.1.2.1, trivial⟩ ⟨ga_blind, ga_pre hK w isC hC hcn⟩ rfl hAs hl.1 hst (lv_room hroom) hdg hf
theorem ga_callIN {y : MethodName} {host : String} {bytes : ByteArray} {maxL fr lo index n : Nat} {As : List Value} {b : Nat} {wi wr : va_W} {lv : List (Nat × Value)} (cx : ga_cx p m c cc nL s args own) (hK : ga_K G s) (hA : ∀ q : Nat, s.heap.size ≤ q → A q) (w : ga_wd G A s H locs ws) (hl : lv_has ls nL lv)
    (lk : ga_lkIN own index y host bytes maxL n) (M : ga_M l G y bytes maxL none fr lo mc ms (.ref b :: As) wi post) (hR : fr + 1 ≤ R.frames ∧ 8 + (maxL + 11) + lo ≤ R.locals)
    (isC isR : List Nat) (hC : isC.map (fun i => ws[i]?) = wi.map some) (hRr : isR.map (fun i => ws[i]?) = wr.map some) (hcn : va_nd isC = true) (hn : va_nd isR = true) (hdis : ∀ i ∈ isR, i ∉ isC)
    (hAs : As.length = n) (hroom : (rest.map fun v => v.category).sum ≤ 8) (hdg : decode cc pc = .ok (.invokespecial index, 3)) (hf : cells + mc ≤ R.cells ∧ slots + ms ≤ R.slots) {st0 : List Value} (hst : st0 = As.reverse ++ .ref b :: rest)
    (kk : ∀ (r : Option Value) (w1 : va_W) (H1 : Heap) (locs1 : List Loc), post r w1 → ga_wd G A s H1 locs1 (wr ++ w1) → W p l e R s m args below meth c H1 locs1 (cells + mc) (slots + ms) Q (F0 m (pc + 3) ls (r.toList ++ rest))) : W p l e R s m args below meth c H locs cells slots Q (F0 m pc ls st0) := by
  refine ga_call (y := y) (bytes := bytes) (maxL := maxL) (fr := fr) (lo := lo) (index := index) (ret := none) (As := As) w hA isC isR hC hRr hn hdis (av := .ref b :: As) ?_ kk
  exact va_runIN (As := As) (rest := rest) cx (M H.size) ⟨va_cnB n cx.2.2.2.2 (ga_gi lk.1.2.2.2) rfl rfl rfl (hK.2 _ lk.1.1) (cx.2.2.2.2 _ lk.1.2.2.1) lk.2.2 hR, lk.2.1, cx.2.2.2.2 _ lk.1.2.1⟩ ⟨ga_blind, ga_pre hK w isC hC hcn⟩ rfl hAs hl.1 hst (lv_room hroom) hdg hf
end GA
end
section
/-! numbers: nI of a Nat, bI of a Bool, aN a row of Nats -/
def bI (b : Bool) : Int32 := if b then 1 else 0
def aN (f : Nat → Nat) : Nat → Int32 := fun j => nI (f j)
def uN (f : Nat → Nat) (k x : Nat) : Nat → Nat := fun j => if j = k then x else f j
theorem uN_s (f : Nat → Nat) (k x : Nat) : uN f k x k = x := if_pos rfl
theorem uN_n (f : Nat → Nat) {k j : Nat} (x : Nat) (h : j ≠ k) : uN f k x j = f j := if_neg h
theorem aN_u (f : Nat → Nat) (k x : Nat) : upd (aN f) k (nI x) = aN (uN f k x) := by
  funext j; unfold upd aN uN; by_cases h : j = k <;> simp [h]
theorem bI_0 (b : Bool) : bI b = 0 ↔ b = false := by cases b <;> decide
theorem bI_t : bI true = 1 := rfl
theorem bI_f : bI false = 0 := rfl
theorem bI_nar (b : Bool) : narrow .boolean (.int (bI b)) = .int (bI b) := by cases b <;> rfl
theorem bI_fit (b : Bool) : fits .boolean (.int (bI b)) = true := by cases b <;> rfl
theorem bI_inj (a b : Bool) : bI a = bI b ↔ a = b := by cases a <;> cases b <;> decide
theorem bI_N (b : Bool) : bI b = nI (if b then 1 else 0) := by cases b <;> rfl
theorem nI_and (a b : Nat) : nI a &&& nI b = nI (a &&& b) := by
  apply Int32.toBitVec_inj.1
  show BitVec.ofNat 32 a &&& BitVec.ofNat 32 b = BitVec.ofNat 32 (a &&& b)
  apply BitVec.eq_of_getLsbD_eq
  intro i hi
  simp [hi]
theorem nI_xor (a b : Nat) : nI a ^^^ nI b = nI (a ^^^ b) := by
  apply Int32.toBitVec_inj.1
  show BitVec.ofNat 32 a ^^^ BitVec.ofNat 32 b = BitVec.ofNat 32 (a ^^^ b)
  apply BitVec.eq_of_getLsbD_eq
  intro i hi
  simp [hi]
theorem nI_or (a b : Nat) : nI a ||| nI b = nI (a ||| b) := by
  apply Int32.toBitVec_inj.1
  show BitVec.ofNat 32 a ||| BitVec.ofNat 32 b = BitVec.ofNat 32 (a ||| b)
  apply BitVec.eq_of_getLsbD_eq
  intro i hi
  simp [hi]
theorem nI_s5 : ∀ n, n < 32 → ((nI n &&& 31).toBitVec.smod 32).toNat = n := by decide +kernel
theorem nI_shl (a : Nat) {k : Nat} (hk : k < 32) : nI a <<< (nI k &&& 31) = nI (a <<< k) := by
  apply Int32.toBitVec_inj.1
  apply BitVec.eq_of_toNat_eq
  rw [pk_shl _ _ k (nI_s5 k hk), Nat.shiftLeft_eq]
  show (BitVec.ofNat 32 a).toNat * 2 ^ k % 2 ^ 32 = (BitVec.ofNat 32 (a * 2 ^ k)).toNat
  rw [BitVec.toNat_ofNat, BitVec.toNat_ofNat, Nat.mod_mul_mod]
theorem nI_shr {a k : Nat} (ha : a < 2 ^ 31) (hk : k < 32) : nI a >>> (nI k &&& 31) = nI (a >>> k) := by
  rw [pk_shrN ha _ k (nI_s5 k hk), Nat.shiftRight_eq_div_pow]
theorem nI_big {a : Nat} (h : a < 2 ^ 31) : (nI a).toInt = (a : Int) := nI_toInt h
/-- the not of b under a -/
theorem nI_andn {a b : Nat} (ha : a < 65536) : nI a &&& (nI b ^^^ (-1)) = nI (a &&& (65535 ^^^ b)) := by
  apply Int32.toBitVec_inj.1
  show BitVec.ofNat 32 a &&& (BitVec.ofNat 32 b ^^^ (BitVec.allOnes 32)) = BitVec.ofNat 32 (a &&& (65535 ^^^ b))
  apply BitVec.eq_of_getLsbD_eq
  intro i hi
  have h1 : a.testBit i = true → (65535 : Nat).testBit i = true := fun h => by
    have : i < 16 := by
      apply Decidable.byContradiction
      intro h2
      have := Nat.testBit_lt_two_pow (x := a) (i := i) (Nat.lt_of_lt_of_le ha (show 2 ^ 16 ≤ 2 ^ i from Nat.pow_le_pow_right (by decide) (by omega)))
      rw [this] at h; cases h
    rw [show (65535 : Nat) = 2 ^ 16 - 1 from rfl, Nat.testBit_two_pow_sub_one]
    simpa using this
  cases h3 : a.testBit i
  · simp only [BitVec.getLsbD_and, BitVec.getLsbD_xor, BitVec.getLsbD_ofNat, BitVec.getLsbD_allOnes, Nat.testBit_and, Nat.testBit_xor, hi, h3, decide_true, Bool.true_and, Bool.false_and]
  · simp only [BitVec.getLsbD_and, BitVec.getLsbD_xor, BitVec.getLsbD_ofNat, BitVec.getLsbD_allOnes, Nat.testBit_and, Nat.testBit_xor, hi, h3, h1 h3, decide_true, Bool.true_and, Bool.true_xor, Bool.xor_true]
section GR
variable {p : Program} {l : Launch} {e : Env} {R : Room} {s : State} {m : MethodId} {args : Array Value} {below : List Frame} {meth : Method} {c : Code} {H : Heap} {locs : List Loc} {cells slots : Nat} {Q : State → Prop}
variable {G : ga_G} {A : Nat → Prop} {ws : va_W} {cc : ByteArray} {nL : Nat} {own : String} {pc : Nat} {ls : Array Slot} {rest : List Value} {a : Nat}

theorem r_iadd (hx : p.tables.exec = Jvm.exec) (hb : c.code = cc) {x y : Nat} (hdg : decode cc pc = .ok (.iadd, 1)) (k : W p l e R s m args below meth c H locs cells slots Q (F0 m (pc + 1) ls (.int (nI (x + y)) :: rest))) : W p l e R s m args below meth c H locs cells slots Q (F0 m pc ls (.int (nI y) :: .int (nI x) :: rest)) := lv_iadd hx hb hdg (by rw [nI_add]; exact k)
theorem r_imul (hx : p.tables.exec = Jvm.exec) (hb : c.code = cc) {x y : Nat} (hdg : decode cc pc = .ok (.imul, 1)) (k : W p l e R s m args below meth c H locs cells slots Q (F0 m (pc + 1) ls (.int (nI (x * y)) :: rest))) : W p l e R s m args below meth c H locs cells slots Q (F0 m pc ls (.int (nI y) :: .int (nI x) :: rest)) := lv_imul hx hb hdg (by rw [pk_mul]; exact k)
theorem r_iand (hx : p.tables.exec = Jvm.exec) (hb : c.code = cc) {x y : Nat} (hdg : decode cc pc = .ok (.iand, 1)) (k : W p l e R s m args below meth c H locs cells slots Q (F0 m (pc + 1) ls (.int (nI (x &&& y)) :: rest))) : W p l e R s m args below meth c H locs cells slots Q (F0 m pc ls (.int (nI y) :: .int (nI x) :: rest)) := lv_iand hx hb hdg (by rw [nI_and]; exact k)
theorem r_ior (hx : p.tables.exec = Jvm.exec) (hb : c.code = cc) {x y : Nat} (hdg : decode cc pc = .ok (.ior, 1)) (k : W p l e R s m args below meth c H locs cells slots Q (F0 m (pc + 1) ls (.int (nI (x ||| y)) :: rest))) : W p l e R s m args below meth c H locs cells slots Q (F0 m pc ls (.int (nI y) :: .int (nI x) :: rest)) := lv_ior hx hb hdg (by rw [nI_or]; exact k)
theorem r_ixor (hx : p.tables.exec = Jvm.exec) (hb : c.code = cc) {x y : Nat} (hdg : decode cc pc = .ok (.ixor, 1)) (k : W p l e R s m args below meth c H locs cells slots Q (F0 m (pc + 1) ls (.int (nI (x ^^^ y)) :: rest))) : W p l e R s m args below meth c H locs cells slots Q (F0 m pc ls (.int (nI y) :: .int (nI x) :: rest)) := lv_ixor hx hb hdg (by rw [nI_xor]; exact k)
theorem r_isub (hx : p.tables.exec = Jvm.exec) (hb : c.code = cc) {x y : Nat} (hdg : decode cc pc = .ok (.isub, 1)) (h : y ≤ x) (k : W p l e R s m args below meth c H locs cells slots Q (F0 m (pc + 1) ls (.int (nI (x - y)) :: rest))) : W p l e R s m args below meth c H locs cells slots Q (F0 m pc ls (.int (nI y) :: .int (nI x) :: rest)) := lv_isub hx hb hdg (by rw [pk_sub h]; exact k)
theorem r_ishl (hx : p.tables.exec = Jvm.exec) (hb : c.code = cc) {x y : Nat} (hdg : decode cc pc = .ok (.ishl, 1)) (h : y < 32) (k : W p l e R s m args below meth c H locs cells slots Q (F0 m (pc + 1) ls (.int (nI (x <<< y)) :: rest))) : W p l e R s m args below meth c H locs cells slots Q (F0 m pc ls (.int (nI y) :: .int (nI x) :: rest)) := lv_ishl hx hb hdg (by rw [nI_shl x h]; exact k)
theorem r_ishr (hx : p.tables.exec = Jvm.exec) (hb : c.code = cc) {x y : Nat} (hdg : decode cc pc = .ok (.ishr, 1)) (h2 : x < 2 ^ 31) (h : y < 32) (k : W p l e R s m args below meth c H locs cells slots Q (F0 m (pc + 1) ls (.int (nI (x >>> y)) :: rest))) : W p l e R s m args below meth c H locs cells slots Q (F0 m pc ls (.int (nI y) :: .int (nI x) :: rest)) := lv_ishr hx hb hdg (by rw [nI_shr h2 h]; exact k)
theorem r_ladd (hx : p.tables.exec = Jvm.exec) (hb : c.code = cc) {x y : Nat} (hdg : decode cc pc = .ok (.ladd, 1)) (k : W p l e R s m args below meth c H locs cells slots Q (F0 m (pc + 1) ls (.long (lN (x + y)) :: rest))) : W p l e R s m args below meth c H locs cells slots Q (F0 m pc ls (.long (lN y) :: .long (lN x) :: rest)) := lv_ladd hx hb hdg (by rw [lN_add]; exact k)
theorem r_i2l (hx : p.tables.exec = Jvm.exec) (hb : c.code = cc) {x : Nat} (hdg : decode cc pc = .ok (.i2l, 1)) (h : x < 2 ^ 31) (k : W p l e R s m args below meth c H locs cells slots Q (F0 m (pc + 1) ls (.long (lN x) :: rest))) : W p l e R s m args below meth c H locs cells slots Q (F0 m pc ls (.int (nI x) :: rest)) := lv_i2l hx hb hdg (nI_l h) k
theorem r_top {x y : Value} (h : x = y) (k : W p l e R s m args below meth c H locs cells slots Q (F0 m pc ls (y :: rest))) : W p l e R s m args below meth c H locs cells slots Q (F0 m pc ls (x :: rest)) := h ▸ k
theorem r_topi {x y : Int32} (h : x = y) (k : W p l e R s m args below meth c H locs cells slots Q (F0 m pc ls (.int y :: rest))) : W p l e R s m args below meth c H locs cells slots Q (F0 m pc ls (.int x :: rest)) := h ▸ k
theorem r_topl {x y : Int64} (h : x = y) (k : W p l e R s m args below meth c H locs cells slots Q (F0 m pc ls (.long y :: rest))) : W p l e R s m args below meth c H locs cells slots Q (F0 m pc ls (.long x :: rest)) := h ▸ k
theorem r_iinc (hx : p.tables.exec = Jvm.exec) (hb : c.code = cc) {i k d x : Nat} {n : Int} {lv lv' : List (Nat × Value)} (hdg : decode cc pc = .ok (.iinc i n, 3)) (h : lv_has ls nL lv) (hk : lv[k]? = some (i, .int (nI x))) (hd : Int32.ofInt n = nI d) (hn : i < nL) (hl : (i, Value.int (nI (x + d))) :: lv.filter (fun q => !(q.1 == i) && !(q.1 + 1 == i && q.2.category == 2)) = lv') (kk : ∀ ls1 : Array Slot, lv_has ls1 nL lv' → W p l e R s m args below meth c H locs cells slots Q (F0 m (pc + 3) ls1 rest)) : W p l e R s m args below meth c H locs cells slots Q (F0 m pc ls rest) := lv_iinc hx hb hdg h hk (by rw [hd, nI_add]) hn hl kk
theorem r_idec (hx : p.tables.exec = Jvm.exec) (hb : c.code = cc) {i k d x : Nat} {n : Int} {lv lv' : List (Nat × Value)} (hdg : decode cc pc = .ok (.iinc i n, 3)) (h : lv_has ls nL lv) (hk : lv[k]? = some (i, .int (nI x))) (hd : Int32.ofInt n = - nI d) (hle : d ≤ x) (hn : i < nL) (hl : (i, Value.int (nI (x - d))) :: lv.filter (fun q => !(q.1 == i) && !(q.1 + 1 == i && q.2.category == 2)) = lv') (kk : ∀ ls1 : Array Slot, lv_has ls1 nL lv' → W p l e R s m args below meth c H locs cells slots Q (F0 m (pc + 3) ls1 rest)) : W p l e R s m args below meth c H locs cells slots Q (F0 m pc ls rest) := lv_iinc hx hb hdg h hk (by rw [hd, ← pk_sub hle, Int32.sub_eq_add_neg]) hn hl kk
theorem r_icmp_eq (hx : p.tables.exec = Jvm.exec) (hb : c.code = cc) {x y : Nat} {off : Int} {tgt : Nat} (hdg : decode cc pc = .ok (.if_icmp .eq off, 3)) (ht : (pc : Int) + off = (tgt : Int)) (hx1 : x < 2 ^ 31) (hy1 : y < 2 ^ 31) (kt : x = y → W p l e R s m args below meth c H locs cells slots Q (F0 m tgt ls rest)) (kf : ¬ x = y → W p l e R s m args below meth c H locs cells slots Q (F0 m (pc + 3) ls rest)) : W p l e R s m args below meth c H locs cells slots Q (F0 m pc ls (.int (nI y) :: .int (nI x) :: rest)) := lv_icmp_eq hx hb hdg ht (fun h => kt ((nI_eq hx1 hy1).mp h)) (fun h => kf (fun z => h ((nI_eq hx1 hy1).mpr z)))
theorem r_if_eq (hx : p.tables.exec = Jvm.exec) (hb : c.code = cc) {x : Nat} {off : Int} {tgt : Nat} (hdg : decode cc pc = .ok (.ifCond .eq off, 3)) (ht : (pc : Int) + off = (tgt : Int)) (hx1 : x < 2 ^ 31) (kt : x = 0 → W p l e R s m args below meth c H locs cells slots Q (F0 m tgt ls rest)) (kf : ¬ x = 0 → W p l e R s m args below meth c H locs cells slots Q (F0 m (pc + 3) ls rest)) : W p l e R s m args below meth c H locs cells slots Q (F0 m pc ls (.int (nI x) :: rest)) := lv_if_eq hx hb hdg ht (fun h => kt ((nI_eq hx1 (by decide)).mp h)) (fun h => kf (fun z => h ((nI_eq hx1 (by decide)).mpr z)))
theorem r_lc_eq (hx : p.tables.exec = Jvm.exec) (hb : c.code = cc) {x y : Int64} {off : Int} {tgt : Nat} (hdg : decode cc pc = .ok (.ifCond .eq off, 3)) (ht : (pc : Int) + off = (tgt : Int)) (kt : x = y → W p l e R s m args below meth c H locs cells slots Q (F0 m tgt ls rest)) (kf : ¬ x = y → W p l e R s m args below meth c H locs cells slots Q (F0 m (pc + 3) ls rest)) : W p l e R s m args below meth c H locs cells slots Q (F0 m pc ls (.int (lg_cmp x y) :: rest)) := lv_if_eq hx hb hdg ht (fun h => kt ((lg_cmp_eq x y).mp h)) (fun h => kf (fun z => h ((lg_cmp_eq x y).mpr z)))
theorem r_lcN_eq (hx : p.tables.exec = Jvm.exec) (hb : c.code = cc) {x y : Nat} {off : Int} {tgt : Nat} (hdg : decode cc pc = .ok (.ifCond .eq off, 3)) (ht : (pc : Int) + off = (tgt : Int)) (hx1 : x < 2 ^ 63) (hy1 : y < 2 ^ 63) (kt : x = y → W p l e R s m args below meth c H locs cells slots Q (F0 m tgt ls rest)) (kf : ¬ x = y → W p l e R s m args below meth c H locs cells slots Q (F0 m (pc + 3) ls rest)) : W p l e R s m args below meth c H locs cells slots Q (F0 m pc ls (.int (lg_cmp (lN x) (lN y)) :: rest)) := r_lc_eq hx hb hdg ht (fun h => kt ((pk_lEQ hx1 hy1).mp h)) (fun h => kf (fun z => h ((pk_lEQ hx1 hy1).mpr z)))
theorem r_icmp_ne (hx : p.tables.exec = Jvm.exec) (hb : c.code = cc) {x y : Nat} {off : Int} {tgt : Nat} (hdg : decode cc pc = .ok (.if_icmp .ne off, 3)) (ht : (pc : Int) + off = (tgt : Int)) (hx1 : x < 2 ^ 31) (hy1 : y < 2 ^ 31) (kt : ¬ x = y → W p l e R s m args below meth c H locs cells slots Q (F0 m tgt ls rest)) (kf : x = y → W p l e R s m args below meth c H locs cells slots Q (F0 m (pc + 3) ls rest)) : W p l e R s m args below meth c H locs cells slots Q (F0 m pc ls (.int (nI y) :: .int (nI x) :: rest)) := lv_icmp_ne hx hb hdg ht (fun h => kt (fun z => h ((nI_eq hx1 hy1).mpr z))) (fun h => kf ((nI_eq hx1 hy1).mp h))
theorem r_if_ne (hx : p.tables.exec = Jvm.exec) (hb : c.code = cc) {x : Nat} {off : Int} {tgt : Nat} (hdg : decode cc pc = .ok (.ifCond .ne off, 3)) (ht : (pc : Int) + off = (tgt : Int)) (hx1 : x < 2 ^ 31) (kt : ¬ x = 0 → W p l e R s m args below meth c H locs cells slots Q (F0 m tgt ls rest)) (kf : x = 0 → W p l e R s m args below meth c H locs cells slots Q (F0 m (pc + 3) ls rest)) : W p l e R s m args below meth c H locs cells slots Q (F0 m pc ls (.int (nI x) :: rest)) := lv_if_ne hx hb hdg ht (fun h => kt (fun z => h ((nI_eq hx1 (by decide)).mpr z))) (fun h => kf ((nI_eq hx1 (by decide)).mp h))
theorem r_lc_ne (hx : p.tables.exec = Jvm.exec) (hb : c.code = cc) {x y : Int64} {off : Int} {tgt : Nat} (hdg : decode cc pc = .ok (.ifCond .ne off, 3)) (ht : (pc : Int) + off = (tgt : Int)) (kt : ¬ x = y → W p l e R s m args below meth c H locs cells slots Q (F0 m tgt ls rest)) (kf : x = y → W p l e R s m args below meth c H locs cells slots Q (F0 m (pc + 3) ls rest)) : W p l e R s m args below meth c H locs cells slots Q (F0 m pc ls (.int (lg_cmp x y) :: rest)) := lv_if_ne hx hb hdg ht (fun h => kt (fun z => h ((lg_cmp_eq x y).mpr z))) (fun h => kf ((lg_cmp_eq x y).mp h))
theorem r_lcN_ne (hx : p.tables.exec = Jvm.exec) (hb : c.code = cc) {x y : Nat} {off : Int} {tgt : Nat} (hdg : decode cc pc = .ok (.ifCond .ne off, 3)) (ht : (pc : Int) + off = (tgt : Int)) (hx1 : x < 2 ^ 63) (hy1 : y < 2 ^ 63) (kt : ¬ x = y → W p l e R s m args below meth c H locs cells slots Q (F0 m tgt ls rest)) (kf : x = y → W p l e R s m args below meth c H locs cells slots Q (F0 m (pc + 3) ls rest)) : W p l e R s m args below meth c H locs cells slots Q (F0 m pc ls (.int (lg_cmp (lN x) (lN y)) :: rest)) := r_lc_ne hx hb hdg ht (fun h => kt (fun z => h ((pk_lEQ hx1 hy1).mpr z))) (fun h => kf ((pk_lEQ hx1 hy1).mp h))
theorem r_icmp_lt (hx : p.tables.exec = Jvm.exec) (hb : c.code = cc) {x y : Nat} {off : Int} {tgt : Nat} (hdg : decode cc pc = .ok (.if_icmp .lt off, 3)) (ht : (pc : Int) + off = (tgt : Int)) (hx1 : x < 2 ^ 31) (hy1 : y < 2 ^ 31) (kt : x < y → W p l e R s m args below meth c H locs cells slots Q (F0 m tgt ls rest)) (kf : ¬ x < y → W p l e R s m args below meth c H locs cells slots Q (F0 m (pc + 3) ls rest)) : W p l e R s m args below meth c H locs cells slots Q (F0 m pc ls (.int (nI y) :: .int (nI x) :: rest)) := lv_icmp_lt hx hb hdg ht (fun h => kt ((nI_ltI hx1 hy1).mp h)) (fun h => kf (fun z => h ((nI_ltI hx1 hy1).mpr z)))
theorem r_if_lt (hx : p.tables.exec = Jvm.exec) (hb : c.code = cc) {x : Nat} {off : Int} {tgt : Nat} (hdg : decode cc pc = .ok (.ifCond .lt off, 3)) (ht : (pc : Int) + off = (tgt : Int)) (hx1 : x < 2 ^ 31) (kt : x < 0 → W p l e R s m args below meth c H locs cells slots Q (F0 m tgt ls rest)) (kf : ¬ x < 0 → W p l e R s m args below meth c H locs cells slots Q (F0 m (pc + 3) ls rest)) : W p l e R s m args below meth c H locs cells slots Q (F0 m pc ls (.int (nI x) :: rest)) := lv_if_lt hx hb hdg ht (fun h => kt ((nI_ltI hx1 (by decide)).mp h)) (fun h => kf (fun z => h ((nI_ltI hx1 (by decide)).mpr z)))
theorem r_lc_lt (hx : p.tables.exec = Jvm.exec) (hb : c.code = cc) {x y : Int64} {off : Int} {tgt : Nat} (hdg : decode cc pc = .ok (.ifCond .lt off, 3)) (ht : (pc : Int) + off = (tgt : Int)) (kt : x < y → W p l e R s m args below meth c H locs cells slots Q (F0 m tgt ls rest)) (kf : ¬ x < y → W p l e R s m args below meth c H locs cells slots Q (F0 m (pc + 3) ls rest)) : W p l e R s m args below meth c H locs cells slots Q (F0 m pc ls (.int (lg_cmp x y) :: rest)) := lv_if_lt hx hb hdg ht (fun h => kt ((lg_cmp_lt x y).mp h)) (fun h => kf (fun z => h ((lg_cmp_lt x y).mpr z)))
theorem r_lcN_lt (hx : p.tables.exec = Jvm.exec) (hb : c.code = cc) {x y : Nat} {off : Int} {tgt : Nat} (hdg : decode cc pc = .ok (.ifCond .lt off, 3)) (ht : (pc : Int) + off = (tgt : Int)) (hx1 : x < 2 ^ 63) (hy1 : y < 2 ^ 63) (kt : x < y → W p l e R s m args below meth c H locs cells slots Q (F0 m tgt ls rest)) (kf : ¬ x < y → W p l e R s m args below meth c H locs cells slots Q (F0 m (pc + 3) ls rest)) : W p l e R s m args below meth c H locs cells slots Q (F0 m pc ls (.int (lg_cmp (lN x) (lN y)) :: rest)) := r_lc_lt hx hb hdg ht (fun h => kt ((pk_lLT hx1 hy1).mp h)) (fun h => kf (fun z => h ((pk_lLT hx1 hy1).mpr z)))
theorem r_icmp_ge (hx : p.tables.exec = Jvm.exec) (hb : c.code = cc) {x y : Nat} {off : Int} {tgt : Nat} (hdg : decode cc pc = .ok (.if_icmp .ge off, 3)) (ht : (pc : Int) + off = (tgt : Int)) (hx1 : x < 2 ^ 31) (hy1 : y < 2 ^ 31) (kt : y ≤ x → W p l e R s m args below meth c H locs cells slots Q (F0 m tgt ls rest)) (kf : ¬ y ≤ x → W p l e R s m args below meth c H locs cells slots Q (F0 m (pc + 3) ls rest)) : W p l e R s m args below meth c H locs cells slots Q (F0 m pc ls (.int (nI y) :: .int (nI x) :: rest)) := lv_icmp_ge hx hb hdg ht (fun h => kt ((nI_leI hy1 hx1).mp h)) (fun h => kf (fun z => h ((nI_leI hy1 hx1).mpr z)))
theorem r_if_ge (hx : p.tables.exec = Jvm.exec) (hb : c.code = cc) {x : Nat} {off : Int} {tgt : Nat} (hdg : decode cc pc = .ok (.ifCond .ge off, 3)) (ht : (pc : Int) + off = (tgt : Int)) (hx1 : x < 2 ^ 31) (kt : 0 ≤ x → W p l e R s m args below meth c H locs cells slots Q (F0 m tgt ls rest)) (kf : ¬ 0 ≤ x → W p l e R s m args below meth c H locs cells slots Q (F0 m (pc + 3) ls rest)) : W p l e R s m args below meth c H locs cells slots Q (F0 m pc ls (.int (nI x) :: rest)) := lv_if_ge hx hb hdg ht (fun h => kt ((nI_leI (by decide) hx1).mp h)) (fun h => kf (fun z => h ((nI_leI (by decide) hx1).mpr z)))
theorem r_lc_ge (hx : p.tables.exec = Jvm.exec) (hb : c.code = cc) {x y : Int64} {off : Int} {tgt : Nat} (hdg : decode cc pc = .ok (.ifCond .ge off, 3)) (ht : (pc : Int) + off = (tgt : Int)) (kt : y ≤ x → W p l e R s m args below meth c H locs cells slots Q (F0 m tgt ls rest)) (kf : ¬ y ≤ x → W p l e R s m args below meth c H locs cells slots Q (F0 m (pc + 3) ls rest)) : W p l e R s m args below meth c H locs cells slots Q (F0 m pc ls (.int (lg_cmp x y) :: rest)) := lv_if_ge hx hb hdg ht (fun h => kt ((lg_cmp_ge x y).mp h)) (fun h => kf (fun z => h ((lg_cmp_ge x y).mpr z)))
theorem r_lcN_ge (hx : p.tables.exec = Jvm.exec) (hb : c.code = cc) {x y : Nat} {off : Int} {tgt : Nat} (hdg : decode cc pc = .ok (.ifCond .ge off, 3)) (ht : (pc : Int) + off = (tgt : Int)) (hx1 : x < 2 ^ 63) (hy1 : y < 2 ^ 63) (kt : y ≤ x → W p l e R s m args below meth c H locs cells slots Q (F0 m tgt ls rest)) (kf : ¬ y ≤ x → W p l e R s m args below meth c H locs cells slots Q (F0 m (pc + 3) ls rest)) : W p l e R s m args below meth c H locs cells slots Q (F0 m pc ls (.int (lg_cmp (lN x) (lN y)) :: rest)) := r_lc_ge hx hb hdg ht (fun h => kt ((pk_lLE hy1 hx1).mp h)) (fun h => kf (fun z => h ((pk_lLE hy1 hx1).mpr z)))
theorem r_icmp_gt (hx : p.tables.exec = Jvm.exec) (hb : c.code = cc) {x y : Nat} {off : Int} {tgt : Nat} (hdg : decode cc pc = .ok (.if_icmp .gt off, 3)) (ht : (pc : Int) + off = (tgt : Int)) (hx1 : x < 2 ^ 31) (hy1 : y < 2 ^ 31) (kt : y < x → W p l e R s m args below meth c H locs cells slots Q (F0 m tgt ls rest)) (kf : ¬ y < x → W p l e R s m args below meth c H locs cells slots Q (F0 m (pc + 3) ls rest)) : W p l e R s m args below meth c H locs cells slots Q (F0 m pc ls (.int (nI y) :: .int (nI x) :: rest)) := lv_icmp_gt hx hb hdg ht (fun h => kt ((nI_ltI hy1 hx1).mp h)) (fun h => kf (fun z => h ((nI_ltI hy1 hx1).mpr z)))
theorem r_if_gt (hx : p.tables.exec = Jvm.exec) (hb : c.code = cc) {x : Nat} {off : Int} {tgt : Nat} (hdg : decode cc pc = .ok (.ifCond .gt off, 3)) (ht : (pc : Int) + off = (tgt : Int)) (hx1 : x < 2 ^ 31) (kt : 0 < x → W p l e R s m args below meth c H locs cells slots Q (F0 m tgt ls rest)) (kf : ¬ 0 < x → W p l e R s m args below meth c H locs cells slots Q (F0 m (pc + 3) ls rest)) : W p l e R s m args below meth c H locs cells slots Q (F0 m pc ls (.int (nI x) :: rest)) := lv_if_gt hx hb hdg ht (fun h => kt ((nI_ltI (by decide) hx1).mp h)) (fun h => kf (fun z => h ((nI_ltI (by decide) hx1).mpr z)))
theorem r_lc_gt (hx : p.tables.exec = Jvm.exec) (hb : c.code = cc) {x y : Int64} {off : Int} {tgt : Nat} (hdg : decode cc pc = .ok (.ifCond .gt off, 3)) (ht : (pc : Int) + off = (tgt : Int)) (kt : y < x → W p l e R s m args below meth c H locs cells slots Q (F0 m tgt ls rest)) (kf : ¬ y < x → W p l e R s m args below meth c H locs cells slots Q (F0 m (pc + 3) ls rest)) : W p l e R s m args below meth c H locs cells slots Q (F0 m pc ls (.int (lg_cmp x y) :: rest)) := lv_if_gt hx hb hdg ht (fun h => kt ((lg_cmp_gt x y).mp h)) (fun h => kf (fun z => h ((lg_cmp_gt x y).mpr z)))
theorem r_lcN_gt (hx : p.tables.exec = Jvm.exec) (hb : c.code = cc) {x y : Nat} {off : Int} {tgt : Nat} (hdg : decode cc pc = .ok (.ifCond .gt off, 3)) (ht : (pc : Int) + off = (tgt : Int)) (hx1 : x < 2 ^ 63) (hy1 : y < 2 ^ 63) (kt : y < x → W p l e R s m args below meth c H locs cells slots Q (F0 m tgt ls rest)) (kf : ¬ y < x → W p l e R s m args below meth c H locs cells slots Q (F0 m (pc + 3) ls rest)) : W p l e R s m args below meth c H locs cells slots Q (F0 m pc ls (.int (lg_cmp (lN x) (lN y)) :: rest)) := r_lc_gt hx hb hdg ht (fun h => kt ((pk_lLT hy1 hx1).mp h)) (fun h => kf (fun z => h ((pk_lLT hy1 hx1).mpr z)))
theorem r_icmp_le (hx : p.tables.exec = Jvm.exec) (hb : c.code = cc) {x y : Nat} {off : Int} {tgt : Nat} (hdg : decode cc pc = .ok (.if_icmp .le off, 3)) (ht : (pc : Int) + off = (tgt : Int)) (hx1 : x < 2 ^ 31) (hy1 : y < 2 ^ 31) (kt : x ≤ y → W p l e R s m args below meth c H locs cells slots Q (F0 m tgt ls rest)) (kf : ¬ x ≤ y → W p l e R s m args below meth c H locs cells slots Q (F0 m (pc + 3) ls rest)) : W p l e R s m args below meth c H locs cells slots Q (F0 m pc ls (.int (nI y) :: .int (nI x) :: rest)) := lv_icmp_le hx hb hdg ht (fun h => kt ((nI_leI hx1 hy1).mp h)) (fun h => kf (fun z => h ((nI_leI hx1 hy1).mpr z)))
theorem r_if_le (hx : p.tables.exec = Jvm.exec) (hb : c.code = cc) {x : Nat} {off : Int} {tgt : Nat} (hdg : decode cc pc = .ok (.ifCond .le off, 3)) (ht : (pc : Int) + off = (tgt : Int)) (hx1 : x < 2 ^ 31) (kt : x ≤ 0 → W p l e R s m args below meth c H locs cells slots Q (F0 m tgt ls rest)) (kf : ¬ x ≤ 0 → W p l e R s m args below meth c H locs cells slots Q (F0 m (pc + 3) ls rest)) : W p l e R s m args below meth c H locs cells slots Q (F0 m pc ls (.int (nI x) :: rest)) := lv_if_le hx hb hdg ht (fun h => kt ((nI_leI hx1 (by decide)).mp h)) (fun h => kf (fun z => h ((nI_leI hx1 (by decide)).mpr z)))
theorem r_lc_le (hx : p.tables.exec = Jvm.exec) (hb : c.code = cc) {x y : Int64} {off : Int} {tgt : Nat} (hdg : decode cc pc = .ok (.ifCond .le off, 3)) (ht : (pc : Int) + off = (tgt : Int)) (kt : x ≤ y → W p l e R s m args below meth c H locs cells slots Q (F0 m tgt ls rest)) (kf : ¬ x ≤ y → W p l e R s m args below meth c H locs cells slots Q (F0 m (pc + 3) ls rest)) : W p l e R s m args below meth c H locs cells slots Q (F0 m pc ls (.int (lg_cmp x y) :: rest)) := lv_if_le hx hb hdg ht (fun h => kt ((lg_cmp_le x y).mp h)) (fun h => kf (fun z => h ((lg_cmp_le x y).mpr z)))
theorem r_lcN_le (hx : p.tables.exec = Jvm.exec) (hb : c.code = cc) {x y : Nat} {off : Int} {tgt : Nat} (hdg : decode cc pc = .ok (.ifCond .le off, 3)) (ht : (pc : Int) + off = (tgt : Int)) (hx1 : x < 2 ^ 63) (hy1 : y < 2 ^ 63) (kt : x ≤ y → W p l e R s m args below meth c H locs cells slots Q (F0 m tgt ls rest)) (kf : ¬ x ≤ y → W p l e R s m args below meth c H locs cells slots Q (F0 m (pc + 3) ls rest)) : W p l e R s m args below meth c H locs cells slots Q (F0 m pc ls (.int (lg_cmp (lN x) (lN y)) :: rest)) := r_lc_le hx hb hdg ht (fun h => kt ((pk_lLE hx1 hy1).mp h)) (fun h => kf (fun z => h ((pk_lLE hx1 hy1).mpr z)))
theorem r_ifb_eq (hx : p.tables.exec = Jvm.exec) (hb : c.code = cc) {b : Bool} {off : Int} {tgt : Nat} (hdg : decode cc pc = .ok (.ifCond .eq off, 3)) (ht : (pc : Int) + off = (tgt : Int)) (kt : b = false → W p l e R s m args below meth c H locs cells slots Q (F0 m tgt ls rest)) (kf : b = true → W p l e R s m args below meth c H locs cells slots Q (F0 m (pc + 3) ls rest)) : W p l e R s m args below meth c H locs cells slots Q (F0 m pc ls (.int (bI b) :: rest)) := lv_if_eq hx hb hdg ht (fun h => kt ((bI_0 b).mp h)) (fun h => kf (by cases b; exact absurd rfl h; rfl))
theorem r_ifb_ne (hx : p.tables.exec = Jvm.exec) (hb : c.code = cc) {b : Bool} {off : Int} {tgt : Nat} (hdg : decode cc pc = .ok (.ifCond .ne off, 3)) (ht : (pc : Int) + off = (tgt : Int)) (kt : b = true → W p l e R s m args below meth c H locs cells slots Q (F0 m tgt ls rest)) (kf : b = false → W p l e R s m args below meth c H locs cells slots Q (F0 m (pc + 3) ls rest)) : W p l e R s m args below meth c H locs cells slots Q (F0 m pc ls (.int (bI b) :: rest)) := lv_if_ne hx hb hdg ht (fun h => kt (by cases b; exact absurd rfl h; rfl)) (fun h => kf ((bI_0 b).mp h))
theorem r_iald (hx : p.tables.exec = Jvm.exec) (hb : c.code = cc) (hK : ga_K G s) (w : ga_wd G A s H locs ws) (q0 : Nat) {n j : Nat} {f : Nat → Int32} (ha : ws[q0]? = some (a, .inl (G.2.2, n, .inl f))) (hdg : decode cc pc = .ok (.iaload, 1)) (hj : j < n) (hn : n < 2 ^ 31) (k : W p l e R s m args below meth c H locs cells slots Q (F0 m (pc + 1) ls (.int (f j) :: rest))) : W p l e R s m args below meth c H locs cells slots Q (F0 m pc ls (.int (nI j) :: .ref a :: rest)) := va_iald hx hb hK.1 w.1 q0 1 ha rfl (vp_in_nI hj hn) hdg (by rw [nI_clamp (Nat.lt_trans hj hn)]; exact k)
theorem r_iald_raw (hx : p.tables.exec = Jvm.exec) (hb : c.code = cc) (hK : ga_K G s) (w : ga_wd G A s H locs ws) (q0 : Nat) {n : Nat} {i : Int32} {f : Nat → Int32} (ha : ws[q0]? = some (a, .inl (G.2.2, n, .inl f))) (hdg : decode cc pc = .ok (.iaload, 1)) (hj : vp_in i n) (k : W p l e R s m args below meth c H locs cells slots Q (F0 m (pc + 1) ls (.int (f i.toNatClampNeg) :: rest))) : W p l e R s m args below meth c H locs cells slots Q (F0 m pc ls (.int i :: .ref a :: rest)) := va_iald hx hb hK.1 w.1 q0 1 ha rfl hj hdg k
theorem r_bald (hx : p.tables.exec = Jvm.exec) (hb : c.code = cc) (hK : ga_K G s) (w : ga_wd G A s H locs ws) (q0 : Nat) {n j : Nat} {f : Nat → Int32} (ha : ws[q0]? = some (a, .inl (G.2.1, n, .inl f))) (hdg : decode cc pc = .ok (.baload, 1)) (hj : j < n) (hn : n < 2 ^ 31) (k : W p l e R s m args below meth c H locs cells slots Q (F0 m (pc + 1) ls (.int (f j) :: rest))) : W p l e R s m args below meth c H locs cells slots Q (F0 m pc ls (.int (nI j) :: .ref a :: rest)) := va_bald hx hb hK.1 w.1 q0 0 ha rfl (vp_in_nI hj hn) hdg (by rw [nI_clamp (Nat.lt_trans hj hn)]; exact k)
theorem r_ialdN (hx : p.tables.exec = Jvm.exec) (hb : c.code = cc) (hK : ga_K G s) (w : ga_wd G A s H locs ws) (q0 : Nat) {n j : Nat} {f : Nat → Nat} (ha : ws[q0]? = some (a, .inl (G.2.2, n, .inl (aN f)))) (hdg : decode cc pc = .ok (.iaload, 1)) (hj : j < n) (hn : n < 2 ^ 31) (k : W p l e R s m args below meth c H locs cells slots Q (F0 m (pc + 1) ls (.int (nI (f j)) :: rest))) : W p l e R s m args below meth c H locs cells slots Q (F0 m pc ls (.int (nI j) :: .ref a :: rest)) := r_iald hx hb hK w q0 ha hdg hj hn k
theorem r_iast (hx : p.tables.exec = Jvm.exec) (hb : c.code = cc) (hK : ga_K G s) (w : ga_wd G A s H locs ws) (q0 : Nat) {n j : Nat} {x : Int32} {f : Nat → Int32} (ha : ws[q0]? = some (a, .inl (G.2.2, n, .inl f))) (hdg : decode cc pc = .ok (.iastore, 1)) (hj : j < n) (hn : n < 2 ^ 31) (k : ∀ (H1 : Heap) (locs1 : List Loc), ga_wd G A s H1 locs1 (ws.set q0 (a, .inl (G.2.2, n, .inl (upd f j x)))) → W p l e R s m args below meth c H1 locs1 cells slots Q (F0 m (pc + 1) ls rest)) : W p l e R s m args below meth c H locs cells slots Q (F0 m pc ls (.int x :: .int (nI j) :: .ref a :: rest)) := va_iast hx hb hK.1 w.1 w.2.1 w.2.2 q0 1 ha rfl (vp_in_nI hj hn) hdg (by rw [nI_clamp (Nat.lt_trans hj hn)]; exact fun H1 l1 h1 h2 h3 => k H1 l1 ⟨h1, h2, h3⟩)
theorem r_iastN (hx : p.tables.exec = Jvm.exec) (hb : c.code = cc) (hK : ga_K G s) (w : ga_wd G A s H locs ws) (q0 : Nat) {n j x : Nat} {f : Nat → Nat} (ha : ws[q0]? = some (a, .inl (G.2.2, n, .inl (aN f)))) (hdg : decode cc pc = .ok (.iastore, 1)) (hj : j < n) (hn : n < 2 ^ 31) (k : ∀ (H1 : Heap) (locs1 : List Loc), ga_wd G A s H1 locs1 (ws.set q0 (a, .inl (G.2.2, n, .inl (aN (uN f j x))))) → W p l e R s m args below meth c H1 locs1 cells slots Q (F0 m (pc + 1) ls rest)) : W p l e R s m args below meth c H locs cells slots Q (F0 m pc ls (.int (nI x) :: .int (nI j) :: .ref a :: rest)) := r_iast hx hb hK w q0 ha hdg hj hn (by rw [aN_u]; exact k)
theorem r_bast (hx : p.tables.exec = Jvm.exec) (hb : c.code = cc) (hK : ga_K G s) (w : ga_wd G A s H locs ws) (q0 : Nat) {n j : Nat} {x : Int32} {f : Nat → Int32} (ha : ws[q0]? = some (a, .inl (G.2.1, n, .inl f))) (hdg : decode cc pc = .ok (.bastore, 1)) (hj : j < n) (hn : n < 2 ^ 31) (k : ∀ (H1 : Heap) (locs1 : List Loc), ga_wd G A s H1 locs1 (ws.set q0 (a, .inl (G.2.1, n, .inl (upd f j (vp_nar .byte x))))) → W p l e R s m args below meth c H1 locs1 cells slots Q (F0 m (pc + 1) ls rest)) : W p l e R s m args below meth c H locs cells slots Q (F0 m pc ls (.int x :: .int (nI j) :: .ref a :: rest)) := va_bast hx hb hK.1 w.1 w.2.1 w.2.2 q0 0 ha rfl (vp_in_nI hj hn) hdg (by rw [nI_clamp (Nat.lt_trans hj hn)]; exact fun H1 l1 h1 h2 h3 => k H1 l1 ⟨h1, h2, h3⟩)
theorem r_alen (hx : p.tables.exec = Jvm.exec) (hb : c.code = cc) (hK : ga_K G s) (w : ga_wd G A s H locs ws) (q0 : Nat) {n : Nat} {f : Nat → Int32} (ha : ws[q0]? = some (a, .inl (G.2.2, n, .inl f))) (hdg : decode cc pc = .ok (.arraylength, 1)) (k : W p l e R s m args below meth c H locs cells slots Q (F0 m (pc + 1) ls (.int (nI n) :: rest))) : W p l e R s m args below meth c H locs cells slots Q (F0 m pc ls (.ref a :: rest)) := va_alen hx hb hK.1 w.1 q0 1 ha rfl rfl hdg k
theorem ga_cI {D : va_G} {cl : List vw_C} {tys : List (ClassId × FieldType)} {cA cB : ClassId} {ty : FieldType} (hr : refKind ty = false) (h1 : va_RA s cA ty) (h2 : va_RA s cB ty) : cA = cB := by
  cases ty <;> first | (simp [refKind] at hr; done) | exact Option.some.inj (h1.symm.trans h2)
theorem r_newa_i (cx : ga_cx p m c cc nL s args own) (hK : ga_K G s) (hA : ∀ q : Nat, s.heap.size ≤ q → A q) (w : ga_wd G A s H locs ws) {N : Nat} (hdg : decode cc pc = .ok (.newarray .int, 2)) (hN : N < 2 ^ 26) (hc : cells + 1 ≤ R.cells) (hs : slots + N ≤ R.slots) (k : ∀ (q : Nat) (H1 : Heap), ga_wd G A s H1 locs (ws ++ [(q, .inl (G.2.2, N, .inl (fun _ => 0)))]) → W p l e R s m args below meth c H1 locs (cells + 1) (slots + N) Q (F0 m (pc + 2) ls (.ref q :: rest))) : W p l e R s m args below meth c H locs cells slots Q (F0 m pc ls (.int (nI N) :: rest)) :=
  va_newa (atype := .int) cx.1 cx.2.1 (cx.2.2.2.2 _ (show Cond.arrayClass .int ∈ ga_tb from tm_88)) (ty := .int) rfl hK.1 w.1 w.2.1 w.2.2 hA (a0 := (N, .inl (fun _ => 0))) (fun cA => rfl) (nI_pos (by omega)) (nI_clamp (by omega)) (by show N * _ ≤ _; simp only [componentBytes]; omega) hc hs hdg (fun q cA H1 h1 h2 h3 h4 => by
    have h5 := (h1.2 2 (cA, .int) rfl).2
    have h6 := (hK.1.2 1 (G.2.2, .int) rfl).2
    have h7 : cA = G.2.2 := ga_cI (D := G.1) (cl := vwCl) (tys := []) rfl h5 h6
    subst h7
    exact k q H1 ⟨h2, h3, h4⟩)
theorem r_newa_b (cx : ga_cx p m c cc nL s args own) (hK : ga_K G s) (hA : ∀ q : Nat, s.heap.size ≤ q → A q) (w : ga_wd G A s H locs ws) {N : Nat} (hdg : decode cc pc = .ok (.newarray .byte, 2)) (hN : N < 2 ^ 26) (hc : cells + 1 ≤ R.cells) (hs : slots + N ≤ R.slots) (k : ∀ (q : Nat) (H1 : Heap), ga_wd G A s H1 locs (ws ++ [(q, .inl (G.2.1, N, .inl (fun _ => 0)))]) → W p l e R s m args below meth c H1 locs (cells + 1) (slots + N) Q (F0 m (pc + 2) ls (.ref q :: rest))) : W p l e R s m args below meth c H locs cells slots Q (F0 m pc ls (.int (nI N) :: rest)) :=
  va_newa (atype := .byte) cx.1 cx.2.1 (cx.2.2.2.2 _ (show Cond.arrayClass .byte ∈ ga_tb from tm_577)) (ty := .byte) rfl hK.1 w.1 w.2.1 w.2.2 hA (a0 := (N, .inl (fun _ => 0))) (fun cA => rfl) (nI_pos (by omega)) (nI_clamp (by omega)) (by show N * _ ≤ _; simp only [componentBytes]; omega) hc hs hdg (fun q cA H1 h1 h2 h3 h4 => by
    have h5 := (h1.2 2 (cA, .byte) rfl).2
    have h6 := (hK.1.2 0 (G.2.1, .byte) rfl).2
    have h7 : cA = G.2.1 := ga_cI (D := G.1) (cl := vwCl) (tys := []) rfl h5 h6
    subst h7
    exact k q H1 ⟨h2, h3, h4⟩)
theorem ga_get {C : String} {T : u_T} {N ci index : Nat} (hin : ∀ w ∈ u_ws C T N, w ∈ ga_tb) (hc : vwCl[ci]? = some (C, T, N)) (k : Nat) (hk : k < N) (hlink : Cond.fieldLink own index (T k).1 (T k).2.1 (T k).2.2.1 ∈ ga_tb) (cx : ga_cx p m c cc nL s args own) (hK : ga_K G s) (w : ga_wd G A s H locs ws) (q0 : Nat) {fs : List Value} (he : ws[q0]? = some (a, .inr (ci, fs))) {v : Value} (hv : fs[k]? = some v) (hdg : decode cc pc = .ok (.getfield index, 3)) (kk : W p l e R s m args below meth c H locs cells slots Q (F0 m (pc + 3) ls (v :: rest))) : W p l e R s m args below meth c H locs cells slots Q (F0 m pc ls (.ref a :: rest)) :=
  va_get cx.1 cx.2.1 cx.2.2.2.2 hin cx.2.2.2.1 hK.1 w.1 q0 he hc k hk (cx.2.2.2.2 _ hlink) (fun _ h => h) hv hdg kk
theorem ga_put {C : String} {T : u_T} {N ci index : Nat} (hin : ∀ w ∈ u_ws C T N, w ∈ ga_tb) (ty0 : Nat → FieldType) (hty : ∀ k, k < N → parseFieldDescriptor (T k).2.2.1 = some (ty0 k)) (hnm : ∀ a, a < N → ∀ b, b < N → a ≠ b → (T a).2.1 ≠ (T b).2.1) (hc : vwCl[ci]? = some (C, T, N)) (k : Nat) (hk : k < N) (hfin : (T k).2.2.2 = false) (hlink : Cond.fieldLink own index (T k).1 (T k).2.1 (T k).2.2.1 ∈ ga_tb) (cx : ga_cx p m c cc nL s args own) (hK : ga_K G s) (w : ga_wd G A s H locs ws) (q0 : Nat) {fs : List Value} (he : ws[q0]? = some (a, .inr (ci, fs))) {v : Value} (hn : narrow (ty0 k) v = v) (hfit : fits (ty0 k) v = true) (hl : k < fs.length) (hdg : decode cc pc = .ok (.putfield index, 3)) (kk : ∀ (H1 : Heap) (locs1 : List Loc), ga_wd G A s H1 locs1 (ws.set q0 (a, .inr (ci, fs.set k v))) → W p l e R s m args below meth c H1 locs1 cells slots Q (F0 m (pc + 3) ls rest)) : W p l e R s m args below meth c H locs cells slots Q (F0 m pc ls (v :: .ref a :: rest)) :=
  va_put cx.1 cx.2.1 cx.2.2.2.2 hin ty0 hty hnm cx.2.2.2.1 hK.1 w.1 w.2.1 w.2.2 q0 he hc k hk (cx.2.2.2.2 _ hlink) (fun _ h => h) hfin (hty k hk) hn hfit hl hdg (fun H1 l1 h1 h2 h3 => kk H1 l1 ⟨h1, h2, h3⟩)
theorem ga_putF {C : String} {T : u_T} {N ci index : Nat} (hin : ∀ w ∈ u_ws C T N, w ∈ ga_tb) (ty0 : Nat → FieldType) (hty : ∀ k, k < N → parseFieldDescriptor (T k).2.2.1 = some (ty0 k)) (hnm : ∀ a, a < N → ∀ b, b < N → a ≠ b → (T a).2.1 ≠ (T b).2.1) (hc : vwCl[ci]? = some (C, T, N)) (k : Nat) (hk : k < N) (hfin : (T k).2.2.2 = true) (hdecl : (T k).1 = own) (hlink : Cond.fieldLink own index (T k).1 (T k).2.1 (T k).2.2.1 ∈ ga_tb) (cx : ga_cx p m c cc nL s args own) (hK : ga_K G s) (w : ga_wd G A s H locs ws) (hi : meth.name = "<init>") (q0 : Nat) {fs : List Value} (he : ws[q0]? = some (a, .inr (ci, fs))) {v : Value} (hn : narrow (ty0 k) v = v) (hfit : fits (ty0 k) v = true) (hl : k < fs.length) (hdg : decode cc pc = .ok (.putfield index, 3)) (kk : ∀ (H1 : Heap) (locs1 : List Loc), ga_wd G A s H1 locs1 (ws.set q0 (a, .inr (ci, fs.set k v))) → W p l e R s m args below meth c H1 locs1 cells slots Q (F0 m (pc + 3) ls rest)) : W p l e R s m args below meth c H locs cells slots Q (F0 m pc ls (v :: .ref a :: rest)) :=
  va_putF cx.1 cx.2.1 cx.2.2.2.2 hin ty0 hty hnm cx.2.2.2.1 hK.1 w.1 w.2.1 w.2.2 q0 he hc k hk (cx.2.2.2.2 _ hlink) (fun _ h => h) hfin hi hdecl (hty k hk) hn hfit hl hdg (fun H1 l1 h1 h2 h3 => kk H1 l1 ⟨h1, h2, h3⟩)
end GR
end
section
section GF
variable {p : Program} {l : Launch} {e : Env} {R : Room} {s : State} {m : MethodId} {args : Array Value} {below : List Frame} {meth : Method} {c : Code} {H : Heap} {locs : List Loc} {cells slots : Nat} {Q : State → Prop}
variable {G : ga_G} {A : Nat → Prop} {ws : va_W} {cc : ByteArray} {nL : Nat} {own : String} {pc : Nat} {ls : Array Slot} {rest : List Value} {a : Nat}

theorem gf_X1_9 (cx : ga_cx p m c cc nL s args RX1) (hK : ga_K G s) (w : ga_wd G A s H locs ws) (q0 : Nat) {fs : List Value} (he : ws[q0]? = some (a, .inr (1, fs))) {v : Value} (hv : fs[0]? = some v) (hdg : decode cc pc = .ok (.getfield 9, 3)) (kk : W p l e R s m args below meth c H locs cells slots Q (F0 m (pc + 3) ls (v :: rest))) : W p l e R s m args below meth c H locs cells slots Q (F0 m pc ls (.ref a :: rest)) := ga_get iX1 rfl 0 (by decide) tm_48 cx hK w q0 he hv hdg kk
theorem pf_X1_9 (cx : ga_cx p m c cc nL s args RX1) (hK : ga_K G s) (w : ga_wd G A s H locs ws) (hi : meth.name = "<init>") (q0 : Nat) {fs : List Value} (he : ws[q0]? = some (a, .inr (1, fs))) {v : Value} (hn : narrow (tyX1 0) v = v) (hfit : fits (tyX1 0) v = true) (hl : 0 < fs.length) (hdg : decode cc pc = .ok (.putfield 9, 3)) (kk : ∀ (H1 : Heap) (locs1 : List Loc), ga_wd G A s H1 locs1 (ws.set q0 (a, .inr (1, fs.set 0 v))) → W p l e R s m args below meth c H1 locs1 cells slots Q (F0 m (pc + 3) ls rest)) : W p l e R s m args below meth c H locs cells slots Q (F0 m pc ls (v :: .ref a :: rest)) := ga_putF iX1 tyX1 tyX1_ok nmX1 rfl 0 (by decide) rfl rfl tm_48 cx hK w hi q0 he hn hfit hl hdg kk
theorem gf_X3_45 (cx : ga_cx p m c cc nL s args RX3) (hK : ga_K G s) (w : ga_wd G A s H locs ws) (q0 : Nat) {fs : List Value} (he : ws[q0]? = some (a, .inr (1, fs))) {v : Value} (hv : fs[0]? = some v) (hdg : decode cc pc = .ok (.getfield 45, 3)) (kk : W p l e R s m args below meth c H locs cells slots Q (F0 m (pc + 3) ls (v :: rest))) : W p l e R s m args below meth c H locs cells slots Q (F0 m pc ls (.ref a :: rest)) := ga_get iX1 rfl 0 (by decide) tm_49 cx hK w q0 he hv hdg kk
theorem gf_X2_40 (cx : ga_cx p m c cc nL s args RX2) (hK : ga_K G s) (w : ga_wd G A s H locs ws) (q0 : Nat) {fs : List Value} (he : ws[q0]? = some (a, .inr (1, fs))) {v : Value} (hv : fs[0]? = some v) (hdg : decode cc pc = .ok (.getfield 40, 3)) (kk : W p l e R s m args below meth c H locs cells slots Q (F0 m (pc + 3) ls (v :: rest))) : W p l e R s m args below meth c H locs cells slots Q (F0 m pc ls (.ref a :: rest)) := ga_get iX1 rfl 0 (by decide) tm_50 cx hK w q0 he hv hdg kk
theorem gf_X6_193 (cx : ga_cx p m c cc nL s args RX6) (hK : ga_K G s) (w : ga_wd G A s H locs ws) (q0 : Nat) {fs : List Value} (he : ws[q0]? = some (a, .inr (1, fs))) {v : Value} (hv : fs[0]? = some v) (hdg : decode cc pc = .ok (.getfield 193, 3)) (kk : W p l e R s m args below meth c H locs cells slots Q (F0 m (pc + 3) ls (v :: rest))) : W p l e R s m args below meth c H locs cells slots Q (F0 m pc ls (.ref a :: rest)) := ga_get iX1 rfl 0 (by decide) tm_51 cx hK w q0 he hv hdg kk
theorem gf_X1_15 (cx : ga_cx p m c cc nL s args RX1) (hK : ga_K G s) (w : ga_wd G A s H locs ws) (q0 : Nat) {fs : List Value} (he : ws[q0]? = some (a, .inr (1, fs))) {v : Value} (hv : fs[1]? = some v) (hdg : decode cc pc = .ok (.getfield 15, 3)) (kk : W p l e R s m args below meth c H locs cells slots Q (F0 m (pc + 3) ls (v :: rest))) : W p l e R s m args below meth c H locs cells slots Q (F0 m pc ls (.ref a :: rest)) := ga_get iX1 rfl 1 (by decide) tm_52 cx hK w q0 he hv hdg kk
theorem pf_X1_15 (cx : ga_cx p m c cc nL s args RX1) (hK : ga_K G s) (w : ga_wd G A s H locs ws) (hi : meth.name = "<init>") (q0 : Nat) {fs : List Value} (he : ws[q0]? = some (a, .inr (1, fs))) {v : Value} (hn : narrow (tyX1 1) v = v) (hfit : fits (tyX1 1) v = true) (hl : 1 < fs.length) (hdg : decode cc pc = .ok (.putfield 15, 3)) (kk : ∀ (H1 : Heap) (locs1 : List Loc), ga_wd G A s H1 locs1 (ws.set q0 (a, .inr (1, fs.set 1 v))) → W p l e R s m args below meth c H1 locs1 cells slots Q (F0 m (pc + 3) ls rest)) : W p l e R s m args below meth c H locs cells slots Q (F0 m pc ls (v :: .ref a :: rest)) := ga_putF iX1 tyX1 tyX1_ok nmX1 rfl 1 (by decide) rfl rfl tm_52 cx hK w hi q0 he hn hfit hl hdg kk
theorem gf_X3_48 (cx : ga_cx p m c cc nL s args RX3) (hK : ga_K G s) (w : ga_wd G A s H locs ws) (q0 : Nat) {fs : List Value} (he : ws[q0]? = some (a, .inr (1, fs))) {v : Value} (hv : fs[1]? = some v) (hdg : decode cc pc = .ok (.getfield 48, 3)) (kk : W p l e R s m args below meth c H locs cells slots Q (F0 m (pc + 3) ls (v :: rest))) : W p l e R s m args below meth c H locs cells slots Q (F0 m pc ls (.ref a :: rest)) := ga_get iX1 rfl 1 (by decide) tm_53 cx hK w q0 he hv hdg kk
theorem gf_X6_196 (cx : ga_cx p m c cc nL s args RX6) (hK : ga_K G s) (w : ga_wd G A s H locs ws) (q0 : Nat) {fs : List Value} (he : ws[q0]? = some (a, .inr (1, fs))) {v : Value} (hv : fs[1]? = some v) (hdg : decode cc pc = .ok (.getfield 196, 3)) (kk : W p l e R s m args below meth c H locs cells slots Q (F0 m (pc + 3) ls (v :: rest))) : W p l e R s m args below meth c H locs cells slots Q (F0 m pc ls (.ref a :: rest)) := ga_get iX1 rfl 1 (by decide) tm_54 cx hK w q0 he hv hdg kk
theorem gf_X1_18 (cx : ga_cx p m c cc nL s args RX1) (hK : ga_K G s) (w : ga_wd G A s H locs ws) (q0 : Nat) {fs : List Value} (he : ws[q0]? = some (a, .inr (1, fs))) {v : Value} (hv : fs[2]? = some v) (hdg : decode cc pc = .ok (.getfield 18, 3)) (kk : W p l e R s m args below meth c H locs cells slots Q (F0 m (pc + 3) ls (v :: rest))) : W p l e R s m args below meth c H locs cells slots Q (F0 m pc ls (.ref a :: rest)) := ga_get iX1 rfl 2 (by decide) tm_55 cx hK w q0 he hv hdg kk
theorem pf_X1_18 (cx : ga_cx p m c cc nL s args RX1) (hK : ga_K G s) (w : ga_wd G A s H locs ws) (hi : meth.name = "<init>") (q0 : Nat) {fs : List Value} (he : ws[q0]? = some (a, .inr (1, fs))) {v : Value} (hn : narrow (tyX1 2) v = v) (hfit : fits (tyX1 2) v = true) (hl : 2 < fs.length) (hdg : decode cc pc = .ok (.putfield 18, 3)) (kk : ∀ (H1 : Heap) (locs1 : List Loc), ga_wd G A s H1 locs1 (ws.set q0 (a, .inr (1, fs.set 2 v))) → W p l e R s m args below meth c H1 locs1 cells slots Q (F0 m (pc + 3) ls rest)) : W p l e R s m args below meth c H locs cells slots Q (F0 m pc ls (v :: .ref a :: rest)) := ga_putF iX1 tyX1 tyX1_ok nmX1 rfl 2 (by decide) rfl rfl tm_55 cx hK w hi q0 he hn hfit hl hdg kk
theorem gf_X4_61 (cx : ga_cx p m c cc nL s args RX4) (hK : ga_K G s) (w : ga_wd G A s H locs ws) (q0 : Nat) {fs : List Value} (he : ws[q0]? = some (a, .inr (1, fs))) {v : Value} (hv : fs[2]? = some v) (hdg : decode cc pc = .ok (.getfield 61, 3)) (kk : W p l e R s m args below meth c H locs cells slots Q (F0 m (pc + 3) ls (v :: rest))) : W p l e R s m args below meth c H locs cells slots Q (F0 m pc ls (.ref a :: rest)) := ga_get iX1 rfl 2 (by decide) tm_56 cx hK w q0 he hv hdg kk
theorem gf_X6_84 (cx : ga_cx p m c cc nL s args RX6) (hK : ga_K G s) (w : ga_wd G A s H locs ws) (q0 : Nat) {fs : List Value} (he : ws[q0]? = some (a, .inr (1, fs))) {v : Value} (hv : fs[2]? = some v) (hdg : decode cc pc = .ok (.getfield 84, 3)) (kk : W p l e R s m args below meth c H locs cells slots Q (F0 m (pc + 3) ls (v :: rest))) : W p l e R s m args below meth c H locs cells slots Q (F0 m pc ls (.ref a :: rest)) := ga_get iX1 rfl 2 (by decide) tm_57 cx hK w q0 he hv hdg kk
theorem gf_X1_21 (cx : ga_cx p m c cc nL s args RX1) (hK : ga_K G s) (w : ga_wd G A s H locs ws) (q0 : Nat) {fs : List Value} (he : ws[q0]? = some (a, .inr (1, fs))) {v : Value} (hv : fs[3]? = some v) (hdg : decode cc pc = .ok (.getfield 21, 3)) (kk : W p l e R s m args below meth c H locs cells slots Q (F0 m (pc + 3) ls (v :: rest))) : W p l e R s m args below meth c H locs cells slots Q (F0 m pc ls (.ref a :: rest)) := ga_get iX1 rfl 3 (by decide) tm_58 cx hK w q0 he hv hdg kk
theorem pf_X1_21 (cx : ga_cx p m c cc nL s args RX1) (hK : ga_K G s) (w : ga_wd G A s H locs ws) (hi : meth.name = "<init>") (q0 : Nat) {fs : List Value} (he : ws[q0]? = some (a, .inr (1, fs))) {v : Value} (hn : narrow (tyX1 3) v = v) (hfit : fits (tyX1 3) v = true) (hl : 3 < fs.length) (hdg : decode cc pc = .ok (.putfield 21, 3)) (kk : ∀ (H1 : Heap) (locs1 : List Loc), ga_wd G A s H1 locs1 (ws.set q0 (a, .inr (1, fs.set 3 v))) → W p l e R s m args below meth c H1 locs1 cells slots Q (F0 m (pc + 3) ls rest)) : W p l e R s m args below meth c H locs cells slots Q (F0 m pc ls (v :: .ref a :: rest)) := ga_putF iX1 tyX1 tyX1_ok nmX1 rfl 3 (by decide) rfl rfl tm_58 cx hK w hi q0 he hn hfit hl hdg kk
theorem gf_X1_24 (cx : ga_cx p m c cc nL s args RX1) (hK : ga_K G s) (w : ga_wd G A s H locs ws) (q0 : Nat) {fs : List Value} (he : ws[q0]? = some (a, .inr (1, fs))) {v : Value} (hv : fs[4]? = some v) (hdg : decode cc pc = .ok (.getfield 24, 3)) (kk : W p l e R s m args below meth c H locs cells slots Q (F0 m (pc + 3) ls (v :: rest))) : W p l e R s m args below meth c H locs cells slots Q (F0 m pc ls (.ref a :: rest)) := ga_get iX1 rfl 4 (by decide) tm_59 cx hK w q0 he hv hdg kk
theorem pf_X1_24 (cx : ga_cx p m c cc nL s args RX1) (hK : ga_K G s) (w : ga_wd G A s H locs ws) (q0 : Nat) {fs : List Value} (he : ws[q0]? = some (a, .inr (1, fs))) {v : Value} (hn : narrow (tyX1 4) v = v) (hfit : fits (tyX1 4) v = true) (hl : 4 < fs.length) (hdg : decode cc pc = .ok (.putfield 24, 3)) (kk : ∀ (H1 : Heap) (locs1 : List Loc), ga_wd G A s H1 locs1 (ws.set q0 (a, .inr (1, fs.set 4 v))) → W p l e R s m args below meth c H1 locs1 cells slots Q (F0 m (pc + 3) ls rest)) : W p l e R s m args below meth c H locs cells slots Q (F0 m pc ls (v :: .ref a :: rest)) := ga_put iX1 tyX1 tyX1_ok nmX1 rfl 4 (by decide) rfl tm_59 cx hK w q0 he hn hfit hl hdg kk
theorem gf_X3_33 (cx : ga_cx p m c cc nL s args RX3) (hK : ga_K G s) (w : ga_wd G A s H locs ws) (q0 : Nat) {fs : List Value} (he : ws[q0]? = some (a, .inr (1, fs))) {v : Value} (hv : fs[4]? = some v) (hdg : decode cc pc = .ok (.getfield 33, 3)) (kk : W p l e R s m args below meth c H locs cells slots Q (F0 m (pc + 3) ls (v :: rest))) : W p l e R s m args below meth c H locs cells slots Q (F0 m pc ls (.ref a :: rest)) := ga_get iX1 rfl 4 (by decide) tm_60 cx hK w q0 he hv hdg kk
theorem pf_X3_33 (cx : ga_cx p m c cc nL s args RX3) (hK : ga_K G s) (w : ga_wd G A s H locs ws) (q0 : Nat) {fs : List Value} (he : ws[q0]? = some (a, .inr (1, fs))) {v : Value} (hn : narrow (tyX1 4) v = v) (hfit : fits (tyX1 4) v = true) (hl : 4 < fs.length) (hdg : decode cc pc = .ok (.putfield 33, 3)) (kk : ∀ (H1 : Heap) (locs1 : List Loc), ga_wd G A s H1 locs1 (ws.set q0 (a, .inr (1, fs.set 4 v))) → W p l e R s m args below meth c H1 locs1 cells slots Q (F0 m (pc + 3) ls rest)) : W p l e R s m args below meth c H locs cells slots Q (F0 m pc ls (v :: .ref a :: rest)) := ga_put iX1 tyX1 tyX1_ok nmX1 rfl 4 (by decide) rfl tm_60 cx hK w q0 he hn hfit hl hdg kk
theorem gf_X6_199 (cx : ga_cx p m c cc nL s args RX6) (hK : ga_K G s) (w : ga_wd G A s H locs ws) (q0 : Nat) {fs : List Value} (he : ws[q0]? = some (a, .inr (1, fs))) {v : Value} (hv : fs[4]? = some v) (hdg : decode cc pc = .ok (.getfield 199, 3)) (kk : W p l e R s m args below meth c H locs cells slots Q (F0 m (pc + 3) ls (v :: rest))) : W p l e R s m args below meth c H locs cells slots Q (F0 m pc ls (.ref a :: rest)) := ga_get iX1 rfl 4 (by decide) tm_61 cx hK w q0 he hv hdg kk
theorem pf_X6_199 (cx : ga_cx p m c cc nL s args RX6) (hK : ga_K G s) (w : ga_wd G A s H locs ws) (q0 : Nat) {fs : List Value} (he : ws[q0]? = some (a, .inr (1, fs))) {v : Value} (hn : narrow (tyX1 4) v = v) (hfit : fits (tyX1 4) v = true) (hl : 4 < fs.length) (hdg : decode cc pc = .ok (.putfield 199, 3)) (kk : ∀ (H1 : Heap) (locs1 : List Loc), ga_wd G A s H1 locs1 (ws.set q0 (a, .inr (1, fs.set 4 v))) → W p l e R s m args below meth c H1 locs1 cells slots Q (F0 m (pc + 3) ls rest)) : W p l e R s m args below meth c H locs cells slots Q (F0 m pc ls (v :: .ref a :: rest)) := ga_put iX1 tyX1 tyX1_ok nmX1 rfl 4 (by decide) rfl tm_61 cx hK w q0 he hn hfit hl hdg kk
theorem gf_X1_28 (cx : ga_cx p m c cc nL s args RX1) (hK : ga_K G s) (w : ga_wd G A s H locs ws) (q0 : Nat) {fs : List Value} (he : ws[q0]? = some (a, .inr (1, fs))) {v : Value} (hv : fs[5]? = some v) (hdg : decode cc pc = .ok (.getfield 28, 3)) (kk : W p l e R s m args below meth c H locs cells slots Q (F0 m (pc + 3) ls (v :: rest))) : W p l e R s m args below meth c H locs cells slots Q (F0 m pc ls (.ref a :: rest)) := ga_get iX1 rfl 5 (by decide) tm_62 cx hK w q0 he hv hdg kk
theorem pf_X1_28 (cx : ga_cx p m c cc nL s args RX1) (hK : ga_K G s) (w : ga_wd G A s H locs ws) (q0 : Nat) {fs : List Value} (he : ws[q0]? = some (a, .inr (1, fs))) {v : Value} (hn : narrow (tyX1 5) v = v) (hfit : fits (tyX1 5) v = true) (hl : 5 < fs.length) (hdg : decode cc pc = .ok (.putfield 28, 3)) (kk : ∀ (H1 : Heap) (locs1 : List Loc), ga_wd G A s H1 locs1 (ws.set q0 (a, .inr (1, fs.set 5 v))) → W p l e R s m args below meth c H1 locs1 cells slots Q (F0 m (pc + 3) ls rest)) : W p l e R s m args below meth c H locs cells slots Q (F0 m pc ls (v :: .ref a :: rest)) := ga_put iX1 tyX1 tyX1_ok nmX1 rfl 5 (by decide) rfl tm_62 cx hK w q0 he hn hfit hl hdg kk
theorem gf_X3_42 (cx : ga_cx p m c cc nL s args RX3) (hK : ga_K G s) (w : ga_wd G A s H locs ws) (q0 : Nat) {fs : List Value} (he : ws[q0]? = some (a, .inr (1, fs))) {v : Value} (hv : fs[5]? = some v) (hdg : decode cc pc = .ok (.getfield 42, 3)) (kk : W p l e R s m args below meth c H locs cells slots Q (F0 m (pc + 3) ls (v :: rest))) : W p l e R s m args below meth c H locs cells slots Q (F0 m pc ls (.ref a :: rest)) := ga_get iX1 rfl 5 (by decide) tm_63 cx hK w q0 he hv hdg kk
theorem pf_X3_42 (cx : ga_cx p m c cc nL s args RX3) (hK : ga_K G s) (w : ga_wd G A s H locs ws) (q0 : Nat) {fs : List Value} (he : ws[q0]? = some (a, .inr (1, fs))) {v : Value} (hn : narrow (tyX1 5) v = v) (hfit : fits (tyX1 5) v = true) (hl : 5 < fs.length) (hdg : decode cc pc = .ok (.putfield 42, 3)) (kk : ∀ (H1 : Heap) (locs1 : List Loc), ga_wd G A s H1 locs1 (ws.set q0 (a, .inr (1, fs.set 5 v))) → W p l e R s m args below meth c H1 locs1 cells slots Q (F0 m (pc + 3) ls rest)) : W p l e R s m args below meth c H locs cells slots Q (F0 m pc ls (v :: .ref a :: rest)) := ga_put iX1 tyX1 tyX1_ok nmX1 rfl 5 (by decide) rfl tm_63 cx hK w q0 he hn hfit hl hdg kk
theorem gf_X4_50 (cx : ga_cx p m c cc nL s args RX4) (hK : ga_K G s) (w : ga_wd G A s H locs ws) (q0 : Nat) {fs : List Value} (he : ws[q0]? = some (a, .inr (1, fs))) {v : Value} (hv : fs[5]? = some v) (hdg : decode cc pc = .ok (.getfield 50, 3)) (kk : W p l e R s m args below meth c H locs cells slots Q (F0 m (pc + 3) ls (v :: rest))) : W p l e R s m args below meth c H locs cells slots Q (F0 m pc ls (.ref a :: rest)) := ga_get iX1 rfl 5 (by decide) tm_64 cx hK w q0 he hv hdg kk
theorem pf_X4_50 (cx : ga_cx p m c cc nL s args RX4) (hK : ga_K G s) (w : ga_wd G A s H locs ws) (q0 : Nat) {fs : List Value} (he : ws[q0]? = some (a, .inr (1, fs))) {v : Value} (hn : narrow (tyX1 5) v = v) (hfit : fits (tyX1 5) v = true) (hl : 5 < fs.length) (hdg : decode cc pc = .ok (.putfield 50, 3)) (kk : ∀ (H1 : Heap) (locs1 : List Loc), ga_wd G A s H1 locs1 (ws.set q0 (a, .inr (1, fs.set 5 v))) → W p l e R s m args below meth c H1 locs1 cells slots Q (F0 m (pc + 3) ls rest)) : W p l e R s m args below meth c H locs cells slots Q (F0 m pc ls (v :: .ref a :: rest)) := ga_put iX1 tyX1 tyX1_ok nmX1 rfl 5 (by decide) rfl tm_64 cx hK w q0 he hn hfit hl hdg kk
theorem gf_X6_73 (cx : ga_cx p m c cc nL s args RX6) (hK : ga_K G s) (w : ga_wd G A s H locs ws) (q0 : Nat) {fs : List Value} (he : ws[q0]? = some (a, .inr (1, fs))) {v : Value} (hv : fs[5]? = some v) (hdg : decode cc pc = .ok (.getfield 73, 3)) (kk : W p l e R s m args below meth c H locs cells slots Q (F0 m (pc + 3) ls (v :: rest))) : W p l e R s m args below meth c H locs cells slots Q (F0 m pc ls (.ref a :: rest)) := ga_get iX1 rfl 5 (by decide) tm_65 cx hK w q0 he hv hdg kk
theorem pf_X6_73 (cx : ga_cx p m c cc nL s args RX6) (hK : ga_K G s) (w : ga_wd G A s H locs ws) (q0 : Nat) {fs : List Value} (he : ws[q0]? = some (a, .inr (1, fs))) {v : Value} (hn : narrow (tyX1 5) v = v) (hfit : fits (tyX1 5) v = true) (hl : 5 < fs.length) (hdg : decode cc pc = .ok (.putfield 73, 3)) (kk : ∀ (H1 : Heap) (locs1 : List Loc), ga_wd G A s H1 locs1 (ws.set q0 (a, .inr (1, fs.set 5 v))) → W p l e R s m args below meth c H1 locs1 cells slots Q (F0 m (pc + 3) ls rest)) : W p l e R s m args below meth c H locs cells slots Q (F0 m pc ls (v :: .ref a :: rest)) := ga_put iX1 tyX1 tyX1_ok nmX1 rfl 5 (by decide) rfl tm_65 cx hK w q0 he hn hfit hl hdg kk
theorem gf_X1_31 (cx : ga_cx p m c cc nL s args RX1) (hK : ga_K G s) (w : ga_wd G A s H locs ws) (q0 : Nat) {fs : List Value} (he : ws[q0]? = some (a, .inr (1, fs))) {v : Value} (hv : fs[6]? = some v) (hdg : decode cc pc = .ok (.getfield 31, 3)) (kk : W p l e R s m args below meth c H locs cells slots Q (F0 m (pc + 3) ls (v :: rest))) : W p l e R s m args below meth c H locs cells slots Q (F0 m pc ls (.ref a :: rest)) := ga_get iX1 rfl 6 (by decide) tm_66 cx hK w q0 he hv hdg kk
theorem pf_X1_31 (cx : ga_cx p m c cc nL s args RX1) (hK : ga_K G s) (w : ga_wd G A s H locs ws) (q0 : Nat) {fs : List Value} (he : ws[q0]? = some (a, .inr (1, fs))) {v : Value} (hn : narrow (tyX1 6) v = v) (hfit : fits (tyX1 6) v = true) (hl : 6 < fs.length) (hdg : decode cc pc = .ok (.putfield 31, 3)) (kk : ∀ (H1 : Heap) (locs1 : List Loc), ga_wd G A s H1 locs1 (ws.set q0 (a, .inr (1, fs.set 6 v))) → W p l e R s m args below meth c H1 locs1 cells slots Q (F0 m (pc + 3) ls rest)) : W p l e R s m args below meth c H locs cells slots Q (F0 m pc ls (v :: .ref a :: rest)) := ga_put iX1 tyX1 tyX1_ok nmX1 rfl 6 (by decide) rfl tm_66 cx hK w q0 he hn hfit hl hdg kk
theorem gf_X2_43 (cx : ga_cx p m c cc nL s args RX2) (hK : ga_K G s) (w : ga_wd G A s H locs ws) (q0 : Nat) {fs : List Value} (he : ws[q0]? = some (a, .inr (1, fs))) {v : Value} (hv : fs[6]? = some v) (hdg : decode cc pc = .ok (.getfield 43, 3)) (kk : W p l e R s m args below meth c H locs cells slots Q (F0 m (pc + 3) ls (v :: rest))) : W p l e R s m args below meth c H locs cells slots Q (F0 m pc ls (.ref a :: rest)) := ga_get iX1 rfl 6 (by decide) tm_67 cx hK w q0 he hv hdg kk
theorem pf_X2_43 (cx : ga_cx p m c cc nL s args RX2) (hK : ga_K G s) (w : ga_wd G A s H locs ws) (q0 : Nat) {fs : List Value} (he : ws[q0]? = some (a, .inr (1, fs))) {v : Value} (hn : narrow (tyX1 6) v = v) (hfit : fits (tyX1 6) v = true) (hl : 6 < fs.length) (hdg : decode cc pc = .ok (.putfield 43, 3)) (kk : ∀ (H1 : Heap) (locs1 : List Loc), ga_wd G A s H1 locs1 (ws.set q0 (a, .inr (1, fs.set 6 v))) → W p l e R s m args below meth c H1 locs1 cells slots Q (F0 m (pc + 3) ls rest)) : W p l e R s m args below meth c H locs cells slots Q (F0 m pc ls (v :: .ref a :: rest)) := ga_put iX1 tyX1 tyX1_ok nmX1 rfl 6 (by decide) rfl tm_67 cx hK w q0 he hn hfit hl hdg kk
theorem gf_X6_88 (cx : ga_cx p m c cc nL s args RX6) (hK : ga_K G s) (w : ga_wd G A s H locs ws) (q0 : Nat) {fs : List Value} (he : ws[q0]? = some (a, .inr (1, fs))) {v : Value} (hv : fs[6]? = some v) (hdg : decode cc pc = .ok (.getfield 88, 3)) (kk : W p l e R s m args below meth c H locs cells slots Q (F0 m (pc + 3) ls (v :: rest))) : W p l e R s m args below meth c H locs cells slots Q (F0 m pc ls (.ref a :: rest)) := ga_get iX1 rfl 6 (by decide) tm_68 cx hK w q0 he hv hdg kk
theorem pf_X6_88 (cx : ga_cx p m c cc nL s args RX6) (hK : ga_K G s) (w : ga_wd G A s H locs ws) (q0 : Nat) {fs : List Value} (he : ws[q0]? = some (a, .inr (1, fs))) {v : Value} (hn : narrow (tyX1 6) v = v) (hfit : fits (tyX1 6) v = true) (hl : 6 < fs.length) (hdg : decode cc pc = .ok (.putfield 88, 3)) (kk : ∀ (H1 : Heap) (locs1 : List Loc), ga_wd G A s H1 locs1 (ws.set q0 (a, .inr (1, fs.set 6 v))) → W p l e R s m args below meth c H1 locs1 cells slots Q (F0 m (pc + 3) ls rest)) : W p l e R s m args below meth c H locs cells slots Q (F0 m pc ls (v :: .ref a :: rest)) := ga_put iX1 tyX1 tyX1_ok nmX1 rfl 6 (by decide) rfl tm_68 cx hK w q0 he hn hfit hl hdg kk
theorem gf_X1_34 (cx : ga_cx p m c cc nL s args RX1) (hK : ga_K G s) (w : ga_wd G A s H locs ws) (q0 : Nat) {fs : List Value} (he : ws[q0]? = some (a, .inr (1, fs))) {v : Value} (hv : fs[7]? = some v) (hdg : decode cc pc = .ok (.getfield 34, 3)) (kk : W p l e R s m args below meth c H locs cells slots Q (F0 m (pc + 3) ls (v :: rest))) : W p l e R s m args below meth c H locs cells slots Q (F0 m pc ls (.ref a :: rest)) := ga_get iX1 rfl 7 (by decide) tm_69 cx hK w q0 he hv hdg kk
theorem pf_X1_34 (cx : ga_cx p m c cc nL s args RX1) (hK : ga_K G s) (w : ga_wd G A s H locs ws) (q0 : Nat) {fs : List Value} (he : ws[q0]? = some (a, .inr (1, fs))) {v : Value} (hn : narrow (tyX1 7) v = v) (hfit : fits (tyX1 7) v = true) (hl : 7 < fs.length) (hdg : decode cc pc = .ok (.putfield 34, 3)) (kk : ∀ (H1 : Heap) (locs1 : List Loc), ga_wd G A s H1 locs1 (ws.set q0 (a, .inr (1, fs.set 7 v))) → W p l e R s m args below meth c H1 locs1 cells slots Q (F0 m (pc + 3) ls rest)) : W p l e R s m args below meth c H locs cells slots Q (F0 m pc ls (v :: .ref a :: rest)) := ga_put iX1 tyX1 tyX1_ok nmX1 rfl 7 (by decide) rfl tm_69 cx hK w q0 he hn hfit hl hdg kk
theorem gf_X6_95 (cx : ga_cx p m c cc nL s args RX6) (hK : ga_K G s) (w : ga_wd G A s H locs ws) (q0 : Nat) {fs : List Value} (he : ws[q0]? = some (a, .inr (1, fs))) {v : Value} (hv : fs[7]? = some v) (hdg : decode cc pc = .ok (.getfield 95, 3)) (kk : W p l e R s m args below meth c H locs cells slots Q (F0 m (pc + 3) ls (v :: rest))) : W p l e R s m args below meth c H locs cells slots Q (F0 m pc ls (.ref a :: rest)) := ga_get iX1 rfl 7 (by decide) tm_70 cx hK w q0 he hv hdg kk
theorem pf_X6_95 (cx : ga_cx p m c cc nL s args RX6) (hK : ga_K G s) (w : ga_wd G A s H locs ws) (q0 : Nat) {fs : List Value} (he : ws[q0]? = some (a, .inr (1, fs))) {v : Value} (hn : narrow (tyX1 7) v = v) (hfit : fits (tyX1 7) v = true) (hl : 7 < fs.length) (hdg : decode cc pc = .ok (.putfield 95, 3)) (kk : ∀ (H1 : Heap) (locs1 : List Loc), ga_wd G A s H1 locs1 (ws.set q0 (a, .inr (1, fs.set 7 v))) → W p l e R s m args below meth c H1 locs1 cells slots Q (F0 m (pc + 3) ls rest)) : W p l e R s m args below meth c H locs cells slots Q (F0 m pc ls (v :: .ref a :: rest)) := ga_put iX1 tyX1 tyX1_ok nmX1 rfl 7 (by decide) rfl tm_70 cx hK w q0 he hn hfit hl hdg kk
theorem gf_X3_9 (cx : ga_cx p m c cc nL s args RX3) (hK : ga_K G s) (w : ga_wd G A s H locs ws) (q0 : Nat) {fs : List Value} (he : ws[q0]? = some (a, .inr (3, fs))) {v : Value} (hv : fs[0]? = some v) (hdg : decode cc pc = .ok (.getfield 9, 3)) (kk : W p l e R s m args below meth c H locs cells slots Q (F0 m (pc + 3) ls (v :: rest))) : W p l e R s m args below meth c H locs cells slots Q (F0 m pc ls (.ref a :: rest)) := ga_get iX3 rfl 0 (by decide) tm_95 cx hK w q0 he hv hdg kk
theorem pf_X3_9 (cx : ga_cx p m c cc nL s args RX3) (hK : ga_K G s) (w : ga_wd G A s H locs ws) (hi : meth.name = "<init>") (q0 : Nat) {fs : List Value} (he : ws[q0]? = some (a, .inr (3, fs))) {v : Value} (hn : narrow (tyX3 0) v = v) (hfit : fits (tyX3 0) v = true) (hl : 0 < fs.length) (hdg : decode cc pc = .ok (.putfield 9, 3)) (kk : ∀ (H1 : Heap) (locs1 : List Loc), ga_wd G A s H1 locs1 (ws.set q0 (a, .inr (3, fs.set 0 v))) → W p l e R s m args below meth c H1 locs1 cells slots Q (F0 m (pc + 3) ls rest)) : W p l e R s m args below meth c H locs cells slots Q (F0 m pc ls (v :: .ref a :: rest)) := ga_putF iX3 tyX3 tyX3_ok nmX3 rfl 0 (by decide) rfl rfl tm_95 cx hK w hi q0 he hn hfit hl hdg kk
theorem gf_X0_29 (cx : ga_cx p m c cc nL s args RX0) (hK : ga_K G s) (w : ga_wd G A s H locs ws) (q0 : Nat) {fs : List Value} (he : ws[q0]? = some (a, .inr (3, fs))) {v : Value} (hv : fs[0]? = some v) (hdg : decode cc pc = .ok (.getfield 29, 3)) (kk : W p l e R s m args below meth c H locs cells slots Q (F0 m (pc + 3) ls (v :: rest))) : W p l e R s m args below meth c H locs cells slots Q (F0 m pc ls (.ref a :: rest)) := ga_get iX3 rfl 0 (by decide) tm_96 cx hK w q0 he hv hdg kk
theorem gf_X2_62 (cx : ga_cx p m c cc nL s args RX2) (hK : ga_K G s) (w : ga_wd G A s H locs ws) (q0 : Nat) {fs : List Value} (he : ws[q0]? = some (a, .inr (3, fs))) {v : Value} (hv : fs[0]? = some v) (hdg : decode cc pc = .ok (.getfield 62, 3)) (kk : W p l e R s m args below meth c H locs cells slots Q (F0 m (pc + 3) ls (v :: rest))) : W p l e R s m args below meth c H locs cells slots Q (F0 m pc ls (.ref a :: rest)) := ga_get iX3 rfl 0 (by decide) tm_97 cx hK w q0 he hv hdg kk
theorem gf_X6_112 (cx : ga_cx p m c cc nL s args RX6) (hK : ga_K G s) (w : ga_wd G A s H locs ws) (q0 : Nat) {fs : List Value} (he : ws[q0]? = some (a, .inr (3, fs))) {v : Value} (hv : fs[0]? = some v) (hdg : decode cc pc = .ok (.getfield 112, 3)) (kk : W p l e R s m args below meth c H locs cells slots Q (F0 m (pc + 3) ls (v :: rest))) : W p l e R s m args below meth c H locs cells slots Q (F0 m pc ls (.ref a :: rest)) := ga_get iX3 rfl 0 (by decide) tm_98 cx hK w q0 he hv hdg kk
theorem gf_X3_15 (cx : ga_cx p m c cc nL s args RX3) (hK : ga_K G s) (w : ga_wd G A s H locs ws) (q0 : Nat) {fs : List Value} (he : ws[q0]? = some (a, .inr (3, fs))) {v : Value} (hv : fs[1]? = some v) (hdg : decode cc pc = .ok (.getfield 15, 3)) (kk : W p l e R s m args below meth c H locs cells slots Q (F0 m (pc + 3) ls (v :: rest))) : W p l e R s m args below meth c H locs cells slots Q (F0 m pc ls (.ref a :: rest)) := ga_get iX3 rfl 1 (by decide) tm_99 cx hK w q0 he hv hdg kk
theorem pf_X3_15 (cx : ga_cx p m c cc nL s args RX3) (hK : ga_K G s) (w : ga_wd G A s H locs ws) (hi : meth.name = "<init>") (q0 : Nat) {fs : List Value} (he : ws[q0]? = some (a, .inr (3, fs))) {v : Value} (hn : narrow (tyX3 1) v = v) (hfit : fits (tyX3 1) v = true) (hl : 1 < fs.length) (hdg : decode cc pc = .ok (.putfield 15, 3)) (kk : ∀ (H1 : Heap) (locs1 : List Loc), ga_wd G A s H1 locs1 (ws.set q0 (a, .inr (3, fs.set 1 v))) → W p l e R s m args below meth c H1 locs1 cells slots Q (F0 m (pc + 3) ls rest)) : W p l e R s m args below meth c H locs cells slots Q (F0 m pc ls (v :: .ref a :: rest)) := ga_putF iX3 tyX3 tyX3_ok nmX3 rfl 1 (by decide) rfl rfl tm_99 cx hK w hi q0 he hn hfit hl hdg kk
theorem gf_X0_26 (cx : ga_cx p m c cc nL s args RX0) (hK : ga_K G s) (w : ga_wd G A s H locs ws) (q0 : Nat) {fs : List Value} (he : ws[q0]? = some (a, .inr (3, fs))) {v : Value} (hv : fs[1]? = some v) (hdg : decode cc pc = .ok (.getfield 26, 3)) (kk : W p l e R s m args below meth c H locs cells slots Q (F0 m (pc + 3) ls (v :: rest))) : W p l e R s m args below meth c H locs cells slots Q (F0 m pc ls (.ref a :: rest)) := ga_get iX3 rfl 1 (by decide) tm_100 cx hK w q0 he hv hdg kk
theorem gf_X6_183 (cx : ga_cx p m c cc nL s args RX6) (hK : ga_K G s) (w : ga_wd G A s H locs ws) (q0 : Nat) {fs : List Value} (he : ws[q0]? = some (a, .inr (3, fs))) {v : Value} (hv : fs[1]? = some v) (hdg : decode cc pc = .ok (.getfield 183, 3)) (kk : W p l e R s m args below meth c H locs cells slots Q (F0 m (pc + 3) ls (v :: rest))) : W p l e R s m args below meth c H locs cells slots Q (F0 m pc ls (.ref a :: rest)) := ga_get iX3 rfl 1 (by decide) tm_101 cx hK w q0 he hv hdg kk
theorem gf_X3_22 (cx : ga_cx p m c cc nL s args RX3) (hK : ga_K G s) (w : ga_wd G A s H locs ws) (q0 : Nat) {fs : List Value} (he : ws[q0]? = some (a, .inr (3, fs))) {v : Value} (hv : fs[2]? = some v) (hdg : decode cc pc = .ok (.getfield 22, 3)) (kk : W p l e R s m args below meth c H locs cells slots Q (F0 m (pc + 3) ls (v :: rest))) : W p l e R s m args below meth c H locs cells slots Q (F0 m pc ls (.ref a :: rest)) := ga_get iX3 rfl 2 (by decide) tm_102 cx hK w q0 he hv hdg kk
theorem pf_X3_22 (cx : ga_cx p m c cc nL s args RX3) (hK : ga_K G s) (w : ga_wd G A s H locs ws) (q0 : Nat) {fs : List Value} (he : ws[q0]? = some (a, .inr (3, fs))) {v : Value} (hn : narrow (tyX3 2) v = v) (hfit : fits (tyX3 2) v = true) (hl : 2 < fs.length) (hdg : decode cc pc = .ok (.putfield 22, 3)) (kk : ∀ (H1 : Heap) (locs1 : List Loc), ga_wd G A s H1 locs1 (ws.set q0 (a, .inr (3, fs.set 2 v))) → W p l e R s m args below meth c H1 locs1 cells slots Q (F0 m (pc + 3) ls rest)) : W p l e R s m args below meth c H locs cells slots Q (F0 m pc ls (v :: .ref a :: rest)) := ga_put iX3 tyX3 tyX3_ok nmX3 rfl 2 (by decide) rfl tm_102 cx hK w q0 he hn hfit hl hdg kk
theorem gf_X0_23 (cx : ga_cx p m c cc nL s args RX0) (hK : ga_K G s) (w : ga_wd G A s H locs ws) (q0 : Nat) {fs : List Value} (he : ws[q0]? = some (a, .inr (3, fs))) {v : Value} (hv : fs[2]? = some v) (hdg : decode cc pc = .ok (.getfield 23, 3)) (kk : W p l e R s m args below meth c H locs cells slots Q (F0 m (pc + 3) ls (v :: rest))) : W p l e R s m args below meth c H locs cells slots Q (F0 m pc ls (.ref a :: rest)) := ga_get iX3 rfl 2 (by decide) tm_103 cx hK w q0 he hv hdg kk
theorem pf_X0_23 (cx : ga_cx p m c cc nL s args RX0) (hK : ga_K G s) (w : ga_wd G A s H locs ws) (q0 : Nat) {fs : List Value} (he : ws[q0]? = some (a, .inr (3, fs))) {v : Value} (hn : narrow (tyX3 2) v = v) (hfit : fits (tyX3 2) v = true) (hl : 2 < fs.length) (hdg : decode cc pc = .ok (.putfield 23, 3)) (kk : ∀ (H1 : Heap) (locs1 : List Loc), ga_wd G A s H1 locs1 (ws.set q0 (a, .inr (3, fs.set 2 v))) → W p l e R s m args below meth c H1 locs1 cells slots Q (F0 m (pc + 3) ls rest)) : W p l e R s m args below meth c H locs cells slots Q (F0 m pc ls (v :: .ref a :: rest)) := ga_put iX3 tyX3 tyX3_ok nmX3 rfl 2 (by decide) rfl tm_103 cx hK w q0 he hn hfit hl hdg kk
theorem gf_X2_57 (cx : ga_cx p m c cc nL s args RX2) (hK : ga_K G s) (w : ga_wd G A s H locs ws) (q0 : Nat) {fs : List Value} (he : ws[q0]? = some (a, .inr (3, fs))) {v : Value} (hv : fs[2]? = some v) (hdg : decode cc pc = .ok (.getfield 57, 3)) (kk : W p l e R s m args below meth c H locs cells slots Q (F0 m (pc + 3) ls (v :: rest))) : W p l e R s m args below meth c H locs cells slots Q (F0 m pc ls (.ref a :: rest)) := ga_get iX3 rfl 2 (by decide) tm_104 cx hK w q0 he hv hdg kk
theorem pf_X2_57 (cx : ga_cx p m c cc nL s args RX2) (hK : ga_K G s) (w : ga_wd G A s H locs ws) (q0 : Nat) {fs : List Value} (he : ws[q0]? = some (a, .inr (3, fs))) {v : Value} (hn : narrow (tyX3 2) v = v) (hfit : fits (tyX3 2) v = true) (hl : 2 < fs.length) (hdg : decode cc pc = .ok (.putfield 57, 3)) (kk : ∀ (H1 : Heap) (locs1 : List Loc), ga_wd G A s H1 locs1 (ws.set q0 (a, .inr (3, fs.set 2 v))) → W p l e R s m args below meth c H1 locs1 cells slots Q (F0 m (pc + 3) ls rest)) : W p l e R s m args below meth c H locs cells slots Q (F0 m pc ls (v :: .ref a :: rest)) := ga_put iX3 tyX3 tyX3_ok nmX3 rfl 2 (by decide) rfl tm_104 cx hK w q0 he hn hfit hl hdg kk
theorem gf_X6_106 (cx : ga_cx p m c cc nL s args RX6) (hK : ga_K G s) (w : ga_wd G A s H locs ws) (q0 : Nat) {fs : List Value} (he : ws[q0]? = some (a, .inr (3, fs))) {v : Value} (hv : fs[2]? = some v) (hdg : decode cc pc = .ok (.getfield 106, 3)) (kk : W p l e R s m args below meth c H locs cells slots Q (F0 m (pc + 3) ls (v :: rest))) : W p l e R s m args below meth c H locs cells slots Q (F0 m pc ls (.ref a :: rest)) := ga_get iX3 rfl 2 (by decide) tm_105 cx hK w q0 he hv hdg kk
theorem pf_X6_106 (cx : ga_cx p m c cc nL s args RX6) (hK : ga_K G s) (w : ga_wd G A s H locs ws) (q0 : Nat) {fs : List Value} (he : ws[q0]? = some (a, .inr (3, fs))) {v : Value} (hn : narrow (tyX3 2) v = v) (hfit : fits (tyX3 2) v = true) (hl : 2 < fs.length) (hdg : decode cc pc = .ok (.putfield 106, 3)) (kk : ∀ (H1 : Heap) (locs1 : List Loc), ga_wd G A s H1 locs1 (ws.set q0 (a, .inr (3, fs.set 2 v))) → W p l e R s m args below meth c H1 locs1 cells slots Q (F0 m (pc + 3) ls rest)) : W p l e R s m args below meth c H locs cells slots Q (F0 m pc ls (v :: .ref a :: rest)) := ga_put iX3 tyX3 tyX3_ok nmX3 rfl 2 (by decide) rfl tm_105 cx hK w q0 he hn hfit hl hdg kk
theorem gf_X3_26 (cx : ga_cx p m c cc nL s args RX3) (hK : ga_K G s) (w : ga_wd G A s H locs ws) (q0 : Nat) {fs : List Value} (he : ws[q0]? = some (a, .inr (3, fs))) {v : Value} (hv : fs[3]? = some v) (hdg : decode cc pc = .ok (.getfield 26, 3)) (kk : W p l e R s m args below meth c H locs cells slots Q (F0 m (pc + 3) ls (v :: rest))) : W p l e R s m args below meth c H locs cells slots Q (F0 m pc ls (.ref a :: rest)) := ga_get iX3 rfl 3 (by decide) tm_106 cx hK w q0 he hv hdg kk
theorem pf_X3_26 (cx : ga_cx p m c cc nL s args RX3) (hK : ga_K G s) (w : ga_wd G A s H locs ws) (q0 : Nat) {fs : List Value} (he : ws[q0]? = some (a, .inr (3, fs))) {v : Value} (hn : narrow (tyX3 3) v = v) (hfit : fits (tyX3 3) v = true) (hl : 3 < fs.length) (hdg : decode cc pc = .ok (.putfield 26, 3)) (kk : ∀ (H1 : Heap) (locs1 : List Loc), ga_wd G A s H1 locs1 (ws.set q0 (a, .inr (3, fs.set 3 v))) → W p l e R s m args below meth c H1 locs1 cells slots Q (F0 m (pc + 3) ls rest)) : W p l e R s m args below meth c H locs cells slots Q (F0 m pc ls (v :: .ref a :: rest)) := ga_put iX3 tyX3 tyX3_ok nmX3 rfl 3 (by decide) rfl tm_106 cx hK w q0 he hn hfit hl hdg kk
theorem gf_X6_212 (cx : ga_cx p m c cc nL s args RX6) (hK : ga_K G s) (w : ga_wd G A s H locs ws) (q0 : Nat) {fs : List Value} (he : ws[q0]? = some (a, .inr (3, fs))) {v : Value} (hv : fs[3]? = some v) (hdg : decode cc pc = .ok (.getfield 212, 3)) (kk : W p l e R s m args below meth c H locs cells slots Q (F0 m (pc + 3) ls (v :: rest))) : W p l e R s m args below meth c H locs cells slots Q (F0 m pc ls (.ref a :: rest)) := ga_get iX3 rfl 3 (by decide) tm_107 cx hK w q0 he hv hdg kk
theorem pf_X6_212 (cx : ga_cx p m c cc nL s args RX6) (hK : ga_K G s) (w : ga_wd G A s H locs ws) (q0 : Nat) {fs : List Value} (he : ws[q0]? = some (a, .inr (3, fs))) {v : Value} (hn : narrow (tyX3 3) v = v) (hfit : fits (tyX3 3) v = true) (hl : 3 < fs.length) (hdg : decode cc pc = .ok (.putfield 212, 3)) (kk : ∀ (H1 : Heap) (locs1 : List Loc), ga_wd G A s H1 locs1 (ws.set q0 (a, .inr (3, fs.set 3 v))) → W p l e R s m args below meth c H1 locs1 cells slots Q (F0 m (pc + 3) ls rest)) : W p l e R s m args below meth c H locs cells slots Q (F0 m pc ls (v :: .ref a :: rest)) := ga_put iX3 tyX3 tyX3_ok nmX3 rfl 3 (by decide) rfl tm_107 cx hK w q0 he hn hfit hl hdg kk
theorem gf_X3_18 (cx : ga_cx p m c cc nL s args RX3) (hK : ga_K G s) (w : ga_wd G A s H locs ws) (q0 : Nat) {fs : List Value} (he : ws[q0]? = some (a, .inr (3, fs))) {v : Value} (hv : fs[4]? = some v) (hdg : decode cc pc = .ok (.getfield 18, 3)) (kk : W p l e R s m args below meth c H locs cells slots Q (F0 m (pc + 3) ls (v :: rest))) : W p l e R s m args below meth c H locs cells slots Q (F0 m pc ls (.ref a :: rest)) := ga_get iX3 rfl 4 (by decide) tm_108 cx hK w q0 he hv hdg kk
theorem pf_X3_18 (cx : ga_cx p m c cc nL s args RX3) (hK : ga_K G s) (w : ga_wd G A s H locs ws) (q0 : Nat) {fs : List Value} (he : ws[q0]? = some (a, .inr (3, fs))) {v : Value} (hn : narrow (tyX3 4) v = v) (hfit : fits (tyX3 4) v = true) (hl : 4 < fs.length) (hdg : decode cc pc = .ok (.putfield 18, 3)) (kk : ∀ (H1 : Heap) (locs1 : List Loc), ga_wd G A s H1 locs1 (ws.set q0 (a, .inr (3, fs.set 4 v))) → W p l e R s m args below meth c H1 locs1 cells slots Q (F0 m (pc + 3) ls rest)) : W p l e R s m args below meth c H locs cells slots Q (F0 m pc ls (v :: .ref a :: rest)) := ga_put iX3 tyX3 tyX3_ok nmX3 rfl 4 (by decide) rfl tm_108 cx hK w q0 he hn hfit hl hdg kk
theorem gf_X6_208 (cx : ga_cx p m c cc nL s args RX6) (hK : ga_K G s) (w : ga_wd G A s H locs ws) (q0 : Nat) {fs : List Value} (he : ws[q0]? = some (a, .inr (3, fs))) {v : Value} (hv : fs[4]? = some v) (hdg : decode cc pc = .ok (.getfield 208, 3)) (kk : W p l e R s m args below meth c H locs cells slots Q (F0 m (pc + 3) ls (v :: rest))) : W p l e R s m args below meth c H locs cells slots Q (F0 m pc ls (.ref a :: rest)) := ga_get iX3 rfl 4 (by decide) tm_109 cx hK w q0 he hv hdg kk
theorem pf_X6_208 (cx : ga_cx p m c cc nL s args RX6) (hK : ga_K G s) (w : ga_wd G A s H locs ws) (q0 : Nat) {fs : List Value} (he : ws[q0]? = some (a, .inr (3, fs))) {v : Value} (hn : narrow (tyX3 4) v = v) (hfit : fits (tyX3 4) v = true) (hl : 4 < fs.length) (hdg : decode cc pc = .ok (.putfield 208, 3)) (kk : ∀ (H1 : Heap) (locs1 : List Loc), ga_wd G A s H1 locs1 (ws.set q0 (a, .inr (3, fs.set 4 v))) → W p l e R s m args below meth c H1 locs1 cells slots Q (F0 m (pc + 3) ls rest)) : W p l e R s m args below meth c H locs cells slots Q (F0 m pc ls (v :: .ref a :: rest)) := ga_put iX3 tyX3 tyX3_ok nmX3 rfl 4 (by decide) rfl tm_109 cx hK w q0 he hn hfit hl hdg kk
theorem gf_X0_9 (cx : ga_cx p m c cc nL s args RX0) (hK : ga_K G s) (w : ga_wd G A s H locs ws) (q0 : Nat) {fs : List Value} (he : ws[q0]? = some (a, .inr (0, fs))) {v : Value} (hv : fs[0]? = some v) (hdg : decode cc pc = .ok (.getfield 9, 3)) (kk : W p l e R s m args below meth c H locs cells slots Q (F0 m (pc + 3) ls (v :: rest))) : W p l e R s m args below meth c H locs cells slots Q (F0 m pc ls (.ref a :: rest)) := ga_get iX0 rfl 0 (by decide) tm_127 cx hK w q0 he hv hdg kk
theorem pf_X0_9 (cx : ga_cx p m c cc nL s args RX0) (hK : ga_K G s) (w : ga_wd G A s H locs ws) (q0 : Nat) {fs : List Value} (he : ws[q0]? = some (a, .inr (0, fs))) {v : Value} (hn : narrow (tyX0 0) v = v) (hfit : fits (tyX0 0) v = true) (hl : 0 < fs.length) (hdg : decode cc pc = .ok (.putfield 9, 3)) (kk : ∀ (H1 : Heap) (locs1 : List Loc), ga_wd G A s H1 locs1 (ws.set q0 (a, .inr (0, fs.set 0 v))) → W p l e R s m args below meth c H1 locs1 cells slots Q (F0 m (pc + 3) ls rest)) : W p l e R s m args below meth c H locs cells slots Q (F0 m pc ls (v :: .ref a :: rest)) := ga_put iX0 tyX0 tyX0_ok nmX0 rfl 0 (by decide) rfl tm_127 cx hK w q0 he hn hfit hl hdg kk
theorem gf_X4_53 (cx : ga_cx p m c cc nL s args RX4) (hK : ga_K G s) (w : ga_wd G A s H locs ws) (q0 : Nat) {fs : List Value} (he : ws[q0]? = some (a, .inr (0, fs))) {v : Value} (hv : fs[0]? = some v) (hdg : decode cc pc = .ok (.getfield 53, 3)) (kk : W p l e R s m args below meth c H locs cells slots Q (F0 m (pc + 3) ls (v :: rest))) : W p l e R s m args below meth c H locs cells slots Q (F0 m pc ls (.ref a :: rest)) := ga_get iX0 rfl 0 (by decide) tm_128 cx hK w q0 he hv hdg kk
theorem pf_X4_53 (cx : ga_cx p m c cc nL s args RX4) (hK : ga_K G s) (w : ga_wd G A s H locs ws) (q0 : Nat) {fs : List Value} (he : ws[q0]? = some (a, .inr (0, fs))) {v : Value} (hn : narrow (tyX0 0) v = v) (hfit : fits (tyX0 0) v = true) (hl : 0 < fs.length) (hdg : decode cc pc = .ok (.putfield 53, 3)) (kk : ∀ (H1 : Heap) (locs1 : List Loc), ga_wd G A s H1 locs1 (ws.set q0 (a, .inr (0, fs.set 0 v))) → W p l e R s m args below meth c H1 locs1 cells slots Q (F0 m (pc + 3) ls rest)) : W p l e R s m args below meth c H locs cells slots Q (F0 m pc ls (v :: .ref a :: rest)) := ga_put iX0 tyX0 tyX0_ok nmX0 rfl 0 (by decide) rfl tm_128 cx hK w q0 he hn hfit hl hdg kk
theorem gf_X0_19 (cx : ga_cx p m c cc nL s args RX0) (hK : ga_K G s) (w : ga_wd G A s H locs ws) (q0 : Nat) {fs : List Value} (he : ws[q0]? = some (a, .inr (0, fs))) {v : Value} (hv : fs[1]? = some v) (hdg : decode cc pc = .ok (.getfield 19, 3)) (kk : W p l e R s m args below meth c H locs cells slots Q (F0 m (pc + 3) ls (v :: rest))) : W p l e R s m args below meth c H locs cells slots Q (F0 m pc ls (.ref a :: rest)) := ga_get iX0 rfl 1 (by decide) tm_129 cx hK w q0 he hv hdg kk
theorem pf_X0_19 (cx : ga_cx p m c cc nL s args RX0) (hK : ga_K G s) (w : ga_wd G A s H locs ws) (q0 : Nat) {fs : List Value} (he : ws[q0]? = some (a, .inr (0, fs))) {v : Value} (hn : narrow (tyX0 1) v = v) (hfit : fits (tyX0 1) v = true) (hl : 1 < fs.length) (hdg : decode cc pc = .ok (.putfield 19, 3)) (kk : ∀ (H1 : Heap) (locs1 : List Loc), ga_wd G A s H1 locs1 (ws.set q0 (a, .inr (0, fs.set 1 v))) → W p l e R s m args below meth c H1 locs1 cells slots Q (F0 m (pc + 3) ls rest)) : W p l e R s m args below meth c H locs cells slots Q (F0 m pc ls (v :: .ref a :: rest)) := ga_put iX0 tyX0 tyX0_ok nmX0 rfl 1 (by decide) rfl tm_129 cx hK w q0 he hn hfit hl hdg kk
theorem gf_X4_43 (cx : ga_cx p m c cc nL s args RX4) (hK : ga_K G s) (w : ga_wd G A s H locs ws) (q0 : Nat) {fs : List Value} (he : ws[q0]? = some (a, .inr (0, fs))) {v : Value} (hv : fs[1]? = some v) (hdg : decode cc pc = .ok (.getfield 43, 3)) (kk : W p l e R s m args below meth c H locs cells slots Q (F0 m (pc + 3) ls (v :: rest))) : W p l e R s m args below meth c H locs cells slots Q (F0 m pc ls (.ref a :: rest)) := ga_get iX0 rfl 1 (by decide) tm_130 cx hK w q0 he hv hdg kk
theorem pf_X4_43 (cx : ga_cx p m c cc nL s args RX4) (hK : ga_K G s) (w : ga_wd G A s H locs ws) (q0 : Nat) {fs : List Value} (he : ws[q0]? = some (a, .inr (0, fs))) {v : Value} (hn : narrow (tyX0 1) v = v) (hfit : fits (tyX0 1) v = true) (hl : 1 < fs.length) (hdg : decode cc pc = .ok (.putfield 43, 3)) (kk : ∀ (H1 : Heap) (locs1 : List Loc), ga_wd G A s H1 locs1 (ws.set q0 (a, .inr (0, fs.set 1 v))) → W p l e R s m args below meth c H1 locs1 cells slots Q (F0 m (pc + 3) ls rest)) : W p l e R s m args below meth c H locs cells slots Q (F0 m pc ls (v :: .ref a :: rest)) := ga_put iX0 tyX0 tyX0_ok nmX0 rfl 1 (by decide) rfl tm_130 cx hK w q0 he hn hfit hl hdg kk
theorem gf_X0_15 (cx : ga_cx p m c cc nL s args RX0) (hK : ga_K G s) (w : ga_wd G A s H locs ws) (q0 : Nat) {fs : List Value} (he : ws[q0]? = some (a, .inr (0, fs))) {v : Value} (hv : fs[2]? = some v) (hdg : decode cc pc = .ok (.getfield 15, 3)) (kk : W p l e R s m args below meth c H locs cells slots Q (F0 m (pc + 3) ls (v :: rest))) : W p l e R s m args below meth c H locs cells slots Q (F0 m pc ls (.ref a :: rest)) := ga_get iX0 rfl 2 (by decide) tm_131 cx hK w q0 he hv hdg kk
theorem pf_X0_15 (cx : ga_cx p m c cc nL s args RX0) (hK : ga_K G s) (w : ga_wd G A s H locs ws) (q0 : Nat) {fs : List Value} (he : ws[q0]? = some (a, .inr (0, fs))) {v : Value} (hn : narrow (tyX0 2) v = v) (hfit : fits (tyX0 2) v = true) (hl : 2 < fs.length) (hdg : decode cc pc = .ok (.putfield 15, 3)) (kk : ∀ (H1 : Heap) (locs1 : List Loc), ga_wd G A s H1 locs1 (ws.set q0 (a, .inr (0, fs.set 2 v))) → W p l e R s m args below meth c H1 locs1 cells slots Q (F0 m (pc + 3) ls rest)) : W p l e R s m args below meth c H locs cells slots Q (F0 m pc ls (v :: .ref a :: rest)) := ga_put iX0 tyX0 tyX0_ok nmX0 rfl 2 (by decide) rfl tm_131 cx hK w q0 he hn hfit hl hdg kk
theorem gf_X6_98 (cx : ga_cx p m c cc nL s args RX6) (hK : ga_K G s) (w : ga_wd G A s H locs ws) (q0 : Nat) {fs : List Value} (he : ws[q0]? = some (a, .inr (0, fs))) {v : Value} (hv : fs[2]? = some v) (hdg : decode cc pc = .ok (.getfield 98, 3)) (kk : W p l e R s m args below meth c H locs cells slots Q (F0 m (pc + 3) ls (v :: rest))) : W p l e R s m args below meth c H locs cells slots Q (F0 m pc ls (.ref a :: rest)) := ga_get iX0 rfl 2 (by decide) tm_132 cx hK w q0 he hv hdg kk
theorem pf_X6_98 (cx : ga_cx p m c cc nL s args RX6) (hK : ga_K G s) (w : ga_wd G A s H locs ws) (q0 : Nat) {fs : List Value} (he : ws[q0]? = some (a, .inr (0, fs))) {v : Value} (hn : narrow (tyX0 2) v = v) (hfit : fits (tyX0 2) v = true) (hl : 2 < fs.length) (hdg : decode cc pc = .ok (.putfield 98, 3)) (kk : ∀ (H1 : Heap) (locs1 : List Loc), ga_wd G A s H1 locs1 (ws.set q0 (a, .inr (0, fs.set 2 v))) → W p l e R s m args below meth c H1 locs1 cells slots Q (F0 m (pc + 3) ls rest)) : W p l e R s m args below meth c H locs cells slots Q (F0 m pc ls (v :: .ref a :: rest)) := ga_put iX0 tyX0 tyX0_ok nmX0 rfl 2 (by decide) rfl tm_132 cx hK w q0 he hn hfit hl hdg kk
theorem gf_X4_9 (cx : ga_cx p m c cc nL s args RX4) (hK : ga_K G s) (w : ga_wd G A s H locs ws) (q0 : Nat) {fs : List Value} (he : ws[q0]? = some (a, .inr (4, fs))) {v : Value} (hv : fs[0]? = some v) (hdg : decode cc pc = .ok (.getfield 9, 3)) (kk : W p l e R s m args below meth c H locs cells slots Q (F0 m (pc + 3) ls (v :: rest))) : W p l e R s m args below meth c H locs cells slots Q (F0 m pc ls (.ref a :: rest)) := ga_get iX4 rfl 0 (by decide) tm_146 cx hK w q0 he hv hdg kk
theorem pf_X4_9 (cx : ga_cx p m c cc nL s args RX4) (hK : ga_K G s) (w : ga_wd G A s H locs ws) (hi : meth.name = "<init>") (q0 : Nat) {fs : List Value} (he : ws[q0]? = some (a, .inr (4, fs))) {v : Value} (hn : narrow (tyX4 0) v = v) (hfit : fits (tyX4 0) v = true) (hl : 0 < fs.length) (hdg : decode cc pc = .ok (.putfield 9, 3)) (kk : ∀ (H1 : Heap) (locs1 : List Loc), ga_wd G A s H1 locs1 (ws.set q0 (a, .inr (4, fs.set 0 v))) → W p l e R s m args below meth c H1 locs1 cells slots Q (F0 m (pc + 3) ls rest)) : W p l e R s m args below meth c H locs cells slots Q (F0 m pc ls (v :: .ref a :: rest)) := ga_putF iX4 tyX4 tyX4_ok nmX4 rfl 0 (by decide) rfl rfl tm_146 cx hK w hi q0 he hn hfit hl hdg kk
theorem gf_X4_21 (cx : ga_cx p m c cc nL s args RX4) (hK : ga_K G s) (w : ga_wd G A s H locs ws) (q0 : Nat) {fs : List Value} (he : ws[q0]? = some (a, .inr (4, fs))) {v : Value} (hv : fs[1]? = some v) (hdg : decode cc pc = .ok (.getfield 21, 3)) (kk : W p l e R s m args below meth c H locs cells slots Q (F0 m (pc + 3) ls (v :: rest))) : W p l e R s m args below meth c H locs cells slots Q (F0 m pc ls (.ref a :: rest)) := ga_get iX4 rfl 1 (by decide) tm_147 cx hK w q0 he hv hdg kk
theorem pf_X4_21 (cx : ga_cx p m c cc nL s args RX4) (hK : ga_K G s) (w : ga_wd G A s H locs ws) (q0 : Nat) {fs : List Value} (he : ws[q0]? = some (a, .inr (4, fs))) {v : Value} (hn : narrow (tyX4 1) v = v) (hfit : fits (tyX4 1) v = true) (hl : 1 < fs.length) (hdg : decode cc pc = .ok (.putfield 21, 3)) (kk : ∀ (H1 : Heap) (locs1 : List Loc), ga_wd G A s H1 locs1 (ws.set q0 (a, .inr (4, fs.set 1 v))) → W p l e R s m args below meth c H1 locs1 cells slots Q (F0 m (pc + 3) ls rest)) : W p l e R s m args below meth c H locs cells slots Q (F0 m pc ls (v :: .ref a :: rest)) := ga_put iX4 tyX4 tyX4_ok nmX4 rfl 1 (by decide) rfl tm_147 cx hK w q0 he hn hfit hl hdg kk
theorem gf_X4_29 (cx : ga_cx p m c cc nL s args RX4) (hK : ga_K G s) (w : ga_wd G A s H locs ws) (q0 : Nat) {fs : List Value} (he : ws[q0]? = some (a, .inr (4, fs))) {v : Value} (hv : fs[2]? = some v) (hdg : decode cc pc = .ok (.getfield 29, 3)) (kk : W p l e R s m args below meth c H locs cells slots Q (F0 m (pc + 3) ls (v :: rest))) : W p l e R s m args below meth c H locs cells slots Q (F0 m pc ls (.ref a :: rest)) := ga_get iX4 rfl 2 (by decide) tm_148 cx hK w q0 he hv hdg kk
theorem pf_X4_29 (cx : ga_cx p m c cc nL s args RX4) (hK : ga_K G s) (w : ga_wd G A s H locs ws) (q0 : Nat) {fs : List Value} (he : ws[q0]? = some (a, .inr (4, fs))) {v : Value} (hn : narrow (tyX4 2) v = v) (hfit : fits (tyX4 2) v = true) (hl : 2 < fs.length) (hdg : decode cc pc = .ok (.putfield 29, 3)) (kk : ∀ (H1 : Heap) (locs1 : List Loc), ga_wd G A s H1 locs1 (ws.set q0 (a, .inr (4, fs.set 2 v))) → W p l e R s m args below meth c H1 locs1 cells slots Q (F0 m (pc + 3) ls rest)) : W p l e R s m args below meth c H locs cells slots Q (F0 m pc ls (v :: .ref a :: rest)) := ga_put iX4 tyX4 tyX4_ok nmX4 rfl 2 (by decide) rfl tm_148 cx hK w q0 he hn hfit hl hdg kk
theorem gf_X5_9 (cx : ga_cx p m c cc nL s args RX5) (hK : ga_K G s) (w : ga_wd G A s H locs ws) (q0 : Nat) {fs : List Value} (he : ws[q0]? = some (a, .inr (5, fs))) {v : Value} (hv : fs[0]? = some v) (hdg : decode cc pc = .ok (.getfield 9, 3)) (kk : W p l e R s m args below meth c H locs cells slots Q (F0 m (pc + 3) ls (v :: rest))) : W p l e R s m args below meth c H locs cells slots Q (F0 m pc ls (.ref a :: rest)) := ga_get iX5 rfl 0 (by decide) tm_162 cx hK w q0 he hv hdg kk
theorem pf_X5_9 (cx : ga_cx p m c cc nL s args RX5) (hK : ga_K G s) (w : ga_wd G A s H locs ws) (hi : meth.name = "<init>") (q0 : Nat) {fs : List Value} (he : ws[q0]? = some (a, .inr (5, fs))) {v : Value} (hn : narrow (tyX5 0) v = v) (hfit : fits (tyX5 0) v = true) (hl : 0 < fs.length) (hdg : decode cc pc = .ok (.putfield 9, 3)) (kk : ∀ (H1 : Heap) (locs1 : List Loc), ga_wd G A s H1 locs1 (ws.set q0 (a, .inr (5, fs.set 0 v))) → W p l e R s m args below meth c H1 locs1 cells slots Q (F0 m (pc + 3) ls rest)) : W p l e R s m args below meth c H locs cells slots Q (F0 m pc ls (v :: .ref a :: rest)) := ga_putF iX5 tyX5 tyX5_ok nmX5 rfl 0 (by decide) rfl rfl tm_162 cx hK w hi q0 he hn hfit hl hdg kk
theorem gf_X2_19 (cx : ga_cx p m c cc nL s args RX2) (hK : ga_K G s) (w : ga_wd G A s H locs ws) (q0 : Nat) {fs : List Value} (he : ws[q0]? = some (a, .inr (5, fs))) {v : Value} (hv : fs[0]? = some v) (hdg : decode cc pc = .ok (.getfield 19, 3)) (kk : W p l e R s m args below meth c H locs cells slots Q (F0 m (pc + 3) ls (v :: rest))) : W p l e R s m args below meth c H locs cells slots Q (F0 m pc ls (.ref a :: rest)) := ga_get iX5 rfl 0 (by decide) tm_163 cx hK w q0 he hv hdg kk
theorem gf_X5_15 (cx : ga_cx p m c cc nL s args RX5) (hK : ga_K G s) (w : ga_wd G A s H locs ws) (q0 : Nat) {fs : List Value} (he : ws[q0]? = some (a, .inr (5, fs))) {v : Value} (hv : fs[1]? = some v) (hdg : decode cc pc = .ok (.getfield 15, 3)) (kk : W p l e R s m args below meth c H locs cells slots Q (F0 m (pc + 3) ls (v :: rest))) : W p l e R s m args below meth c H locs cells slots Q (F0 m pc ls (.ref a :: rest)) := ga_get iX5 rfl 1 (by decide) tm_164 cx hK w q0 he hv hdg kk
theorem pf_X5_15 (cx : ga_cx p m c cc nL s args RX5) (hK : ga_K G s) (w : ga_wd G A s H locs ws) (q0 : Nat) {fs : List Value} (he : ws[q0]? = some (a, .inr (5, fs))) {v : Value} (hn : narrow (tyX5 1) v = v) (hfit : fits (tyX5 1) v = true) (hl : 1 < fs.length) (hdg : decode cc pc = .ok (.putfield 15, 3)) (kk : ∀ (H1 : Heap) (locs1 : List Loc), ga_wd G A s H1 locs1 (ws.set q0 (a, .inr (5, fs.set 1 v))) → W p l e R s m args below meth c H1 locs1 cells slots Q (F0 m (pc + 3) ls rest)) : W p l e R s m args below meth c H locs cells slots Q (F0 m pc ls (v :: .ref a :: rest)) := ga_put iX5 tyX5 tyX5_ok nmX5 rfl 1 (by decide) rfl tm_164 cx hK w q0 he hn hfit hl hdg kk
theorem gf_X6_162 (cx : ga_cx p m c cc nL s args RX6) (hK : ga_K G s) (w : ga_wd G A s H locs ws) (q0 : Nat) {fs : List Value} (he : ws[q0]? = some (a, .inr (5, fs))) {v : Value} (hv : fs[1]? = some v) (hdg : decode cc pc = .ok (.getfield 162, 3)) (kk : W p l e R s m args below meth c H locs cells slots Q (F0 m (pc + 3) ls (v :: rest))) : W p l e R s m args below meth c H locs cells slots Q (F0 m pc ls (.ref a :: rest)) := ga_get iX5 rfl 1 (by decide) tm_165 cx hK w q0 he hv hdg kk
theorem pf_X6_162 (cx : ga_cx p m c cc nL s args RX6) (hK : ga_K G s) (w : ga_wd G A s H locs ws) (q0 : Nat) {fs : List Value} (he : ws[q0]? = some (a, .inr (5, fs))) {v : Value} (hn : narrow (tyX5 1) v = v) (hfit : fits (tyX5 1) v = true) (hl : 1 < fs.length) (hdg : decode cc pc = .ok (.putfield 162, 3)) (kk : ∀ (H1 : Heap) (locs1 : List Loc), ga_wd G A s H1 locs1 (ws.set q0 (a, .inr (5, fs.set 1 v))) → W p l e R s m args below meth c H1 locs1 cells slots Q (F0 m (pc + 3) ls rest)) : W p l e R s m args below meth c H locs cells slots Q (F0 m pc ls (v :: .ref a :: rest)) := ga_put iX5 tyX5 tyX5_ok nmX5 rfl 1 (by decide) rfl tm_165 cx hK w q0 he hn hfit hl hdg kk
theorem gf_X2_9 (cx : ga_cx p m c cc nL s args RX2) (hK : ga_K G s) (w : ga_wd G A s H locs ws) (q0 : Nat) {fs : List Value} (he : ws[q0]? = some (a, .inr (2, fs))) {v : Value} (hv : fs[0]? = some v) (hdg : decode cc pc = .ok (.getfield 9, 3)) (kk : W p l e R s m args below meth c H locs cells slots Q (F0 m (pc + 3) ls (v :: rest))) : W p l e R s m args below meth c H locs cells slots Q (F0 m pc ls (.ref a :: rest)) := ga_get iX2 rfl 0 (by decide) tm_177 cx hK w q0 he hv hdg kk
theorem pf_X2_9 (cx : ga_cx p m c cc nL s args RX2) (hK : ga_K G s) (w : ga_wd G A s H locs ws) (hi : meth.name = "<init>") (q0 : Nat) {fs : List Value} (he : ws[q0]? = some (a, .inr (2, fs))) {v : Value} (hn : narrow (tyX2 0) v = v) (hfit : fits (tyX2 0) v = true) (hl : 0 < fs.length) (hdg : decode cc pc = .ok (.putfield 9, 3)) (kk : ∀ (H1 : Heap) (locs1 : List Loc), ga_wd G A s H1 locs1 (ws.set q0 (a, .inr (2, fs.set 0 v))) → W p l e R s m args below meth c H1 locs1 cells slots Q (F0 m (pc + 3) ls rest)) : W p l e R s m args below meth c H locs cells slots Q (F0 m pc ls (v :: .ref a :: rest)) := ga_putF iX2 tyX2 tyX2_ok nmX2 rfl 0 (by decide) rfl rfl tm_177 cx hK w hi q0 he hn hfit hl hdg kk
theorem gf_X2_15 (cx : ga_cx p m c cc nL s args RX2) (hK : ga_K G s) (w : ga_wd G A s H locs ws) (q0 : Nat) {fs : List Value} (he : ws[q0]? = some (a, .inr (2, fs))) {v : Value} (hv : fs[1]? = some v) (hdg : decode cc pc = .ok (.getfield 15, 3)) (kk : W p l e R s m args below meth c H locs cells slots Q (F0 m (pc + 3) ls (v :: rest))) : W p l e R s m args below meth c H locs cells slots Q (F0 m pc ls (.ref a :: rest)) := ga_get iX2 rfl 1 (by decide) tm_178 cx hK w q0 he hv hdg kk
theorem pf_X2_15 (cx : ga_cx p m c cc nL s args RX2) (hK : ga_K G s) (w : ga_wd G A s H locs ws) (q0 : Nat) {fs : List Value} (he : ws[q0]? = some (a, .inr (2, fs))) {v : Value} (hn : narrow (tyX2 1) v = v) (hfit : fits (tyX2 1) v = true) (hl : 1 < fs.length) (hdg : decode cc pc = .ok (.putfield 15, 3)) (kk : ∀ (H1 : Heap) (locs1 : List Loc), ga_wd G A s H1 locs1 (ws.set q0 (a, .inr (2, fs.set 1 v))) → W p l e R s m args below meth c H1 locs1 cells slots Q (F0 m (pc + 3) ls rest)) : W p l e R s m args below meth c H locs cells slots Q (F0 m pc ls (v :: .ref a :: rest)) := ga_put iX2 tyX2 tyX2_ok nmX2 rfl 1 (by decide) rfl tm_178 cx hK w q0 he hn hfit hl hdg kk
theorem gf_X2_24 (cx : ga_cx p m c cc nL s args RX2) (hK : ga_K G s) (w : ga_wd G A s H locs ws) (q0 : Nat) {fs : List Value} (he : ws[q0]? = some (a, .inr (2, fs))) {v : Value} (hv : fs[2]? = some v) (hdg : decode cc pc = .ok (.getfield 24, 3)) (kk : W p l e R s m args below meth c H locs cells slots Q (F0 m (pc + 3) ls (v :: rest))) : W p l e R s m args below meth c H locs cells slots Q (F0 m pc ls (.ref a :: rest)) := ga_get iX2 rfl 2 (by decide) tm_179 cx hK w q0 he hv hdg kk
theorem pf_X2_24 (cx : ga_cx p m c cc nL s args RX2) (hK : ga_K G s) (w : ga_wd G A s H locs ws) (q0 : Nat) {fs : List Value} (he : ws[q0]? = some (a, .inr (2, fs))) {v : Value} (hn : narrow (tyX2 2) v = v) (hfit : fits (tyX2 2) v = true) (hl : 2 < fs.length) (hdg : decode cc pc = .ok (.putfield 24, 3)) (kk : ∀ (H1 : Heap) (locs1 : List Loc), ga_wd G A s H1 locs1 (ws.set q0 (a, .inr (2, fs.set 2 v))) → W p l e R s m args below meth c H1 locs1 cells slots Q (F0 m (pc + 3) ls rest)) : W p l e R s m args below meth c H locs cells slots Q (F0 m pc ls (v :: .ref a :: rest)) := ga_put iX2 tyX2 tyX2_ok nmX2 rfl 2 (by decide) rfl tm_179 cx hK w q0 he hn hfit hl hdg kk
theorem gf_X2_28 (cx : ga_cx p m c cc nL s args RX2) (hK : ga_K G s) (w : ga_wd G A s H locs ws) (q0 : Nat) {fs : List Value} (he : ws[q0]? = some (a, .inr (2, fs))) {v : Value} (hv : fs[3]? = some v) (hdg : decode cc pc = .ok (.getfield 28, 3)) (kk : W p l e R s m args below meth c H locs cells slots Q (F0 m (pc + 3) ls (v :: rest))) : W p l e R s m args below meth c H locs cells slots Q (F0 m pc ls (.ref a :: rest)) := ga_get iX2 rfl 3 (by decide) tm_180 cx hK w q0 he hv hdg kk
theorem pf_X2_28 (cx : ga_cx p m c cc nL s args RX2) (hK : ga_K G s) (w : ga_wd G A s H locs ws) (q0 : Nat) {fs : List Value} (he : ws[q0]? = some (a, .inr (2, fs))) {v : Value} (hn : narrow (tyX2 3) v = v) (hfit : fits (tyX2 3) v = true) (hl : 3 < fs.length) (hdg : decode cc pc = .ok (.putfield 28, 3)) (kk : ∀ (H1 : Heap) (locs1 : List Loc), ga_wd G A s H1 locs1 (ws.set q0 (a, .inr (2, fs.set 3 v))) → W p l e R s m args below meth c H1 locs1 cells slots Q (F0 m (pc + 3) ls rest)) : W p l e R s m args below meth c H locs cells slots Q (F0 m pc ls (v :: .ref a :: rest)) := ga_put iX2 tyX2 tyX2_ok nmX2 rfl 3 (by decide) rfl tm_180 cx hK w q0 he hn hfit hl hdg kk
theorem gf_X2_31 (cx : ga_cx p m c cc nL s args RX2) (hK : ga_K G s) (w : ga_wd G A s H locs ws) (q0 : Nat) {fs : List Value} (he : ws[q0]? = some (a, .inr (2, fs))) {v : Value} (hv : fs[4]? = some v) (hdg : decode cc pc = .ok (.getfield 31, 3)) (kk : W p l e R s m args below meth c H locs cells slots Q (F0 m (pc + 3) ls (v :: rest))) : W p l e R s m args below meth c H locs cells slots Q (F0 m pc ls (.ref a :: rest)) := ga_get iX2 rfl 4 (by decide) tm_181 cx hK w q0 he hv hdg kk
theorem pf_X2_31 (cx : ga_cx p m c cc nL s args RX2) (hK : ga_K G s) (w : ga_wd G A s H locs ws) (q0 : Nat) {fs : List Value} (he : ws[q0]? = some (a, .inr (2, fs))) {v : Value} (hn : narrow (tyX2 4) v = v) (hfit : fits (tyX2 4) v = true) (hl : 4 < fs.length) (hdg : decode cc pc = .ok (.putfield 31, 3)) (kk : ∀ (H1 : Heap) (locs1 : List Loc), ga_wd G A s H1 locs1 (ws.set q0 (a, .inr (2, fs.set 4 v))) → W p l e R s m args below meth c H1 locs1 cells slots Q (F0 m (pc + 3) ls rest)) : W p l e R s m args below meth c H locs cells slots Q (F0 m pc ls (v :: .ref a :: rest)) := ga_put iX2 tyX2 tyX2_ok nmX2 rfl 4 (by decide) rfl tm_181 cx hK w q0 he hn hfit hl hdg kk
theorem gf_X2_54 (cx : ga_cx p m c cc nL s args RX2) (hK : ga_K G s) (w : ga_wd G A s H locs ws) (q0 : Nat) {fs : List Value} (he : ws[q0]? = some (a, .inr (2, fs))) {v : Value} (hv : fs[5]? = some v) (hdg : decode cc pc = .ok (.getfield 54, 3)) (kk : W p l e R s m args below meth c H locs cells slots Q (F0 m (pc + 3) ls (v :: rest))) : W p l e R s m args below meth c H locs cells slots Q (F0 m pc ls (.ref a :: rest)) := ga_get iX2 rfl 5 (by decide) tm_182 cx hK w q0 he hv hdg kk
theorem pf_X2_54 (cx : ga_cx p m c cc nL s args RX2) (hK : ga_K G s) (w : ga_wd G A s H locs ws) (q0 : Nat) {fs : List Value} (he : ws[q0]? = some (a, .inr (2, fs))) {v : Value} (hn : narrow (tyX2 5) v = v) (hfit : fits (tyX2 5) v = true) (hl : 5 < fs.length) (hdg : decode cc pc = .ok (.putfield 54, 3)) (kk : ∀ (H1 : Heap) (locs1 : List Loc), ga_wd G A s H1 locs1 (ws.set q0 (a, .inr (2, fs.set 5 v))) → W p l e R s m args below meth c H1 locs1 cells slots Q (F0 m (pc + 3) ls rest)) : W p l e R s m args below meth c H locs cells slots Q (F0 m pc ls (v :: .ref a :: rest)) := ga_put iX2 tyX2 tyX2_ok nmX2 rfl 5 (by decide) rfl tm_182 cx hK w q0 he hn hfit hl hdg kk
theorem gf_X6_12 (cx : ga_cx p m c cc nL s args RX6) (hK : ga_K G s) (w : ga_wd G A s H locs ws) (q0 : Nat) {fs : List Value} (he : ws[q0]? = some (a, .inr (6, fs))) {v : Value} (hv : fs[0]? = some v) (hdg : decode cc pc = .ok (.getfield 12, 3)) (kk : W p l e R s m args below meth c H locs cells slots Q (F0 m (pc + 3) ls (v :: rest))) : W p l e R s m args below meth c H locs cells slots Q (F0 m pc ls (.ref a :: rest)) := ga_get iX6 rfl 0 (by decide) tm_196 cx hK w q0 he hv hdg kk
theorem pf_X6_12 (cx : ga_cx p m c cc nL s args RX6) (hK : ga_K G s) (w : ga_wd G A s H locs ws) (hi : meth.name = "<init>") (q0 : Nat) {fs : List Value} (he : ws[q0]? = some (a, .inr (6, fs))) {v : Value} (hn : narrow (tyX6 0) v = v) (hfit : fits (tyX6 0) v = true) (hl : 0 < fs.length) (hdg : decode cc pc = .ok (.putfield 12, 3)) (kk : ∀ (H1 : Heap) (locs1 : List Loc), ga_wd G A s H1 locs1 (ws.set q0 (a, .inr (6, fs.set 0 v))) → W p l e R s m args below meth c H1 locs1 cells slots Q (F0 m (pc + 3) ls rest)) : W p l e R s m args below meth c H locs cells slots Q (F0 m pc ls (v :: .ref a :: rest)) := ga_putF iX6 tyX6 tyX6_ok nmX6 rfl 0 (by decide) rfl rfl tm_196 cx hK w hi q0 he hn hfit hl hdg kk
theorem gf_X6_19 (cx : ga_cx p m c cc nL s args RX6) (hK : ga_K G s) (w : ga_wd G A s H locs ws) (q0 : Nat) {fs : List Value} (he : ws[q0]? = some (a, .inr (6, fs))) {v : Value} (hv : fs[1]? = some v) (hdg : decode cc pc = .ok (.getfield 19, 3)) (kk : W p l e R s m args below meth c H locs cells slots Q (F0 m (pc + 3) ls (v :: rest))) : W p l e R s m args below meth c H locs cells slots Q (F0 m pc ls (.ref a :: rest)) := ga_get iX6 rfl 1 (by decide) tm_197 cx hK w q0 he hv hdg kk
theorem pf_X6_19 (cx : ga_cx p m c cc nL s args RX6) (hK : ga_K G s) (w : ga_wd G A s H locs ws) (hi : meth.name = "<init>") (q0 : Nat) {fs : List Value} (he : ws[q0]? = some (a, .inr (6, fs))) {v : Value} (hn : narrow (tyX6 1) v = v) (hfit : fits (tyX6 1) v = true) (hl : 1 < fs.length) (hdg : decode cc pc = .ok (.putfield 19, 3)) (kk : ∀ (H1 : Heap) (locs1 : List Loc), ga_wd G A s H1 locs1 (ws.set q0 (a, .inr (6, fs.set 1 v))) → W p l e R s m args below meth c H1 locs1 cells slots Q (F0 m (pc + 3) ls rest)) : W p l e R s m args below meth c H locs cells slots Q (F0 m pc ls (v :: .ref a :: rest)) := ga_putF iX6 tyX6 tyX6_ok nmX6 rfl 1 (by decide) rfl rfl tm_197 cx hK w hi q0 he hn hfit hl hdg kk
theorem gf_X6_26 (cx : ga_cx p m c cc nL s args RX6) (hK : ga_K G s) (w : ga_wd G A s H locs ws) (q0 : Nat) {fs : List Value} (he : ws[q0]? = some (a, .inr (6, fs))) {v : Value} (hv : fs[2]? = some v) (hdg : decode cc pc = .ok (.getfield 26, 3)) (kk : W p l e R s m args below meth c H locs cells slots Q (F0 m (pc + 3) ls (v :: rest))) : W p l e R s m args below meth c H locs cells slots Q (F0 m pc ls (.ref a :: rest)) := ga_get iX6 rfl 2 (by decide) tm_198 cx hK w q0 he hv hdg kk
theorem pf_X6_26 (cx : ga_cx p m c cc nL s args RX6) (hK : ga_K G s) (w : ga_wd G A s H locs ws) (hi : meth.name = "<init>") (q0 : Nat) {fs : List Value} (he : ws[q0]? = some (a, .inr (6, fs))) {v : Value} (hn : narrow (tyX6 2) v = v) (hfit : fits (tyX6 2) v = true) (hl : 2 < fs.length) (hdg : decode cc pc = .ok (.putfield 26, 3)) (kk : ∀ (H1 : Heap) (locs1 : List Loc), ga_wd G A s H1 locs1 (ws.set q0 (a, .inr (6, fs.set 2 v))) → W p l e R s m args below meth c H1 locs1 cells slots Q (F0 m (pc + 3) ls rest)) : W p l e R s m args below meth c H locs cells slots Q (F0 m pc ls (v :: .ref a :: rest)) := ga_putF iX6 tyX6 tyX6_ok nmX6 rfl 2 (by decide) rfl rfl tm_198 cx hK w hi q0 he hn hfit hl hdg kk
theorem gf_X6_30 (cx : ga_cx p m c cc nL s args RX6) (hK : ga_K G s) (w : ga_wd G A s H locs ws) (q0 : Nat) {fs : List Value} (he : ws[q0]? = some (a, .inr (6, fs))) {v : Value} (hv : fs[3]? = some v) (hdg : decode cc pc = .ok (.getfield 30, 3)) (kk : W p l e R s m args below meth c H locs cells slots Q (F0 m (pc + 3) ls (v :: rest))) : W p l e R s m args below meth c H locs cells slots Q (F0 m pc ls (.ref a :: rest)) := ga_get iX6 rfl 3 (by decide) tm_199 cx hK w q0 he hv hdg kk
theorem pf_X6_30 (cx : ga_cx p m c cc nL s args RX6) (hK : ga_K G s) (w : ga_wd G A s H locs ws) (hi : meth.name = "<init>") (q0 : Nat) {fs : List Value} (he : ws[q0]? = some (a, .inr (6, fs))) {v : Value} (hn : narrow (tyX6 3) v = v) (hfit : fits (tyX6 3) v = true) (hl : 3 < fs.length) (hdg : decode cc pc = .ok (.putfield 30, 3)) (kk : ∀ (H1 : Heap) (locs1 : List Loc), ga_wd G A s H1 locs1 (ws.set q0 (a, .inr (6, fs.set 3 v))) → W p l e R s m args below meth c H1 locs1 cells slots Q (F0 m (pc + 3) ls rest)) : W p l e R s m args below meth c H locs cells slots Q (F0 m pc ls (v :: .ref a :: rest)) := ga_putF iX6 tyX6 tyX6_ok nmX6 rfl 3 (by decide) rfl rfl tm_199 cx hK w hi q0 he hn hfit hl hdg kk
theorem gf_X6_38 (cx : ga_cx p m c cc nL s args RX6) (hK : ga_K G s) (w : ga_wd G A s H locs ws) (q0 : Nat) {fs : List Value} (he : ws[q0]? = some (a, .inr (6, fs))) {v : Value} (hv : fs[4]? = some v) (hdg : decode cc pc = .ok (.getfield 38, 3)) (kk : W p l e R s m args below meth c H locs cells slots Q (F0 m (pc + 3) ls (v :: rest))) : W p l e R s m args below meth c H locs cells slots Q (F0 m pc ls (.ref a :: rest)) := ga_get iX6 rfl 4 (by decide) tm_200 cx hK w q0 he hv hdg kk
theorem pf_X6_38 (cx : ga_cx p m c cc nL s args RX6) (hK : ga_K G s) (w : ga_wd G A s H locs ws) (hi : meth.name = "<init>") (q0 : Nat) {fs : List Value} (he : ws[q0]? = some (a, .inr (6, fs))) {v : Value} (hn : narrow (tyX6 4) v = v) (hfit : fits (tyX6 4) v = true) (hl : 4 < fs.length) (hdg : decode cc pc = .ok (.putfield 38, 3)) (kk : ∀ (H1 : Heap) (locs1 : List Loc), ga_wd G A s H1 locs1 (ws.set q0 (a, .inr (6, fs.set 4 v))) → W p l e R s m args below meth c H1 locs1 cells slots Q (F0 m (pc + 3) ls rest)) : W p l e R s m args below meth c H locs cells slots Q (F0 m pc ls (v :: .ref a :: rest)) := ga_putF iX6 tyX6 tyX6_ok nmX6 rfl 4 (by decide) rfl rfl tm_200 cx hK w hi q0 he hn hfit hl hdg kk
theorem gf_X6_45 (cx : ga_cx p m c cc nL s args RX6) (hK : ga_K G s) (w : ga_wd G A s H locs ws) (q0 : Nat) {fs : List Value} (he : ws[q0]? = some (a, .inr (6, fs))) {v : Value} (hv : fs[5]? = some v) (hdg : decode cc pc = .ok (.getfield 45, 3)) (kk : W p l e R s m args below meth c H locs cells slots Q (F0 m (pc + 3) ls (v :: rest))) : W p l e R s m args below meth c H locs cells slots Q (F0 m pc ls (.ref a :: rest)) := ga_get iX6 rfl 5 (by decide) tm_201 cx hK w q0 he hv hdg kk
theorem pf_X6_45 (cx : ga_cx p m c cc nL s args RX6) (hK : ga_K G s) (w : ga_wd G A s H locs ws) (hi : meth.name = "<init>") (q0 : Nat) {fs : List Value} (he : ws[q0]? = some (a, .inr (6, fs))) {v : Value} (hn : narrow (tyX6 5) v = v) (hfit : fits (tyX6 5) v = true) (hl : 5 < fs.length) (hdg : decode cc pc = .ok (.putfield 45, 3)) (kk : ∀ (H1 : Heap) (locs1 : List Loc), ga_wd G A s H1 locs1 (ws.set q0 (a, .inr (6, fs.set 5 v))) → W p l e R s m args below meth c H1 locs1 cells slots Q (F0 m (pc + 3) ls rest)) : W p l e R s m args below meth c H locs cells slots Q (F0 m pc ls (v :: .ref a :: rest)) := ga_putF iX6 tyX6 tyX6_ok nmX6 rfl 5 (by decide) rfl rfl tm_201 cx hK w hi q0 he hn hfit hl hdg kk
theorem gf_X6_52 (cx : ga_cx p m c cc nL s args RX6) (hK : ga_K G s) (w : ga_wd G A s H locs ws) (q0 : Nat) {fs : List Value} (he : ws[q0]? = some (a, .inr (6, fs))) {v : Value} (hv : fs[6]? = some v) (hdg : decode cc pc = .ok (.getfield 52, 3)) (kk : W p l e R s m args below meth c H locs cells slots Q (F0 m (pc + 3) ls (v :: rest))) : W p l e R s m args below meth c H locs cells slots Q (F0 m pc ls (.ref a :: rest)) := ga_get iX6 rfl 6 (by decide) tm_202 cx hK w q0 he hv hdg kk
theorem pf_X6_52 (cx : ga_cx p m c cc nL s args RX6) (hK : ga_K G s) (w : ga_wd G A s H locs ws) (hi : meth.name = "<init>") (q0 : Nat) {fs : List Value} (he : ws[q0]? = some (a, .inr (6, fs))) {v : Value} (hn : narrow (tyX6 6) v = v) (hfit : fits (tyX6 6) v = true) (hl : 6 < fs.length) (hdg : decode cc pc = .ok (.putfield 52, 3)) (kk : ∀ (H1 : Heap) (locs1 : List Loc), ga_wd G A s H1 locs1 (ws.set q0 (a, .inr (6, fs.set 6 v))) → W p l e R s m args below meth c H1 locs1 cells slots Q (F0 m (pc + 3) ls rest)) : W p l e R s m args below meth c H locs cells slots Q (F0 m pc ls (v :: .ref a :: rest)) := ga_putF iX6 tyX6 tyX6_ok nmX6 rfl 6 (by decide) rfl rfl tm_202 cx hK w hi q0 he hn hfit hl hdg kk
theorem gf_X7_7 (cx : ga_cx p m c cc nL s args RX7) (hK : ga_K G s) (w : ga_wd G A s H locs ws) (q0 : Nat) {fs : List Value} (he : ws[q0]? = some (a, .inr (7, fs))) {v : Value} (hv : fs[0]? = some v) (hdg : decode cc pc = .ok (.getfield 7, 3)) (kk : W p l e R s m args below meth c H locs cells slots Q (F0 m (pc + 3) ls (v :: rest))) : W p l e R s m args below meth c H locs cells slots Q (F0 m pc ls (.ref a :: rest)) := ga_get iX7 rfl 0 (by decide) tm_507 cx hK w q0 he hv hdg kk
theorem pf_X7_7 (cx : ga_cx p m c cc nL s args RX7) (hK : ga_K G s) (w : ga_wd G A s H locs ws) (hi : meth.name = "<init>") (q0 : Nat) {fs : List Value} (he : ws[q0]? = some (a, .inr (7, fs))) {v : Value} (hn : narrow (tyX7 0) v = v) (hfit : fits (tyX7 0) v = true) (hl : 0 < fs.length) (hdg : decode cc pc = .ok (.putfield 7, 3)) (kk : ∀ (H1 : Heap) (locs1 : List Loc), ga_wd G A s H1 locs1 (ws.set q0 (a, .inr (7, fs.set 0 v))) → W p l e R s m args below meth c H1 locs1 cells slots Q (F0 m (pc + 3) ls rest)) : W p l e R s m args below meth c H locs cells slots Q (F0 m pc ls (v :: .ref a :: rest)) := ga_putF iX7 tyX7 tyX7_ok nmX7 rfl 0 (by decide) rfl rfl tm_507 cx hK w hi q0 he hn hfit hl hdg kk
theorem gf_X7_136 (cx : ga_cx p m c cc nL s args RX7) (hK : ga_K G s) (w : ga_wd G A s H locs ws) (q0 : Nat) {fs : List Value} (he : ws[q0]? = some (a, .inr (7, fs))) {v : Value} (hv : fs[1]? = some v) (hdg : decode cc pc = .ok (.getfield 136, 3)) (kk : W p l e R s m args below meth c H locs cells slots Q (F0 m (pc + 3) ls (v :: rest))) : W p l e R s m args below meth c H locs cells slots Q (F0 m pc ls (.ref a :: rest)) := ga_get iX7 rfl 1 (by decide) tm_508 cx hK w q0 he hv hdg kk
theorem pf_X7_136 (cx : ga_cx p m c cc nL s args RX7) (hK : ga_K G s) (w : ga_wd G A s H locs ws) (q0 : Nat) {fs : List Value} (he : ws[q0]? = some (a, .inr (7, fs))) {v : Value} (hn : narrow (tyX7 1) v = v) (hfit : fits (tyX7 1) v = true) (hl : 1 < fs.length) (hdg : decode cc pc = .ok (.putfield 136, 3)) (kk : ∀ (H1 : Heap) (locs1 : List Loc), ga_wd G A s H1 locs1 (ws.set q0 (a, .inr (7, fs.set 1 v))) → W p l e R s m args below meth c H1 locs1 cells slots Q (F0 m (pc + 3) ls rest)) : W p l e R s m args below meth c H locs cells slots Q (F0 m pc ls (v :: .ref a :: rest)) := ga_put iX7 tyX7 tyX7_ok nmX7 rfl 1 (by decide) rfl tm_508 cx hK w q0 he hn hfit hl hdg kk
theorem gf_X7_13 (cx : ga_cx p m c cc nL s args RX7) (hK : ga_K G s) (w : ga_wd G A s H locs ws) (q0 : Nat) {fs : List Value} (he : ws[q0]? = some (a, .inr (7, fs))) {v : Value} (hv : fs[2]? = some v) (hdg : decode cc pc = .ok (.getfield 13, 3)) (kk : W p l e R s m args below meth c H locs cells slots Q (F0 m (pc + 3) ls (v :: rest))) : W p l e R s m args below meth c H locs cells slots Q (F0 m pc ls (.ref a :: rest)) := ga_get iX7 rfl 2 (by decide) tm_509 cx hK w q0 he hv hdg kk
theorem pf_X7_13 (cx : ga_cx p m c cc nL s args RX7) (hK : ga_K G s) (w : ga_wd G A s H locs ws) (q0 : Nat) {fs : List Value} (he : ws[q0]? = some (a, .inr (7, fs))) {v : Value} (hn : narrow (tyX7 2) v = v) (hfit : fits (tyX7 2) v = true) (hl : 2 < fs.length) (hdg : decode cc pc = .ok (.putfield 13, 3)) (kk : ∀ (H1 : Heap) (locs1 : List Loc), ga_wd G A s H1 locs1 (ws.set q0 (a, .inr (7, fs.set 2 v))) → W p l e R s m args below meth c H1 locs1 cells slots Q (F0 m (pc + 3) ls rest)) : W p l e R s m args below meth c H locs cells slots Q (F0 m pc ls (v :: .ref a :: rest)) := ga_put iX7 tyX7 tyX7_ok nmX7 rfl 2 (by decide) rfl tm_509 cx hK w q0 he hn hfit hl hdg kk
theorem gf_X7_52 (cx : ga_cx p m c cc nL s args RX7) (hK : ga_K G s) (w : ga_wd G A s H locs ws) (q0 : Nat) {fs : List Value} (he : ws[q0]? = some (a, .inr (7, fs))) {v : Value} (hv : fs[3]? = some v) (hdg : decode cc pc = .ok (.getfield 52, 3)) (kk : W p l e R s m args below meth c H locs cells slots Q (F0 m (pc + 3) ls (v :: rest))) : W p l e R s m args below meth c H locs cells slots Q (F0 m pc ls (.ref a :: rest)) := ga_get iX7 rfl 3 (by decide) tm_510 cx hK w q0 he hv hdg kk
theorem pf_X7_52 (cx : ga_cx p m c cc nL s args RX7) (hK : ga_K G s) (w : ga_wd G A s H locs ws) (q0 : Nat) {fs : List Value} (he : ws[q0]? = some (a, .inr (7, fs))) {v : Value} (hn : narrow (tyX7 3) v = v) (hfit : fits (tyX7 3) v = true) (hl : 3 < fs.length) (hdg : decode cc pc = .ok (.putfield 52, 3)) (kk : ∀ (H1 : Heap) (locs1 : List Loc), ga_wd G A s H1 locs1 (ws.set q0 (a, .inr (7, fs.set 3 v))) → W p l e R s m args below meth c H1 locs1 cells slots Q (F0 m (pc + 3) ls rest)) : W p l e R s m args below meth c H locs cells slots Q (F0 m pc ls (v :: .ref a :: rest)) := ga_put iX7 tyX7 tyX7_ok nmX7 rfl 3 (by decide) rfl tm_510 cx hK w q0 he hn hfit hl hdg kk
theorem gf_X7_17 (cx : ga_cx p m c cc nL s args RX7) (hK : ga_K G s) (w : ga_wd G A s H locs ws) (q0 : Nat) {fs : List Value} (he : ws[q0]? = some (a, .inr (7, fs))) {v : Value} (hv : fs[4]? = some v) (hdg : decode cc pc = .ok (.getfield 17, 3)) (kk : W p l e R s m args below meth c H locs cells slots Q (F0 m (pc + 3) ls (v :: rest))) : W p l e R s m args below meth c H locs cells slots Q (F0 m pc ls (.ref a :: rest)) := ga_get iX7 rfl 4 (by decide) tm_511 cx hK w q0 he hv hdg kk
theorem pf_X7_17 (cx : ga_cx p m c cc nL s args RX7) (hK : ga_K G s) (w : ga_wd G A s H locs ws) (hi : meth.name = "<init>") (q0 : Nat) {fs : List Value} (he : ws[q0]? = some (a, .inr (7, fs))) {v : Value} (hn : narrow (tyX7 4) v = v) (hfit : fits (tyX7 4) v = true) (hl : 4 < fs.length) (hdg : decode cc pc = .ok (.putfield 17, 3)) (kk : ∀ (H1 : Heap) (locs1 : List Loc), ga_wd G A s H1 locs1 (ws.set q0 (a, .inr (7, fs.set 4 v))) → W p l e R s m args below meth c H1 locs1 cells slots Q (F0 m (pc + 3) ls rest)) : W p l e R s m args below meth c H locs cells slots Q (F0 m pc ls (v :: .ref a :: rest)) := ga_putF iX7 tyX7 tyX7_ok nmX7 rfl 4 (by decide) rfl rfl tm_511 cx hK w hi q0 he hn hfit hl hdg kk
theorem gf_X7_21 (cx : ga_cx p m c cc nL s args RX7) (hK : ga_K G s) (w : ga_wd G A s H locs ws) (q0 : Nat) {fs : List Value} (he : ws[q0]? = some (a, .inr (7, fs))) {v : Value} (hv : fs[5]? = some v) (hdg : decode cc pc = .ok (.getfield 21, 3)) (kk : W p l e R s m args below meth c H locs cells slots Q (F0 m (pc + 3) ls (v :: rest))) : W p l e R s m args below meth c H locs cells slots Q (F0 m pc ls (.ref a :: rest)) := ga_get iX7 rfl 5 (by decide) tm_512 cx hK w q0 he hv hdg kk
theorem pf_X7_21 (cx : ga_cx p m c cc nL s args RX7) (hK : ga_K G s) (w : ga_wd G A s H locs ws) (hi : meth.name = "<init>") (q0 : Nat) {fs : List Value} (he : ws[q0]? = some (a, .inr (7, fs))) {v : Value} (hn : narrow (tyX7 5) v = v) (hfit : fits (tyX7 5) v = true) (hl : 5 < fs.length) (hdg : decode cc pc = .ok (.putfield 21, 3)) (kk : ∀ (H1 : Heap) (locs1 : List Loc), ga_wd G A s H1 locs1 (ws.set q0 (a, .inr (7, fs.set 5 v))) → W p l e R s m args below meth c H1 locs1 cells slots Q (F0 m (pc + 3) ls rest)) : W p l e R s m args below meth c H locs cells slots Q (F0 m pc ls (v :: .ref a :: rest)) := ga_putF iX7 tyX7 tyX7_ok nmX7 rfl 5 (by decide) rfl rfl tm_512 cx hK w hi q0 he hn hfit hl hdg kk
theorem gf_X7_24 (cx : ga_cx p m c cc nL s args RX7) (hK : ga_K G s) (w : ga_wd G A s H locs ws) (q0 : Nat) {fs : List Value} (he : ws[q0]? = some (a, .inr (7, fs))) {v : Value} (hv : fs[6]? = some v) (hdg : decode cc pc = .ok (.getfield 24, 3)) (kk : W p l e R s m args below meth c H locs cells slots Q (F0 m (pc + 3) ls (v :: rest))) : W p l e R s m args below meth c H locs cells slots Q (F0 m pc ls (.ref a :: rest)) := ga_get iX7 rfl 6 (by decide) tm_513 cx hK w q0 he hv hdg kk
theorem pf_X7_24 (cx : ga_cx p m c cc nL s args RX7) (hK : ga_K G s) (w : ga_wd G A s H locs ws) (hi : meth.name = "<init>") (q0 : Nat) {fs : List Value} (he : ws[q0]? = some (a, .inr (7, fs))) {v : Value} (hn : narrow (tyX7 6) v = v) (hfit : fits (tyX7 6) v = true) (hl : 6 < fs.length) (hdg : decode cc pc = .ok (.putfield 24, 3)) (kk : ∀ (H1 : Heap) (locs1 : List Loc), ga_wd G A s H1 locs1 (ws.set q0 (a, .inr (7, fs.set 6 v))) → W p l e R s m args below meth c H1 locs1 cells slots Q (F0 m (pc + 3) ls rest)) : W p l e R s m args below meth c H locs cells slots Q (F0 m pc ls (v :: .ref a :: rest)) := ga_putF iX7 tyX7 tyX7_ok nmX7 rfl 6 (by decide) rfl rfl tm_513 cx hK w hi q0 he hn hfit hl hdg kk
theorem gf_X7_63 (cx : ga_cx p m c cc nL s args RX7) (hK : ga_K G s) (w : ga_wd G A s H locs ws) (q0 : Nat) {fs : List Value} (he : ws[q0]? = some (a, .inr (7, fs))) {v : Value} (hv : fs[7]? = some v) (hdg : decode cc pc = .ok (.getfield 63, 3)) (kk : W p l e R s m args below meth c H locs cells slots Q (F0 m (pc + 3) ls (v :: rest))) : W p l e R s m args below meth c H locs cells slots Q (F0 m pc ls (.ref a :: rest)) := ga_get iX7 rfl 7 (by decide) tm_514 cx hK w q0 he hv hdg kk
theorem pf_X7_63 (cx : ga_cx p m c cc nL s args RX7) (hK : ga_K G s) (w : ga_wd G A s H locs ws) (q0 : Nat) {fs : List Value} (he : ws[q0]? = some (a, .inr (7, fs))) {v : Value} (hn : narrow (tyX7 7) v = v) (hfit : fits (tyX7 7) v = true) (hl : 7 < fs.length) (hdg : decode cc pc = .ok (.putfield 63, 3)) (kk : ∀ (H1 : Heap) (locs1 : List Loc), ga_wd G A s H1 locs1 (ws.set q0 (a, .inr (7, fs.set 7 v))) → W p l e R s m args below meth c H1 locs1 cells slots Q (F0 m (pc + 3) ls rest)) : W p l e R s m args below meth c H locs cells slots Q (F0 m pc ls (v :: .ref a :: rest)) := ga_put iX7 tyX7 tyX7_ok nmX7 rfl 7 (by decide) rfl tm_514 cx hK w q0 he hn hfit hl hdg kk
theorem gf_X7_66 (cx : ga_cx p m c cc nL s args RX7) (hK : ga_K G s) (w : ga_wd G A s H locs ws) (q0 : Nat) {fs : List Value} (he : ws[q0]? = some (a, .inr (7, fs))) {v : Value} (hv : fs[8]? = some v) (hdg : decode cc pc = .ok (.getfield 66, 3)) (kk : W p l e R s m args below meth c H locs cells slots Q (F0 m (pc + 3) ls (v :: rest))) : W p l e R s m args below meth c H locs cells slots Q (F0 m pc ls (.ref a :: rest)) := ga_get iX7 rfl 8 (by decide) tm_515 cx hK w q0 he hv hdg kk
theorem pf_X7_66 (cx : ga_cx p m c cc nL s args RX7) (hK : ga_K G s) (w : ga_wd G A s H locs ws) (q0 : Nat) {fs : List Value} (he : ws[q0]? = some (a, .inr (7, fs))) {v : Value} (hn : narrow (tyX7 8) v = v) (hfit : fits (tyX7 8) v = true) (hl : 8 < fs.length) (hdg : decode cc pc = .ok (.putfield 66, 3)) (kk : ∀ (H1 : Heap) (locs1 : List Loc), ga_wd G A s H1 locs1 (ws.set q0 (a, .inr (7, fs.set 8 v))) → W p l e R s m args below meth c H1 locs1 cells slots Q (F0 m (pc + 3) ls rest)) : W p l e R s m args below meth c H locs cells slots Q (F0 m pc ls (v :: .ref a :: rest)) := ga_put iX7 tyX7 tyX7_ok nmX7 rfl 8 (by decide) rfl tm_515 cx hK w q0 he hn hfit hl hdg kk
theorem gf_X7_83 (cx : ga_cx p m c cc nL s args RX7) (hK : ga_K G s) (w : ga_wd G A s H locs ws) (q0 : Nat) {fs : List Value} (he : ws[q0]? = some (a, .inr (7, fs))) {v : Value} (hv : fs[9]? = some v) (hdg : decode cc pc = .ok (.getfield 83, 3)) (kk : W p l e R s m args below meth c H locs cells slots Q (F0 m (pc + 3) ls (v :: rest))) : W p l e R s m args below meth c H locs cells slots Q (F0 m pc ls (.ref a :: rest)) := ga_get iX7 rfl 9 (by decide) tm_516 cx hK w q0 he hv hdg kk
theorem pf_X7_83 (cx : ga_cx p m c cc nL s args RX7) (hK : ga_K G s) (w : ga_wd G A s H locs ws) (q0 : Nat) {fs : List Value} (he : ws[q0]? = some (a, .inr (7, fs))) {v : Value} (hn : narrow (tyX7 9) v = v) (hfit : fits (tyX7 9) v = true) (hl : 9 < fs.length) (hdg : decode cc pc = .ok (.putfield 83, 3)) (kk : ∀ (H1 : Heap) (locs1 : List Loc), ga_wd G A s H1 locs1 (ws.set q0 (a, .inr (7, fs.set 9 v))) → W p l e R s m args below meth c H1 locs1 cells slots Q (F0 m (pc + 3) ls rest)) : W p l e R s m args below meth c H locs cells slots Q (F0 m pc ls (v :: .ref a :: rest)) := ga_put iX7 tyX7 tyX7_ok nmX7 rfl 9 (by decide) rfl tm_516 cx hK w q0 he hn hfit hl hdg kk
theorem gf_X7_86 (cx : ga_cx p m c cc nL s args RX7) (hK : ga_K G s) (w : ga_wd G A s H locs ws) (q0 : Nat) {fs : List Value} (he : ws[q0]? = some (a, .inr (7, fs))) {v : Value} (hv : fs[10]? = some v) (hdg : decode cc pc = .ok (.getfield 86, 3)) (kk : W p l e R s m args below meth c H locs cells slots Q (F0 m (pc + 3) ls (v :: rest))) : W p l e R s m args below meth c H locs cells slots Q (F0 m pc ls (.ref a :: rest)) := ga_get iX7 rfl 10 (by decide) tm_517 cx hK w q0 he hv hdg kk
theorem pf_X7_86 (cx : ga_cx p m c cc nL s args RX7) (hK : ga_K G s) (w : ga_wd G A s H locs ws) (q0 : Nat) {fs : List Value} (he : ws[q0]? = some (a, .inr (7, fs))) {v : Value} (hn : narrow (tyX7 10) v = v) (hfit : fits (tyX7 10) v = true) (hl : 10 < fs.length) (hdg : decode cc pc = .ok (.putfield 86, 3)) (kk : ∀ (H1 : Heap) (locs1 : List Loc), ga_wd G A s H1 locs1 (ws.set q0 (a, .inr (7, fs.set 10 v))) → W p l e R s m args below meth c H1 locs1 cells slots Q (F0 m (pc + 3) ls rest)) : W p l e R s m args below meth c H locs cells slots Q (F0 m pc ls (v :: .ref a :: rest)) := ga_put iX7 tyX7 tyX7_ok nmX7 rfl 10 (by decide) rfl tm_517 cx hK w q0 he hn hfit hl hdg kk
theorem gf_X7_27 (cx : ga_cx p m c cc nL s args RX7) (hK : ga_K G s) (w : ga_wd G A s H locs ws) (q0 : Nat) {fs : List Value} (he : ws[q0]? = some (a, .inr (7, fs))) {v : Value} (hv : fs[11]? = some v) (hdg : decode cc pc = .ok (.getfield 27, 3)) (kk : W p l e R s m args below meth c H locs cells slots Q (F0 m (pc + 3) ls (v :: rest))) : W p l e R s m args below meth c H locs cells slots Q (F0 m pc ls (.ref a :: rest)) := ga_get iX7 rfl 11 (by decide) tm_518 cx hK w q0 he hv hdg kk
theorem pf_X7_27 (cx : ga_cx p m c cc nL s args RX7) (hK : ga_K G s) (w : ga_wd G A s H locs ws) (hi : meth.name = "<init>") (q0 : Nat) {fs : List Value} (he : ws[q0]? = some (a, .inr (7, fs))) {v : Value} (hn : narrow (tyX7 11) v = v) (hfit : fits (tyX7 11) v = true) (hl : 11 < fs.length) (hdg : decode cc pc = .ok (.putfield 27, 3)) (kk : ∀ (H1 : Heap) (locs1 : List Loc), ga_wd G A s H1 locs1 (ws.set q0 (a, .inr (7, fs.set 11 v))) → W p l e R s m args below meth c H1 locs1 cells slots Q (F0 m (pc + 3) ls rest)) : W p l e R s m args below meth c H locs cells slots Q (F0 m pc ls (v :: .ref a :: rest)) := ga_putF iX7 tyX7 tyX7_ok nmX7 rfl 11 (by decide) rfl rfl tm_518 cx hK w hi q0 he hn hfit hl hdg kk
theorem gf_X7_30 (cx : ga_cx p m c cc nL s args RX7) (hK : ga_K G s) (w : ga_wd G A s H locs ws) (q0 : Nat) {fs : List Value} (he : ws[q0]? = some (a, .inr (7, fs))) {v : Value} (hv : fs[12]? = some v) (hdg : decode cc pc = .ok (.getfield 30, 3)) (kk : W p l e R s m args below meth c H locs cells slots Q (F0 m (pc + 3) ls (v :: rest))) : W p l e R s m args below meth c H locs cells slots Q (F0 m pc ls (.ref a :: rest)) := ga_get iX7 rfl 12 (by decide) tm_519 cx hK w q0 he hv hdg kk
theorem pf_X7_30 (cx : ga_cx p m c cc nL s args RX7) (hK : ga_K G s) (w : ga_wd G A s H locs ws) (hi : meth.name = "<init>") (q0 : Nat) {fs : List Value} (he : ws[q0]? = some (a, .inr (7, fs))) {v : Value} (hn : narrow (tyX7 12) v = v) (hfit : fits (tyX7 12) v = true) (hl : 12 < fs.length) (hdg : decode cc pc = .ok (.putfield 30, 3)) (kk : ∀ (H1 : Heap) (locs1 : List Loc), ga_wd G A s H1 locs1 (ws.set q0 (a, .inr (7, fs.set 12 v))) → W p l e R s m args below meth c H1 locs1 cells slots Q (F0 m (pc + 3) ls rest)) : W p l e R s m args below meth c H locs cells slots Q (F0 m pc ls (v :: .ref a :: rest)) := ga_putF iX7 tyX7 tyX7_ok nmX7 rfl 12 (by decide) rfl rfl tm_519 cx hK w hi q0 he hn hfit hl hdg kk
theorem gf_X7_33 (cx : ga_cx p m c cc nL s args RX7) (hK : ga_K G s) (w : ga_wd G A s H locs ws) (q0 : Nat) {fs : List Value} (he : ws[q0]? = some (a, .inr (7, fs))) {v : Value} (hv : fs[13]? = some v) (hdg : decode cc pc = .ok (.getfield 33, 3)) (kk : W p l e R s m args below meth c H locs cells slots Q (F0 m (pc + 3) ls (v :: rest))) : W p l e R s m args below meth c H locs cells slots Q (F0 m pc ls (.ref a :: rest)) := ga_get iX7 rfl 13 (by decide) tm_520 cx hK w q0 he hv hdg kk
theorem pf_X7_33 (cx : ga_cx p m c cc nL s args RX7) (hK : ga_K G s) (w : ga_wd G A s H locs ws) (hi : meth.name = "<init>") (q0 : Nat) {fs : List Value} (he : ws[q0]? = some (a, .inr (7, fs))) {v : Value} (hn : narrow (tyX7 13) v = v) (hfit : fits (tyX7 13) v = true) (hl : 13 < fs.length) (hdg : decode cc pc = .ok (.putfield 33, 3)) (kk : ∀ (H1 : Heap) (locs1 : List Loc), ga_wd G A s H1 locs1 (ws.set q0 (a, .inr (7, fs.set 13 v))) → W p l e R s m args below meth c H1 locs1 cells slots Q (F0 m (pc + 3) ls rest)) : W p l e R s m args below meth c H locs cells slots Q (F0 m pc ls (v :: .ref a :: rest)) := ga_putF iX7 tyX7 tyX7_ok nmX7 rfl 13 (by decide) rfl rfl tm_520 cx hK w hi q0 he hn hfit hl hdg kk
theorem gf_X7_36 (cx : ga_cx p m c cc nL s args RX7) (hK : ga_K G s) (w : ga_wd G A s H locs ws) (q0 : Nat) {fs : List Value} (he : ws[q0]? = some (a, .inr (7, fs))) {v : Value} (hv : fs[14]? = some v) (hdg : decode cc pc = .ok (.getfield 36, 3)) (kk : W p l e R s m args below meth c H locs cells slots Q (F0 m (pc + 3) ls (v :: rest))) : W p l e R s m args below meth c H locs cells slots Q (F0 m pc ls (.ref a :: rest)) := ga_get iX7 rfl 14 (by decide) tm_521 cx hK w q0 he hv hdg kk
theorem pf_X7_36 (cx : ga_cx p m c cc nL s args RX7) (hK : ga_K G s) (w : ga_wd G A s H locs ws) (hi : meth.name = "<init>") (q0 : Nat) {fs : List Value} (he : ws[q0]? = some (a, .inr (7, fs))) {v : Value} (hn : narrow (tyX7 14) v = v) (hfit : fits (tyX7 14) v = true) (hl : 14 < fs.length) (hdg : decode cc pc = .ok (.putfield 36, 3)) (kk : ∀ (H1 : Heap) (locs1 : List Loc), ga_wd G A s H1 locs1 (ws.set q0 (a, .inr (7, fs.set 14 v))) → W p l e R s m args below meth c H1 locs1 cells slots Q (F0 m (pc + 3) ls rest)) : W p l e R s m args below meth c H locs cells slots Q (F0 m pc ls (v :: .ref a :: rest)) := ga_putF iX7 tyX7 tyX7_ok nmX7 rfl 14 (by decide) rfl rfl tm_521 cx hK w hi q0 he hn hfit hl hdg kk
theorem gf_X7_69 (cx : ga_cx p m c cc nL s args RX7) (hK : ga_K G s) (w : ga_wd G A s H locs ws) (q0 : Nat) {fs : List Value} (he : ws[q0]? = some (a, .inr (7, fs))) {v : Value} (hv : fs[15]? = some v) (hdg : decode cc pc = .ok (.getfield 69, 3)) (kk : W p l e R s m args below meth c H locs cells slots Q (F0 m (pc + 3) ls (v :: rest))) : W p l e R s m args below meth c H locs cells slots Q (F0 m pc ls (.ref a :: rest)) := ga_get iX7 rfl 15 (by decide) tm_522 cx hK w q0 he hv hdg kk
theorem pf_X7_69 (cx : ga_cx p m c cc nL s args RX7) (hK : ga_K G s) (w : ga_wd G A s H locs ws) (q0 : Nat) {fs : List Value} (he : ws[q0]? = some (a, .inr (7, fs))) {v : Value} (hn : narrow (tyX7 15) v = v) (hfit : fits (tyX7 15) v = true) (hl : 15 < fs.length) (hdg : decode cc pc = .ok (.putfield 69, 3)) (kk : ∀ (H1 : Heap) (locs1 : List Loc), ga_wd G A s H1 locs1 (ws.set q0 (a, .inr (7, fs.set 15 v))) → W p l e R s m args below meth c H1 locs1 cells slots Q (F0 m (pc + 3) ls rest)) : W p l e R s m args below meth c H locs cells slots Q (F0 m pc ls (v :: .ref a :: rest)) := ga_put iX7 tyX7 tyX7_ok nmX7 rfl 15 (by decide) rfl tm_522 cx hK w q0 he hn hfit hl hdg kk
theorem gf_X7_145 (cx : ga_cx p m c cc nL s args RX7) (hK : ga_K G s) (w : ga_wd G A s H locs ws) (q0 : Nat) {fs : List Value} (he : ws[q0]? = some (a, .inr (7, fs))) {v : Value} (hv : fs[16]? = some v) (hdg : decode cc pc = .ok (.getfield 145, 3)) (kk : W p l e R s m args below meth c H locs cells slots Q (F0 m (pc + 3) ls (v :: rest))) : W p l e R s m args below meth c H locs cells slots Q (F0 m pc ls (.ref a :: rest)) := ga_get iX7 rfl 16 (by decide) tm_523 cx hK w q0 he hv hdg kk
theorem pf_X7_145 (cx : ga_cx p m c cc nL s args RX7) (hK : ga_K G s) (w : ga_wd G A s H locs ws) (q0 : Nat) {fs : List Value} (he : ws[q0]? = some (a, .inr (7, fs))) {v : Value} (hn : narrow (tyX7 16) v = v) (hfit : fits (tyX7 16) v = true) (hl : 16 < fs.length) (hdg : decode cc pc = .ok (.putfield 145, 3)) (kk : ∀ (H1 : Heap) (locs1 : List Loc), ga_wd G A s H1 locs1 (ws.set q0 (a, .inr (7, fs.set 16 v))) → W p l e R s m args below meth c H1 locs1 cells slots Q (F0 m (pc + 3) ls rest)) : W p l e R s m args below meth c H locs cells slots Q (F0 m pc ls (v :: .ref a :: rest)) := ga_put iX7 tyX7 tyX7_ok nmX7 rfl 16 (by decide) rfl tm_523 cx hK w q0 he hn hfit hl hdg kk
theorem gf_X7_142 (cx : ga_cx p m c cc nL s args RX7) (hK : ga_K G s) (w : ga_wd G A s H locs ws) (q0 : Nat) {fs : List Value} (he : ws[q0]? = some (a, .inr (7, fs))) {v : Value} (hv : fs[17]? = some v) (hdg : decode cc pc = .ok (.getfield 142, 3)) (kk : W p l e R s m args below meth c H locs cells slots Q (F0 m (pc + 3) ls (v :: rest))) : W p l e R s m args below meth c H locs cells slots Q (F0 m pc ls (.ref a :: rest)) := ga_get iX7 rfl 17 (by decide) tm_524 cx hK w q0 he hv hdg kk
theorem pf_X7_142 (cx : ga_cx p m c cc nL s args RX7) (hK : ga_K G s) (w : ga_wd G A s H locs ws) (q0 : Nat) {fs : List Value} (he : ws[q0]? = some (a, .inr (7, fs))) {v : Value} (hn : narrow (tyX7 17) v = v) (hfit : fits (tyX7 17) v = true) (hl : 17 < fs.length) (hdg : decode cc pc = .ok (.putfield 142, 3)) (kk : ∀ (H1 : Heap) (locs1 : List Loc), ga_wd G A s H1 locs1 (ws.set q0 (a, .inr (7, fs.set 17 v))) → W p l e R s m args below meth c H1 locs1 cells slots Q (F0 m (pc + 3) ls rest)) : W p l e R s m args below meth c H locs cells slots Q (F0 m pc ls (v :: .ref a :: rest)) := ga_put iX7 tyX7 tyX7_ok nmX7 rfl 17 (by decide) rfl tm_524 cx hK w q0 he hn hfit hl hdg kk
theorem gf_X7_39 (cx : ga_cx p m c cc nL s args RX7) (hK : ga_K G s) (w : ga_wd G A s H locs ws) (q0 : Nat) {fs : List Value} (he : ws[q0]? = some (a, .inr (7, fs))) {v : Value} (hv : fs[18]? = some v) (hdg : decode cc pc = .ok (.getfield 39, 3)) (kk : W p l e R s m args below meth c H locs cells slots Q (F0 m (pc + 3) ls (v :: rest))) : W p l e R s m args below meth c H locs cells slots Q (F0 m pc ls (.ref a :: rest)) := ga_get iX7 rfl 18 (by decide) tm_525 cx hK w q0 he hv hdg kk
theorem pf_X7_39 (cx : ga_cx p m c cc nL s args RX7) (hK : ga_K G s) (w : ga_wd G A s H locs ws) (hi : meth.name = "<init>") (q0 : Nat) {fs : List Value} (he : ws[q0]? = some (a, .inr (7, fs))) {v : Value} (hn : narrow (tyX7 18) v = v) (hfit : fits (tyX7 18) v = true) (hl : 18 < fs.length) (hdg : decode cc pc = .ok (.putfield 39, 3)) (kk : ∀ (H1 : Heap) (locs1 : List Loc), ga_wd G A s H1 locs1 (ws.set q0 (a, .inr (7, fs.set 18 v))) → W p l e R s m args below meth c H1 locs1 cells slots Q (F0 m (pc + 3) ls rest)) : W p l e R s m args below meth c H locs cells slots Q (F0 m pc ls (v :: .ref a :: rest)) := ga_putF iX7 tyX7 tyX7_ok nmX7 rfl 18 (by decide) rfl rfl tm_525 cx hK w hi q0 he hn hfit hl hdg kk
theorem gf_X7_42 (cx : ga_cx p m c cc nL s args RX7) (hK : ga_K G s) (w : ga_wd G A s H locs ws) (q0 : Nat) {fs : List Value} (he : ws[q0]? = some (a, .inr (7, fs))) {v : Value} (hv : fs[19]? = some v) (hdg : decode cc pc = .ok (.getfield 42, 3)) (kk : W p l e R s m args below meth c H locs cells slots Q (F0 m (pc + 3) ls (v :: rest))) : W p l e R s m args below meth c H locs cells slots Q (F0 m pc ls (.ref a :: rest)) := ga_get iX7 rfl 19 (by decide) tm_526 cx hK w q0 he hv hdg kk
theorem pf_X7_42 (cx : ga_cx p m c cc nL s args RX7) (hK : ga_K G s) (w : ga_wd G A s H locs ws) (hi : meth.name = "<init>") (q0 : Nat) {fs : List Value} (he : ws[q0]? = some (a, .inr (7, fs))) {v : Value} (hn : narrow (tyX7 19) v = v) (hfit : fits (tyX7 19) v = true) (hl : 19 < fs.length) (hdg : decode cc pc = .ok (.putfield 42, 3)) (kk : ∀ (H1 : Heap) (locs1 : List Loc), ga_wd G A s H1 locs1 (ws.set q0 (a, .inr (7, fs.set 19 v))) → W p l e R s m args below meth c H1 locs1 cells slots Q (F0 m (pc + 3) ls rest)) : W p l e R s m args below meth c H locs cells slots Q (F0 m pc ls (v :: .ref a :: rest)) := ga_putF iX7 tyX7 tyX7_ok nmX7 rfl 19 (by decide) rfl rfl tm_526 cx hK w hi q0 he hn hfit hl hdg kk
theorem gf_X7_46 (cx : ga_cx p m c cc nL s args RX7) (hK : ga_K G s) (w : ga_wd G A s H locs ws) (q0 : Nat) {fs : List Value} (he : ws[q0]? = some (a, .inr (7, fs))) {v : Value} (hv : fs[20]? = some v) (hdg : decode cc pc = .ok (.getfield 46, 3)) (kk : W p l e R s m args below meth c H locs cells slots Q (F0 m (pc + 3) ls (v :: rest))) : W p l e R s m args below meth c H locs cells slots Q (F0 m pc ls (.ref a :: rest)) := ga_get iX7 rfl 20 (by decide) tm_527 cx hK w q0 he hv hdg kk
theorem pf_X7_46 (cx : ga_cx p m c cc nL s args RX7) (hK : ga_K G s) (w : ga_wd G A s H locs ws) (hi : meth.name = "<init>") (q0 : Nat) {fs : List Value} (he : ws[q0]? = some (a, .inr (7, fs))) {v : Value} (hn : narrow (tyX7 20) v = v) (hfit : fits (tyX7 20) v = true) (hl : 20 < fs.length) (hdg : decode cc pc = .ok (.putfield 46, 3)) (kk : ∀ (H1 : Heap) (locs1 : List Loc), ga_wd G A s H1 locs1 (ws.set q0 (a, .inr (7, fs.set 20 v))) → W p l e R s m args below meth c H1 locs1 cells slots Q (F0 m (pc + 3) ls rest)) : W p l e R s m args below meth c H locs cells slots Q (F0 m pc ls (v :: .ref a :: rest)) := ga_putF iX7 tyX7 tyX7_ok nmX7 rfl 20 (by decide) rfl rfl tm_527 cx hK w hi q0 he hn hfit hl hdg kk
theorem gf_X7_49 (cx : ga_cx p m c cc nL s args RX7) (hK : ga_K G s) (w : ga_wd G A s H locs ws) (q0 : Nat) {fs : List Value} (he : ws[q0]? = some (a, .inr (7, fs))) {v : Value} (hv : fs[21]? = some v) (hdg : decode cc pc = .ok (.getfield 49, 3)) (kk : W p l e R s m args below meth c H locs cells slots Q (F0 m (pc + 3) ls (v :: rest))) : W p l e R s m args below meth c H locs cells slots Q (F0 m pc ls (.ref a :: rest)) := ga_get iX7 rfl 21 (by decide) tm_528 cx hK w q0 he hv hdg kk
theorem pf_X7_49 (cx : ga_cx p m c cc nL s args RX7) (hK : ga_K G s) (w : ga_wd G A s H locs ws) (hi : meth.name = "<init>") (q0 : Nat) {fs : List Value} (he : ws[q0]? = some (a, .inr (7, fs))) {v : Value} (hn : narrow (tyX7 21) v = v) (hfit : fits (tyX7 21) v = true) (hl : 21 < fs.length) (hdg : decode cc pc = .ok (.putfield 49, 3)) (kk : ∀ (H1 : Heap) (locs1 : List Loc), ga_wd G A s H1 locs1 (ws.set q0 (a, .inr (7, fs.set 21 v))) → W p l e R s m args below meth c H1 locs1 cells slots Q (F0 m (pc + 3) ls rest)) : W p l e R s m args below meth c H locs cells slots Q (F0 m pc ls (v :: .ref a :: rest)) := ga_putF iX7 tyX7 tyX7_ok nmX7 rfl 21 (by decide) rfl rfl tm_528 cx hK w hi q0 he hn hfit hl hdg kk
theorem gf_X7_115 (cx : ga_cx p m c cc nL s args RX7) (hK : ga_K G s) (w : ga_wd G A s H locs ws) (q0 : Nat) {fs : List Value} (he : ws[q0]? = some (a, .inr (7, fs))) {v : Value} (hv : fs[22]? = some v) (hdg : decode cc pc = .ok (.getfield 115, 3)) (kk : W p l e R s m args below meth c H locs cells slots Q (F0 m (pc + 3) ls (v :: rest))) : W p l e R s m args below meth c H locs cells slots Q (F0 m pc ls (.ref a :: rest)) := ga_get iX7 rfl 22 (by decide) tm_529 cx hK w q0 he hv hdg kk
theorem pf_X7_115 (cx : ga_cx p m c cc nL s args RX7) (hK : ga_K G s) (w : ga_wd G A s H locs ws) (q0 : Nat) {fs : List Value} (he : ws[q0]? = some (a, .inr (7, fs))) {v : Value} (hn : narrow (tyX7 22) v = v) (hfit : fits (tyX7 22) v = true) (hl : 22 < fs.length) (hdg : decode cc pc = .ok (.putfield 115, 3)) (kk : ∀ (H1 : Heap) (locs1 : List Loc), ga_wd G A s H1 locs1 (ws.set q0 (a, .inr (7, fs.set 22 v))) → W p l e R s m args below meth c H1 locs1 cells slots Q (F0 m (pc + 3) ls rest)) : W p l e R s m args below meth c H locs cells slots Q (F0 m pc ls (v :: .ref a :: rest)) := ga_put iX7 tyX7 tyX7_ok nmX7 rfl 22 (by decide) rfl tm_529 cx hK w q0 he hn hfit hl hdg kk
end GF
theorem lk_L_9 : ga_lkI RL 9 yX6_init cX6_init 1 0 := ⟨⟨tm_36, tm_37, tm_22, tm_38⟩, rfl, (by decide +kernel), (by decide +kernel), rfl⟩
theorem lk_X6_11 : ga_lkIN RX6 11 yX1_init "LogPlacer" cX1_init 1 0 := ⟨⟨List.mem_of_getElem? (i := 0) rfl, tm_45, tm_23, tm_46⟩, rfl, (by decide +kernel), (by decide +kernel), rfl⟩
theorem lk_X6_18 : ga_lkIN RX6 18 yX3_init "LogPlacer" cX3_init 1 0 := ⟨⟨List.mem_of_getElem? (i := 1) rfl, tm_92, tm_24, tm_93⟩, rfl, (by decide +kernel), (by decide +kernel), rfl⟩
theorem lk_X6_25 : ga_lkIN RX6 25 yX0_init "LogPlacer" cX0_init 1 0 := ⟨⟨List.mem_of_getElem? (i := 2) rfl, tm_124, tm_25, tm_125⟩, rfl, (by decide +kernel), (by decide +kernel), rfl⟩
theorem lk_X6_35 : ga_lkI RX6 35 yX4_init cX4_init 2 1 := ⟨⟨tm_142, tm_143, tm_26, tm_144⟩, rfl, (by decide +kernel), (by decide +kernel), rfl⟩
theorem lk_X6_44 : ga_lkIN RX6 44 yX5_init "LogPlacer" cX5_init 1 0 := ⟨⟨List.mem_of_getElem? (i := 3) rfl, tm_159, tm_27, tm_160⟩, rfl, (by decide +kernel), (by decide +kernel), rfl⟩
theorem lk_X6_51 : ga_lkIN RX6 51 yX2_init "LogPlacer" cX2_init 1 0 := ⟨⟨List.mem_of_getElem? (i := 4) rfl, tm_174, tm_28, tm_175⟩, rfl, (by decide +kernel), (by decide +kernel), rfl⟩
theorem lk_L_13 : ga_lkV RL 13 RX6 yX6_flow cX6_flow 2 (Option.some Jvm.ClassFile.FieldType.boolean) 1 := ⟨⟨tm_218, tm_219, tm_220, tm_22, tm_221⟩, rfl, (by decide +kernel), (by decide +kernel), rfl⟩
theorem lk_X6_56 : ga_lkV RX6 56 RX1 yX1_restart cX1_restart 2 (none) 1 := ⟨⟨tm_222, tm_223, tm_224, tm_23, tm_225⟩, rfl, (by decide +kernel), (by decide +kernel), rfl⟩
theorem lk_X1_37 : ga_lkS RX1 37 yJ7_fill_53178 cJ7_fill_53178 4 (none) 2 := ⟨⟨tm_226, tm_227, tm_30, tm_228⟩, (by decide +kernel), (by decide +kernel), rfl⟩
theorem lk_X6_60 : ga_lkV RX6 60 RX2 yX2_forget cX2_forget 1 (none) 0 := ⟨⟨tm_229, tm_230, tm_231, tm_28, tm_232⟩, rfl, (by decide +kernel), (by decide +kernel), rfl⟩
theorem lk_X6_63 : ga_lkV RX6 63 RX6 yX6_forgetWays cX6_forgetWays 1 (none) 0 := ⟨⟨tm_233, tm_235, tm_0, tm_22, tm_236⟩, rfl, (by decide +kernel), (by decide +kernel), rfl⟩
theorem lk_L_18 : ga_lkV RL 18 RX6 yX6_step cX6_step 5 (Option.some Jvm.ClassFile.FieldType.int) 3 := ⟨⟨tm_237, tm_238, tm_239, tm_22, tm_240⟩, rfl, (by decide +kernel), (by decide +kernel), rfl⟩
theorem lk_X6_66 : ga_lkV RX6 66 RX1 yX1_hasNode cX1_hasNode 2 (Option.some Jvm.ClassFile.FieldType.boolean) 1 := ⟨⟨tm_241, tm_242, tm_243, tm_23, tm_244⟩, rfl, (by decide +kernel), (by decide +kernel), rfl⟩
theorem lk_X6_70 : ga_lkS RX6 70 yX6_canBeCounted cX6_canBeCounted 1 (Option.some Jvm.ClassFile.FieldType.boolean) 1 := ⟨⟨tm_245, tm_246, tm_22, tm_247⟩, (by decide +kernel), (by decide +kernel), rfl⟩
theorem lk_X6_77 : ga_lkV RX6 77 RX1 yX1_addStep cX1_addStep 5 (Option.some Jvm.ClassFile.FieldType.int) 3 := ⟨⟨tm_249, tm_250, tm_251, tm_23, tm_252⟩, rfl, (by decide +kernel), (by decide +kernel), rfl⟩
theorem lk_L_23 : ga_lkV RL 23 RX6 yX6_counted cX6_counted 3 (Option.some Jvm.ClassFile.FieldType.boolean) 2 := ⟨⟨tm_253, tm_254, tm_255, tm_22, tm_256⟩, rfl, (by decide +kernel), (by decide +kernel), rfl⟩
theorem lk_X6_81 : ga_lkV RX6 81 RX1 yX1_hasStep cX1_hasStep 2 (Option.some Jvm.ClassFile.FieldType.boolean) 1 := ⟨⟨tm_257, tm_258, tm_259, tm_23, tm_260⟩, rfl, (by decide +kernel), (by decide +kernel), rfl⟩
theorem lk_L_28 : ga_lkV RL 28 RX6 yX6_line cX6_line 3 (Option.some Jvm.ClassFile.FieldType.boolean) 2 := ⟨⟨tm_261, tm_262, tm_263, tm_22, tm_264⟩, rfl, (by decide +kernel), (by decide +kernel), rfl⟩
theorem lk_X6_91 : ga_lkS RX6 91 yX6_has cX6_has 2 (Option.some Jvm.ClassFile.FieldType.boolean) 2 := ⟨⟨tm_265, tm_266, tm_22, tm_267⟩, (by decide +kernel), (by decide +kernel), rfl⟩
theorem lk_L_33 : ga_lkV RL 33 RX6 yX6_fault cX6_fault 3 (Option.some Jvm.ClassFile.FieldType.boolean) 2 := ⟨⟨tm_268, tm_269, tm_270, tm_22, tm_271⟩, rfl, (by decide +kernel), (by decide +kernel), rfl⟩
theorem lk_L_37 : ga_lkV RL 37 RX6 yX6_ways cX6_ways 1 (Option.some Jvm.ClassFile.FieldType.int) 0 := ⟨⟨tm_272, tm_273, tm_274, tm_22, tm_275⟩, rfl, (by decide +kernel), (by decide +kernel), rfl⟩
theorem lk_X6_102 : ga_lkV RX6 102 RX6 yX6_tooMany cX6_tooMany 1 (Option.some Jvm.ClassFile.FieldType.boolean) 0 := ⟨⟨tm_276, tm_278, tm_1, tm_22, tm_279⟩, rfl, (by decide +kernel), (by decide +kernel), rfl⟩
theorem lk_X6_209 : ga_lkV RX6 209 RX3 yX3_gather cX3_gather 2 (none) 1 := ⟨⟨tm_280, tm_281, tm_282, tm_24, tm_283⟩, rfl, (by decide +kernel), (by decide +kernel), rfl⟩
theorem lk_X3_29 : ga_lkS RX3 29 yX3_follow cX3_follow 8 (none) 6 := ⟨⟨tm_284, tm_285, tm_24, tm_286⟩, (by decide +kernel), (by decide +kernel), rfl⟩
theorem lk_X3_38 : ga_lkV RX3 38 RX3 yX3_add cX3_add 3 (none) 2 := ⟨⟨tm_287, tm_289, tm_2, tm_24, tm_290⟩, rfl, (by decide +kernel), (by decide +kernel), rfl⟩
theorem lk_L_42 : ga_lkV RL 42 RX6 yX6_way cX6_way 3 (Option.some Jvm.ClassFile.FieldType.int) 2 := ⟨⟨tm_291, tm_292, tm_293, tm_22, tm_294⟩, rfl, (by decide +kernel), (by decide +kernel), rfl⟩
theorem lk_X6_109 : ga_lkV RX6 109 RX6 yX6_hasWay cX6_hasWay 2 (Option.some Jvm.ClassFile.FieldType.boolean) 1 := ⟨⟨tm_295, tm_297, tm_3, tm_22, tm_298⟩, rfl, (by decide +kernel), (by decide +kernel), rfl⟩
theorem lk_X6_115 : ga_lkV RX6 115 RX1 yX1_stepAt cX1_stepAt 6 (Option.some Jvm.ClassFile.FieldType.int) 2 := ⟨⟨tm_299, tm_300, tm_301, tm_23, tm_302⟩, rfl, (by decide +kernel), (by decide +kernel), rfl⟩
theorem lk_X1_47 : ga_lkSN RX1 47 yX6_member "LogPlacer" cX6_member 4 (Option.some Jvm.ClassFile.FieldType.int) 2 := ⟨⟨List.mem_of_getElem? (i := 5) rfl, tm_304, tm_22, tm_305⟩, (by decide +kernel), (by decide +kernel), rfl⟩
theorem lk_L_47 : ga_lkV RL 47 RX6 yX6_log cX6_log 3 (Option.some Jvm.ClassFile.FieldType.int) 2 := ⟨⟨tm_306, tm_307, tm_308, tm_22, tm_309⟩, rfl, (by decide +kernel), (by decide +kernel), rfl⟩
theorem lk_L_51 : ga_lkV RL 51 RX6 yX6_heaps cX6_heaps 1 (Option.some Jvm.ClassFile.FieldType.int) 0 := ⟨⟨tm_310, tm_311, tm_312, tm_22, tm_313⟩, rfl, (by decide +kernel), (by decide +kernel), rfl⟩
theorem lk_X6_119 : ga_lkV RX6 119 RX3 yX3_logsUnlike cX3_logsUnlike 4 (Option.some Jvm.ClassFile.FieldType.int) 1 := ⟨⟨tm_314, tm_315, tm_316, tm_24, tm_317⟩, rfl, (by decide +kernel), (by decide +kernel), rfl⟩
theorem lk_X3_51 : ga_lkV RX3 51 RX3 yX3_firstLike cX3_firstLike 5 (Option.some Jvm.ClassFile.FieldType.int) 2 := ⟨⟨tm_318, tm_319, tm_320, tm_24, tm_321⟩, rfl, (by decide +kernel), (by decide +kernel), rfl⟩
theorem lk_L_55 : ga_lkV RL 55 RX6 yX6_heap cX6_heap 2 (Option.some Jvm.ClassFile.FieldType.int) 1 := ⟨⟨tm_322, tm_323, tm_324, tm_22, tm_325⟩, rfl, (by decide +kernel), (by decide +kernel), rfl⟩
theorem lk_X6_123 : ga_lkV RX6 123 RX3 yX3_firstLike cX3_firstLike 5 (Option.some Jvm.ClassFile.FieldType.int) 2 := ⟨⟨tm_326, tm_319, tm_320, tm_24, tm_321⟩, rfl, (by decide +kernel), (by decide +kernel), rfl⟩
theorem lk_L_60 : ga_lkV RL 60 RX6 yX6_apart cX6_apart 2 (Option.some Jvm.ClassFile.FieldType.int) 1 := ⟨⟨tm_327, tm_328, tm_329, tm_22, tm_330⟩, rfl, (by decide +kernel), (by decide +kernel), rfl⟩
theorem lk_X6_126 : ga_lkS RX6 126 yX6_isWaysOrFaults cX6_isWaysOrFaults 1 (Option.some Jvm.ClassFile.FieldType.boolean) 1 := ⟨⟨tm_331, tm_332, tm_22, tm_333⟩, (by decide +kernel), (by decide +kernel), rfl⟩
theorem lk_X6_129 : ga_lkV RX6 129 RX6 yX6_partings cX6_partings 3 (Option.some (Jvm.ClassFile.FieldType.object "LogPlacer$Partings")) 1 := ⟨⟨tm_334, tm_336, tm_4, tm_22, tm_337⟩, rfl, (by decide +kernel), (by decide +kernel), rfl⟩
theorem lk_X6_214 : ga_lkV RX6 214 RX0 yX0_gather cX0_gather 7 (none) 3 := ⟨⟨tm_338, tm_339, tm_340, tm_25, tm_341⟩, rfl, (by decide +kernel), (by decide +kernel), rfl⟩
theorem lk_X0_32 : ga_lkV RX0 32 RX0 yX0_add cX0_add 3 (none) 1 := ⟨⟨tm_342, tm_344, tm_5, tm_25, tm_345⟩, rfl, (by decide +kernel), (by decide +kernel), rfl⟩
theorem lk_X0_36 : ga_lkV RX0 36 RX0 yX0_dropThoseWith cX0_dropThoseWith 4 (none) 1 := ⟨⟨tm_346, tm_348, tm_6, tm_25, tm_349⟩, rfl, (by decide +kernel), (by decide +kernel), rfl⟩
theorem lk_X0_39 : ga_lkS RX0 39 yJ7_copyOf_59c91 cJ7_copyOf_59c91 3 (Option.some (Jvm.ClassFile.FieldType.array Jvm.ClassFile.FieldType.int)) 2 := ⟨⟨tm_350, tm_351, tm_30, tm_352⟩, (by decide +kernel), (by decide +kernel), rfl⟩
theorem lk_J7_304 : ga_lkS RJ7 304 yJ9_min_7cf53 cJ9_min_7cf53 2 (Option.some Jvm.ClassFile.FieldType.int) 2 := ⟨⟨tm_360, tm_361, tm_31, tm_362⟩, (by decide +kernel), (by decide +kernel), rfl⟩
theorem lk_X6_133 : ga_lkV RX6 133 RX0 yX0_allMetBy cX0_allMetBy 2 (Option.some Jvm.ClassFile.FieldType.boolean) 1 := ⟨⟨tm_366, tm_367, tm_368, tm_25, tm_369⟩, rfl, (by decide +kernel), (by decide +kernel), rfl⟩
theorem lk_X0_45 : ga_lkV RX0 45 RX0 yX0_firstNotMetBy cX0_firstNotMetBy 4 (Option.some Jvm.ClassFile.FieldType.int) 2 := ⟨⟨tm_370, tm_371, tm_372, tm_25, tm_373⟩, rfl, (by decide +kernel), (by decide +kernel), rfl⟩
theorem lk_L_64 : ga_lkV RL 64 RX6 yX6_cheapest cX6_cheapest 3 (Option.some Jvm.ClassFile.FieldType.int) 2 := ⟨⟨tm_374, tm_375, tm_376, tm_22, tm_377⟩, rfl, (by decide +kernel), (by decide +kernel), rfl⟩
theorem lk_X6_136 : ga_lkV RX6 136 RX4 yX4_cheapestWith cX4_cheapestWith 3 (Option.some Jvm.ClassFile.FieldType.int) 2 := ⟨⟨tm_378, tm_379, tm_380, tm_26, tm_381⟩, rfl, (by decide +kernel), (by decide +kernel), rfl⟩
theorem lk_X4_15 : ga_lkV RX4 15 RX1 yX1_allSteps cX1_allSteps 1 (Option.some Jvm.ClassFile.FieldType.int) 0 := ⟨⟨tm_382, tm_383, tm_384, tm_23, tm_385⟩, rfl, (by decide +kernel), (by decide +kernel), rfl⟩
theorem lk_X4_25 : ga_lkV RX4 25 RX1 yX1_priceOf cX1_priceOf 5 (Option.some Jvm.ClassFile.FieldType.long) 1 := ⟨⟨tm_386, tm_387, tm_388, tm_23, tm_389⟩, rfl, (by decide +kernel), (by decide +kernel), rfl⟩
theorem lk_X1_43 : ga_lkSN RX1 43 yX6_has "LogPlacer" cX6_has 2 (Option.some Jvm.ClassFile.FieldType.boolean) 2 := ⟨⟨List.mem_of_getElem? (i := 6) rfl, tm_266, tm_22, tm_267⟩, (by decide +kernel), (by decide +kernel), rfl⟩
theorem lk_X4_33 : ga_lkS RX4 33 yX4_choose cX4_choose 14 (none) 7 := ⟨⟨tm_391, tm_392, tm_26, tm_393⟩, (by decide +kernel), (by decide +kernel), rfl⟩
theorem lk_X4_37 : ga_lkV RX4 37 RX0 yX0_firstNotMetBy cX0_firstNotMetBy 4 (Option.some Jvm.ClassFile.FieldType.int) 2 := ⟨⟨tm_394, tm_371, tm_372, tm_25, tm_373⟩, rfl, (by decide +kernel), (by decide +kernel), rfl⟩
theorem lk_X4_46 : ga_lkV RX4 46 RX4 yX4_offer cX4_offer 4 (none) 2 := ⟨⟨tm_395, tm_397, tm_7, tm_26, tm_398⟩, rfl, (by decide +kernel), (by decide +kernel), rfl⟩
theorem lk_X4_64 : ga_lkS RX4 64 yX4_isRatherThan cX4_isRatherThan 5 (Option.some Jvm.ClassFile.FieldType.boolean) 2 := ⟨⟨tm_399, tm_400, tm_26, tm_401⟩, (by decide +kernel), (by decide +kernel), rfl⟩
theorem lk_X4_67 : ga_lkS RX4 67 yJ6_bitCount_0f7a4 cJ6_bitCount_0f7a4 1 (Option.some Jvm.ClassFile.FieldType.int) 1 := ⟨⟨tm_402, tm_403, tm_33, tm_404⟩, (by decide +kernel), (by decide +kernel), rfl⟩
theorem lk_X4_57 : ga_lkSN RX4 57 yX6_has "LogPlacer" cX6_has 2 (Option.some Jvm.ClassFile.FieldType.boolean) 2 := ⟨⟨List.mem_of_getElem? (i := 7) rfl, tm_266, tm_22, tm_267⟩, (by decide +kernel), (by decide +kernel), rfl⟩
theorem lk_L_69 : ga_lkV RL 69 RX6 yX6_price cX6_price 2 (Option.some Jvm.ClassFile.FieldType.long) 1 := ⟨⟨tm_409, tm_410, tm_411, tm_22, tm_412⟩, rfl, (by decide +kernel), (by decide +kernel), rfl⟩
theorem lk_X6_140 : ga_lkV RX6 140 RX1 yX1_allSteps cX1_allSteps 1 (Option.some Jvm.ClassFile.FieldType.int) 0 := ⟨⟨tm_413, tm_383, tm_384, tm_23, tm_385⟩, rfl, (by decide +kernel), (by decide +kernel), rfl⟩
theorem lk_X6_144 : ga_lkV RX6 144 RX1 yX1_priceOf cX1_priceOf 5 (Option.some Jvm.ClassFile.FieldType.long) 1 := ⟨⟨tm_414, tm_387, tm_388, tm_23, tm_389⟩, rfl, (by decide +kernel), (by decide +kernel), rfl⟩
theorem lk_L_74 : ga_lkV RL 74 RX6 yX6_useless cX6_useless 2 (Option.some Jvm.ClassFile.FieldType.int) 1 := ⟨⟨tm_416, tm_417, tm_418, tm_22, tm_419⟩, rfl, (by decide +kernel), (by decide +kernel), rfl⟩
theorem lk_X6_150 : ga_lkV RX6 150 RX3 yX3_soleParters cX3_soleParters 6 (Option.some Jvm.ClassFile.FieldType.int) 1 := ⟨⟨tm_420, tm_421, tm_422, tm_24, tm_423⟩, rfl, (by decide +kernel), (by decide +kernel), rfl⟩
theorem lk_X3_55 : ga_lkS RX3 55 yJ6_bitCount_0f7a4 cJ6_bitCount_0f7a4 1 (Option.some Jvm.ClassFile.FieldType.int) 1 := ⟨⟨tm_424, tm_403, tm_33, tm_404⟩, (by decide +kernel), (by decide +kernel), rfl⟩
theorem lk_X6_153 : ga_lkS RX6 153 yX6_member cX6_member 4 (Option.some Jvm.ClassFile.FieldType.int) 2 := ⟨⟨tm_425, tm_304, tm_22, tm_305⟩, (by decide +kernel), (by decide +kernel), rfl⟩
theorem lk_L_78 : ga_lkV RL 78 RX6 yX6_why cX6_why 4 (Option.some Jvm.ClassFile.FieldType.int) 2 := ⟨⟨tm_426, tm_427, tm_428, tm_22, tm_429⟩, rfl, (by decide +kernel), (by decide +kernel), rfl⟩
theorem lk_X6_156 : ga_lkS RX6 156 yX6_isFirstOrOther cX6_isFirstOrOther 1 (Option.some Jvm.ClassFile.FieldType.boolean) 1 := ⟨⟨tm_430, tm_431, tm_22, tm_432⟩, (by decide +kernel), (by decide +kernel), rfl⟩
theorem lk_X6_159 : ga_lkV RX6 159 RX3 yX3_firstPairPartedBy cX3_firstPairPartedBy 5 (Option.some Jvm.ClassFile.FieldType.int) 2 := ⟨⟨tm_433, tm_434, tm_435, tm_24, tm_436⟩, rfl, (by decide +kernel), (by decide +kernel), rfl⟩
theorem lk_L_82 : ga_lkV RL 82 RX6 yX6_feed cX6_feed 6 (Option.some Jvm.ClassFile.FieldType.int) 5 := ⟨⟨tm_437, tm_438, tm_439, tm_22, tm_440⟩, rfl, (by decide +kernel), (by decide +kernel), rfl⟩
theorem lk_X6_165 : ga_lkV RX6 165 RX5 yX5_put cX5_put 3 (none) 1 := ⟨⟨tm_441, tm_442, tm_443, tm_27, tm_444⟩, rfl, (by decide +kernel), (by decide +kernel), rfl⟩
theorem lk_L_87 : ga_lkV RL 87 RX6 yX6_read cX6_read 3 (Option.some Jvm.ClassFile.FieldType.int) 2 := ⟨⟨tm_445, tm_446, tm_447, tm_22, tm_448⟩, rfl, (by decide +kernel), (by decide +kernel), rfl⟩
theorem lk_X6_168 : ga_lkV RX6 168 RX2 yX2_take cX2_take 5 (none) 3 := ⟨⟨tm_449, tm_450, tm_451, tm_28, tm_452⟩, rfl, (by decide +kernel), (by decide +kernel), rfl⟩
theorem lk_X6_172 : ga_lkV RX6 172 RX2 yX2_fit cX2_fit 5 (none) 1 := ⟨⟨tm_453, tm_454, tm_455, tm_28, tm_456⟩, rfl, (by decide +kernel), (by decide +kernel), rfl⟩
theorem lk_X2_34 : ga_lkV RX2 34 RX1 yX1_hasStep cX1_hasStep 2 (Option.some Jvm.ClassFile.FieldType.boolean) 1 := ⟨⟨tm_457, tm_258, tm_259, tm_23, tm_260⟩, rfl, (by decide +kernel), (by decide +kernel), rfl⟩
theorem lk_X2_46 : ga_lkV RX2 46 RX1 yX1_stepsFromBelow cX1_stepsFromBelow 4 (Option.some Jvm.ClassFile.FieldType.int) 1 := ⟨⟨tm_458, tm_459, tm_460, tm_23, tm_461⟩, rfl, (by decide +kernel), (by decide +kernel), rfl⟩
theorem lk_X2_50 : ga_lkV RX2 50 RX1 yX1_allSteps cX1_allSteps 1 (Option.some Jvm.ClassFile.FieldType.int) 0 := ⟨⟨tm_462, tm_383, tm_384, tm_23, tm_385⟩, rfl, (by decide +kernel), (by decide +kernel), rfl⟩
theorem lk_X6_175 : ga_lkV RX6 175 RX2 yX2_howManyOf cX2_howManyOf 4 (Option.some Jvm.ClassFile.FieldType.int) 1 := ⟨⟨tm_463, tm_464, tm_465, tm_28, tm_466⟩, rfl, (by decide +kernel), (by decide +kernel), rfl⟩
theorem lk_X2_65 : ga_lkV RX2 65 RX2 yX2_allows cX2_allows 2 (Option.some Jvm.ClassFile.FieldType.boolean) 1 := ⟨⟨tm_467, tm_468, tm_469, tm_28, tm_470⟩, rfl, (by decide +kernel), (by decide +kernel), rfl⟩
theorem lk_L_91 : ga_lkV RL 91 RX6 yX6_allowed cX6_allowed 2 (Option.some Jvm.ClassFile.FieldType.int) 1 := ⟨⟨tm_471, tm_472, tm_473, tm_22, tm_474⟩, rfl, (by decide +kernel), (by decide +kernel), rfl⟩
theorem lk_X6_179 : ga_lkV RX6 179 RX2 yX2_memberOf cX2_memberOf 5 (Option.some Jvm.ClassFile.FieldType.int) 2 := ⟨⟨tm_475, tm_476, tm_477, tm_28, tm_478⟩, rfl, (by decide +kernel), (by decide +kernel), rfl⟩
theorem lk_L_95 : ga_lkV RL 95 RX6 yX6_found cX6_found 5 (Option.some Jvm.ClassFile.FieldType.int) 1 := ⟨⟨tm_479, tm_480, tm_481, tm_22, tm_482⟩, rfl, (by decide +kernel), (by decide +kernel), rfl⟩
theorem lk_X6_186 : ga_lkV RX6 186 RX2 yX2_inAll cX2_inAll 5 (Option.some Jvm.ClassFile.FieldType.int) 2 := ⟨⟨tm_483, tm_484, tm_485, tm_28, tm_486⟩, rfl, (by decide +kernel), (by decide +kernel), rfl⟩
theorem lk_X6_190 : ga_lkV RX6 190 RX2 yX2_inSome cX2_inSome 5 (Option.some Jvm.ClassFile.FieldType.int) 2 := ⟨⟨tm_487, tm_488, tm_489, tm_28, tm_490⟩, rfl, (by decide +kernel), (by decide +kernel), rfl⟩
theorem lk_L_99 : ga_lkV RL 99 RX6 yX6_look cX6_look 3 (Option.some Jvm.ClassFile.FieldType.int) 2 := ⟨⟨tm_491, tm_492, tm_493, tm_22, tm_494⟩, rfl, (by decide +kernel), (by decide +kernel), rfl⟩
theorem lk_L_103 : ga_lkV RL 103 RX6 yX6_count cX6_count 2 (Option.some Jvm.ClassFile.FieldType.long) 1 := ⟨⟨tm_495, tm_496, tm_497, tm_22, tm_498⟩, rfl, (by decide +kernel), (by decide +kernel), rfl⟩
theorem lk_X6_202 : ga_lkS RX6 202 yJ6_bitCount_0f7a4 cJ6_bitCount_0f7a4 1 (Option.some Jvm.ClassFile.FieldType.int) 1 := ⟨⟨tm_499, tm_403, tm_33, tm_404⟩, (by decide +kernel), (by decide +kernel), rfl⟩
theorem lk_L_12 : ga_lkI RL 12 yX7_init cX7_init 1 0 := ⟨⟨tm_502, tm_503, tm_29, tm_504⟩, rfl, (by decide +kernel), (by decide +kernel), rfl⟩
theorem lk_L_17 : ga_lkV RL 17 RX7 yX7_flow cX7_flow 2 (Option.some Jvm.ClassFile.FieldType.boolean) 1 := ⟨⟨tm_578, tm_579, tm_580, tm_29, tm_581⟩, rfl, (by decide +kernel), (by decide +kernel), rfl⟩
theorem lk_X7_55 : ga_lkS RX7 55 yX7_lies cX7_lies 6 (Option.some Jvm.ClassFile.FieldType.boolean) 3 := ⟨⟨tm_584, tm_585, tm_29, tm_586⟩, (by decide +kernel), (by decide +kernel), rfl⟩
theorem lk_L_22 : ga_lkV RL 22 RX7 yX7_step cX7_step 4 (Option.some Jvm.ClassFile.FieldType.int) 3 := ⟨⟨tm_587, tm_588, tm_589, tm_29, tm_590⟩, rfl, (by decide +kernel), (by decide +kernel), rfl⟩
theorem lk_L_27 : ga_lkV RL 27 RX7 yX7_counted cX7_counted 3 (Option.some Jvm.ClassFile.FieldType.boolean) 2 := ⟨⟨tm_592, tm_593, tm_594, tm_29, tm_595⟩, rfl, (by decide +kernel), (by decide +kernel), rfl⟩
theorem lk_X7_75 : ga_lkV RX7 75 RX7 yX7_isStep cX7_isStep 2 (Option.some Jvm.ClassFile.FieldType.boolean) 1 := ⟨⟨tm_596, tm_598, tm_8, tm_29, tm_599⟩, rfl, (by decide +kernel), (by decide +kernel), rfl⟩
theorem lk_L_32 : ga_lkV RL 32 RX7 yX7_line cX7_line 3 (Option.some Jvm.ClassFile.FieldType.boolean) 2 := ⟨⟨tm_600, tm_601, tm_602, tm_29, tm_603⟩, rfl, (by decide +kernel), (by decide +kernel), rfl⟩
theorem lk_X7_79 : ga_lkS RX7 79 yX7_isIn cX7_isIn 2 (Option.some Jvm.ClassFile.FieldType.boolean) 2 := ⟨⟨tm_604, tm_605, tm_29, tm_606⟩, (by decide +kernel), (by decide +kernel), rfl⟩
theorem lk_L_36 : ga_lkV RL 36 RX7 yX7_fault cX7_fault 3 (Option.some Jvm.ClassFile.FieldType.boolean) 2 := ⟨⟨tm_607, tm_608, tm_609, tm_29, tm_610⟩, rfl, (by decide +kernel), (by decide +kernel), rfl⟩
theorem lk_L_41 : ga_lkV RL 41 RX7 yX7_ways cX7_ways 1 (Option.some Jvm.ClassFile.FieldType.int) 0 := ⟨⟨tm_611, tm_612, tm_613, tm_29, tm_614⟩, rfl, (by decide +kernel), (by decide +kernel), rfl⟩
theorem lk_X7_96 : ga_lkV RX7 96 RX7 yX7_isTooMany cX7_isTooMany 1 (Option.some Jvm.ClassFile.FieldType.boolean) 0 := ⟨⟨tm_615, tm_617, tm_9, tm_29, tm_618⟩, rfl, (by decide +kernel), (by decide +kernel), rfl⟩
theorem lk_X7_93 : ga_lkV RX7 93 RX7 yX7_works cX7_works 4 (none) 0 := ⟨⟨tm_619, tm_621, tm_10, tm_29, tm_622⟩, rfl, (by decide +kernel), (by decide +kernel), rfl⟩
theorem lk_X7_89 : ga_lkV RX7 89 RX7 yX7_keeps cX7_keeps 3 (none) 1 := ⟨⟨tm_623, tm_625, tm_11, tm_29, tm_626⟩, rfl, (by decide +kernel), (by decide +kernel), rfl⟩
theorem lk_L_46 : ga_lkV RL 46 RX7 yX7_way cX7_way 3 (Option.some Jvm.ClassFile.FieldType.int) 2 := ⟨⟨tm_627, tm_628, tm_629, tm_29, tm_630⟩, rfl, (by decide +kernel), (by decide +kernel), rfl⟩
theorem lk_L_50 : ga_lkV RL 50 RX7 yX7_log cX7_log 3 (Option.some Jvm.ClassFile.FieldType.int) 2 := ⟨⟨tm_631, tm_632, tm_633, tm_29, tm_634⟩, rfl, (by decide +kernel), (by decide +kernel), rfl⟩
theorem lk_X7_100 : ga_lkV RX7 100 RX7 yX7_logOf cX7_logOf 5 (Option.some Jvm.ClassFile.FieldType.int) 2 := ⟨⟨tm_635, tm_637, tm_12, tm_29, tm_638⟩, rfl, (by decide +kernel), (by decide +kernel), rfl⟩
theorem lk_L_54 : ga_lkV RL 54 RX7 yX7_heaps cX7_heaps 1 (Option.some Jvm.ClassFile.FieldType.int) 0 := ⟨⟨tm_639, tm_640, tm_641, tm_29, tm_642⟩, rfl, (by decide +kernel), (by decide +kernel), rfl⟩
theorem lk_X7_111 : ga_lkV RX7 111 RX7 yX7_heapsBy cX7_heapsBy 4 (Option.some Jvm.ClassFile.FieldType.int) 1 := ⟨⟨tm_643, tm_645, tm_13, tm_29, tm_646⟩, rfl, (by decide +kernel), (by decide +kernel), rfl⟩
theorem lk_X7_108 : ga_lkV RX7 108 RX7 yX7_firstOf cX7_firstOf 4 (Option.some Jvm.ClassFile.FieldType.int) 2 := ⟨⟨tm_647, tm_649, tm_14, tm_29, tm_650⟩, rfl, (by decide +kernel), (by decide +kernel), rfl⟩
theorem lk_X7_104 : ga_lkV RX7 104 RX7 yX7_areParted cX7_areParted 4 (Option.some Jvm.ClassFile.FieldType.boolean) 3 := ⟨⟨tm_651, tm_653, tm_15, tm_29, tm_654⟩, rfl, (by decide +kernel), (by decide +kernel), rfl⟩
theorem lk_L_59 : ga_lkV RL 59 RX7 yX7_heap cX7_heap 2 (Option.some Jvm.ClassFile.FieldType.int) 1 := ⟨⟨tm_655, tm_656, tm_657, tm_29, tm_658⟩, rfl, (by decide +kernel), (by decide +kernel), rfl⟩
theorem lk_L_63 : ga_lkV RL 63 RX7 yX7_apart cX7_apart 2 (Option.some Jvm.ClassFile.FieldType.int) 1 := ⟨⟨tm_659, tm_660, tm_661, tm_29, tm_662⟩, rfl, (by decide +kernel), (by decide +kernel), rfl⟩
theorem lk_X7_118 : ga_lkV RX7 118 RX7 yX7_isApart cX7_isApart 5 (Option.some Jvm.ClassFile.FieldType.boolean) 2 := ⟨⟨tm_663, tm_665, tm_16, tm_29, tm_666⟩, rfl, (by decide +kernel), (by decide +kernel), rfl⟩
theorem lk_L_73 : ga_lkV RL 73 RX7 yX7_price cX7_price 2 (Option.some Jvm.ClassFile.FieldType.long) 1 := ⟨⟨tm_667, tm_668, tm_669, tm_29, tm_670⟩, rfl, (by decide +kernel), (by decide +kernel), rfl⟩
theorem lk_X7_121 : ga_lkV RX7 121 RX7 yX7_priceOf cX7_priceOf 5 (Option.some Jvm.ClassFile.FieldType.long) 1 := ⟨⟨tm_671, tm_673, tm_17, tm_29, tm_674⟩, rfl, (by decide +kernel), (by decide +kernel), rfl⟩
theorem lk_L_68 : ga_lkV RL 68 RX7 yX7_cheapest cX7_cheapest 10 (Option.some Jvm.ClassFile.FieldType.int) 2 := ⟨⟨tm_676, tm_677, tm_678, tm_29, tm_679⟩, rfl, (by decide +kernel), (by decide +kernel), rfl⟩
theorem lk_X7_130 : ga_lkS RX7 130 yX7_isBetter cX7_isBetter 3 (Option.some Jvm.ClassFile.FieldType.boolean) 2 := ⟨⟨tm_680, tm_681, tm_29, tm_682⟩, (by decide +kernel), (by decide +kernel), rfl⟩
theorem lk_X7_127 : ga_lkS RX7 127 yX7_sizeOf cX7_sizeOf 3 (Option.some Jvm.ClassFile.FieldType.int) 1 := ⟨⟨tm_683, tm_684, tm_29, tm_685⟩, (by decide +kernel), (by decide +kernel), rfl⟩
theorem lk_L_77 : ga_lkV RL 77 RX7 yX7_useless cX7_useless 4 (Option.some Jvm.ClassFile.FieldType.int) 1 := ⟨⟨tm_686, tm_687, tm_688, tm_29, tm_689⟩, rfl, (by decide +kernel), (by decide +kernel), rfl⟩
theorem lk_X7_133 : ga_lkV RX7 133 RX7 yX7_isUseless cX7_isUseless 2 (Option.some Jvm.ClassFile.FieldType.boolean) 1 := ⟨⟨tm_690, tm_692, tm_18, tm_29, tm_693⟩, rfl, (by decide +kernel), (by decide +kernel), rfl⟩
theorem lk_L_81 : ga_lkV RL 81 RX7 yX7_why cX7_why 6 (Option.some Jvm.ClassFile.FieldType.int) 2 := ⟨⟨tm_694, tm_695, tm_696, tm_29, tm_697⟩, rfl, (by decide +kernel), (by decide +kernel), rfl⟩
theorem lk_L_86 : ga_lkV RL 86 RX7 yX7_feed cX7_feed 6 (Option.some Jvm.ClassFile.FieldType.int) 5 := ⟨⟨tm_698, tm_699, tm_700, tm_29, tm_701⟩, rfl, (by decide +kernel), (by decide +kernel), rfl⟩
theorem lk_X7_139 : ga_lkV RX7 139 RX7 yX7_push cX7_push 3 (none) 1 := ⟨⟨tm_702, tm_704, tm_19, tm_29, tm_705⟩, rfl, (by decide +kernel), (by decide +kernel), rfl⟩
theorem lk_L_90 : ga_lkV RL 90 RX7 yX7_read cX7_read 5 (Option.some Jvm.ClassFile.FieldType.int) 2 := ⟨⟨tm_706, tm_707, tm_708, tm_29, tm_709⟩, rfl, (by decide +kernel), (by decide +kernel), rfl⟩
theorem lk_X7_150 : ga_lkV RX7 150 RX7 yX7_allows cX7_allows 3 (Option.some Jvm.ClassFile.FieldType.boolean) 1 := ⟨⟨tm_711, tm_713, tm_20, tm_29, tm_714⟩, rfl, (by decide +kernel), (by decide +kernel), rfl⟩
theorem lk_L_94 : ga_lkV RL 94 RX7 yX7_allowed cX7_allowed 4 (Option.some Jvm.ClassFile.FieldType.int) 1 := ⟨⟨tm_715, tm_716, tm_717, tm_29, tm_718⟩, rfl, (by decide +kernel), (by decide +kernel), rfl⟩
theorem lk_L_98 : ga_lkV RL 98 RX7 yX7_found cX7_found 7 (Option.some Jvm.ClassFile.FieldType.int) 1 := ⟨⟨tm_719, tm_720, tm_721, tm_29, tm_722⟩, rfl, (by decide +kernel), (by decide +kernel), rfl⟩
theorem lk_L_102 : ga_lkV RL 102 RX7 yX7_look cX7_look 3 (Option.some Jvm.ClassFile.FieldType.int) 2 := ⟨⟨tm_724, tm_725, tm_726, tm_29, tm_727⟩, rfl, (by decide +kernel), (by decide +kernel), rfl⟩
theorem lk_L_106 : ga_lkV RL 106 RX7 yX7_count cX7_count 2 (Option.some Jvm.ClassFile.FieldType.long) 1 := ⟨⟨tm_728, tm_729, tm_730, tm_29, tm_731⟩, rfl, (by decide +kernel), (by decide +kernel), rfl⟩
end
section
/-! PURE: places in range, the i-th of a list, scans, sums, sets of bits -/
theorem ga_r1 {b : Bool} (h : b = true) : some (Value.int (nI 1)) = some (.int (bI b)) := by rw [h]; rfl
theorem ga_r0 {b : Bool} (h : b = false) : some (Value.int (nI 0)) = some (.int (bI b)) := by rw [h]; rfl
theorem ga_rv {x y : Int32} (h : x = y) : some (Value.int x) = some (.int y) := by rw [h]
theorem ga_rl {x y : Int64} (h : x = y) : some (Value.long x) = some (.long y) := by rw [h]
theorem tb_and (m n : Nat) : (m >>> n) &&& 1 = 1 ↔ m.testBit n = true := by
  rw [Nat.and_one_is_mod, Nat.shiftRight_eq_div_pow, Nat.testBit_eq_decide_div_mod_eq]; simp
theorem and1_lt (x : Nat) : x &&& 1 < 2 ^ 31 := Nat.lt_of_le_of_lt Nat.and_le_right (by decide)
theorem andL_lt {x y b : Nat} (h : x < b) : x &&& y < b := Nat.lt_of_le_of_lt Nat.and_le_left h
theorem andR_lt {x y b : Nat} (h : y < b) : x &&& y < b := Nat.lt_of_le_of_lt Nat.and_le_right h
theorem or_lt {x y : Nat} (k : Nat) (h : x < 2 ^ k) (h2 : y < 2 ^ k) : x ||| y < 2 ^ k := Nat.or_lt_two_pow h h2
theorem xor_lt {x y : Nat} (k : Nat) (h : x < 2 ^ k) (h2 : y < 2 ^ k) : x ^^^ y < 2 ^ k := Nat.xor_lt_two_pow h h2
theorem tb_big {x i k : Nat} (h : x < 2 ^ k) (hi : x.testBit i = true) : i < k := by
  rcases Nat.lt_or_ge i k with h1 | h1
  · exact h1
  · rw [Nat.testBit_lt_two_pow (Nat.lt_of_lt_of_le h (Nat.pow_le_pow_right (by decide) h1))] at hi; cases hi
theorem tb_one (e i : Nat) : (1 <<< e).testBit i = decide (e = i) := by
  rw [Nat.one_shiftLeft, Nat.testBit_two_pow]
theorem one_lt {e k : Nat} (h : e < k) : 1 <<< e < 2 ^ k := by
  rw [Nat.one_shiftLeft]; exact Nat.pow_lt_pow_right (by decide) h
def inB (v : Int32) (n : Nat) : Bool := decide (0 ≤ v.toInt ∧ v.toInt < n)
theorem inB_1 {v : Int32} {n : Nat} (hn : n < 2 ^ 31) (h1 : ¬ v < 0) (h2 : ¬ nI n ≤ v) : inB v n = true := by
  have a1 : ¬ v.toInt < 0 := fun h => h1 (Int32.lt_iff_toInt_lt.mpr h)
  have a2 : ¬ (n : Int) ≤ v.toInt := fun h => h2 (Int32.le_iff_toInt_le.mpr (by rw [nI_toInt hn]; exact h))
  unfold inB; simp; omega
theorem inB_0 {v : Int32} {n : Nat} (hn : n < 2 ^ 31) (h : v < 0 ∨ nI n ≤ v) : inB v n = false := by
  have a : v.toInt < 0 ∨ (n : Int) ≤ v.toInt := by
    rcases h with h | h
    · exact Or.inl (Int32.lt_iff_toInt_lt.mp h)
    · refine Or.inr ?_
      have := Int32.le_iff_toInt_le.mp h
      rwa [nI_toInt hn] at this
  unfold inB; simp; omega
theorem inB_of {v : Int32} {n : Nat} (hn : n < 2 ^ 31) (h : inB v n = true) : ∃ j : Nat, j < n ∧ v = nI j := by
  unfold inB at h
  have h := of_decide_eq_true h
  refine ⟨v.toInt.toNat, by omega, Int32.toInt_inj.mp ?_⟩
  rw [nI_toInt (by omega)]; omega
theorem inB_n {j n : Nat} (hj : j < 2 ^ 31) : inB (nI j) n = decide (j < n) := by
  unfold inB; rw [nI_toInt hj]; by_cases h : j < n <;> simp [h] <;> omega
/-- the places below k with P, in order -/
def fl (P : Nat → Bool) (k : Nat) : List Nat := (List.range k).filter P
theorem fl_0 (P : Nat → Bool) : fl P 0 = [] := rfl
theorem fl_t {P : Nat → Bool} {k : Nat} (h : P k = true) : fl P (k + 1) = fl P k ++ [k] := by
  unfold fl; rw [List.range_succ, List.filter_append]; simp [h]
theorem fl_f {P : Nat → Bool} {k : Nat} (h : P k = false) : fl P (k + 1) = fl P k := by
  unfold fl; rw [List.range_succ, List.filter_append]; simp [h]
theorem fl_le (P : Nat → Bool) (k : Nat) : (fl P k).length ≤ k := by
  unfold fl; exact Nat.le_trans (List.length_filter_le _ _) (by simp)
theorem fl_pre {P : Nat → Bool} {e k : Nat} (h : e ≤ k) : ∃ r, fl P k = fl P e ++ r := by
  induction k with
  | zero => exact ⟨[], by rw [show e = 0 by omega]; simp⟩
  | succ k ih =>
    rcases Nat.lt_or_ge e (k + 1) with h1 | h1
    · obtain ⟨r, hr⟩ := ih (by omega)
      cases hP : P k
      · exact ⟨r, by rw [fl_f hP, hr]⟩
      · exact ⟨r ++ [k], by rw [fl_t hP, hr]; simp⟩
    · exact ⟨[], by rw [show e = k + 1 by omega]; simp⟩
theorem fl_mem {P : Nat → Bool} {k x : Nat} : x ∈ fl P k ↔ x < k ∧ P x = true := by
  unfold fl; rw [List.mem_filter, List.mem_range]
theorem fl_congr {P Q : Nat → Bool} {k : Nat} (h : ∀ i, i < k → P i = Q i) : fl P k = fl Q k := by
  unfold fl; exact List.filter_congr (fun x hx => h x (List.mem_range.mp hx))
/-- the i-th of a list, or -1 -/
def nth (l : List Int32) (i : Int32) : Int32 := if i < 0 then -1 else l.getD i.toNatClampNeg (-1)
theorem nth_miss {l : List Int32} {i : Int32} (hl : l.length < 2 ^ 31) (h : ∀ u, u < l.length → i ≠ nI u) : nth l i = -1 := by
  unfold nth
  by_cases h0 : i < 0
  · rw [if_pos h0]
  · rw [if_neg h0]
    obtain ⟨j, hj, rfl⟩ := nI_of h0
    rw [nI_clamp hj]
    rcases Nat.lt_or_ge j l.length with h1 | h1
    · exact absurd rfl (h j h1)
    · rw [List.getD_eq_getElem?_getD, List.getElem?_eq_none h1]; rfl
theorem nth_hit {a b : List Int32} {x : Int32} (h : a.length < 2 ^ 31) : nth (a ++ x :: b) (nI a.length) = x := by
  unfold nth
  rw [if_neg (nI_pos h), nI_clamp h, List.getD_eq_getElem?_getD, List.getElem?_append_right (Nat.le_refl _)]
  simp
/-- scanning down from i: lf is what is left of i at the place e -/
def scD (P : Nat → Bool) (i lf : Int32) (e : Nat) : Prop := lf = i - nI (fl P e).length ∧ ∀ u, u < (fl P e).length → i ≠ nI u
theorem scD_0 (P : Nat → Bool) (i : Int32) : scD P i i 0 := ⟨by show i = i - nI 0; rw [nI_0]; simp, fun u h => absurd h (by simp [fl_0])⟩
theorem scD_f {P : Nat → Bool} {i lf : Int32} {e : Nat} (h : scD P i lf e) (hP : P e = false) : scD P i lf (e + 1) := by
  unfold scD; rw [fl_f hP]; exact h
theorem i32_sub0 {a b : Int32} (h : a - b = 0) : a = b := by
  have h2 := congrArg (fun z => z + b) h
  simpa [Int32.sub_add_cancel] using h2
theorem scD_t {P : Nat → Bool} {i lf : Int32} {e : Nat} (h : scD P i lf e) (hP : P e = true) (hn : ¬ lf = 0) : scD P i (lf + Int32.ofInt (-1)) (e + 1) := by
  obtain ⟨h1, h2⟩ := h
  unfold scD; rw [fl_t hP, List.length_append]
  refine ⟨?_, fun u hu => ?_⟩
  · rw [h1]
    show i - nI (fl P e).length + (-1) = i - nI ((fl P e).length + 1)
    simp only [← nI_1, Int32.sub_eq_add_neg, Int32.neg_add, Int32.add_assoc]
  · rcases Nat.lt_or_ge u (fl P e).length with h3 | h3
    · exact h2 u h3
    · have h4 : u = (fl P e).length := by simp at hu; omega
      subst h4
      intro h5; apply hn; rw [h1, h5]; simp
theorem scD_hit {P : Nat → Bool} {i lf : Int32} {e k : Nat} (g : Nat → Int32) (h : scD P i lf e) (hP : P e = true) (hk : e < k) (hk2 : k < 2 ^ 31) (hz : lf = 0) : nth ((fl P k).map g) i = g e := by
  obtain ⟨h1, h2⟩ := h
  obtain ⟨r, hr⟩ := fl_pre (P := P) (e := e + 1) (k := k) hk
  have h3 : i = nI (fl P e).length := i32_sub0 (by rw [← h1, hz])
  have h4 : (fl P e).length ≤ e := fl_le P e
  rw [hr, fl_t hP, h3]
  have h5 := nth_hit (a := (fl P e).map g) (b := r.map g) (x := g e) (by rw [List.length_map]; omega)
  rw [List.length_map] at h5
  simpa using h5
theorem scD_end {P : Nat → Bool} {i lf : Int32} {k : Nat} (g : Nat → Int32) (h : scD P i lf k) (hk2 : k < 2 ^ 31) : nth ((fl P k).map g) i = -1 := by
  have h4 : (fl P k).length ≤ k := fl_le P k
  exact nth_miss (by rw [List.length_map]; omega) (by rw [List.length_map]; exact h.2)
/-- scanning up: t of them were met, none was the i-th -/
def scU (P : Nat → Bool) (i : Int32) (t e : Nat) : Prop := t = (fl P e).length ∧ ∀ u, u < t → i ≠ nI u
theorem scU_0 (P : Nat → Bool) (i : Int32) : scU P i 0 0 := ⟨rfl, fun u h => absurd h (by omega)⟩
theorem scU_le {P : Nat → Bool} {i : Int32} {t e : Nat} (h : scU P i t e) : t ≤ e := by rw [h.1]; exact fl_le P e
theorem scU_f {P : Nat → Bool} {i : Int32} {t e : Nat} (h : scU P i t e) (hP : P e = false) : scU P i t (e + 1) := by
  unfold scU; rw [fl_f hP]; exact h
theorem scU_t {P : Nat → Bool} {i : Int32} {t e : Nat} (h : scU P i t e) (hP : P e = true) (hn : ¬ nI t = i) : scU P i (t + 1) (e + 1) := by
  unfold scU; rw [fl_t hP, List.length_append, ← h.1]
  refine ⟨rfl, fun u hu => ?_⟩
  rcases Nat.lt_or_ge u t with h3 | h3
  · exact h.2 u h3
  · rw [show u = t by omega]; exact fun h5 => hn h5.symm
theorem scU_hit {P : Nat → Bool} {i : Int32} {t e k : Nat} (g : Nat → Int32) (h : scU P i t e) (hP : P e = true) (hk : e < k) (hk2 : k < 2 ^ 31) (hz : nI t = i) : nth ((fl P k).map g) i = g e := by
  obtain ⟨r, hr⟩ := fl_pre (P := P) (e := e + 1) (k := k) hk
  have h4 : (fl P e).length ≤ e := fl_le P e
  rw [hr, fl_t hP, ← hz, h.1]
  have h5 := nth_hit (a := (fl P e).map g) (b := r.map g) (x := g e) (by rw [List.length_map]; omega)
  rw [List.length_map] at h5
  simpa using h5
theorem scU_end {P : Nat → Bool} {i : Int32} {t k : Nat} (g : Nat → Int32) (h : scU P i t k) (hk2 : k < 2 ^ 31) : nth ((fl P k).map g) i = -1 := by
  have h4 : (fl P k).length ≤ k := fl_le P k
  exact nth_miss (by rw [List.length_map]; omega) (by rw [List.length_map, ← h.1]; exact h.2)
theorem nth_neg {l : List Int32} {i : Int32} (h : i < 0) : nth l i = -1 := if_pos h
/-- the price of the steps of st below k -/
def prc (ct : Nat → Nat) (st : Nat) : Nat → Nat
  | 0 => 0
  | e + 1 => prc ct st e + (if st.testBit e then ct e + 1 else 0)
theorem prc_le {ct : Nat → Nat} {st k : Nat} (h : ∀ e, e < k → ct e ≤ 1000000) : prc ct st k ≤ 1000001 * k := by
  induction k with
  | zero => exact Nat.le_refl _
  | succ k ih =>
    have h1 := ih (fun e he => h e (by omega))
    have h2 := h k (by omega)
    unfold prc
    split <;> omega
/-- the union of the first v sets -/
def orB (lv : Nat → Nat) : Nat → Nat
  | 0 => 0
  | v + 1 => orB lv v ||| lv v
theorem orB_lt {lv : Nat → Nat} {v b : Nat} (h : ∀ u, u < v → lv u < 2 ^ b) : orB lv v < 2 ^ b := by
  induction v with
  | zero => exact Nat.pow_pos (by decide)
  | succ v ih => exact or_lt b (ih (fun u hu => h u (by omega))) (h v (by omega))
theorem orB_tb {lv : Nat → Nat} {v i : Nat} : (orB lv v).testBit i = true ↔ ∃ u, u < v ∧ (lv u).testBit i = true := by
  induction v with
  | zero => simp [orB]
  | succ v ih =>
    rw [orB, Nat.testBit_or, Bool.or_eq_true, ih]
    constructor
    · rintro (⟨u, h1, h2⟩ | h)
      · exact ⟨u, by omega, h2⟩
      · exact ⟨v, by omega, h⟩
    · rintro ⟨u, h1, h2⟩
      rcases Nat.lt_or_ge u v with h3 | h3
      · exact Or.inl ⟨u, h3, h2⟩
      · rw [show u = v by omega] at h2; exact Or.inr h2
/-- byte k of a word -/
def byt (w : Int32) (k : Nat) : Nat := w.toBitVec.toNat / 2 ^ (8 * k) % 256
theorem byt_lt (w : Int32) (k : Nat) : byt w k < 256 := Nat.mod_lt _ (by decide)
theorem byt_ok (w : Int32) {k : Nat} (hk : k < 4) : (w >>> (nI (8 * k) &&& 31)) &&& nI 255 = nI (byt w k) := by
  apply Int32.toBitVec_inj.1
  apply BitVec.eq_of_getLsbD_eq
  intro i hi
  have h1 : (w >>> (nI (8 * k) &&& 31)).toBitVec = w.toBitVec.sshiftRight (8 * k) := by
    rw [Int32.toBitVec_shiftRight]
    show BitVec.sshiftRight' _ _ = _
    rw [BitVec.sshiftRight', nI_s5 (8 * k) (by omega)]
  rw [Int32.toBitVec_and, BitVec.getLsbD_and, h1]
  show ((w.toBitVec.sshiftRight (8 * k)).getLsbD i && (BitVec.ofNat 32 255).getLsbD i) = (BitVec.ofNat 32 (byt w k)).getLsbD i
  rw [BitVec.getLsbD_ofNat, BitVec.getLsbD_ofNat, BitVec.getLsbD_sshiftRight]
  unfold byt
  rw [show (256 : Nat) = 2 ^ 8 from rfl, Nat.testBit_mod_two_pow, Nat.testBit_div_two_pow, show (255 : Nat) = 2 ^ 8 - 1 from rfl, Nat.testBit_two_pow_sub_one]
  by_cases h : i < 8
  · have h3 : ¬ 32 ≤ i := by omega
    have h4 : 8 * k + i < 32 := by omega
    simp [hi, h, h3, h4, BitVec.getLsbD]
    try rw [Nat.add_comm]
  · simp [h]
theorem dec_q {q : Nat} (h : q < 4) : nI (3 - q) + Int32.ofInt (-1) = nI 3 - nI (q + 1) := by
  rcases (show q = 0 ∨ q = 1 ∨ q = 2 ∨ q = 3 by omega) with rfl | rfl | rfl | rfl <;> decide
end
section
set_option maxHeartbeats 4000000 in
set_option maxRecDepth 100000 in
theorem c_X6_has (l : Launch) (G : ga_G) (st : Nat) (e : Nat) (h1 : st < 2 ^ 31) (h2 : e < 32) : ga_M l G yX6_has cX6_has 2 (Option.some Jvm.ClassFile.FieldType.boolean) 0 0 0 0 [.int (nI st), .int (nI e)] [] (fun r w => r = some (.int (bI (Nat.testBit st e))) ∧ w = []) := by
  refine ga_M.intro (by decide) (Nat.le_of_ble_eq_true rfl) (fun p_ e_ s_ m_ below meth c_ A_ H_ locs_ ls cx hr hlk hnm hA hK hl w => ?_)
  have hx := cx.1
  have hb := cx.2.1
  have hl : lv_has ls 2 [(0, .int (nI st)), (1, .int (nI e))] := hl
  refine lv_iload_n hx hb dX6_has_0 rfl (lv_at hl 0 rfl) ?_
  refine lv_iload_n hx hb dX6_has_1 rfl (lv_at hl 1 rfl) ?_
  refine r_ishr hx hb dX6_has_2 (by omega) (by omega) ?_
  refine lv_iconst (v := nI 1) hx hb dX6_has_3 (by decide) ?_
  refine r_iand hx hb dX6_has_4 ?_
  refine lv_iconst (v := nI 1) hx hb dX6_has_5 (by decide) ?_
  refine r_icmp_ne hx hb dX6_has_6 (tgt := 13) (by decide) (and1_lt _) (by decide) (fun c6 => ?_) (fun c6 => ?_)
  · refine lv_iconst (v := nI 0) hx hb dX6_has_13 (by decide) ?_
    exact ga_zret cx hr hlk w rfl dX6_has_14 ⟨Nat.le_refl _, Nat.le_refl _⟩ (⟨ga_r0 (by first | exact (tb_and _ _).mp (by omega) | (cases hb2 : Nat.testBit st e; rfl; exact absurd ((tb_and _ _).mpr hb2) (by omega))), rfl⟩)
  · refine lv_iconst (v := nI 1) hx hb dX6_has_9 (by decide) ?_
    refine lv_goto (tgt := 14) hx hb dX6_has_10 (by decide) ?_
    exact ga_zret cx hr hlk w rfl dX6_has_14 ⟨Nat.le_refl _, Nat.le_refl _⟩ (⟨ga_r1 (by first | exact (tb_and _ _).mp (by omega) | (cases hb2 : Nat.testBit st e; rfl; exact absurd ((tb_and _ _).mpr hb2) (by omega))), rfl⟩)

set_option maxHeartbeats 4000000 in
set_option maxRecDepth 100000 in
theorem c_X6_member (l : Launch) (G : ga_G) (st : Nat) (i : Int32) (h1 : st < 65536) : ga_M l G yX6_member cX6_member 4 (Option.some Jvm.ClassFile.FieldType.int) 1 21 0 0 [.int (nI st), .int i] [] (fun r w => r = some (.int (nth ((fl (Nat.testBit st) 16).map nI) i)) ∧ w = []) := by
  refine ga_M.intro (by decide) (Nat.le_of_ble_eq_true rfl) (fun p_ e_ s_ m_ below meth c_ A_ H_ locs_ ls cx hr hlk hnm hA hK hl w => ?_)
  have hx := cx.1
  have hb := cx.2.1
  have hl : lv_has ls 4 [(0, .int (nI st)), (1, .int i)] := hl
  refine lv_iload_n hx hb dX6_member_0 rfl (lv_at hl 1 rfl) ?_
  refine lv_istore_n (lv' := [(2, .int i), (0, .int (nI st)), (1, .int i)]) hx hb dX6_member_1 rfl hl (by decide) rfl (fun ls hl => ?_)
  refine lv_iconst (v := nI 0) hx hb dX6_member_2 (by decide) ?_
  refine lv_istore_n (lv' := [(3, .int (nI 0)), (2, .int i), (0, .int (nI st)), (1, .int i)]) hx hb dX6_member_3 rfl hl (by decide) rfl (fun ls hl => ?_)
  have loop4 : ∀ (n_ : Nat) (ee : Nat) (lf : Int32) (he : ee ≤ 16) (hs : scD (Nat.testBit st) i lf ee) (hm : 16 - ee < n_) (H_ : Heap) (locs_ : List Loc) (ls : Array Slot) (hl : lv_has ls 4 [(3, .int (nI ee)), (2, .int lf), (0, .int (nI st)), (1, .int i)]) (w : ga_wd G A_ s_ H_ locs_ []), W p_ l e_ { frames := 1, cells := 0, slots := 0, locals := 21 } s_ m_ [.int (nI st), .int i].toArray below meth c_ H_ locs_ (0) (0) (MQ below (ga_Q G A_ (fun r w => r = some (.int (nth ((fl (Nat.testBit st) 16).map nI) i)) ∧ w = [])) [.int (nI st), .int i].toArray s_ 0 0 A_) (F0 m_ 4 ls []) := by
    intro n_
    induction n_ with
    | zero => intro ee lf he hs hm; exact absurd hm (Nat.not_lt_zero _)
    | succ n_ ih4 =>
      intro ee lf he hs hm4 H_ locs_ ls hl w
      refine lv_iload_n hx hb dX6_member_4 rfl (lv_at hl 0 rfl) ?_
      refine lv_bipush (v := nI 16) hx hb dX6_member_5 (by decide) ?_
      refine r_icmp_ge hx hb dX6_member_7 (tgt := 33) (by decide) (by omega) (by omega) (fun c7 => ?_) (fun c7 => ?_)
      · refine lv_iconst (v := (-1)) hx hb dX6_member_33 (by decide) ?_
        exact ga_iret cx hr hlk w dX6_member_34 ⟨Nat.le_refl _, Nat.le_refl _⟩ (⟨ga_rv (scD_end nI (by rw [show (16 : Nat) = ee by omega]; exact hs) (by decide)).symm, rfl⟩)
      · refine lv_iload_n hx hb dX6_member_10 rfl (lv_at hl 2 rfl) ?_
        refine lv_iload_n hx hb dX6_member_11 rfl (lv_at hl 0 rfl) ?_
        refine ga_callS (rest := []) (wr := []) cx hK hA w hl lk_X6_91 (c_X6_has l G st ee (by omega) (by omega)) ⟨by decide, by decide⟩ [] [] rfl rfl (by decide) (by decide) (by decide) rfl (Nat.le_of_ble_eq_true rfl) dX6_member_12 ⟨Nat.le_refl _, Nat.le_refl _⟩ rfl (fun r w1_ H_ locs_ hp w => ?_)
        obtain ⟨rfl, rfl⟩ := hp
        have w : ga_wd G A_ s_ H_ locs_ [] := ga_perm w [] (by decide) rfl
        refine W.eq (g2 := F0 m_ 15 ls [.int (bI (Nat.testBit st ee))]) rfl ?_
        refine r_ifb_eq hx hb dX6_member_15 (tgt := 27) (by decide) (fun c15 => ?_) (fun c15 => ?_)
        · refine r_iinc (d := 1) (k := 0) (lv' := [(3, .int (nI (ee + 1))), (2, .int lf), (0, .int (nI st)), (1, .int i)]) hx hb dX6_member_27 hl rfl (by decide) (by decide) rfl (fun ls hl => ?_)
          refine lv_goto (tgt := 4) hx hb dX6_member_30 (by decide) ?_
          exact ih4 (ee + 1) lf (by omega) (scD_f hs c15) (by omega) _ _ _ (lv_sub hl [0, 1, 2, 3] rfl) w
        · refine lv_iload_n hx hb dX6_member_18 rfl (lv_at hl 1 rfl) ?_
          refine lv_if_ne hx hb dX6_member_19 (tgt := 24) (by decide) (fun c19 => ?_) (fun c19 => ?_)
          · refine lv_iinc (k := 1) (lv' := [(2, .int (lf + Int32.ofInt (-1))), (3, .int (nI ee)), (0, .int (nI st)), (1, .int i)]) hx hb dX6_member_24 hl rfl rfl (by decide) rfl (fun ls hl => ?_)
            refine r_iinc (d := 1) (k := 1) (lv' := [(3, .int (nI (ee + 1))), (2, .int (lf + Int32.ofInt (-1))), (0, .int (nI st)), (1, .int i)]) hx hb dX6_member_27 hl rfl (by decide) (by decide) rfl (fun ls hl => ?_)
            refine lv_goto (tgt := 4) hx hb dX6_member_30 (by decide) ?_
            exact ih4 (ee + 1) (lf + Int32.ofInt (-1)) (by omega) (scD_t hs c15 c19) (by omega) _ _ _ (lv_sub hl [0, 1, 2, 3] rfl) w
          · refine lv_iload_n hx hb dX6_member_22 rfl (lv_at hl 0 rfl) ?_
            exact ga_iret cx hr hlk w dX6_member_23 ⟨Nat.le_refl _, Nat.le_refl _⟩ (⟨ga_rv (scD_hit nI hs c15 (by omega) (by decide) c19).symm, rfl⟩)
  exact loop4 _ 0 i (by omega) (scD_0 _ _) (Nat.lt_succ_self _) _ _ _ (lv_sub hl [0, 1, 2, 3] rfl) w

set_option maxHeartbeats 4000000 in
set_option maxRecDepth 100000 in
theorem c_X1_hasNode (l : Launch) (G : ga_G) (aP : Nat) (aF : Nat) (aT : Nat) (aC : Nat) (aL : Nat) (n : Nat) (xk : Int32) (xl : Int32) (xf : Int32) (v : Int32) (hn : n < 2 ^ 31) : ga_M l G yX1_hasNode cX1_hasNode 2 (Option.some Jvm.ClassFile.FieldType.boolean) 0 0 0 0 [.ref aP, .int v] [(aP, .inr (1, [.ref aF, .ref aT, .ref aC, .ref aL, .int (nI n), .int xk, .int xl, .int xf]))] (fun r w => r = some (.int (bI (inB v n))) ∧ w = [(aP, .inr (1, [.ref aF, .ref aT, .ref aC, .ref aL, .int (nI n), .int xk, .int xl, .int xf]))]) := by
  refine ga_M.intro (by decide) (Nat.le_of_ble_eq_true rfl) (fun p_ e_ s_ m_ below meth c_ A_ H_ locs_ ls cx hr hlk hnm hA hK hl w => ?_)
  have hx := cx.1
  have hb := cx.2.1
  have hl : lv_has ls 2 [(0, .ref aP), (1, .int v)] := hl
  refine lv_iload_n hx hb dX1_hasNode_0 rfl (lv_at hl 1 rfl) ?_
  refine lv_if_lt hx hb dX1_hasNode_1 (tgt := 16) (by decide) (fun c1 => ?_) (fun c1 => ?_)
  · refine lv_iconst (v := nI 0) hx hb dX1_hasNode_16 (by decide) ?_
    exact ga_zret cx hr hlk w rfl dX1_hasNode_17 ⟨Nat.le_refl _, Nat.le_refl _⟩ (⟨ga_r0 (by first | exact inB_1 hn (by assumption) (by assumption) | exact inB_0 hn (by first | exact Or.inl (by assumption) | exact Or.inr (by assumption))), rfl⟩)
  · refine lv_iload_n hx hb dX1_hasNode_4 rfl (lv_at hl 1 rfl) ?_
    refine lv_aload_n hx hb dX1_hasNode_5 rfl (lv_at hl 0 rfl) ?_
    refine gf_X1_24 cx hK w 0 rfl rfl dX1_hasNode_6 ?_
    refine lv_icmp_ge hx hb dX1_hasNode_9 (tgt := 16) (by decide) (fun c9 => ?_) (fun c9 => ?_)
    · refine lv_iconst (v := nI 0) hx hb dX1_hasNode_16 (by decide) ?_
      exact ga_zret cx hr hlk w rfl dX1_hasNode_17 ⟨Nat.le_refl _, Nat.le_refl _⟩ (⟨ga_r0 (by first | exact inB_1 hn (by assumption) (by assumption) | exact inB_0 hn (by first | exact Or.inl (by assumption) | exact Or.inr (by assumption))), rfl⟩)
    · refine lv_iconst (v := nI 1) hx hb dX1_hasNode_12 (by decide) ?_
      refine lv_goto (tgt := 17) hx hb dX1_hasNode_13 (by decide) ?_
      exact ga_zret cx hr hlk w rfl dX1_hasNode_17 ⟨Nat.le_refl _, Nat.le_refl _⟩ (⟨ga_r1 (by first | exact inB_1 hn (by assumption) (by assumption) | exact inB_0 hn (by first | exact Or.inl (by assumption) | exact Or.inr (by assumption))), rfl⟩)

set_option maxHeartbeats 4000000 in
set_option maxRecDepth 100000 in
theorem c_X1_hasStep (l : Launch) (G : ga_G) (aP : Nat) (aF : Nat) (aT : Nat) (aC : Nat) (aL : Nat) (xn : Int32) (n : Nat) (xl : Int32) (xf : Int32) (v : Int32) (hn : n < 2 ^ 31) : ga_M l G yX1_hasStep cX1_hasStep 2 (Option.some Jvm.ClassFile.FieldType.boolean) 0 0 0 0 [.ref aP, .int v] [(aP, .inr (1, [.ref aF, .ref aT, .ref aC, .ref aL, .int xn, .int (nI n), .int xl, .int xf]))] (fun r w => r = some (.int (bI (inB v n))) ∧ w = [(aP, .inr (1, [.ref aF, .ref aT, .ref aC, .ref aL, .int xn, .int (nI n), .int xl, .int xf]))]) := by
  refine ga_M.intro (by decide) (Nat.le_of_ble_eq_true rfl) (fun p_ e_ s_ m_ below meth c_ A_ H_ locs_ ls cx hr hlk hnm hA hK hl w => ?_)
  have hx := cx.1
  have hb := cx.2.1
  have hl : lv_has ls 2 [(0, .ref aP), (1, .int v)] := hl
  refine lv_iload_n hx hb dX1_hasStep_0 rfl (lv_at hl 1 rfl) ?_
  refine lv_if_lt hx hb dX1_hasStep_1 (tgt := 16) (by decide) (fun c1 => ?_) (fun c1 => ?_)
  · refine lv_iconst (v := nI 0) hx hb dX1_hasStep_16 (by decide) ?_
    exact ga_zret cx hr hlk w rfl dX1_hasStep_17 ⟨Nat.le_refl _, Nat.le_refl _⟩ (⟨ga_r0 (by first | exact inB_1 hn (by assumption) (by assumption) | exact inB_0 hn (by first | exact Or.inl (by assumption) | exact Or.inr (by assumption))), rfl⟩)
  · refine lv_iload_n hx hb dX1_hasStep_4 rfl (lv_at hl 1 rfl) ?_
    refine lv_aload_n hx hb dX1_hasStep_5 rfl (lv_at hl 0 rfl) ?_
    refine gf_X1_28 cx hK w 0 rfl rfl dX1_hasStep_6 ?_
    refine lv_icmp_ge hx hb dX1_hasStep_9 (tgt := 16) (by decide) (fun c9 => ?_) (fun c9 => ?_)
    · refine lv_iconst (v := nI 0) hx hb dX1_hasStep_16 (by decide) ?_
      exact ga_zret cx hr hlk w rfl dX1_hasStep_17 ⟨Nat.le_refl _, Nat.le_refl _⟩ (⟨ga_r0 (by first | exact inB_1 hn (by assumption) (by assumption) | exact inB_0 hn (by first | exact Or.inl (by assumption) | exact Or.inr (by assumption))), rfl⟩)
    · refine lv_iconst (v := nI 1) hx hb dX1_hasStep_12 (by decide) ?_
      refine lv_goto (tgt := 17) hx hb dX1_hasStep_13 (by decide) ?_
      exact ga_zret cx hr hlk w rfl dX1_hasStep_17 ⟨Nat.le_refl _, Nat.le_refl _⟩ (⟨ga_r1 (by first | exact inB_1 hn (by assumption) (by assumption) | exact inB_0 hn (by first | exact Or.inl (by assumption) | exact Or.inr (by assumption))), rfl⟩)

set_option maxHeartbeats 4000000 in
set_option maxRecDepth 100000 in
theorem c_X1_allSteps (l : Launch) (G : ga_G) (aP : Nat) (aF : Nat) (aT : Nat) (aC : Nat) (aL : Nat) (xn : Int32) (k : Nat) (xl : Int32) (xf : Int32) (hk : k ≤ 16) : ga_M l G yX1_allSteps cX1_allSteps 1 (Option.some Jvm.ClassFile.FieldType.int) 0 0 0 0 [.ref aP] [(aP, .inr (1, [.ref aF, .ref aT, .ref aC, .ref aL, .int xn, .int (nI k), .int xl, .int xf]))] (fun r w => r = some (.int (nI (2 ^ k - 1))) ∧ w = [(aP, .inr (1, [.ref aF, .ref aT, .ref aC, .ref aL, .int xn, .int (nI k), .int xl, .int xf]))]) := by
  refine ga_M.intro (by decide) (Nat.le_of_ble_eq_true rfl) (fun p_ e_ s_ m_ below meth c_ A_ H_ locs_ ls cx hr hlk hnm hA hK hl w => ?_)
  have hx := cx.1
  have hb := cx.2.1
  have hl : lv_has ls 1 [(0, .ref aP)] := hl
  refine lv_iconst (v := nI 1) hx hb dX1_allSteps_0 (by decide) ?_
  refine lv_aload_n hx hb dX1_allSteps_1 rfl (lv_at hl 0 rfl) ?_
  refine gf_X1_28 cx hK w 0 rfl rfl dX1_allSteps_2 ?_
  refine r_ishl hx hb dX1_allSteps_5 (by omega) ?_
  refine lv_iconst (v := nI 1) hx hb dX1_allSteps_6 (by decide) ?_
  refine r_isub hx hb dX1_allSteps_7 (by rw [Nat.one_shiftLeft]; exact Nat.pow_pos (by decide)) ?_
  refine r_topi (y := nI (2 ^ k - 1)) (by rw [Nat.one_shiftLeft]) ?_
  exact ga_iret cx hr hlk w dX1_allSteps_8 ⟨Nat.le_refl _, Nat.le_refl _⟩ (⟨rfl, rfl⟩)

set_option maxHeartbeats 4000000 in
set_option maxRecDepth 100000 in
theorem c_X1_stepsFromBelow (l : Launch) (G : ga_G) (aP : Nat) (aF : Nat) (aT : Nat) (aC : Nat) (aL : Nat) (n : Nat) (k : Nat) (li : Nat) (fa : Nat) (lv : Nat → Nat) (nd : Nat) (hn : n ≤ 12) (hd : nd < 2 ^ 31) : ga_M l G yX1_stepsFromBelow cX1_stepsFromBelow 4 (Option.some Jvm.ClassFile.FieldType.int) 0 0 0 0 [.ref aP, .int (nI nd)] [(aP, .inr (1, [.ref aF, .ref aT, .ref aC, .ref aL, .int (nI n), .int (nI k), .int (nI li), .int (nI fa)])), (aL, .inl (G.2.2, 12, .inl (aN lv)))] (fun r w => r = some (.int (nI (orB lv (min nd n)))) ∧ w = [(aP, .inr (1, [.ref aF, .ref aT, .ref aC, .ref aL, .int (nI n), .int (nI k), .int (nI li), .int (nI fa)])), (aL, .inl (G.2.2, 12, .inl (aN lv)))]) := by
  refine ga_M.intro (by decide) (Nat.le_of_ble_eq_true rfl) (fun p_ e_ s_ m_ below meth c_ A_ H_ locs_ ls cx hr hlk hnm hA hK hl w => ?_)
  have hx := cx.1
  have hb := cx.2.1
  have hl : lv_has ls 4 [(0, .ref aP), (1, .int (nI nd))] := hl
  refine lv_iconst (v := nI 0) hx hb dX1_stepsFromBelow_0 (by decide) ?_
  refine lv_istore_n (lv' := [(2, .int (nI 0)), (0, .ref aP), (1, .int (nI nd))]) hx hb dX1_stepsFromBelow_1 rfl hl (by decide) rfl (fun ls hl => ?_)
  refine lv_iconst (v := nI 0) hx hb dX1_stepsFromBelow_2 (by decide) ?_
  refine lv_istore_n (lv' := [(3, .int (nI 0)), (2, .int (nI 0)), (0, .ref aP), (1, .int (nI nd))]) hx hb dX1_stepsFromBelow_3 rfl hl (by decide) rfl (fun ls hl => ?_)
  have loop4 : ∀ (n_ : Nat) (v : Nat) (ac : Nat) (hv : v ≤ min nd n) (ha : ac = orB lv v) (hm : 12 - v < n_) (H_ : Heap) (locs_ : List Loc) (ls : Array Slot) (hl : lv_has ls 4 [(3, .int (nI v)), (2, .int (nI ac)), (0, .ref aP), (1, .int (nI nd))]) (w : ga_wd G A_ s_ H_ locs_ [(aP, .inr (1, [.ref aF, .ref aT, .ref aC, .ref aL, .int (nI n), .int (nI k), .int (nI li), .int (nI fa)])), (aL, .inl (G.2.2, 12, .inl (aN lv)))]), W p_ l e_ { frames := 0, cells := 0, slots := 0, locals := 0 } s_ m_ [.ref aP, .int (nI nd)].toArray below meth c_ H_ locs_ (0) (0) (MQ below (ga_Q G A_ (fun r w => r = some (.int (nI (orB lv (min nd n)))) ∧ w = [(aP, .inr (1, [.ref aF, .ref aT, .ref aC, .ref aL, .int (nI n), .int (nI k), .int (nI li), .int (nI fa)])), (aL, .inl (G.2.2, 12, .inl (aN lv)))])) [.ref aP, .int (nI nd)].toArray s_ 0 0 A_) (F0 m_ 4 ls []) := by
    intro n_
    induction n_ with
    | zero => intro v ac hv ha hm; exact absurd hm (Nat.not_lt_zero _)
    | succ n_ ih4 =>
      intro v ac hv ha hm4 H_ locs_ ls hl w
      refine lv_iload_n hx hb dX1_stepsFromBelow_4 rfl (lv_at hl 0 rfl) ?_
      refine lv_iload_n hx hb dX1_stepsFromBelow_5 rfl (lv_at hl 3 rfl) ?_
      refine r_icmp_ge hx hb dX1_stepsFromBelow_6 (tgt := 32) (by decide) (by omega) (by omega) (fun c6 => ?_) (fun c6 => ?_)
      · refine lv_iload_n hx hb dX1_stepsFromBelow_32 rfl (lv_at hl 1 rfl) ?_
        exact ga_iret cx hr hlk w dX1_stepsFromBelow_33 ⟨Nat.le_refl _, Nat.le_refl _⟩ (⟨ga_rv (by rw [ha, show v = min nd n by omega]), rfl⟩)
      · refine lv_iload_n hx hb dX1_stepsFromBelow_9 rfl (lv_at hl 0 rfl) ?_
        refine lv_aload_n hx hb dX1_stepsFromBelow_10 rfl (lv_at hl 2 rfl) ?_
        refine gf_X1_24 cx hK w 0 rfl rfl dX1_stepsFromBelow_11 ?_
        refine r_icmp_ge hx hb dX1_stepsFromBelow_14 (tgt := 32) (by decide) (by omega) (by omega) (fun c14 => ?_) (fun c14 => ?_)
        · refine lv_iload_n hx hb dX1_stepsFromBelow_32 rfl (lv_at hl 1 rfl) ?_
          exact ga_iret cx hr hlk w dX1_stepsFromBelow_33 ⟨Nat.le_refl _, Nat.le_refl _⟩ (⟨ga_rv (by rw [ha, show v = min nd n by omega]), rfl⟩)
        · refine lv_iload_n hx hb dX1_stepsFromBelow_17 rfl (lv_at hl 1 rfl) ?_
          refine lv_aload_n hx hb dX1_stepsFromBelow_18 rfl (lv_at hl 2 rfl) ?_
          refine gf_X1_21 cx hK w 0 rfl rfl dX1_stepsFromBelow_19 ?_
          refine lv_iload_n hx hb dX1_stepsFromBelow_22 rfl (lv_at hl 0 rfl) ?_
          refine r_ialdN hx hb hK w 1 rfl dX1_stepsFromBelow_23 (by omega) (by decide) ?_
          refine r_ior hx hb dX1_stepsFromBelow_24 ?_
          refine lv_istore_n (lv' := [(2, .int (nI (ac ||| (lv v)))), (3, .int (nI v)), (0, .ref aP), (1, .int (nI nd))]) hx hb dX1_stepsFromBelow_25 rfl hl (by decide) rfl (fun ls hl => ?_)
          refine r_iinc (d := 1) (k := 1) (lv' := [(3, .int (nI (v + 1))), (2, .int (nI (ac ||| (lv v)))), (0, .ref aP), (1, .int (nI nd))]) hx hb dX1_stepsFromBelow_26 hl rfl (by decide) (by decide) rfl (fun ls hl => ?_)
          refine lv_goto (tgt := 4) hx hb dX1_stepsFromBelow_29 (by decide) ?_
          exact ih4 (v + 1) (ac ||| (lv v)) (by omega) (by rw [orB, ha]) (by omega) _ _ _ (lv_sub hl [0, 1, 2, 3] rfl) w
  exact loop4 _ 0 0 (by omega) (rfl) (Nat.lt_succ_self _) _ _ _ (lv_sub hl [0, 1, 2, 3] rfl) w

set_option maxHeartbeats 4000000 in
set_option maxRecDepth 100000 in
theorem c_X1_priceOf (l : Launch) (G : ga_G) (aP : Nat) (aF : Nat) (aT : Nat) (aC : Nat) (aL : Nat) (n : Nat) (k : Nat) (li : Nat) (fa : Nat) (ct : Nat → Nat) (st : Nat) (hk : k ≤ 16) (hs : st < 2 ^ 31) (hc : ∀ e, e < k → ct e ≤ 1000000) : ga_M l G yX1_priceOf cX1_priceOf 5 (Option.some Jvm.ClassFile.FieldType.long) 1 21 0 0 [.ref aP, .int (nI st)] [(aP, .inr (1, [.ref aF, .ref aT, .ref aC, .ref aL, .int (nI n), .int (nI k), .int (nI li), .int (nI fa)])), (aC, .inl (G.2.2, 16, .inl (aN ct)))] (fun r w => r = some (.long (lN (prc ct st k))) ∧ w = [(aP, .inr (1, [.ref aF, .ref aT, .ref aC, .ref aL, .int (nI n), .int (nI k), .int (nI li), .int (nI fa)])), (aC, .inl (G.2.2, 16, .inl (aN ct)))]) := by
  refine ga_M.intro (by decide) (Nat.le_of_ble_eq_true rfl) (fun p_ e_ s_ m_ below meth c_ A_ H_ locs_ ls cx hr hlk hnm hA hK hl w => ?_)
  have hx := cx.1
  have hb := cx.2.1
  have hl : lv_has ls 5 [(0, .ref aP), (1, .int (nI st))] := hl
  refine lv_lconst (v := lN 0) hx hb dX1_priceOf_0 (by decide) ?_
  refine lv_lstore_n (lv' := [(2, .long (lN 0)), (0, .ref aP), (1, .int (nI st))]) hx hb dX1_priceOf_1 rfl hl (by decide) rfl (fun ls hl => ?_)
  refine lv_iconst (v := nI 0) hx hb dX1_priceOf_2 (by decide) ?_
  refine lv_istore (lv' := [(4, .int (nI 0)), (2, .long (lN 0)), (0, .ref aP), (1, .int (nI st))]) hx hb dX1_priceOf_3 hl (by decide) rfl (fun ls hl => ?_)
  have loop5 : ∀ (n_ : Nat) (ee : Nat) (sm : Nat) (he : ee ≤ k) (hm1 : sm = prc ct st ee) (hm : 16 - ee < n_) (H_ : Heap) (locs_ : List Loc) (ls : Array Slot) (hl : lv_has ls 5 [(4, .int (nI ee)), (2, .long (lN sm)), (0, .ref aP), (1, .int (nI st))]) (w : ga_wd G A_ s_ H_ locs_ [(aP, .inr (1, [.ref aF, .ref aT, .ref aC, .ref aL, .int (nI n), .int (nI k), .int (nI li), .int (nI fa)])), (aC, .inl (G.2.2, 16, .inl (aN ct)))]), W p_ l e_ { frames := 1, cells := 0, slots := 0, locals := 21 } s_ m_ [.ref aP, .int (nI st)].toArray below meth c_ H_ locs_ (0) (0) (MQ below (ga_Q G A_ (fun r w => r = some (.long (lN (prc ct st k))) ∧ w = [(aP, .inr (1, [.ref aF, .ref aT, .ref aC, .ref aL, .int (nI n), .int (nI k), .int (nI li), .int (nI fa)])), (aC, .inl (G.2.2, 16, .inl (aN ct)))])) [.ref aP, .int (nI st)].toArray s_ 0 0 A_) (F0 m_ 5 ls []) := by
    intro n_
    induction n_ with
    | zero => intro ee sm he hm1 hm; exact absurd hm (Nat.not_lt_zero _)
    | succ n_ ih5 =>
      intro ee sm he hm1 hm5 H_ locs_ ls hl w
      refine lv_iload hx hb dX1_priceOf_5 (lv_at hl 0 rfl) ?_
      refine lv_aload_n hx hb dX1_priceOf_7 rfl (lv_at hl 2 rfl) ?_
      refine gf_X1_28 cx hK w 0 rfl rfl dX1_priceOf_8 ?_
      refine r_icmp_ge hx hb dX1_priceOf_11 (tgt := 42) (by decide) (by omega) (by omega) (fun c11 => ?_) (fun c11 => ?_)
      · refine lv_lload_n hx hb dX1_priceOf_42 rfl (lv_at hl 1 rfl) ?_
        exact ga_lret cx hr hlk w dX1_priceOf_43 ⟨Nat.le_refl _, Nat.le_refl _⟩ (⟨ga_rl (by rw [hm1, show ee = k by omega]), rfl⟩)
      · refine lv_iload_n hx hb dX1_priceOf_14 rfl (lv_at hl 3 rfl) ?_
        refine lv_iload hx hb dX1_priceOf_15 (lv_at hl 0 rfl) ?_
        refine ga_callSN (rest := []) (wr := [(aP, .inr (1, [.ref aF, .ref aT, .ref aC, .ref aL, .int (nI n), .int (nI k), .int (nI li), .int (nI fa)])), (aC, .inl (G.2.2, 16, .inl (aN ct)))]) cx hK hA w hl lk_X1_43 (c_X6_has l G st ee (by omega) (by omega)) ⟨by decide, by decide⟩ [] [0, 1] rfl rfl (by decide) (by decide) (by decide) rfl (Nat.le_of_ble_eq_true rfl) dX1_priceOf_17 ⟨Nat.le_refl _, Nat.le_refl _⟩ rfl (fun r w1_ H_ locs_ hp w => ?_)
        obtain ⟨rfl, rfl⟩ := hp
        have w : ga_wd G A_ s_ H_ locs_ [(aP, .inr (1, [.ref aF, .ref aT, .ref aC, .ref aL, .int (nI n), .int (nI k), .int (nI li), .int (nI fa)])), (aC, .inl (G.2.2, 16, .inl (aN ct)))] := ga_perm w [0, 1] (by decide) rfl
        refine W.eq (g2 := F0 m_ 20 ls [.int (bI (Nat.testBit st ee))]) rfl ?_
        refine r_ifb_eq hx hb dX1_priceOf_20 (tgt := 36) (by decide) (fun c20 => ?_) (fun c20 => ?_)
        · refine r_iinc (d := 1) (k := 0) (lv' := [(4, .int (nI (ee + 1))), (2, .long (lN sm)), (0, .ref aP), (1, .int (nI st))]) hx hb dX1_priceOf_36 hl rfl (by decide) (by decide) rfl (fun ls hl => ?_)
          refine lv_goto (tgt := 5) hx hb dX1_priceOf_39 (by decide) ?_
          exact ih5 (ee + 1) sm (by omega) (by rw [prc, c20, hm1]; rfl) (by omega) _ _ _ (lv_sub hl [0, 1, 2, 3] rfl) w
        · refine lv_lload_n hx hb dX1_priceOf_23 rfl (lv_at hl 1 rfl) ?_
          refine lv_aload_n hx hb dX1_priceOf_24 rfl (lv_at hl 2 rfl) ?_
          refine gf_X1_18 cx hK w 0 rfl rfl dX1_priceOf_25 ?_
          refine lv_iload hx hb dX1_priceOf_28 (lv_at hl 0 rfl) ?_
          refine r_ialdN hx hb hK w 1 rfl dX1_priceOf_30 (by omega) (by decide) ?_
          refine lv_iconst (v := nI 1) hx hb dX1_priceOf_31 (by decide) ?_
          refine r_iadd hx hb dX1_priceOf_32 ?_
          have hce := hc ee (by omega)
          refine r_i2l hx hb dX1_priceOf_33 (by omega) ?_
          refine r_ladd hx hb dX1_priceOf_34 ?_
          refine lv_lstore_n (lv' := [(2, .long (lN (sm + ((ct ee) + 1)))), (4, .int (nI ee)), (0, .ref aP), (1, .int (nI st))]) hx hb dX1_priceOf_35 rfl hl (by decide) rfl (fun ls hl => ?_)
          refine r_iinc (d := 1) (k := 1) (lv' := [(4, .int (nI (ee + 1))), (2, .long (lN (sm + ((ct ee) + 1)))), (0, .ref aP), (1, .int (nI st))]) hx hb dX1_priceOf_36 hl rfl (by decide) (by decide) rfl (fun ls hl => ?_)
          refine lv_goto (tgt := 5) hx hb dX1_priceOf_39 (by decide) ?_
          exact ih5 (ee + 1) (sm + ((ct ee) + 1)) (by omega) (by rw [prc, c20, hm1, if_pos rfl]) (by omega) _ _ _ (lv_sub hl [0, 1, 2, 3] rfl) w
  exact loop5 _ 0 0 (by omega) (rfl) (Nat.lt_succ_self _) _ _ _ (lv_sub hl [0, 1, 2, 3] rfl) w

set_option maxHeartbeats 4000000 in
set_option maxRecDepth 100000 in
theorem c_X1_stepAt (l : Launch) (G : ga_G) (aP : Nat) (aF : Nat) (aT : Nat) (aC : Nat) (aL : Nat) (n : Nat) (k : Nat) (li : Nat) (fa : Nat) (lv : Nat → Nat) (st : Nat) (i : Int32) (hn : n ≤ 12) (hs : st < 65536) : ga_M l G yX1_stepAt cX1_stepAt 6 (Option.some Jvm.ClassFile.FieldType.int) 2 44 0 0 [.ref aP, .int (nI st), .int i] [(aP, .inr (1, [.ref aF, .ref aT, .ref aC, .ref aL, .int (nI n), .int (nI k), .int (nI li), .int (nI fa)])), (aL, .inl (G.2.2, 12, .inl (aN lv)))] (fun r w => r = some (.int (nth ((fl (fun v => decide (st &&& lv v ≠ 0)) n).map (fun v => nth ((fl (Nat.testBit (st &&& lv v)) 16).map nI) 0)) i)) ∧ w = [(aP, .inr (1, [.ref aF, .ref aT, .ref aC, .ref aL, .int (nI n), .int (nI k), .int (nI li), .int (nI fa)])), (aL, .inl (G.2.2, 12, .inl (aN lv)))]) := by
  refine ga_M.intro (by decide) (Nat.le_of_ble_eq_true rfl) (fun p_ e_ s_ m_ below meth c_ A_ H_ locs_ ls cx hr hlk hnm hA hK hl w => ?_)
  have hx := cx.1
  have hb := cx.2.1
  have hl : lv_has ls 6 [(0, .ref aP), (1, .int (nI st)), (2, .int i)] := hl
  refine lv_iload_n hx hb dX1_stepAt_0 rfl (lv_at hl 2 rfl) ?_
  refine lv_istore_n (lv' := [(3, .int i), (0, .ref aP), (1, .int (nI st)), (2, .int i)]) hx hb dX1_stepAt_1 rfl hl (by decide) rfl (fun ls hl => ?_)
  refine lv_iconst (v := nI 0) hx hb dX1_stepAt_2 (by decide) ?_
  refine lv_istore (lv' := [(4, .int (nI 0)), (3, .int i), (0, .ref aP), (1, .int (nI st)), (2, .int i)]) hx hb dX1_stepAt_3 hl (by decide) rfl (fun ls hl => ?_)
  have loop5 : ∀ (n_ : Nat) (v : Nat) (lf : Int32) (hv : v ≤ n) (hz : scD (fun v => decide (st &&& lv v ≠ 0)) i lf v) (hm : 12 - v < n_) (H_ : Heap) (locs_ : List Loc) (ls : Array Slot) (hl : lv_has ls 6 [(4, .int (nI v)), (3, .int lf), (0, .ref aP), (1, .int (nI st)), (2, .int i)]) (w : ga_wd G A_ s_ H_ locs_ [(aP, .inr (1, [.ref aF, .ref aT, .ref aC, .ref aL, .int (nI n), .int (nI k), .int (nI li), .int (nI fa)])), (aL, .inl (G.2.2, 12, .inl (aN lv)))]), W p_ l e_ { frames := 2, cells := 0, slots := 0, locals := 44 } s_ m_ [.ref aP, .int (nI st), .int i].toArray below meth c_ H_ locs_ (0) (0) (MQ below (ga_Q G A_ (fun r w => r = some (.int (nth ((fl (fun v => decide (st &&& lv v ≠ 0)) n).map (fun v => nth ((fl (Nat.testBit (st &&& lv v)) 16).map nI) 0)) i)) ∧ w = [(aP, .inr (1, [.ref aF, .ref aT, .ref aC, .ref aL, .int (nI n), .int (nI k), .int (nI li), .int (nI fa)])), (aL, .inl (G.2.2, 12, .inl (aN lv)))])) [.ref aP, .int (nI st), .int i].toArray s_ 0 0 A_) (F0 m_ 5 ls []) := by
    intro n_
    induction n_ with
    | zero => intro v lf hv hz hm; exact absurd hm (Nat.not_lt_zero _)
    | succ n_ ih5 =>
      intro v lf hv hz hm5 H_ locs_ ls hl w
      refine lv_iload hx hb dX1_stepAt_5 (lv_at hl 0 rfl) ?_
      refine lv_aload_n hx hb dX1_stepAt_7 rfl (lv_at hl 2 rfl) ?_
      refine gf_X1_24 cx hK w 0 rfl rfl dX1_stepAt_8 ?_
      refine r_icmp_ge hx hb dX1_stepAt_11 (tgt := 50) (by decide) (by omega) (by omega) (fun c11 => ?_) (fun c11 => ?_)
      · refine lv_iconst (v := (-1)) hx hb dX1_stepAt_50 (by decide) ?_
        exact ga_iret cx hr hlk w dX1_stepAt_51 ⟨Nat.le_refl _, Nat.le_refl _⟩ (⟨ga_rv (scD_end _ (by rw [show n = v by omega]; exact hz) (by omega)).symm, rfl⟩)
      · refine lv_iload_n hx hb dX1_stepAt_14 rfl (lv_at hl 3 rfl) ?_
        refine lv_aload_n hx hb dX1_stepAt_15 rfl (lv_at hl 2 rfl) ?_
        refine gf_X1_21 cx hK w 0 rfl rfl dX1_stepAt_16 ?_
        refine lv_iload hx hb dX1_stepAt_19 (lv_at hl 0 rfl) ?_
        refine r_ialdN hx hb hK w 1 rfl dX1_stepAt_21 (by omega) (by decide) ?_
        refine r_iand hx hb dX1_stepAt_22 ?_
        refine lv_istore (lv' := [(5, .int (nI (st &&& (lv v)))), (4, .int (nI v)), (3, .int lf), (0, .ref aP), (1, .int (nI st)), (2, .int i)]) hx hb dX1_stepAt_23 hl (by decide) rfl (fun ls hl => ?_)
        refine lv_iload hx hb dX1_stepAt_25 (lv_at hl 0 rfl) ?_
        refine r_if_eq hx hb dX1_stepAt_27 (tgt := 44) (by decide) (andL_lt (by omega)) (fun c27 => ?_) (fun c27 => ?_)
        · refine r_iinc (d := 1) (k := 1) (lv' := [(4, .int (nI (v + 1))), (5, .int (nI (st &&& (lv v)))), (3, .int lf), (0, .ref aP), (1, .int (nI st)), (2, .int i)]) hx hb dX1_stepAt_44 hl rfl (by decide) (by decide) rfl (fun ls hl => ?_)
          refine lv_goto (tgt := 5) hx hb dX1_stepAt_47 (by decide) ?_
          exact ih5 (v + 1) lf (by omega) (scD_f hz (by simp [c27])) (by omega) _ _ _ (lv_sub hl [0, 2, 3, 4, 5] rfl) w
        · refine lv_iload_n hx hb dX1_stepAt_30 rfl (lv_at hl 2 rfl) ?_
          refine lv_if_ne hx hb dX1_stepAt_31 (tgt := 41) (by decide) (fun c31 => ?_) (fun c31 => ?_)
          · refine lv_iinc (k := 2) (lv' := [(3, .int (lf + Int32.ofInt (-1))), (5, .int (nI (st &&& (lv v)))), (4, .int (nI v)), (0, .ref aP), (1, .int (nI st)), (2, .int i)]) hx hb dX1_stepAt_41 hl rfl rfl (by decide) rfl (fun ls hl => ?_)
            refine r_iinc (d := 1) (k := 2) (lv' := [(4, .int (nI (v + 1))), (3, .int (lf + Int32.ofInt (-1))), (5, .int (nI (st &&& (lv v)))), (0, .ref aP), (1, .int (nI st)), (2, .int i)]) hx hb dX1_stepAt_44 hl rfl (by decide) (by decide) rfl (fun ls hl => ?_)
            refine lv_goto (tgt := 5) hx hb dX1_stepAt_47 (by decide) ?_
            exact ih5 (v + 1) (lf + Int32.ofInt (-1)) (by omega) (scD_t hz (by simp [c27]) c31) (by omega) _ _ _ (lv_sub hl [0, 1, 3, 4, 5] rfl) w
          · refine lv_iload hx hb dX1_stepAt_34 (lv_at hl 0 rfl) ?_
            refine lv_iconst (v := nI 0) hx hb dX1_stepAt_36 (by decide) ?_
            refine ga_callSN (rest := []) (wr := [(aP, .inr (1, [.ref aF, .ref aT, .ref aC, .ref aL, .int (nI n), .int (nI k), .int (nI li), .int (nI fa)])), (aL, .inl (G.2.2, 12, .inl (aN lv)))]) cx hK hA w hl lk_X1_47 (c_X6_member l G (st &&& (lv v)) (nI 0) (andL_lt (by omega))) ⟨by decide, by decide⟩ [] [0, 1] rfl rfl (by decide) (by decide) (by decide) rfl (Nat.le_of_ble_eq_true rfl) dX1_stepAt_37 ⟨Nat.le_refl _, Nat.le_refl _⟩ rfl (fun r w1_ H_ locs_ hp w => ?_)
            obtain ⟨rfl, rfl⟩ := hp
            have w : ga_wd G A_ s_ H_ locs_ [(aP, .inr (1, [.ref aF, .ref aT, .ref aC, .ref aL, .int (nI n), .int (nI k), .int (nI li), .int (nI fa)])), (aL, .inl (G.2.2, 12, .inl (aN lv)))] := ga_perm w [0, 1] (by decide) rfl
            refine W.eq (g2 := F0 m_ 40 ls [.int (nth ((fl (Nat.testBit (st &&& (lv v))) 16).map nI) (nI 0))]) rfl ?_
            exact ga_iret cx hr hlk w dX1_stepAt_40 ⟨Nat.le_refl _, Nat.le_refl _⟩ (⟨ga_rv (scD_hit (fun v => nth ((fl (Nat.testBit (st &&& lv v)) 16).map nI) 0) hz (by simp [c27]) (by omega) (by omega) c31).symm, rfl⟩)
  exact loop5 _ 0 i (by omega) (scD_0 _ _) (Nat.lt_succ_self _) _ _ _ (lv_sub hl [0, 1, 2, 3, 4] rfl) w

set_option maxHeartbeats 4000000 in
set_option maxRecDepth 100000 in
theorem c_J7_fill_53178 (l : Launch) (G : ga_G) (a : Nat) (L : Nat) (f : Nat → Nat) (x : Nat) (hL : L < 2 ^ 31) : ga_M l G yJ7_fill_53178 cJ7_fill_53178 4 (Option.none : Option Jvm.ClassFile.FieldType) 0 0 0 0 [.ref a, .int (nI x)] [(a, .inl (G.2.2, L, .inl (aN f)))] (fun r w => ∃ (g : Nat → Nat), (∀ j, j < L → g j = x) ∧ r = none ∧ w = [(a, .inl (G.2.2, L, .inl (aN g)))]) := by
  refine ga_M.intro (by decide) (Nat.le_of_ble_eq_true rfl) (fun p_ e_ s_ m_ below meth c_ A_ H_ locs_ ls cx hr hlk hnm hA hK hl w => ?_)
  have hx := cx.1
  have hb := cx.2.1
  have hl : lv_has ls 4 [(0, .ref a), (1, .int (nI x))] := hl
  refine lv_iconst (v := nI 0) hx hb dJ7_fill_53178_0 (by decide) ?_
  refine lv_istore_n (lv' := [(2, .int (nI 0)), (0, .ref a), (1, .int (nI x))]) hx hb dJ7_fill_53178_1 rfl hl (by decide) rfl (fun ls hl => ?_)
  refine lv_aload_n hx hb dJ7_fill_53178_2 rfl (lv_at hl 1 rfl) ?_
  refine r_alen hx hb hK w 0 rfl dJ7_fill_53178_3 ?_
  refine lv_istore_n (lv' := [(3, .int (nI L)), (2, .int (nI 0)), (0, .ref a), (1, .int (nI x))]) hx hb dJ7_fill_53178_4 rfl hl (by decide) rfl (fun ls hl => ?_)
  have loop5 : ∀ (n_ : Nat) (i : Nat) (g : Nat → Nat) (hi : i ≤ L) (hg : ∀ j, j < i → g j = x) (hm : L - i < n_) (H_ : Heap) (locs_ : List Loc) (ls : Array Slot) (hl : lv_has ls 4 [(3, .int (nI L)), (2, .int (nI i)), (0, .ref a), (1, .int (nI x))]) (w : ga_wd G A_ s_ H_ locs_ [(a, .inl (G.2.2, L, .inl (aN g)))]), W p_ l e_ { frames := 0, cells := 0, slots := 0, locals := 0 } s_ m_ [.ref a, .int (nI x)].toArray below meth c_ H_ locs_ (0) (0) (MQ below (ga_Q G A_ (fun r w => ∃ (g : Nat → Nat), (∀ j, j < L → g j = x) ∧ r = none ∧ w = [(a, .inl (G.2.2, L, .inl (aN g)))])) [.ref a, .int (nI x)].toArray s_ 0 0 A_) (F0 m_ 5 ls []) := by
    intro n_
    induction n_ with
    | zero => intro i g hi hg hm; exact absurd hm (Nat.not_lt_zero _)
    | succ n_ ih5 =>
      intro i g hi hg hm5 H_ locs_ ls hl w
      refine lv_iload_n hx hb dJ7_fill_53178_5 rfl (lv_at hl 1 rfl) ?_
      refine lv_iload_n hx hb dJ7_fill_53178_6 rfl (lv_at hl 0 rfl) ?_
      refine r_icmp_ge hx hb dJ7_fill_53178_7 (tgt := 20) (by decide) (by omega) (by omega) (fun c7 => ?_) (fun c7 => ?_)
      · exact ga_vret cx hr hlk w dJ7_fill_53178_20 ⟨Nat.le_refl _, Nat.le_refl _⟩ (⟨g, fun j hj => hg j (by omega), rfl, rfl⟩)
      · refine lv_aload_n hx hb dJ7_fill_53178_10 rfl (lv_at hl 2 rfl) ?_
        refine lv_iload_n hx hb dJ7_fill_53178_11 rfl (lv_at hl 1 rfl) ?_
        refine lv_iload_n hx hb dJ7_fill_53178_12 rfl (lv_at hl 3 rfl) ?_
        refine r_iastN hx hb hK w 0 rfl dJ7_fill_53178_13 (by omega) (by omega) (fun H_ locs_ w => ?_)
        have w : ga_wd G A_ s_ H_ locs_ [(a, .inl (G.2.2, L, .inl (aN (uN g i x))))] := w
        refine r_iinc (d := 1) (k := 1) (lv' := [(2, .int (nI (i + 1))), (3, .int (nI L)), (0, .ref a), (1, .int (nI x))]) hx hb dJ7_fill_53178_14 hl rfl (by decide) (by decide) rfl (fun ls hl => ?_)
        refine lv_goto (tgt := 5) hx hb dJ7_fill_53178_17 (by decide) ?_
        exact ih5 (i + 1) (uN g i x) (by omega) (fun j hj => by unfold uN; split; rfl; exact hg j (by omega)) (by omega) _ _ _ (lv_sub hl [1, 0, 2, 3] rfl) w
  exact loop5 _ 0 f (by omega) (fun j h => absurd h (Nat.not_lt_zero _)) (Nat.lt_succ_self _) _ _ _ (lv_sub hl [0, 1, 2, 3] rfl) w

set_option maxHeartbeats 4000000 in
set_option maxRecDepth 100000 in
theorem c_X1_restart (l : Launch) (G : ga_G) (aP : Nat) (aF : Nat) (aT : Nat) (aC : Nat) (aL : Nat) (n : Nat) (k : Nat) (li : Nat) (fa : Nat) (lv : Nat → Nat) (nn : Nat)  : ga_M l G yX1_restart cX1_restart 2 (Option.none : Option Jvm.ClassFile.FieldType) 1 23 0 0 [.ref aP, .int (nI nn)] [(aP, .inr (1, [.ref aF, .ref aT, .ref aC, .ref aL, .int (nI n), .int (nI k), .int (nI li), .int (nI fa)])), (aL, .inl (G.2.2, 12, .inl (aN lv)))] (fun r w => ∃ (g : Nat → Nat), (∀ j, j < 12 → g j = 0) ∧ r = none ∧ w = [(aP, .inr (1, [.ref aF, .ref aT, .ref aC, .ref aL, .int (nI nn), .int (nI 0), .int (nI 0), .int (nI 0)])), (aL, .inl (G.2.2, 12, .inl (aN g)))]) := by
  refine ga_M.intro (by decide) (Nat.le_of_ble_eq_true rfl) (fun p_ e_ s_ m_ below meth c_ A_ H_ locs_ ls cx hr hlk hnm hA hK hl w => ?_)
  have hx := cx.1
  have hb := cx.2.1
  have hl : lv_has ls 2 [(0, .ref aP), (1, .int (nI nn))] := hl
  refine lv_aload_n hx hb dX1_restart_0 rfl (lv_at hl 0 rfl) ?_
  refine lv_iload_n hx hb dX1_restart_1 rfl (lv_at hl 1 rfl) ?_
  refine pf_X1_24 cx hK w 0 rfl rfl rfl (Nat.le_of_ble_eq_true rfl) dX1_restart_2 (fun H_ locs_ w => ?_)
  have w : ga_wd G A_ s_ H_ locs_ [(aP, .inr (1, [.ref aF, .ref aT, .ref aC, .ref aL, .int (nI nn), .int (nI k), .int (nI li), .int (nI fa)])), (aL, .inl (G.2.2, 12, .inl (aN lv)))] := w
  refine lv_aload_n hx hb dX1_restart_5 rfl (lv_at hl 0 rfl) ?_
  refine lv_iconst (v := nI 0) hx hb dX1_restart_6 (by decide) ?_
  refine pf_X1_28 cx hK w 0 rfl rfl rfl (Nat.le_of_ble_eq_true rfl) dX1_restart_7 (fun H_ locs_ w => ?_)
  have w : ga_wd G A_ s_ H_ locs_ [(aP, .inr (1, [.ref aF, .ref aT, .ref aC, .ref aL, .int (nI nn), .int (nI 0), .int (nI li), .int (nI fa)])), (aL, .inl (G.2.2, 12, .inl (aN lv)))] := w
  refine lv_aload_n hx hb dX1_restart_10 rfl (lv_at hl 0 rfl) ?_
  refine lv_iconst (v := nI 0) hx hb dX1_restart_11 (by decide) ?_
  refine pf_X1_31 cx hK w 0 rfl rfl rfl (Nat.le_of_ble_eq_true rfl) dX1_restart_12 (fun H_ locs_ w => ?_)
  have w : ga_wd G A_ s_ H_ locs_ [(aP, .inr (1, [.ref aF, .ref aT, .ref aC, .ref aL, .int (nI nn), .int (nI 0), .int (nI 0), .int (nI fa)])), (aL, .inl (G.2.2, 12, .inl (aN lv)))] := w
  refine lv_aload_n hx hb dX1_restart_15 rfl (lv_at hl 0 rfl) ?_
  refine lv_iconst (v := nI 0) hx hb dX1_restart_16 (by decide) ?_
  refine pf_X1_34 cx hK w 0 rfl rfl rfl (Nat.le_of_ble_eq_true rfl) dX1_restart_17 (fun H_ locs_ w => ?_)
  have w : ga_wd G A_ s_ H_ locs_ [(aP, .inr (1, [.ref aF, .ref aT, .ref aC, .ref aL, .int (nI nn), .int (nI 0), .int (nI 0), .int (nI 0)])), (aL, .inl (G.2.2, 12, .inl (aN lv)))] := w
  refine lv_aload_n hx hb dX1_restart_20 rfl (lv_at hl 0 rfl) ?_
  refine gf_X1_21 cx hK w 0 rfl rfl dX1_restart_21 ?_
  refine lv_iconst (v := nI 0) hx hb dX1_restart_24 (by decide) ?_
  refine ga_callS (rest := []) (wr := [(aP, .inr (1, [.ref aF, .ref aT, .ref aC, .ref aL, .int (nI nn), .int (nI 0), .int (nI 0), .int (nI 0)]))]) cx hK hA w hl lk_X1_37 (c_J7_fill_53178 l G aL 12 lv 0 (by omega)) ⟨by decide, by decide⟩ [1] [0] rfl rfl (by decide) (by decide) (by decide) rfl (Nat.le_of_ble_eq_true rfl) dX1_restart_25 ⟨Nat.le_refl _, Nat.le_refl _⟩ rfl (fun r w1_ H_ locs_ hp w => ?_)
  obtain ⟨g, hg, rfl, rfl⟩ := hp
  have w : ga_wd G A_ s_ H_ locs_ [(aP, .inr (1, [.ref aF, .ref aT, .ref aC, .ref aL, .int (nI nn), .int (nI 0), .int (nI 0), .int (nI 0)])), (aL, .inl (G.2.2, 12, .inl (aN g)))] := ga_perm w [0, 1] (by decide) rfl
  refine W.eq (g2 := F0 m_ 28 ls []) rfl ?_
  exact ga_vret cx hr hlk w dX1_restart_28 ⟨Nat.le_refl _, Nat.le_refl _⟩ (⟨g, hg, rfl, rfl⟩)

set_option maxHeartbeats 4000000 in
set_option maxRecDepth 100000 in
theorem c_X1_addStep (l : Launch) (G : ga_G) (aP : Nat) (aF : Nat) (aT : Nat) (aC : Nat) (aL : Nat) (n : Nat) (k : Nat) (li : Nat) (fa : Nat) (fr : Nat → Nat) (to : Nat → Nat) (ct : Nat → Nat) (lv : Nat → Nat) (va : Nat) (vb : Nat) (vc : Nat) (hk : k < 16) (hv : va < 12) : ga_M l G yX1_addStep cX1_addStep 5 (Option.some Jvm.ClassFile.FieldType.int) 0 0 0 0 [.ref aP, .int (nI va), .int (nI vb), .int (nI vc)] [(aP, .inr (1, [.ref aF, .ref aT, .ref aC, .ref aL, .int (nI n), .int (nI k), .int (nI li), .int (nI fa)])), (aF, .inl (G.2.2, 16, .inl (aN fr))), (aT, .inl (G.2.2, 16, .inl (aN to))), (aC, .inl (G.2.2, 16, .inl (aN ct))), (aL, .inl (G.2.2, 12, .inl (aN lv)))] (fun r w => r = some (.int (nI k)) ∧ w = [(aP, .inr (1, [.ref aF, .ref aT, .ref aC, .ref aL, .int (nI n), .int (nI (k + 1)), .int (nI li), .int (nI fa)])), (aF, .inl (G.2.2, 16, .inl (aN (uN fr k va)))), (aT, .inl (G.2.2, 16, .inl (aN (uN to k vb)))), (aC, .inl (G.2.2, 16, .inl (aN (uN ct k vc)))), (aL, .inl (G.2.2, 12, .inl (aN (uN lv va ((lv va) ||| (1 <<< k))))))]) := by
  refine ga_M.intro (by decide) (Nat.le_of_ble_eq_true rfl) (fun p_ e_ s_ m_ below meth c_ A_ H_ locs_ ls cx hr hlk hnm hA hK hl w => ?_)
  have hx := cx.1
  have hb := cx.2.1
  have hl : lv_has ls 5 [(0, .ref aP), (1, .int (nI va)), (2, .int (nI vb)), (3, .int (nI vc))] := hl
  refine lv_aload_n hx hb dX1_addStep_0 rfl (lv_at hl 0 rfl) ?_
  refine gf_X1_28 cx hK w 0 rfl rfl dX1_addStep_1 ?_
  refine lv_istore (lv' := [(4, .int (nI k)), (0, .ref aP), (1, .int (nI va)), (2, .int (nI vb)), (3, .int (nI vc))]) hx hb dX1_addStep_4 hl (by decide) rfl (fun ls hl => ?_)
  refine lv_aload_n hx hb dX1_addStep_6 rfl (lv_at hl 1 rfl) ?_
  refine gf_X1_9 cx hK w 0 rfl rfl dX1_addStep_7 ?_
  refine lv_iload hx hb dX1_addStep_10 (lv_at hl 0 rfl) ?_
  refine lv_iload_n hx hb dX1_addStep_12 rfl (lv_at hl 2 rfl) ?_
  refine r_iastN hx hb hK w 1 rfl dX1_addStep_13 (by omega) (by decide) (fun H_ locs_ w => ?_)
  have w : ga_wd G A_ s_ H_ locs_ [(aP, .inr (1, [.ref aF, .ref aT, .ref aC, .ref aL, .int (nI n), .int (nI k), .int (nI li), .int (nI fa)])), (aF, .inl (G.2.2, 16, .inl (aN (uN fr k va)))), (aT, .inl (G.2.2, 16, .inl (aN to))), (aC, .inl (G.2.2, 16, .inl (aN ct))), (aL, .inl (G.2.2, 12, .inl (aN lv)))] := w
  refine lv_aload_n hx hb dX1_addStep_14 rfl (lv_at hl 1 rfl) ?_
  refine gf_X1_15 cx hK w 0 rfl rfl dX1_addStep_15 ?_
  refine lv_iload hx hb dX1_addStep_18 (lv_at hl 0 rfl) ?_
  refine lv_iload_n hx hb dX1_addStep_20 rfl (lv_at hl 3 rfl) ?_
  refine r_iastN hx hb hK w 2 rfl dX1_addStep_21 (by omega) (by decide) (fun H_ locs_ w => ?_)
  have w : ga_wd G A_ s_ H_ locs_ [(aP, .inr (1, [.ref aF, .ref aT, .ref aC, .ref aL, .int (nI n), .int (nI k), .int (nI li), .int (nI fa)])), (aF, .inl (G.2.2, 16, .inl (aN (uN fr k va)))), (aT, .inl (G.2.2, 16, .inl (aN (uN to k vb)))), (aC, .inl (G.2.2, 16, .inl (aN ct))), (aL, .inl (G.2.2, 12, .inl (aN lv)))] := w
  refine lv_aload_n hx hb dX1_addStep_22 rfl (lv_at hl 1 rfl) ?_
  refine gf_X1_18 cx hK w 0 rfl rfl dX1_addStep_23 ?_
  refine lv_iload hx hb dX1_addStep_26 (lv_at hl 0 rfl) ?_
  refine lv_iload_n hx hb dX1_addStep_28 rfl (lv_at hl 4 rfl) ?_
  refine r_iastN hx hb hK w 3 rfl dX1_addStep_29 (by omega) (by decide) (fun H_ locs_ w => ?_)
  have w : ga_wd G A_ s_ H_ locs_ [(aP, .inr (1, [.ref aF, .ref aT, .ref aC, .ref aL, .int (nI n), .int (nI k), .int (nI li), .int (nI fa)])), (aF, .inl (G.2.2, 16, .inl (aN (uN fr k va)))), (aT, .inl (G.2.2, 16, .inl (aN (uN to k vb)))), (aC, .inl (G.2.2, 16, .inl (aN (uN ct k vc)))), (aL, .inl (G.2.2, 12, .inl (aN lv)))] := w
  refine lv_aload_n hx hb dX1_addStep_30 rfl (lv_at hl 1 rfl) ?_
  refine gf_X1_21 cx hK w 0 rfl rfl dX1_addStep_31 ?_
  refine lv_iload_n hx hb dX1_addStep_34 rfl (lv_at hl 2 rfl) ?_
  refine lv_dup2_11 hx hb dX1_addStep_35 rfl rfl ?_
  refine r_ialdN hx hb hK w 4 rfl dX1_addStep_36 (by omega) (by decide) ?_
  refine lv_iconst (v := nI 1) hx hb dX1_addStep_37 (by decide) ?_
  refine lv_iload hx hb dX1_addStep_38 (lv_at hl 0 rfl) ?_
  refine r_ishl hx hb dX1_addStep_40 (by omega) ?_
  refine r_ior hx hb dX1_addStep_41 ?_
  refine r_iastN hx hb hK w 4 rfl dX1_addStep_42 (by omega) (by decide) (fun H_ locs_ w => ?_)
  have w : ga_wd G A_ s_ H_ locs_ [(aP, .inr (1, [.ref aF, .ref aT, .ref aC, .ref aL, .int (nI n), .int (nI k), .int (nI li), .int (nI fa)])), (aF, .inl (G.2.2, 16, .inl (aN (uN fr k va)))), (aT, .inl (G.2.2, 16, .inl (aN (uN to k vb)))), (aC, .inl (G.2.2, 16, .inl (aN (uN ct k vc)))), (aL, .inl (G.2.2, 12, .inl (aN (uN lv va ((lv va) ||| (1 <<< k))))))] := w
  refine lv_aload_n hx hb dX1_addStep_43 rfl (lv_at hl 1 rfl) ?_
  refine lv_dup hx hb dX1_addStep_44 rfl ?_
  refine gf_X1_28 cx hK w 0 rfl rfl dX1_addStep_45 ?_
  refine lv_iconst (v := nI 1) hx hb dX1_addStep_48 (by decide) ?_
  refine r_iadd hx hb dX1_addStep_49 ?_
  refine pf_X1_28 cx hK w 0 rfl rfl rfl (Nat.le_of_ble_eq_true rfl) dX1_addStep_50 (fun H_ locs_ w => ?_)
  have w : ga_wd G A_ s_ H_ locs_ [(aP, .inr (1, [.ref aF, .ref aT, .ref aC, .ref aL, .int (nI n), .int (nI (k + 1)), .int (nI li), .int (nI fa)])), (aF, .inl (G.2.2, 16, .inl (aN (uN fr k va)))), (aT, .inl (G.2.2, 16, .inl (aN (uN to k vb)))), (aC, .inl (G.2.2, 16, .inl (aN (uN ct k vc)))), (aL, .inl (G.2.2, 12, .inl (aN (uN lv va ((lv va) ||| (1 <<< k))))))] := w
  refine lv_iload hx hb dX1_addStep_53 (lv_at hl 0 rfl) ?_
  exact ga_iret cx hr hlk w dX1_addStep_55 ⟨Nat.le_refl _, Nat.le_refl _⟩ (⟨rfl, rfl⟩)

set_option maxHeartbeats 4000000 in
set_option maxRecDepth 100000 in
theorem c_X5_put (l : Launch) (G : ga_G) (aB : Nat) (aE : Nat) (tl : Nat) (tb : Nat → Nat) (wd : Int32) (ht : tl ≤ 36) : ga_M l G yX5_put cX5_put 3 (Option.none : Option Jvm.ClassFile.FieldType) 0 0 0 0 [.ref aB, .int wd] [(aB, .inr (5, [.ref aE, .int (nI tl)])), (aE, .inl (G.2.2, 40, .inl (aN tb)))] (fun r w => ∃ (g : Nat → Nat), (∀ j, j < tl → g j = tb j) ∧ (∀ q, q < 4 → g (tl + q) = byt wd (3 - q)) ∧ r = none ∧ w = [(aB, .inr (5, [.ref aE, .int (nI (tl + 4))])), (aE, .inl (G.2.2, 40, .inl (aN g)))]) := by
  refine ga_M.intro (by decide) (Nat.le_of_ble_eq_true rfl) (fun p_ e_ s_ m_ below meth c_ A_ H_ locs_ ls cx hr hlk hnm hA hK hl w => ?_)
  have hx := cx.1
  have hb := cx.2.1
  have hl : lv_has ls 3 [(0, .ref aB), (1, .int wd)] := hl
  refine lv_iconst (v := nI 3) hx hb dX5_put_0 (by decide) ?_
  refine lv_istore_n (lv' := [(2, .int (nI 3)), (0, .ref aB), (1, .int wd)]) hx hb dX5_put_1 rfl hl (by decide) rfl (fun ls hl => ?_)
  have loop2 : ∀ (n_ : Nat) (q : Nat) (x : Int32) (g : Nat → Nat) (hq : q ≤ 4) (hx3 : x = nI 3 - nI q) (h1 : ∀ j, j < tl → g j = tb j) (h2 : ∀ u, u < q → g (tl + u) = byt wd (3 - u)) (hm : 4 - q < n_) (H_ : Heap) (locs_ : List Loc) (ls : Array Slot) (hl : lv_has ls 3 [(2, .int x), (0, .ref aB), (1, .int wd)]) (w : ga_wd G A_ s_ H_ locs_ [(aB, .inr (5, [.ref aE, .int (nI (tl + q))])), (aE, .inl (G.2.2, 40, .inl (aN g)))]), W p_ l e_ { frames := 0, cells := 0, slots := 0, locals := 0 } s_ m_ [.ref aB, .int wd].toArray below meth c_ H_ locs_ (0) (0) (MQ below (ga_Q G A_ (fun r w => ∃ (g : Nat → Nat), (∀ j, j < tl → g j = tb j) ∧ (∀ q, q < 4 → g (tl + q) = byt wd (3 - q)) ∧ r = none ∧ w = [(aB, .inr (5, [.ref aE, .int (nI (tl + 4))])), (aE, .inl (G.2.2, 40, .inl (aN g)))])) [.ref aB, .int wd].toArray s_ 0 0 A_) (F0 m_ 2 ls []) := by
    intro n_
    induction n_ with
    | zero => intro q x g hq hx3 h1 h2 hm; exact absurd hm (Nat.not_lt_zero _)
    | succ n_ ih2 =>
      intro q x g hq hx3 h1 h2 hm2 H_ locs_ ls hl w
      refine lv_iload_n hx hb dX5_put_2 rfl (lv_at hl 0 rfl) ?_
      rcases Nat.lt_or_ge q 4 with hq0 | hq0
      · have hx4 : x = nI (3 - q) := by rw [hx3, pk_sub (by omega)]
        subst hx4
        refine r_if_lt hx hb dX5_put_3 (tgt := 50) (by decide) (by omega) (fun c3 => ?_) (fun c3 => ?_)
        · omega
        · refine lv_aload_n hx hb dX5_put_6 rfl (lv_at hl 1 rfl) ?_
          refine gf_X5_15 cx hK w 0 rfl rfl dX5_put_7 ?_
          refine lv_bipush (v := nI 40) hx hb dX5_put_10 (by decide) ?_
          refine r_icmp_ge hx hb dX5_put_12 (tgt := 50) (by decide) (by omega) (by omega) (fun c12 => ?_) (fun c12 => ?_)
          · exact ga_vret cx hr hlk w dX5_put_50 ⟨Nat.le_refl _, Nat.le_refl _⟩ (⟨g, h1, fun u hu => h2 u (by omega), rfl, by rw [show q = 4 by omega]⟩)
          · refine lv_aload_n hx hb dX5_put_15 rfl (lv_at hl 1 rfl) ?_
            refine gf_X5_9 cx hK w 0 rfl rfl dX5_put_16 ?_
            refine lv_aload_n hx hb dX5_put_19 rfl (lv_at hl 1 rfl) ?_
            refine gf_X5_15 cx hK w 0 rfl rfl dX5_put_20 ?_
            refine lv_iload_n hx hb dX5_put_23 rfl (lv_at hl 2 rfl) ?_
            refine lv_bipush (v := nI 8) hx hb dX5_put_24 (by decide) ?_
            refine lv_iload_n hx hb dX5_put_26 rfl (lv_at hl 0 rfl) ?_
            refine r_imul hx hb dX5_put_27 ?_
            refine lv_ishr hx hb dX5_put_28 ?_
            refine lv_sipush (v := nI 255) hx hb dX5_put_29 (by decide) ?_
            refine lv_iand hx hb dX5_put_32 ?_
            refine r_topi (y := nI (byt wd (3 - q))) (byt_ok wd (by omega)) ?_
            refine r_iastN hx hb hK w 1 rfl dX5_put_33 (by omega) (by decide) (fun H_ locs_ w => ?_)
            have w : ga_wd G A_ s_ H_ locs_ [(aB, .inr (5, [.ref aE, .int (nI (tl + q))])), (aE, .inl (G.2.2, 40, .inl (aN (uN g (tl + q) (byt wd (3 - q))))))] := w
            refine lv_aload_n hx hb dX5_put_34 rfl (lv_at hl 1 rfl) ?_
            refine lv_dup hx hb dX5_put_35 rfl ?_
            refine gf_X5_15 cx hK w 0 rfl rfl dX5_put_36 ?_
            refine lv_iconst (v := nI 1) hx hb dX5_put_39 (by decide) ?_
            refine r_iadd hx hb dX5_put_40 ?_
            refine pf_X5_15 cx hK w 0 rfl rfl rfl (Nat.le_of_ble_eq_true rfl) dX5_put_41 (fun H_ locs_ w => ?_)
            have w : ga_wd G A_ s_ H_ locs_ [(aB, .inr (5, [.ref aE, .int (nI ((tl + q) + 1))])), (aE, .inl (G.2.2, 40, .inl (aN (uN g (tl + q) (byt wd (3 - q))))))] := w
            refine lv_iinc (k := 0) (lv' := [(2, .int (nI (3 - q) + Int32.ofInt (-1))), (0, .ref aB), (1, .int wd)]) hx hb dX5_put_44 hl rfl rfl (by decide) rfl (fun ls hl => ?_)
            refine lv_goto (tgt := 2) hx hb dX5_put_47 (by decide) ?_
            exact ih2 (q + 1) (nI (3 - q) + Int32.ofInt (-1)) (uN g (tl + q) (byt wd (3 - q))) (by omega) (dec_q hq0) (fun j hj => by rw [uN_n _ _ (by omega)]; exact h1 j hj) (fun u hu => by rcases Nat.lt_or_ge u q with h | h; (rw [uN_n _ _ (by omega)]; exact h2 u h); (rw [show u = q by omega, uN_s])) (by omega) _ _ _ (lv_sub hl [0, 1, 2] rfl) w
      · have hx4 : x = -1 := by rw [hx3, show q = 4 by omega]; decide
        subst hx4
        refine lv_if_lt hx hb dX5_put_3 (tgt := 50) (by decide) (fun c3 => ?_) (fun c3 => ?_)
        · exact ga_vret cx hr hlk w dX5_put_50 ⟨Nat.le_refl _, Nat.le_refl _⟩ (⟨g, h1, fun u hu => h2 u (by omega), rfl, by rw [show q = 4 by omega]⟩)
        · exact absurd (by decide) c3
  exact loop2 _ 0 (nI 3) tb (by omega) (by decide) (fun j _ => rfl) (fun u h => absurd h (Nat.not_lt_zero _)) (Nat.lt_succ_self _) _ _ _ (lv_sub hl [0, 1, 2] rfl) w
end
section
/-! PURE for Reading and Routes -/
theorem nI_nm1 {n : Nat} (h : n < 2 ^ 31) : ¬ nI n = -1 := by
  intro h1
  have h2 := congrArg Int32.toInt h1
  rw [nI_toInt h] at h2
  have h3 : (-1 : Int32).toInt = -1 := by decide
  omega
theorem nI_gm1 {n : Nat} (h : n < 2 ^ 31) : ¬ nI n ≤ -1 := by
  intro h1
  have h2 := Int32.le_iff_toInt_le.mp h1
  rw [nI_toInt h] at h2
  have h3 : (-1 : Int32).toInt = -1 := by decide
  omega
/-- the log's first q bytes: the set of its steps, the node behind the last; none: it can't be -/
def fitR (k : Nat) (fr td : Nat → Nat) : Nat → Option (Nat × Nat)
  | 0 => some (0, 0)
  | q + 1 => match fitR k fr td q with
    | none => none
    | some (ts, nd) => if td q < k ∧ nd ≤ fr (td q) then some (ts ||| 1 <<< td q, fr (td q) + 1) else none
theorem fitR_t {k : Nat} {fr td : Nat → Nat} {q ts nd : Nat} (h : fitR k fr td q = some (ts, nd)) (h1 : td q < k) (h2 : nd ≤ fr (td q)) : fitR k fr td (q + 1) = some (ts ||| 1 <<< td q, fr (td q) + 1) := by
  rw [fitR, h]; simp [h1, h2]
theorem fitR_f {k : Nat} {fr td : Nat → Nat} {q ts nd : Nat} (h : fitR k fr td q = some (ts, nd)) (h1 : ¬ (td q < k ∧ nd ≤ fr (td q))) : fitR k fr td (q + 1) = none := by
  rw [fitR, h]; simp only [if_neg h1]
theorem fitR_up {k : Nat} {fr td : Nat → Nat} {q : Nat} (h : fitR k fr td q = none) : ∀ {L : Nat}, q ≤ L → fitR k fr td L = none := by
  intro L hL
  induction L with
  | zero => rw [show q = 0 by omega] at h; exact h
  | succ L ih =>
    rcases Nat.lt_or_ge q (L + 1) with h1 | h1
    · rw [fitR, ih (by omega)]
    · rw [show q = L + 1 by omega] at h; exact h
def FitP (n k li : Nat) (fr lv td : Nat → Nat) (L : Nat) (tn po : Bool) (ts hd : Nat) : Prop :=
  match fitR k fr td L with
  | none => po = false
  | some (t, nd) => po = true ∧ ts = t ∧ hd = li &&& (if tn then orB lv (min nd n) else 2 ^ k - 1)
theorem FitP_n {n k li : Nat} {fr lv td : Nat → Nat} {L : Nat} {tn : Bool} {ts hd : Nat} (h : fitR k fr td L = none) : FitP n k li fr lv td L tn false ts hd := by
  unfold FitP; rw [h]
theorem FitP_s {n k li : Nat} {fr lv td : Nat → Nat} {L : Nat} {tn : Bool} {ts nd hd : Nat} (h : fitR k fr td L = some (ts, nd)) (hh : hd = li &&& (if tn then orB lv (min nd n) else 2 ^ k - 1)) : FitP n k li fr lv td L tn true ts hd := by
  unfold FitP; rw [h]; exact ⟨rfl, rfl, hh⟩
/-- what a reading allows -/
def alw (po : Bool) (ts hd x : Nat) : Bool := po && decide (x &&& hd = ts)
def allI (f : Nat → Nat) (P : Nat → Bool) : Nat → Int32
  | 0 => -1
  | i + 1 => if P i then allI f P i &&& nI (f i) else allI f P i
def orI (f : Nat → Nat) (P : Nat → Bool) : Nat → Nat
  | 0 => 0
  | i + 1 => if P i then orI f P i ||| f i else orI f P i
/-- a path's steps and nodes as bits -/
def bs (p : List Nat) : Nat := p.foldl (fun a e => a ||| 1 <<< e) 0
def nb (to : Nat → Nat) (p : List Nat) : Nat := p.foldl (fun a e => a ||| 1 <<< to e) 1
theorem bs_a (p : List Nat) (e : Nat) : bs (p ++ [e]) = bs p ||| 1 <<< e := by unfold bs; rw [List.foldl_append]; rfl
theorem nb_a (to : Nat → Nat) (p : List Nat) (e : Nat) : nb to (p ++ [e]) = nb to p ||| 1 <<< to e := by unfold nb; rw [List.foldl_append]; rfl
/-- what Routes hold of a row of ways -/
def Rep (to : Nat → Nat) (ws : List (List Nat)) (num : Nat) (tm : Bool) (ss ns : Nat → Nat) : Prop :=
  num = min 200 ws.length ∧ tm = decide (200 < ws.length) ∧ ∀ i, i < num → ∀ p, ws[i]? = some p → ss i = bs p ∧ ns i = nb to p
theorem Rep_add {to : Nat → Nat} {ws : List (List Nat)} {num : Nat} {tm : Bool} {ss ns : Nat → Nat} {p : List Nat} (h : Rep to ws num tm ss ns) (hn : num < 200) : Rep to (ws ++ [p]) (num + 1) tm (uN ss num (bs p)) (uN ns num (nb to p)) := by
  obtain ⟨h1, h2, h3⟩ := h
  have hl : num = ws.length := by omega
  refine ⟨by rw [List.length_append]; simp; omega, ?_, fun i hi q hq => ?_⟩
  · rw [h2, List.length_append]; simp; omega
  · rcases Nat.lt_or_ge i num with h4 | h4
    · rw [List.getElem?_append_left (by omega)] at hq
      rw [uN_n _ _ (by omega), uN_n _ _ (by omega)]
      exact h3 i h4 q hq
    · have h5 : i = num := by omega
      subst h5
      rw [List.getElem?_append_right (by omega), hl, Nat.sub_self] at hq
      simp at hq
      subst hq
      exact ⟨uN_s _ _ _, uN_s _ _ _⟩
theorem Rep_full {to : Nat → Nat} {ws : List (List Nat)} {num : Nat} {tm : Bool} {ss ns : Nat → Nat} {ps : List (List Nat)} (h : Rep to ws num tm ss ns) (hn : ¬ num < 200) (hp : ps ≠ []) : Rep to (ws ++ ps) num true ss ns := by
  obtain ⟨h1, h2, h3⟩ := h
  have hp1 : 0 < ps.length := List.length_pos_iff.mpr hp
  refine ⟨by rw [List.length_append]; omega, ?_, fun i hi q hq => ?_⟩
  · rw [List.length_append]; simp; omega
  · rw [List.getElem?_append_left (by omega)] at hq
    exact h3 i hi q hq
theorem Rep_more {to : Nat → Nat} {ws : List (List Nat)} {num : Nat} {ss ns : Nat → Nat} (ps : List (List Nat)) (h : Rep to ws num true ss ns) : Rep to (ws ++ ps) num true ss ns := by
  obtain ⟨h1, h2, h3⟩ := h
  have h4 : 200 < ws.length := of_decide_eq_true h2.symm
  refine ⟨by rw [List.length_append]; omega, ?_, fun i hi q hq => ?_⟩
  · rw [List.length_append]; simp; omega
  · rw [List.getElem?_append_left (by omega)] at hq
    exact h3 i hi q hq
/-- the first place below i with P, else i -/
def lfst (P : Nat → Bool) (i : Nat) : Nat := ((List.range i).find? P).getD i
theorem lfst_lt {P : Nat → Bool} {r i : Nat} (hr : r < i) (hP : P r = true) (hb : ∀ j, j < r → P j = false) : lfst P i = r := by
  unfold lfst
  obtain ⟨d, rfl⟩ : ∃ d, i = r + (d + 1) := ⟨i - r - 1, by omega⟩
  have : (List.range (r + (d + 1))).find? P = some r := by
    rw [List.find?_eq_some_iff_append]
    refine ⟨hP, List.range r, (List.range' (r + 1) d), ?_, ?_⟩
    · rw [List.range_eq_range', List.range_eq_range', ← List.range'_append_1, List.range'_succ, Nat.zero_add]
    · intro a ha; rw [List.mem_range] at ha; simp [hb a ha]
  rw [this]; rfl
theorem lfst_no {P : Nat → Bool} {i : Nat} (hb : ∀ j, j < i → P j = false) : lfst P i = i := by
  unfold lfst
  have : (List.range i).find? P = none := by
    rw [List.find?_eq_none]; intro a ha; rw [List.mem_range] at ha; simp [hb a ha]
  rw [this]; rfl
theorem lfst_sp (P : Nat → Bool) (i : Nat) : lfst P i ≤ i ∧ (lfst P i < i → P (lfst P i) = true) ∧ ∀ j, j < lfst P i → P j = false := by
  by_cases h : ∃ r, r < i ∧ P r = true
  · obtain ⟨r, ⟨h1, h2⟩, h3⟩ := pk_least (fun r => r < i ∧ P r = true) h
    have hb : ∀ j, j < r → P j = false := fun j hj => by
      cases hq : P j
      · rfl
      · exact absurd ⟨by omega, hq⟩ (h3 j hj)
    rw [lfst_lt h1 h2 hb]
    exact ⟨by omega, fun _ => h2, hb⟩
  · have hb : ∀ j, j < i → P j = false := fun j hj => by
      cases hq : P j
      · rfl
      · exact absurd ⟨j, hj, hq⟩ h
    rw [lfst_no hb]
    exact ⟨Nat.le_refl _, fun h => absurd h (Nat.lt_irrefl _), hb⟩
def like (ss : Nat → Nat) (li i : Nat) : Nat → Bool := fun j => decide (ss j &&& li = ss i &&& li)
def hpsN (ss : Nat → Nat) (li c : Nat) : Nat := (fl (fun i => decide (lfst (like ss li i) i = i)) c).length
/-- how many bits -/
def pop (x : Nat) : Nat := (fl (Nat.testBit x) 16).length
def bc1 (x : Nat) : Nat := x - (x / 2 &&& 1431655765)
def bc2 (x : Nat) : Nat := (bc1 x &&& 858993459) + (bc1 x / 4 &&& 858993459)
def bc3 (x : Nat) : Nat := (bc2 x + bc2 x / 16) &&& 252645135
def bc4 (x : Nat) : Nat := bc3 x + bc3 x / 256
def bc5 (x : Nat) : Nat := bc4 x + bc4 x / 65536
def popR (x : Nat) : Nat := x % 2 + x / 2 % 2 + x / 4 % 2 + x / 8 % 2 + x / 16 % 2 + x / 32 % 2 + x / 64 % 2 + x / 128 % 2 + x / 256 % 2 + x / 512 % 2 + x / 1024 % 2 + x / 2048 % 2 + x / 4096 % 2 + x / 8192 % 2 + x / 16384 % 2 + x / 32768 % 2
theorem land_split (x y : Nat) : x &&& y = 256 * ((x / 256) &&& (y / 256)) + ((x % 256) &&& (y % 256)) := by
  have h1 : (x &&& y) / 2 ^ 8 = (x / 2 ^ 8) &&& (y / 2 ^ 8) := Nat.and_div_two_pow
  have h2 : (x &&& y) % 2 ^ 8 = (x % 2 ^ 8) &&& (y % 2 ^ 8) := Nat.and_mod_two_pow
  simp only [Nat.reducePow] at h1 h2
  omega
def b8u (l : Nat) : Nat := l - (l / 2 &&& 85)
def b8v (l : Nat) : Nat := (b8u l &&& 51) + (b8u l / 4 &&& 51)
def b8t (l : Nat) : Nat := (b8v l + b8v l / 16) &&& 15
def b8p (x : Nat) : Nat := x % 2 + x / 2 % 2 + x / 4 % 2 + x / 8 % 2 + x / 16 % 2 + x / 32 % 2 + x / 64 % 2 + x / 128 % 2
theorem b8_0 : ∀ l, l < 256 → (l / 2 &&& 5592405 = l / 2 &&& 85) ∧ (128 + l / 2 &&& 85 = l / 2 &&& 85) ∧ b8u l < 256 := by decide +kernel
theorem b8_1 : ∀ b, b < 256 → (b &&& 3355443 = b &&& 51) ∧ (b / 4 &&& 3355443 = b / 4 &&& 51) ∧ (64 + b / 4 &&& 51 = b / 4 &&& 51) ∧ (128 + b / 4 &&& 51 = b / 4 &&& 51) ∧ (192 + b / 4 &&& 51 = b / 4 &&& 51) := by decide +kernel
theorem b8_2 : ∀ l, l < 256 → b8v l ≤ 68 ∧ b8v l % 16 ≤ 4 ∧ b8t l = b8p l ∧ b8t l ≤ 8 ∧ ((b8v l + b8v l / 16) &&& 986895 = b8t l) := by decide +kernel
theorem b8_3 : ∀ d, d < 256 → ∀ q, q < 5 → (16 * q + d &&& 15) = (d &&& 15) := by decide +kernel
theorem bc1_s {h l : Nat} (hh : h < 256) (hl : l < 256) : bc1 (256 * h + l) = 256 * b8u h + b8u l := by
  have e : ((256 * h + l) / 2) &&& 1431655765 = 256 * (h / 2 &&& 85) + (l / 2 &&& 85) := by
    rw [land_split, show (256 * h + l) / 2 / 256 = h / 2 by omega, show (256 * h + l) / 2 % 256 = 128 * (h % 2) + l / 2 by omega, show 1431655765 / 256 = 5592405 from rfl, show 1431655765 % 256 = 85 from rfl, (b8_0 h hh).1]
    rcases Nat.mod_two_eq_zero_or_one h with q | q
    · rw [q]; simp
    · rw [q]; simp [(b8_0 l hl).2.1]
  have h1 : h / 2 &&& 85 ≤ h := Nat.le_trans Nat.and_le_left (Nat.div_le_self _ _)
  have h2 : l / 2 &&& 85 ≤ l := Nat.le_trans Nat.and_le_left (Nat.div_le_self _ _)
  unfold bc1 b8u
  rw [e]; omega
theorem bc2_s {h l : Nat} (hh : h < 256) (hl : l < 256) : bc2 (256 * h + l) = 256 * b8v h + b8v l := by
  unfold bc2 b8v
  rw [bc1_s hh hl]
  have ha := (b8_0 h hh).2.2
  have hb := (b8_0 l hl).2.2
  generalize b8u h = a at ha ⊢
  generalize b8u l = b at hb ⊢
  have e1 : (256 * a + b) &&& 858993459 = 256 * (a &&& 51) + (b &&& 51) := by
    rw [land_split, show (256 * a + b) / 256 = a by omega, show (256 * a + b) % 256 = b by omega, show 858993459 / 256 = 3355443 from rfl, show 858993459 % 256 = 51 from rfl, (b8_1 a ha).1]
  have e2 : (256 * a + b) / 4 &&& 858993459 = 256 * (a / 4 &&& 51) + (b / 4 &&& 51) := by
    rw [land_split, show (256 * a + b) / 4 / 256 = a / 4 by omega, show (256 * a + b) / 4 % 256 = 64 * (a % 4) + b / 4 by omega, show 858993459 / 256 = 3355443 from rfl, show 858993459 % 256 = 51 from rfl, (b8_1 a ha).2.1]
    rcases (show a % 4 = 0 ∨ a % 4 = 1 ∨ a % 4 = 2 ∨ a % 4 = 3 by omega) with q | q | q | q <;> rw [q]
    · simp
    · rw [(b8_1 b hb).2.2.1]
    · rw [(b8_1 b hb).2.2.2.1]
    · rw [(b8_1 b hb).2.2.2.2]
  rw [e1, e2]; omega
theorem bc3_s {h l : Nat} (hh : h < 256) (hl : l < 256) : bc3 (256 * h + l) = 256 * b8t h + b8t l := by
  unfold bc3
  rw [bc2_s hh hl]
  obtain ⟨h1, h2, -, -, h5⟩ := b8_2 h hh
  obtain ⟨l1, -, -, -, -⟩ := b8_2 l hl
  rw [← h5]
  unfold b8t
  generalize b8v h = a at h1 h2 ⊢
  generalize b8v l = b at l1 ⊢
  rw [land_split, show (256 * a + b + (256 * a + b) / 16) / 256 = a + a / 16 by omega, show (256 * a + b + (256 * a + b) / 16) % 256 = 16 * (a % 16) + (b + b / 16) by omega, show 252645135 / 256 = 986895 from rfl, show 252645135 % 256 = 15 from rfl, b8_3 (b + b / 16) (by omega) (a % 16) (by omega)]
theorem pop_R (x : Nat) : pop x = popR x := by
  have h : ∀ k, (fl (Nat.testBit x) (k + 1)).length = (fl (Nat.testBit x) k).length + x / 2 ^ k % 2 := fun k => by
    have e := Nat.testBit_eq_decide_div_mod_eq (x := x) (i := k)
    have hm : x / 2 ^ k % 2 < 2 := Nat.mod_lt _ (by decide)
    cases hb : Nat.testBit x k
    · rw [fl_f hb]; rw [hb] at e; have := of_decide_eq_false e.symm; omega
    · rw [fl_t hb]; rw [hb] at e; have := of_decide_eq_true e.symm; simp; omega
  unfold pop popR
  have h0 : (fl (Nat.testBit x) 0).length = 0 := rfl
  have a0 := h 0; have a1 := h 1; have a2 := h 2; have a3 := h 3; have a4 := h 4; have a5 := h 5; have a6 := h 6; have a7 := h 7
  have a8 := h 8; have a9 := h 9; have b0 := h 10; have b1 := h 11; have b2 := h 12; have b3 := h 13; have b4 := h 14; have b5 := h 15
  simp only [Nat.zero_add, Nat.reduceAdd, Nat.reducePow, Nat.div_one] at a0 a1 a2 a3 a4 a5 a6 a7 a8 a9 b0 b1 b2 b3 b4 b5
  rw [b5, b4, b3, b2, b1, b0, a9, a8, a7, a6, a5, a4, a3, a2, a1, a0, h0, Nat.zero_add]
theorem bc_ok {x : Nat} (hx : x < 65536) : bc5 x &&& 63 = pop x := by
  have e := bc3_s (h := x / 256) (l := x % 256) (by omega) (by omega)
  rw [show 256 * (x / 256) + x % 256 = x by omega] at e
  obtain ⟨-, -, h3, h4, -⟩ := b8_2 (x / 256) (by omega)
  obtain ⟨-, -, l3, l4, -⟩ := b8_2 (x % 256) (by omega)
  have e5 : bc5 x = 256 * b8t (x / 256) + b8t (x % 256) + b8t (x / 256) := by
    unfold bc5 bc4; rw [e]; omega
  rw [e5, show (63 : Nat) = 2 ^ 6 - 1 from rfl, Nat.and_two_pow_sub_one_eq_mod, show (2 : Nat) ^ 6 = 64 from rfl, pop_R]
  have ep : popR x = b8p (x % 256) + b8p (x / 256) := by
    unfold popR b8p
    have r0 : x % 256 % 2 = x % 2 := by omega
    have r1 : x % 256 / 2 % 2 = x / 2 % 2 := by omega
    have r2 : x % 256 / 4 % 2 = x / 4 % 2 := by omega
    have r3 : x % 256 / 8 % 2 = x / 8 % 2 := by omega
    have r4 : x % 256 / 16 % 2 = x / 16 % 2 := by omega
    have r5 : x % 256 / 32 % 2 = x / 32 % 2 := by omega
    have r6 : x % 256 / 64 % 2 = x / 64 % 2 := by omega
    have r7 : x % 256 / 128 % 2 = x / 128 % 2 := by omega
    have q1 : x / 256 / 2 = x / 512 := by omega
    have q2 : x / 256 / 4 = x / 1024 := by omega
    have q3 : x / 256 / 8 = x / 2048 := by omega
    have q4 : x / 256 / 16 = x / 4096 := by omega
    have q5 : x / 256 / 32 = x / 8192 := by omega
    have q6 : x / 256 / 64 = x / 16384 := by omega
    have q7 : x / 256 / 128 = x / 32768 := by omega
    rw [r0, r1, r2, r3, r4, r5, r6, r7, q1, q2, q3, q4, q5, q6, q7]
    simp only [Nat.add_assoc]
  rw [ep, ← h3, ← l3]
  omega
theorem bc1_le (x : Nat) : x / 2 &&& 1431655765 ≤ x := Nat.le_trans Nat.and_le_left (Nat.div_le_self _ _)
theorem bc2_lt (x : Nat) : bc2 x < 2 ^ 31 := by
  have h1 : bc1 x &&& 858993459 ≤ 858993459 := Nat.and_le_right
  have h2 : bc1 x / 4 &&& 858993459 ≤ 858993459 := Nat.and_le_right
  unfold bc2; omega
theorem bc3_lt (x : Nat) : bc3 x ≤ 252645135 := by unfold bc3; exact Nat.and_le_right
theorem bc4_lt (x : Nat) : bc4 x < 2 ^ 31 := by have := bc3_lt x; unfold bc4; omega
end
section
set_option maxHeartbeats 4000000 in
set_option maxRecDepth 100000 in
theorem c_J6_bitCount_0f7a4 (l : Launch) (G : ga_G) (x : Nat) (h : x < 65536) : ga_M l G yJ6_bitCount_0f7a4 cJ6_bitCount_0f7a4 1 (Option.some Jvm.ClassFile.FieldType.int) 0 0 0 0 [.int (nI x)] [] (fun r w => r = some (.int (nI (pop x))) ∧ w = []) := by
  refine ga_M.intro (by decide) (Nat.le_of_ble_eq_true rfl) (fun p_ e_ s_ m_ below meth c_ A_ H_ locs_ ls cx hr hlk hnm hA hK hl w => ?_)
  have hx := cx.1
  have hb := cx.2.1
  have hl : lv_has ls 1 [(0, .int (nI x))] := hl
  refine lv_iload_n hx hb dJ6_bitCount_0f7a4_0 rfl (lv_at hl 0 rfl) ?_
  refine lv_iload_n hx hb dJ6_bitCount_0f7a4_1 rfl (lv_at hl 0 rfl) ?_
  refine lv_iconst (v := nI 1) hx hb dJ6_bitCount_0f7a4_2 (by decide) ?_
  refine lv_iushr hx hb dJ6_bitCount_0f7a4_3 rfl ?_
  refine r_topi (y := nI (x / 2)) (pk_ushrN (by omega) _ 1 (by decide)) ?_
  refine lv_ldcw hx hb cx.2.2.2.1 (cx.2.2.2.2 _ tm_405) dJ6_bitCount_0f7a4_4 ?_
  refine r_topi (y := nI 1431655765) rfl ?_
  refine r_iand hx hb dJ6_bitCount_0f7a4_7 ?_
  refine r_isub hx hb dJ6_bitCount_0f7a4_8 (bc1_le x) ?_
  refine r_topi (y := nI (bc1 x)) (rfl) ?_
  refine lv_istore_n (lv' := [(0, .int (nI (bc1 x)))]) hx hb dJ6_bitCount_0f7a4_9 rfl hl (by decide) rfl (fun ls hl => ?_)
  refine lv_iload_n hx hb dJ6_bitCount_0f7a4_10 rfl (lv_at hl 0 rfl) ?_
  refine lv_ldcw hx hb cx.2.2.2.1 (cx.2.2.2.2 _ tm_406) dJ6_bitCount_0f7a4_11 ?_
  refine r_topi (y := nI 858993459) rfl ?_
  refine r_iand hx hb dJ6_bitCount_0f7a4_14 ?_
  refine lv_iload_n hx hb dJ6_bitCount_0f7a4_15 rfl (lv_at hl 0 rfl) ?_
  refine lv_iconst (v := nI 2) hx hb dJ6_bitCount_0f7a4_16 (by decide) ?_
  refine lv_iushr hx hb dJ6_bitCount_0f7a4_17 rfl ?_
  refine r_topi (y := nI (bc1 x / 4)) (pk_ushrN (by have := Nat.sub_le x (x / 2 &&& 1431655765); unfold bc1; omega) _ 2 (by decide)) ?_
  refine lv_ldcw hx hb cx.2.2.2.1 (cx.2.2.2.2 _ tm_406) dJ6_bitCount_0f7a4_18 ?_
  refine r_topi (y := nI 858993459) rfl ?_
  refine r_iand hx hb dJ6_bitCount_0f7a4_21 ?_
  refine r_iadd hx hb dJ6_bitCount_0f7a4_22 ?_
  refine r_topi (y := nI (bc2 x)) (rfl) ?_
  refine lv_istore_n (lv' := [(0, .int (nI (bc2 x)))]) hx hb dJ6_bitCount_0f7a4_23 rfl hl (by decide) rfl (fun ls hl => ?_)
  refine lv_iload_n hx hb dJ6_bitCount_0f7a4_24 rfl (lv_at hl 0 rfl) ?_
  refine lv_iload_n hx hb dJ6_bitCount_0f7a4_25 rfl (lv_at hl 0 rfl) ?_
  refine lv_iconst (v := nI 4) hx hb dJ6_bitCount_0f7a4_26 (by decide) ?_
  refine lv_iushr hx hb dJ6_bitCount_0f7a4_27 rfl ?_
  refine r_topi (y := nI (bc2 x / 16)) (pk_ushrN (by have := bc2_lt x; omega) _ 4 (by decide)) ?_
  refine r_iadd hx hb dJ6_bitCount_0f7a4_28 ?_
  refine lv_ldcw hx hb cx.2.2.2.1 (cx.2.2.2.2 _ tm_407) dJ6_bitCount_0f7a4_29 ?_
  refine r_topi (y := nI 252645135) rfl ?_
  refine r_iand hx hb dJ6_bitCount_0f7a4_32 ?_
  refine r_topi (y := nI (bc3 x)) (rfl) ?_
  refine lv_istore_n (lv' := [(0, .int (nI (bc3 x)))]) hx hb dJ6_bitCount_0f7a4_33 rfl hl (by decide) rfl (fun ls hl => ?_)
  refine lv_iload_n hx hb dJ6_bitCount_0f7a4_34 rfl (lv_at hl 0 rfl) ?_
  refine lv_iload_n hx hb dJ6_bitCount_0f7a4_35 rfl (lv_at hl 0 rfl) ?_
  refine lv_bipush (v := nI 8) hx hb dJ6_bitCount_0f7a4_36 (by decide) ?_
  refine lv_iushr hx hb dJ6_bitCount_0f7a4_38 rfl ?_
  refine r_topi (y := nI (bc3 x / 256)) (pk_ushrN (by have := bc3_lt x; omega) _ 8 (by decide)) ?_
  refine r_iadd hx hb dJ6_bitCount_0f7a4_39 ?_
  refine r_topi (y := nI (bc4 x)) (rfl) ?_
  refine lv_istore_n (lv' := [(0, .int (nI (bc4 x)))]) hx hb dJ6_bitCount_0f7a4_40 rfl hl (by decide) rfl (fun ls hl => ?_)
  refine lv_iload_n hx hb dJ6_bitCount_0f7a4_41 rfl (lv_at hl 0 rfl) ?_
  refine lv_iload_n hx hb dJ6_bitCount_0f7a4_42 rfl (lv_at hl 0 rfl) ?_
  refine lv_bipush (v := nI 16) hx hb dJ6_bitCount_0f7a4_43 (by decide) ?_
  refine lv_iushr hx hb dJ6_bitCount_0f7a4_45 rfl ?_
  refine r_topi (y := nI (bc4 x / 65536)) (pk_ushrN (by have := bc4_lt x; omega) _ 16 (by decide)) ?_
  refine r_iadd hx hb dJ6_bitCount_0f7a4_46 ?_
  refine r_topi (y := nI (bc5 x)) (rfl) ?_
  refine lv_istore_n (lv' := [(0, .int (nI (bc5 x)))]) hx hb dJ6_bitCount_0f7a4_47 rfl hl (by decide) rfl (fun ls hl => ?_)
  refine lv_iload_n hx hb dJ6_bitCount_0f7a4_48 rfl (lv_at hl 0 rfl) ?_
  refine lv_bipush (v := nI 63) hx hb dJ6_bitCount_0f7a4_49 (by decide) ?_
  refine r_iand hx hb dJ6_bitCount_0f7a4_51 ?_
  exact ga_iret cx hr hlk w dJ6_bitCount_0f7a4_52 ⟨Nat.le_refl _, Nat.le_refl _⟩ (⟨ga_rv (congrArg nI (bc_ok h)), rfl⟩)

set_option maxHeartbeats 4000000 in
set_option maxRecDepth 100000 in
theorem c_X2_forget (l : Launch) (G : ga_G) (aR : Nat) (aD : Nat) (rl : Int32) (tn : Bool) (po : Bool) (ts : Nat) (hd : Nat)  : ga_M l G yX2_forget cX2_forget 1 (Option.none : Option Jvm.ClassFile.FieldType) 0 0 0 0 [.ref aR] [(aR, .inr (2, [.ref aD, .int rl, .int (bI tn), .int (bI po), .int (nI ts), .int (nI hd)]))] (fun r w => r = none ∧ w = [(aR, .inr (2, [.ref aD, .int (-1), .int (bI tn), .int (bI po), .int (nI ts), .int (nI hd)]))]) := by
  refine ga_M.intro (by decide) (Nat.le_of_ble_eq_true rfl) (fun p_ e_ s_ m_ below meth c_ A_ H_ locs_ ls cx hr hlk hnm hA hK hl w => ?_)
  have hx := cx.1
  have hb := cx.2.1
  have hl : lv_has ls 1 [(0, .ref aR)] := hl
  refine lv_aload_n hx hb dX2_forget_0 rfl (lv_at hl 0 rfl) ?_
  refine lv_iconst (v := (-1)) hx hb dX2_forget_1 (by decide) ?_
  refine pf_X2_15 cx hK w 0 rfl rfl rfl (Nat.le_of_ble_eq_true rfl) dX2_forget_2 (fun H_ locs_ w => ?_)
  have w : ga_wd G A_ s_ H_ locs_ [(aR, .inr (2, [.ref aD, .int (-1), .int (bI tn), .int (bI po), .int (nI ts), .int (nI hd)]))] := w
  exact ga_vret cx hr hlk w dX2_forget_5 ⟨Nat.le_refl _, Nat.le_refl _⟩ (⟨rfl, rfl⟩)

set_option maxHeartbeats 4000000 in
set_option maxRecDepth 100000 in
theorem c_X2_take (l : Launch) (G : ga_G) (aR : Nat) (aD : Nat) (rl : Int32) (tn : Bool) (po : Bool) (ts : Nat) (hd : Nat) (td : Nat → Nat) (aB : Nat) (aE : Nat) (tl : Nat) (tb : Nat → Nat) (nn : Nat) (tn2 : Bool) (hn : nn ≤ 16) : ga_M l G yX2_take cX2_take 5 (Option.none : Option Jvm.ClassFile.FieldType) 0 0 0 0 [.ref aR, .ref aB, .int (nI nn), .int (bI tn2)] [(aR, .inr (2, [.ref aD, .int rl, .int (bI tn), .int (bI po), .int (nI ts), .int (nI hd)])), (aD, .inl (G.2.2, 16, .inl (aN td))), (aB, .inr (5, [.ref aE, .int (nI tl)])), (aE, .inl (G.2.2, 40, .inl (aN tb)))] (fun r w => ∃ (g : Nat → Nat), (∀ j, j < nn → g j = tb j) ∧ r = none ∧ w = [(aR, .inr (2, [.ref aD, .int (nI nn), .int (bI tn2), .int (bI po), .int (nI ts), .int (nI hd)])), (aD, .inl (G.2.2, 16, .inl (aN g))), (aB, .inr (5, [.ref aE, .int (nI tl)])), (aE, .inl (G.2.2, 40, .inl (aN tb)))]) := by
  refine ga_M.intro (by decide) (Nat.le_of_ble_eq_true rfl) (fun p_ e_ s_ m_ below meth c_ A_ H_ locs_ ls cx hr hlk hnm hA hK hl w => ?_)
  have hx := cx.1
  have hb := cx.2.1
  have hl : lv_has ls 5 [(0, .ref aR), (1, .ref aB), (2, .int (nI nn)), (3, .int (bI tn2))] := hl
  refine lv_iconst (v := nI 0) hx hb dX2_take_0 (by decide) ?_
  refine lv_istore (lv' := [(4, .int (nI 0)), (0, .ref aR), (1, .ref aB), (2, .int (nI nn)), (3, .int (bI tn2))]) hx hb dX2_take_1 hl (by decide) rfl (fun ls hl => ?_)
  have loop3 : ∀ (n_ : Nat) (i : Nat) (g : Nat → Nat) (hi : i ≤ nn) (hg : ∀ j, j < i → g j = tb j) (hm : nn - i < n_) (H_ : Heap) (locs_ : List Loc) (ls : Array Slot) (hl : lv_has ls 5 [(4, .int (nI i)), (0, .ref aR), (1, .ref aB), (2, .int (nI nn)), (3, .int (bI tn2))]) (w : ga_wd G A_ s_ H_ locs_ [(aR, .inr (2, [.ref aD, .int rl, .int (bI tn), .int (bI po), .int (nI ts), .int (nI hd)])), (aD, .inl (G.2.2, 16, .inl (aN g))), (aB, .inr (5, [.ref aE, .int (nI tl)])), (aE, .inl (G.2.2, 40, .inl (aN tb)))]), W p_ l e_ { frames := 0, cells := 0, slots := 0, locals := 0 } s_ m_ [.ref aR, .ref aB, .int (nI nn), .int (bI tn2)].toArray below meth c_ H_ locs_ (0) (0) (MQ below (ga_Q G A_ (fun r w => ∃ (g : Nat → Nat), (∀ j, j < nn → g j = tb j) ∧ r = none ∧ w = [(aR, .inr (2, [.ref aD, .int (nI nn), .int (bI tn2), .int (bI po), .int (nI ts), .int (nI hd)])), (aD, .inl (G.2.2, 16, .inl (aN g))), (aB, .inr (5, [.ref aE, .int (nI tl)])), (aE, .inl (G.2.2, 40, .inl (aN tb)))])) [.ref aR, .ref aB, .int (nI nn), .int (bI tn2)].toArray s_ 0 0 A_) (F0 m_ 3 ls []) := by
    intro n_
    induction n_ with
    | zero => intro i g hi hg hm; exact absurd hm (Nat.not_lt_zero _)
    | succ n_ ih3 =>
      intro i g hi hg hm3 H_ locs_ ls hl w
      refine lv_iload hx hb dX2_take_3 (lv_at hl 0 rfl) ?_
      refine lv_iload_n hx hb dX2_take_5 rfl (lv_at hl 3 rfl) ?_
      refine r_icmp_ge hx hb dX2_take_6 (tgt := 29) (by decide) (by omega) (by omega) (fun c6 => ?_) (fun c6 => ?_)
      · refine lv_aload_n hx hb dX2_take_29 rfl (lv_at hl 1 rfl) ?_
        refine lv_iload_n hx hb dX2_take_30 rfl (lv_at hl 3 rfl) ?_
        refine pf_X2_15 cx hK w 0 rfl rfl rfl (Nat.le_of_ble_eq_true rfl) dX2_take_31 (fun H_ locs_ w => ?_)
        have w : ga_wd G A_ s_ H_ locs_ [(aR, .inr (2, [.ref aD, .int (nI nn), .int (bI tn), .int (bI po), .int (nI ts), .int (nI hd)])), (aD, .inl (G.2.2, 16, .inl (aN g))), (aB, .inr (5, [.ref aE, .int (nI tl)])), (aE, .inl (G.2.2, 40, .inl (aN tb)))] := w
        refine lv_aload_n hx hb dX2_take_34 rfl (lv_at hl 1 rfl) ?_
        refine lv_iload_n hx hb dX2_take_35 rfl (lv_at hl 4 rfl) ?_
        refine pf_X2_24 cx hK w 0 rfl (bI_nar _) (bI_fit _) (Nat.le_of_ble_eq_true rfl) dX2_take_36 (fun H_ locs_ w => ?_)
        have w : ga_wd G A_ s_ H_ locs_ [(aR, .inr (2, [.ref aD, .int (nI nn), .int (bI tn2), .int (bI po), .int (nI ts), .int (nI hd)])), (aD, .inl (G.2.2, 16, .inl (aN g))), (aB, .inr (5, [.ref aE, .int (nI tl)])), (aE, .inl (G.2.2, 40, .inl (aN tb)))] := w
        exact ga_vret cx hr hlk w dX2_take_39 ⟨Nat.le_refl _, Nat.le_refl _⟩ (⟨g, fun j hj => hg j (by omega), rfl, rfl⟩)
      · refine lv_aload_n hx hb dX2_take_9 rfl (lv_at hl 1 rfl) ?_
        refine gf_X2_9 cx hK w 0 rfl rfl dX2_take_10 ?_
        refine lv_iload hx hb dX2_take_13 (lv_at hl 0 rfl) ?_
        refine lv_aload_n hx hb dX2_take_15 rfl (lv_at hl 2 rfl) ?_
        refine gf_X2_19 cx hK w 2 rfl rfl dX2_take_16 ?_
        refine lv_iload hx hb dX2_take_19 (lv_at hl 0 rfl) ?_
        refine r_ialdN hx hb hK w 3 rfl dX2_take_21 (by omega) (by decide) ?_
        refine r_iastN hx hb hK w 1 rfl dX2_take_22 (by omega) (by decide) (fun H_ locs_ w => ?_)
        have w : ga_wd G A_ s_ H_ locs_ [(aR, .inr (2, [.ref aD, .int rl, .int (bI tn), .int (bI po), .int (nI ts), .int (nI hd)])), (aD, .inl (G.2.2, 16, .inl (aN (uN g i (tb i))))), (aB, .inr (5, [.ref aE, .int (nI tl)])), (aE, .inl (G.2.2, 40, .inl (aN tb)))] := w
        refine r_iinc (d := 1) (k := 0) (lv' := [(4, .int (nI (i + 1))), (0, .ref aR), (1, .ref aB), (2, .int (nI nn)), (3, .int (bI tn2))]) hx hb dX2_take_23 hl rfl (by decide) (by decide) rfl (fun ls hl => ?_)
        refine lv_goto (tgt := 3) hx hb dX2_take_26 (by decide) ?_
        exact ih3 (i + 1) (uN g i (tb i)) (by omega) (fun j hj => by unfold uN; split; (rename_i hji; rw [hji]); exact hg j (by omega)) (by omega) _ _ _ (lv_sub hl [0, 1, 2, 3, 4] rfl) w
  exact loop3 _ 0 td (by omega) (fun j h => absurd h (Nat.not_lt_zero _)) (Nat.lt_succ_self _) _ _ _ (lv_sub hl [0, 1, 2, 3, 4] rfl) w

set_option maxHeartbeats 4000000 in
set_option maxRecDepth 100000 in
theorem c_X2_fit (l : Launch) (G : ga_G) (aR : Nat) (aD : Nat) (L : Nat) (tn : Bool) (po : Bool) (ts : Nat) (hd : Nat) (td : Nat → Nat) (aP : Nat) (aF : Nat) (aT : Nat) (aC : Nat) (aL : Nat) (n : Nat) (k : Nat) (li : Nat) (fa : Nat) (fr : Nat → Nat) (lv : Nat → Nat) (hL : L ≤ 16) (hn : n ≤ 12) (hk : k ≤ 16) (htd : ∀ j, j < 16 → td j < 256) (hfr : ∀ e, e < k → fr e < n) : ga_M l G yX2_fit cX2_fit 5 (Option.none : Option Jvm.ClassFile.FieldType) 1 23 0 0 [.ref aR, .ref aP] [(aR, .inr (2, [.ref aD, .int (nI L), .int (bI tn), .int (bI po), .int (nI ts), .int (nI hd)])), (aD, .inl (G.2.2, 16, .inl (aN td))), (aP, .inr (1, [.ref aF, .ref aT, .ref aC, .ref aL, .int (nI n), .int (nI k), .int (nI li), .int (nI fa)])), (aF, .inl (G.2.2, 16, .inl (aN fr))), (aL, .inl (G.2.2, 12, .inl (aN lv)))] (fun r w => ∃ (po2 : Bool), ∃ (ts2 : Nat), ∃ (hd2 : Nat), (FitP n k li fr lv td L tn po2 ts2 hd2) ∧ (ts2 < 65536) ∧ r = none ∧ w = [(aR, .inr (2, [.ref aD, .int (nI L), .int (bI tn), .int (bI po2), .int (nI ts2), .int (nI hd2)])), (aD, .inl (G.2.2, 16, .inl (aN td))), (aP, .inr (1, [.ref aF, .ref aT, .ref aC, .ref aL, .int (nI n), .int (nI k), .int (nI li), .int (nI fa)])), (aF, .inl (G.2.2, 16, .inl (aN fr))), (aL, .inl (G.2.2, 12, .inl (aN lv)))]) := by
  refine ga_M.intro (by decide) (Nat.le_of_ble_eq_true rfl) (fun p_ e_ s_ m_ below meth c_ A_ H_ locs_ ls cx hr hlk hnm hA hK hl w => ?_)
  have hx := cx.1
  have hb := cx.2.1
  have hl : lv_has ls 5 [(0, .ref aR), (1, .ref aP)] := hl
  refine lv_aload_n hx hb dX2_fit_0 rfl (lv_at hl 0 rfl) ?_
  refine lv_aload_n hx hb dX2_fit_1 rfl (lv_at hl 0 rfl) ?_
  refine gf_X2_15 cx hK w 0 rfl rfl dX2_fit_2 ?_
  refine lv_iconst (v := (-1)) hx hb dX2_fit_5 (by decide) ?_
  refine lv_icmp_eq hx hb dX2_fit_6 (tgt := 13) (by decide) (fun c6 => ?_) (fun c6 => ?_)
  · exact absurd c6 (nI_nm1 (by omega))
  · refine lv_iconst (v := nI 1) hx hb dX2_fit_9 (by decide) ?_
    refine lv_goto (tgt := 14) hx hb dX2_fit_10 (by decide) ?_
    refine pf_X2_28 cx hK w 0 rfl rfl rfl (Nat.le_of_ble_eq_true rfl) dX2_fit_14 (fun H_ locs_ w => ?_)
    have w : ga_wd G A_ s_ H_ locs_ [(aR, .inr (2, [.ref aD, .int (nI L), .int (bI tn), .int (nI 1), .int (nI ts), .int (nI hd)])), (aD, .inl (G.2.2, 16, .inl (aN td))), (aP, .inr (1, [.ref aF, .ref aT, .ref aC, .ref aL, .int (nI n), .int (nI k), .int (nI li), .int (nI fa)])), (aF, .inl (G.2.2, 16, .inl (aN fr))), (aL, .inl (G.2.2, 12, .inl (aN lv)))] := w
    refine lv_aload_n hx hb dX2_fit_17 rfl (lv_at hl 0 rfl) ?_
    refine lv_iconst (v := nI 0) hx hb dX2_fit_18 (by decide) ?_
    refine pf_X2_31 cx hK w 0 rfl rfl rfl (Nat.le_of_ble_eq_true rfl) dX2_fit_19 (fun H_ locs_ w => ?_)
    have w : ga_wd G A_ s_ H_ locs_ [(aR, .inr (2, [.ref aD, .int (nI L), .int (bI tn), .int (nI 1), .int (nI 0), .int (nI hd)])), (aD, .inl (G.2.2, 16, .inl (aN td))), (aP, .inr (1, [.ref aF, .ref aT, .ref aC, .ref aL, .int (nI n), .int (nI k), .int (nI li), .int (nI fa)])), (aF, .inl (G.2.2, 16, .inl (aN fr))), (aL, .inl (G.2.2, 12, .inl (aN lv)))] := w
    refine lv_iconst (v := nI 0) hx hb dX2_fit_22 (by decide) ?_
    refine lv_istore_n (lv' := [(2, .int (nI 0)), (0, .ref aR), (1, .ref aP)]) hx hb dX2_fit_23 rfl hl (by decide) rfl (fun ls hl => ?_)
    refine lv_iconst (v := nI 0) hx hb dX2_fit_24 (by decide) ?_
    refine lv_istore_n (lv' := [(3, .int (nI 0)), (2, .int (nI 0)), (0, .ref aR), (1, .ref aP)]) hx hb dX2_fit_25 rfl hl (by decide) rfl (fun ls hl => ?_)
    have loop26 : ∀ (n_ : Nat) (q : Nat) (nd : Nat) (t2 : Nat) (hq : q ≤ L) (hf : fitR k fr td q = some (t2, nd)) (hnd : nd ≤ 12) (ht2 : t2 < 65536) (hm : L - q < n_) (H_ : Heap) (locs_ : List Loc) (ls : Array Slot) (hl : lv_has ls 5 [(3, .int (nI q)), (2, .int (nI nd)), (0, .ref aR), (1, .ref aP)]) (w : ga_wd G A_ s_ H_ locs_ [(aR, .inr (2, [.ref aD, .int (nI L), .int (bI tn), .int (nI 1), .int (nI t2), .int (nI hd)])), (aD, .inl (G.2.2, 16, .inl (aN td))), (aP, .inr (1, [.ref aF, .ref aT, .ref aC, .ref aL, .int (nI n), .int (nI k), .int (nI li), .int (nI fa)])), (aF, .inl (G.2.2, 16, .inl (aN fr))), (aL, .inl (G.2.2, 12, .inl (aN lv)))]), W p_ l e_ { frames := 1, cells := 0, slots := 0, locals := 23 } s_ m_ [.ref aR, .ref aP].toArray below meth c_ H_ locs_ (0) (0) (MQ below (ga_Q G A_ (fun r w => ∃ (po2 : Bool), ∃ (ts2 : Nat), ∃ (hd2 : Nat), (FitP n k li fr lv td L tn po2 ts2 hd2) ∧ (ts2 < 65536) ∧ r = none ∧ w = [(aR, .inr (2, [.ref aD, .int (nI L), .int (bI tn), .int (bI po2), .int (nI ts2), .int (nI hd2)])), (aD, .inl (G.2.2, 16, .inl (aN td))), (aP, .inr (1, [.ref aF, .ref aT, .ref aC, .ref aL, .int (nI n), .int (nI k), .int (nI li), .int (nI fa)])), (aF, .inl (G.2.2, 16, .inl (aN fr))), (aL, .inl (G.2.2, 12, .inl (aN lv)))])) [.ref aR, .ref aP].toArray s_ 0 0 A_) (F0 m_ 26 ls []) := by
      intro n_
      induction n_ with
      | zero => intro q nd t2 hq hf hnd ht2 hm; exact absurd hm (Nat.not_lt_zero _)
      | succ n_ ih26 =>
        intro q nd t2 hq hf hnd ht2 hm26 H_ locs_ ls hl w
        refine lv_iload_n hx hb dX2_fit_26 rfl (lv_at hl 0 rfl) ?_
        refine lv_aload_n hx hb dX2_fit_27 rfl (lv_at hl 2 rfl) ?_
        refine gf_X2_15 cx hK w 0 rfl rfl dX2_fit_28 ?_
        refine r_icmp_ge hx hb dX2_fit_31 (tgt := 97) (by decide) (by omega) (by omega) (fun c31 => ?_) (fun c31 => ?_)
        · refine lv_aload_n hx hb dX2_fit_97 rfl (lv_at hl 2 rfl) ?_
          refine lv_aload_n hx hb dX2_fit_98 rfl (lv_at hl 3 rfl) ?_
          refine gf_X2_43 cx hK w 2 rfl rfl dX2_fit_99 ?_
          refine lv_aload_n hx hb dX2_fit_102 rfl (lv_at hl 2 rfl) ?_
          refine gf_X2_24 cx hK w 0 rfl rfl dX2_fit_103 ?_
          refine r_ifb_eq hx hb dX2_fit_106 (tgt := 117) (by decide) (fun c106 => ?_) (fun c106 => ?_)
          · refine lv_aload_n hx hb dX2_fit_117 rfl (lv_at hl 3 rfl) ?_
            refine ga_callV (rest := [.int (nI li), .ref aR]) (wr := [(aR, .inr (2, [.ref aD, .int (nI L), .int (bI tn), .int (nI 1), .int (nI t2), .int (nI hd)])), (aD, .inl (G.2.2, 16, .inl (aN td))), (aF, .inl (G.2.2, 16, .inl (aN fr))), (aL, .inl (G.2.2, 12, .inl (aN lv)))]) cx hK hA w hl lk_X2_50 (c_X1_allSteps l G aP aF aT aC aL (nI n) k (nI li) (nI fa) (by omega)) ⟨by decide, by decide⟩ [2] [0, 1, 3, 4] rfl rfl (by decide) (by decide) (by decide) 2 1 rfl rfl rfl rfl (Nat.le_of_ble_eq_true rfl) dX2_fit_118 ⟨Nat.le_refl _, Nat.le_refl _⟩ rfl (fun r w1_ H_ locs_ hp w => ?_)
            obtain ⟨rfl, rfl⟩ := hp
            have w : ga_wd G A_ s_ H_ locs_ [(aR, .inr (2, [.ref aD, .int (nI L), .int (bI tn), .int (nI 1), .int (nI t2), .int (nI hd)])), (aD, .inl (G.2.2, 16, .inl (aN td))), (aP, .inr (1, [.ref aF, .ref aT, .ref aC, .ref aL, .int (nI n), .int (nI k), .int (nI li), .int (nI fa)])), (aF, .inl (G.2.2, 16, .inl (aN fr))), (aL, .inl (G.2.2, 12, .inl (aN lv)))] := ga_perm w [0, 1, 4, 2, 3] (by decide) rfl
            refine W.eq (g2 := F0 m_ 121 ls [.int (nI (2 ^ k - 1)), .int (nI li), .ref aR]) rfl ?_
            refine r_iand hx hb dX2_fit_121 ?_
            refine pf_X2_54 cx hK w 0 rfl rfl rfl (Nat.le_of_ble_eq_true rfl) dX2_fit_122 (fun H_ locs_ w => ?_)
            have w : ga_wd G A_ s_ H_ locs_ [(aR, .inr (2, [.ref aD, .int (nI L), .int (bI tn), .int (nI 1), .int (nI t2), .int (nI (li &&& (2 ^ k - 1)))])), (aD, .inl (G.2.2, 16, .inl (aN td))), (aP, .inr (1, [.ref aF, .ref aT, .ref aC, .ref aL, .int (nI n), .int (nI k), .int (nI li), .int (nI fa)])), (aF, .inl (G.2.2, 16, .inl (aN fr))), (aL, .inl (G.2.2, 12, .inl (aN lv)))] := w
            exact ga_vret cx hr hlk w dX2_fit_125 ⟨Nat.le_refl _, Nat.le_refl _⟩ (⟨true, t2, _, FitP_s (by rw [show L = q by omega]; exact hf) (by rw [c106]; rfl), ht2, rfl, rfl⟩)
          · refine lv_aload_n hx hb dX2_fit_109 rfl (lv_at hl 3 rfl) ?_
            refine lv_iload_n hx hb dX2_fit_110 rfl (lv_at hl 1 rfl) ?_
            refine ga_callV (rest := [.int (nI li), .ref aR]) (wr := [(aR, .inr (2, [.ref aD, .int (nI L), .int (bI tn), .int (nI 1), .int (nI t2), .int (nI hd)])), (aD, .inl (G.2.2, 16, .inl (aN td))), (aF, .inl (G.2.2, 16, .inl (aN fr)))]) cx hK hA w hl lk_X2_46 (c_X1_stepsFromBelow l G aP aF aT aC aL n k li fa lv nd (by omega) (by omega)) ⟨by decide, by decide⟩ [2, 4] [0, 1, 3] rfl rfl (by decide) (by decide) (by decide) 2 1 rfl rfl rfl rfl (Nat.le_of_ble_eq_true rfl) dX2_fit_111 ⟨Nat.le_refl _, Nat.le_refl _⟩ rfl (fun r w1_ H_ locs_ hp w => ?_)
            obtain ⟨rfl, rfl⟩ := hp
            have w : ga_wd G A_ s_ H_ locs_ [(aR, .inr (2, [.ref aD, .int (nI L), .int (bI tn), .int (nI 1), .int (nI t2), .int (nI hd)])), (aD, .inl (G.2.2, 16, .inl (aN td))), (aP, .inr (1, [.ref aF, .ref aT, .ref aC, .ref aL, .int (nI n), .int (nI k), .int (nI li), .int (nI fa)])), (aF, .inl (G.2.2, 16, .inl (aN fr))), (aL, .inl (G.2.2, 12, .inl (aN lv)))] := ga_perm w [0, 1, 3, 2, 4] (by decide) rfl
            refine W.eq (g2 := F0 m_ 114 ls [.int (nI (orB lv (min nd n))), .int (nI li), .ref aR]) rfl ?_
            refine lv_goto (tgt := 121) hx hb dX2_fit_114 (by decide) ?_
            refine r_iand hx hb dX2_fit_121 ?_
            refine pf_X2_54 cx hK w 0 rfl rfl rfl (Nat.le_of_ble_eq_true rfl) dX2_fit_122 (fun H_ locs_ w => ?_)
            have w : ga_wd G A_ s_ H_ locs_ [(aR, .inr (2, [.ref aD, .int (nI L), .int (bI tn), .int (nI 1), .int (nI t2), .int (nI (li &&& (orB lv (min nd n))))])), (aD, .inl (G.2.2, 16, .inl (aN td))), (aP, .inr (1, [.ref aF, .ref aT, .ref aC, .ref aL, .int (nI n), .int (nI k), .int (nI li), .int (nI fa)])), (aF, .inl (G.2.2, 16, .inl (aN fr))), (aL, .inl (G.2.2, 12, .inl (aN lv)))] := w
            exact ga_vret cx hr hlk w dX2_fit_125 ⟨Nat.le_refl _, Nat.le_refl _⟩ (⟨true, t2, _, FitP_s (by rw [show L = q by omega]; exact hf) (by rw [c106]; rfl), ht2, rfl, rfl⟩)
        · refine lv_aload_n hx hb dX2_fit_34 rfl (lv_at hl 2 rfl) ?_
          refine gf_X2_9 cx hK w 0 rfl rfl dX2_fit_35 ?_
          refine lv_iload_n hx hb dX2_fit_38 rfl (lv_at hl 0 rfl) ?_
          have htq := htd q (by omega)
          refine r_ialdN hx hb hK w 1 rfl dX2_fit_39 (by omega) (by decide) ?_
          refine lv_istore (lv' := [(4, .int (nI (td q))), (3, .int (nI q)), (2, .int (nI nd)), (0, .ref aR), (1, .ref aP)]) hx hb dX2_fit_40 hl (by decide) rfl (fun ls hl => ?_)
          refine lv_aload_n hx hb dX2_fit_42 rfl (lv_at hl 4 rfl) ?_
          refine lv_iload hx hb dX2_fit_43 (lv_at hl 0 rfl) ?_
          refine ga_callV (rest := []) (wr := [(aR, .inr (2, [.ref aD, .int (nI L), .int (bI tn), .int (nI 1), .int (nI t2), .int (nI hd)])), (aD, .inl (G.2.2, 16, .inl (aN td))), (aF, .inl (G.2.2, 16, .inl (aN fr))), (aL, .inl (G.2.2, 12, .inl (aN lv)))]) cx hK hA w hl lk_X2_34 (c_X1_hasStep l G aP aF aT aC aL (nI n) k (nI li) (nI fa) (nI (td q)) (by omega)) ⟨by decide, by decide⟩ [2] [0, 1, 3, 4] rfl rfl (by decide) (by decide) (by decide) 2 1 rfl rfl rfl rfl (Nat.le_of_ble_eq_true rfl) dX2_fit_45 ⟨Nat.le_refl _, Nat.le_refl _⟩ rfl (fun r w1_ H_ locs_ hp w => ?_)
          obtain ⟨rfl, rfl⟩ := hp
          have w : ga_wd G A_ s_ H_ locs_ [(aR, .inr (2, [.ref aD, .int (nI L), .int (bI tn), .int (nI 1), .int (nI t2), .int (nI hd)])), (aD, .inl (G.2.2, 16, .inl (aN td))), (aP, .inr (1, [.ref aF, .ref aT, .ref aC, .ref aL, .int (nI n), .int (nI k), .int (nI li), .int (nI fa)])), (aF, .inl (G.2.2, 16, .inl (aN fr))), (aL, .inl (G.2.2, 12, .inl (aN lv)))] := ga_perm w [0, 1, 4, 2, 3] (by decide) rfl
          refine W.eq (g2 := F0 m_ 48 ls [.int (bI (inB (nI (td q)) k))]) rfl ?_
          refine r_ifb_eq hx hb dX2_fit_48 (tgt := 62) (by decide) (fun c48 => ?_) (fun c48 => ?_)
          · refine lv_aload_n hx hb dX2_fit_62 rfl (lv_at hl 3 rfl) ?_
            refine lv_iconst (v := nI 0) hx hb dX2_fit_63 (by decide) ?_
            refine pf_X2_28 cx hK w 0 rfl rfl rfl (Nat.le_of_ble_eq_true rfl) dX2_fit_64 (fun H_ locs_ w => ?_)
            have w : ga_wd G A_ s_ H_ locs_ [(aR, .inr (2, [.ref aD, .int (nI L), .int (bI tn), .int (nI 0), .int (nI t2), .int (nI hd)])), (aD, .inl (G.2.2, 16, .inl (aN td))), (aP, .inr (1, [.ref aF, .ref aT, .ref aC, .ref aL, .int (nI n), .int (nI k), .int (nI li), .int (nI fa)])), (aF, .inl (G.2.2, 16, .inl (aN fr))), (aL, .inl (G.2.2, 12, .inl (aN lv)))] := w
            exact ga_vret cx hr hlk w dX2_fit_67 ⟨Nat.le_refl _, Nat.le_refl _⟩ (⟨false, t2, hd, FitP_n (fitR_up (fitR_f hf (by rw [inB_n (by omega)] at c48; have := of_decide_eq_false c48; omega)) (by omega : q + 1 ≤ L)), ht2, rfl, rfl⟩)
          · have hq1 : td q < k := by rw [inB_n (by omega)] at c48; exact of_decide_eq_true c48
            refine lv_aload_n hx hb dX2_fit_51 rfl (lv_at hl 4 rfl) ?_
            refine gf_X2_40 cx hK w 2 rfl rfl dX2_fit_52 ?_
            refine lv_iload hx hb dX2_fit_55 (lv_at hl 0 rfl) ?_
            refine r_ialdN hx hb hK w 3 rfl dX2_fit_57 (by omega) (by decide) ?_
            refine lv_iload_n hx hb dX2_fit_58 rfl (lv_at hl 2 rfl) ?_
            refine r_icmp_ge hx hb dX2_fit_59 (tgt := 68) (by decide) (by have := hfr _ hq1; omega) (by omega) (fun c59 => ?_) (fun c59 => ?_)
            · refine lv_aload_n hx hb dX2_fit_68 rfl (lv_at hl 3 rfl) ?_
              refine lv_dup hx hb dX2_fit_69 rfl ?_
              refine gf_X2_31 cx hK w 0 rfl rfl dX2_fit_70 ?_
              refine lv_iconst (v := nI 1) hx hb dX2_fit_73 (by decide) ?_
              refine lv_iload hx hb dX2_fit_74 (lv_at hl 0 rfl) ?_
              refine r_ishl hx hb dX2_fit_76 (by omega) ?_
              refine r_ior hx hb dX2_fit_77 ?_
              refine pf_X2_31 cx hK w 0 rfl rfl rfl (Nat.le_of_ble_eq_true rfl) dX2_fit_78 (fun H_ locs_ w => ?_)
              have w : ga_wd G A_ s_ H_ locs_ [(aR, .inr (2, [.ref aD, .int (nI L), .int (bI tn), .int (nI 1), .int (nI (t2 ||| (1 <<< (td q)))), .int (nI hd)])), (aD, .inl (G.2.2, 16, .inl (aN td))), (aP, .inr (1, [.ref aF, .ref aT, .ref aC, .ref aL, .int (nI n), .int (nI k), .int (nI li), .int (nI fa)])), (aF, .inl (G.2.2, 16, .inl (aN fr))), (aL, .inl (G.2.2, 12, .inl (aN lv)))] := w
              refine lv_aload_n hx hb dX2_fit_81 rfl (lv_at hl 4 rfl) ?_
              refine gf_X2_40 cx hK w 2 rfl rfl dX2_fit_82 ?_
              refine lv_iload hx hb dX2_fit_85 (lv_at hl 0 rfl) ?_
              refine r_ialdN hx hb hK w 3 rfl dX2_fit_87 (by omega) (by decide) ?_
              refine lv_iconst (v := nI 1) hx hb dX2_fit_88 (by decide) ?_
              refine r_iadd hx hb dX2_fit_89 ?_
              refine lv_istore_n (lv' := [(2, .int (nI ((fr (td q)) + 1))), (4, .int (nI (td q))), (3, .int (nI q)), (0, .ref aR), (1, .ref aP)]) hx hb dX2_fit_90 rfl hl (by decide) rfl (fun ls hl => ?_)
              refine r_iinc (d := 1) (k := 2) (lv' := [(3, .int (nI (q + 1))), (2, .int (nI ((fr (td q)) + 1))), (4, .int (nI (td q))), (0, .ref aR), (1, .ref aP)]) hx hb dX2_fit_91 hl rfl (by decide) (by decide) rfl (fun ls hl => ?_)
              refine lv_goto (tgt := 26) hx hb dX2_fit_94 (by decide) ?_
              exact ih26 (q + 1) ((fr (td q)) + 1) (t2 ||| (1 <<< (td q))) (by omega) (fitR_t hf hq1 c59) (by have := hfr _ hq1; omega) (or_lt 16 ht2 (one_lt (by omega))) (by omega) _ _ _ (lv_sub hl [0, 1, 3, 4] rfl) w
            · refine lv_aload_n hx hb dX2_fit_62 rfl (lv_at hl 3 rfl) ?_
              refine lv_iconst (v := nI 0) hx hb dX2_fit_63 (by decide) ?_
              refine pf_X2_28 cx hK w 0 rfl rfl rfl (Nat.le_of_ble_eq_true rfl) dX2_fit_64 (fun H_ locs_ w => ?_)
              have w : ga_wd G A_ s_ H_ locs_ [(aR, .inr (2, [.ref aD, .int (nI L), .int (bI tn), .int (nI 0), .int (nI t2), .int (nI hd)])), (aD, .inl (G.2.2, 16, .inl (aN td))), (aP, .inr (1, [.ref aF, .ref aT, .ref aC, .ref aL, .int (nI n), .int (nI k), .int (nI li), .int (nI fa)])), (aF, .inl (G.2.2, 16, .inl (aN fr))), (aL, .inl (G.2.2, 12, .inl (aN lv)))] := w
              exact ga_vret cx hr hlk w dX2_fit_67 ⟨Nat.le_refl _, Nat.le_refl _⟩ (⟨false, t2, hd, FitP_n (fitR_up (fitR_f hf (by omega)) (by omega : q + 1 ≤ L)), ht2, rfl, rfl⟩)
    exact loop26 _ 0 0 0 (by omega) (rfl) (by omega) (by decide) (Nat.lt_succ_self _) _ _ _ (lv_sub hl [0, 1, 2, 3] rfl) w

set_option maxHeartbeats 4000000 in
set_option maxRecDepth 100000 in
theorem c_X2_fit0 (l : Launch) (G : ga_G) (aR : Nat) (aD : Nat) (tn : Bool) (po : Bool) (ts : Nat) (hd : Nat) (td : Nat → Nat) (aP : Nat) (aF : Nat) (aT : Nat) (aC : Nat) (aL : Nat) (n : Nat) (k : Nat) (li : Nat) (fa : Nat) (fr : Nat → Nat) (lv : Nat → Nat) (hn : n ≤ 12) (hk : k ≤ 16) : ga_M l G yX2_fit cX2_fit 5 (Option.none : Option Jvm.ClassFile.FieldType) 1 23 0 0 [.ref aR, .ref aP] [(aR, .inr (2, [.ref aD, .int (-1), .int (bI tn), .int (bI po), .int (nI ts), .int (nI hd)])), (aD, .inl (G.2.2, 16, .inl (aN td))), (aP, .inr (1, [.ref aF, .ref aT, .ref aC, .ref aL, .int (nI n), .int (nI k), .int (nI li), .int (nI fa)])), (aF, .inl (G.2.2, 16, .inl (aN fr))), (aL, .inl (G.2.2, 12, .inl (aN lv)))] (fun r w => ∃ (ts2 : Nat), ∃ (hd2 : Nat), (ts2 < 65536) ∧ r = none ∧ w = [(aR, .inr (2, [.ref aD, .int (-1), .int (bI tn), .int (bI false), .int (nI ts2), .int (nI hd2)])), (aD, .inl (G.2.2, 16, .inl (aN td))), (aP, .inr (1, [.ref aF, .ref aT, .ref aC, .ref aL, .int (nI n), .int (nI k), .int (nI li), .int (nI fa)])), (aF, .inl (G.2.2, 16, .inl (aN fr))), (aL, .inl (G.2.2, 12, .inl (aN lv)))]) := by
  refine ga_M.intro (by decide) (Nat.le_of_ble_eq_true rfl) (fun p_ e_ s_ m_ below meth c_ A_ H_ locs_ ls cx hr hlk hnm hA hK hl w => ?_)
  have hx := cx.1
  have hb := cx.2.1
  have hl : lv_has ls 5 [(0, .ref aR), (1, .ref aP)] := hl
  refine lv_aload_n hx hb dX2_fit_0 rfl (lv_at hl 0 rfl) ?_
  refine lv_aload_n hx hb dX2_fit_1 rfl (lv_at hl 0 rfl) ?_
  refine gf_X2_15 cx hK w 0 rfl rfl dX2_fit_2 ?_
  refine lv_iconst (v := (-1)) hx hb dX2_fit_5 (by decide) ?_
  refine lv_icmp_eq hx hb dX2_fit_6 (tgt := 13) (by decide) (fun c6 => ?_) (fun c6 => ?_)
  · refine lv_iconst (v := nI 0) hx hb dX2_fit_13 (by decide) ?_
    refine pf_X2_28 cx hK w 0 rfl rfl rfl (Nat.le_of_ble_eq_true rfl) dX2_fit_14 (fun H_ locs_ w => ?_)
    have w : ga_wd G A_ s_ H_ locs_ [(aR, .inr (2, [.ref aD, .int (-1), .int (bI tn), .int (nI 0), .int (nI ts), .int (nI hd)])), (aD, .inl (G.2.2, 16, .inl (aN td))), (aP, .inr (1, [.ref aF, .ref aT, .ref aC, .ref aL, .int (nI n), .int (nI k), .int (nI li), .int (nI fa)])), (aF, .inl (G.2.2, 16, .inl (aN fr))), (aL, .inl (G.2.2, 12, .inl (aN lv)))] := w
    refine lv_aload_n hx hb dX2_fit_17 rfl (lv_at hl 0 rfl) ?_
    refine lv_iconst (v := nI 0) hx hb dX2_fit_18 (by decide) ?_
    refine pf_X2_31 cx hK w 0 rfl rfl rfl (Nat.le_of_ble_eq_true rfl) dX2_fit_19 (fun H_ locs_ w => ?_)
    have w : ga_wd G A_ s_ H_ locs_ [(aR, .inr (2, [.ref aD, .int (-1), .int (bI tn), .int (nI 0), .int (nI 0), .int (nI hd)])), (aD, .inl (G.2.2, 16, .inl (aN td))), (aP, .inr (1, [.ref aF, .ref aT, .ref aC, .ref aL, .int (nI n), .int (nI k), .int (nI li), .int (nI fa)])), (aF, .inl (G.2.2, 16, .inl (aN fr))), (aL, .inl (G.2.2, 12, .inl (aN lv)))] := w
    refine lv_iconst (v := nI 0) hx hb dX2_fit_22 (by decide) ?_
    refine lv_istore_n (lv' := [(2, .int (nI 0)), (0, .ref aR), (1, .ref aP)]) hx hb dX2_fit_23 rfl hl (by decide) rfl (fun ls hl => ?_)
    refine lv_iconst (v := nI 0) hx hb dX2_fit_24 (by decide) ?_
    refine lv_istore_n (lv' := [(3, .int (nI 0)), (2, .int (nI 0)), (0, .ref aR), (1, .ref aP)]) hx hb dX2_fit_25 rfl hl (by decide) rfl (fun ls hl => ?_)
    refine lv_iload_n hx hb dX2_fit_26 rfl (lv_at hl 0 rfl) ?_
    refine lv_aload_n hx hb dX2_fit_27 rfl (lv_at hl 2 rfl) ?_
    refine gf_X2_15 cx hK w 0 rfl rfl dX2_fit_28 ?_
    refine lv_icmp_ge hx hb dX2_fit_31 (tgt := 97) (by decide) (fun c31 => ?_) (fun c31 => ?_)
    · refine lv_aload_n hx hb dX2_fit_97 rfl (lv_at hl 2 rfl) ?_
      refine lv_aload_n hx hb dX2_fit_98 rfl (lv_at hl 3 rfl) ?_
      refine gf_X2_43 cx hK w 2 rfl rfl dX2_fit_99 ?_
      refine lv_aload_n hx hb dX2_fit_102 rfl (lv_at hl 2 rfl) ?_
      refine gf_X2_24 cx hK w 0 rfl rfl dX2_fit_103 ?_
      refine r_ifb_eq hx hb dX2_fit_106 (tgt := 117) (by decide) (fun c106 => ?_) (fun c106 => ?_)
      · refine lv_aload_n hx hb dX2_fit_117 rfl (lv_at hl 3 rfl) ?_
        refine ga_callV (rest := [.int (nI li), .ref aR]) (wr := [(aR, .inr (2, [.ref aD, .int (-1), .int (bI tn), .int (nI 0), .int (nI 0), .int (nI hd)])), (aD, .inl (G.2.2, 16, .inl (aN td))), (aF, .inl (G.2.2, 16, .inl (aN fr))), (aL, .inl (G.2.2, 12, .inl (aN lv)))]) cx hK hA w hl lk_X2_50 (c_X1_allSteps l G aP aF aT aC aL (nI n) k (nI li) (nI fa) (by omega)) ⟨by decide, by decide⟩ [2] [0, 1, 3, 4] rfl rfl (by decide) (by decide) (by decide) 2 1 rfl rfl rfl rfl (Nat.le_of_ble_eq_true rfl) dX2_fit_118 ⟨Nat.le_refl _, Nat.le_refl _⟩ rfl (fun r w1_ H_ locs_ hp w => ?_)
        obtain ⟨rfl, rfl⟩ := hp
        have w : ga_wd G A_ s_ H_ locs_ [(aR, .inr (2, [.ref aD, .int (-1), .int (bI tn), .int (nI 0), .int (nI 0), .int (nI hd)])), (aD, .inl (G.2.2, 16, .inl (aN td))), (aP, .inr (1, [.ref aF, .ref aT, .ref aC, .ref aL, .int (nI n), .int (nI k), .int (nI li), .int (nI fa)])), (aF, .inl (G.2.2, 16, .inl (aN fr))), (aL, .inl (G.2.2, 12, .inl (aN lv)))] := ga_perm w [0, 1, 4, 2, 3] (by decide) rfl
        refine W.eq (g2 := F0 m_ 121 ls [.int (nI (2 ^ k - 1)), .int (nI li), .ref aR]) rfl ?_
        refine r_iand hx hb dX2_fit_121 ?_
        refine pf_X2_54 cx hK w 0 rfl rfl rfl (Nat.le_of_ble_eq_true rfl) dX2_fit_122 (fun H_ locs_ w => ?_)
        have w : ga_wd G A_ s_ H_ locs_ [(aR, .inr (2, [.ref aD, .int (-1), .int (bI tn), .int (nI 0), .int (nI 0), .int (nI (li &&& (2 ^ k - 1)))])), (aD, .inl (G.2.2, 16, .inl (aN td))), (aP, .inr (1, [.ref aF, .ref aT, .ref aC, .ref aL, .int (nI n), .int (nI k), .int (nI li), .int (nI fa)])), (aF, .inl (G.2.2, 16, .inl (aN fr))), (aL, .inl (G.2.2, 12, .inl (aN lv)))] := w
        exact ga_vret cx hr hlk w dX2_fit_125 ⟨Nat.le_refl _, Nat.le_refl _⟩ (⟨0, _, by decide, rfl, rfl⟩)
      · refine lv_aload_n hx hb dX2_fit_109 rfl (lv_at hl 3 rfl) ?_
        refine lv_iload_n hx hb dX2_fit_110 rfl (lv_at hl 1 rfl) ?_
        refine ga_callV (rest := [.int (nI li), .ref aR]) (wr := [(aR, .inr (2, [.ref aD, .int (-1), .int (bI tn), .int (nI 0), .int (nI 0), .int (nI hd)])), (aD, .inl (G.2.2, 16, .inl (aN td))), (aF, .inl (G.2.2, 16, .inl (aN fr)))]) cx hK hA w hl lk_X2_46 (c_X1_stepsFromBelow l G aP aF aT aC aL n k li fa lv 0 (by omega) (by omega)) ⟨by decide, by decide⟩ [2, 4] [0, 1, 3] rfl rfl (by decide) (by decide) (by decide) 2 1 rfl rfl rfl rfl (Nat.le_of_ble_eq_true rfl) dX2_fit_111 ⟨Nat.le_refl _, Nat.le_refl _⟩ rfl (fun r w1_ H_ locs_ hp w => ?_)
        obtain ⟨rfl, rfl⟩ := hp
        have w : ga_wd G A_ s_ H_ locs_ [(aR, .inr (2, [.ref aD, .int (-1), .int (bI tn), .int (nI 0), .int (nI 0), .int (nI hd)])), (aD, .inl (G.2.2, 16, .inl (aN td))), (aP, .inr (1, [.ref aF, .ref aT, .ref aC, .ref aL, .int (nI n), .int (nI k), .int (nI li), .int (nI fa)])), (aF, .inl (G.2.2, 16, .inl (aN fr))), (aL, .inl (G.2.2, 12, .inl (aN lv)))] := ga_perm w [0, 1, 3, 2, 4] (by decide) rfl
        refine W.eq (g2 := F0 m_ 114 ls [.int (nI (orB lv (min 0 n))), .int (nI li), .ref aR]) rfl ?_
        refine lv_goto (tgt := 121) hx hb dX2_fit_114 (by decide) ?_
        refine r_iand hx hb dX2_fit_121 ?_
        refine pf_X2_54 cx hK w 0 rfl rfl rfl (Nat.le_of_ble_eq_true rfl) dX2_fit_122 (fun H_ locs_ w => ?_)
        have w : ga_wd G A_ s_ H_ locs_ [(aR, .inr (2, [.ref aD, .int (-1), .int (bI tn), .int (nI 0), .int (nI 0), .int (nI (li &&& (orB lv (min 0 n))))])), (aD, .inl (G.2.2, 16, .inl (aN td))), (aP, .inr (1, [.ref aF, .ref aT, .ref aC, .ref aL, .int (nI n), .int (nI k), .int (nI li), .int (nI fa)])), (aF, .inl (G.2.2, 16, .inl (aN fr))), (aL, .inl (G.2.2, 12, .inl (aN lv)))] := w
        exact ga_vret cx hr hlk w dX2_fit_125 ⟨Nat.le_refl _, Nat.le_refl _⟩ (⟨0, _, by decide, rfl, rfl⟩)
    · exact absurd (by decide) c31
  · exact absurd rfl c6

set_option maxHeartbeats 4000000 in
set_option maxRecDepth 100000 in
theorem c_X2_allows (l : Launch) (G : ga_G) (aR : Nat) (aD : Nat) (rl : Int32) (tn : Bool) (po : Bool) (ts : Nat) (hd : Nat) (x : Nat) (h1 : x < 2 ^ 31) (h2 : ts < 2 ^ 31) : ga_M l G yX2_allows cX2_allows 2 (Option.some Jvm.ClassFile.FieldType.boolean) 0 0 0 0 [.ref aR, .int (nI x)] [(aR, .inr (2, [.ref aD, .int rl, .int (bI tn), .int (bI po), .int (nI ts), .int (nI hd)]))] (fun r w => r = some (.int (bI (alw po ts hd x))) ∧ w = [(aR, .inr (2, [.ref aD, .int rl, .int (bI tn), .int (bI po), .int (nI ts), .int (nI hd)]))]) := by
  refine ga_M.intro (by decide) (Nat.le_of_ble_eq_true rfl) (fun p_ e_ s_ m_ below meth c_ A_ H_ locs_ ls cx hr hlk hnm hA hK hl w => ?_)
  have hx := cx.1
  have hb := cx.2.1
  have hl : lv_has ls 2 [(0, .ref aR), (1, .int (nI x))] := hl
  refine lv_aload_n hx hb dX2_allows_0 rfl (lv_at hl 0 rfl) ?_
  refine gf_X2_28 cx hK w 0 rfl rfl dX2_allows_1 ?_
  refine r_ifb_eq hx hb dX2_allows_4 (tgt := 24) (by decide) (fun c4 => ?_) (fun c4 => ?_)
  · refine lv_iconst (v := nI 0) hx hb dX2_allows_24 (by decide) ?_
    exact ga_zret cx hr hlk w rfl dX2_allows_25 ⟨Nat.le_refl _, Nat.le_refl _⟩ (⟨ga_r0 (by simp_all [alw]), rfl⟩)
  · refine lv_iload_n hx hb dX2_allows_7 rfl (lv_at hl 1 rfl) ?_
    refine lv_aload_n hx hb dX2_allows_8 rfl (lv_at hl 0 rfl) ?_
    refine gf_X2_54 cx hK w 0 rfl rfl dX2_allows_9 ?_
    refine r_iand hx hb dX2_allows_12 ?_
    refine lv_aload_n hx hb dX2_allows_13 rfl (lv_at hl 0 rfl) ?_
    refine gf_X2_31 cx hK w 0 rfl rfl dX2_allows_14 ?_
    refine r_icmp_ne hx hb dX2_allows_17 (tgt := 24) (by decide) (andL_lt h1) (h2) (fun c17 => ?_) (fun c17 => ?_)
    · refine lv_iconst (v := nI 0) hx hb dX2_allows_24 (by decide) ?_
      exact ga_zret cx hr hlk w rfl dX2_allows_25 ⟨Nat.le_refl _, Nat.le_refl _⟩ (⟨ga_r0 (by simp_all [alw]), rfl⟩)
    · refine lv_iconst (v := nI 1) hx hb dX2_allows_20 (by decide) ?_
      refine lv_goto (tgt := 25) hx hb dX2_allows_21 (by decide) ?_
      exact ga_zret cx hr hlk w rfl dX2_allows_25 ⟨Nat.le_refl _, Nat.le_refl _⟩ (⟨ga_r1 (by simp_all [alw]), rfl⟩)

set_option maxHeartbeats 4000000 in
set_option maxRecDepth 100000 in
theorem c_X2_howManyOf (l : Launch) (G : ga_G) (aR : Nat) (aD : Nat) (rl : Int32) (tn : Bool) (po : Bool) (ts : Nat) (hd : Nat) (aW : Nat) (aS : Nat) (aQ : Nat) (num : Nat) (tm : Bool) (sl : Bool) (ss : Nat → Nat) (ns : Nat → Nat) (hnum : num ≤ 200) (hss : ∀ i, i < num → ss i < 65536) (hts : ts < 65536) : ga_M l G yX2_howManyOf cX2_howManyOf 4 (Option.some Jvm.ClassFile.FieldType.int) 1 21 0 0 [.ref aR, .ref aW] [(aR, .inr (2, [.ref aD, .int rl, .int (bI tn), .int (bI po), .int (nI ts), .int (nI hd)])), (aW, .inr (3, [.ref aS, .ref aQ, .int (nI num), .int (bI tm), .int (bI sl)])), (aS, .inl (G.2.2, 200, .inl (aN ss))), (aQ, .inl (G.2.2, 200, .inl (aN ns)))] (fun r w => r = some (.int (nI ((fl (fun i => alw po ts hd (ss i)) num).length))) ∧ w = [(aR, .inr (2, [.ref aD, .int rl, .int (bI tn), .int (bI po), .int (nI ts), .int (nI hd)])), (aW, .inr (3, [.ref aS, .ref aQ, .int (nI num), .int (bI tm), .int (bI sl)])), (aS, .inl (G.2.2, 200, .inl (aN ss))), (aQ, .inl (G.2.2, 200, .inl (aN ns)))]) := by
  refine ga_M.intro (by decide) (Nat.le_of_ble_eq_true rfl) (fun p_ e_ s_ m_ below meth c_ A_ H_ locs_ ls cx hr hlk hnm hA hK hl w => ?_)
  have hx := cx.1
  have hb := cx.2.1
  have hl : lv_has ls 4 [(0, .ref aR), (1, .ref aW)] := hl
  refine lv_iconst (v := nI 0) hx hb dX2_howManyOf_0 (by decide) ?_
  refine lv_istore_n (lv' := [(2, .int (nI 0)), (0, .ref aR), (1, .ref aW)]) hx hb dX2_howManyOf_1 rfl hl (by decide) rfl (fun ls hl => ?_)
  refine lv_iconst (v := nI 0) hx hb dX2_howManyOf_2 (by decide) ?_
  refine lv_istore_n (lv' := [(3, .int (nI 0)), (2, .int (nI 0)), (0, .ref aR), (1, .ref aW)]) hx hb dX2_howManyOf_3 rfl hl (by decide) rfl (fun ls hl => ?_)
  have loop4 : ∀ (n_ : Nat) (i : Nat) (t : Nat) (hi : i ≤ num) (ht : t = (fl (fun i => alw po ts hd (ss i)) i).length) (hm : 200 - i < n_) (H_ : Heap) (locs_ : List Loc) (ls : Array Slot) (hl : lv_has ls 4 [(3, .int (nI i)), (2, .int (nI t)), (0, .ref aR), (1, .ref aW)]) (w : ga_wd G A_ s_ H_ locs_ [(aR, .inr (2, [.ref aD, .int rl, .int (bI tn), .int (bI po), .int (nI ts), .int (nI hd)])), (aW, .inr (3, [.ref aS, .ref aQ, .int (nI num), .int (bI tm), .int (bI sl)])), (aS, .inl (G.2.2, 200, .inl (aN ss))), (aQ, .inl (G.2.2, 200, .inl (aN ns)))]), W p_ l e_ { frames := 1, cells := 0, slots := 0, locals := 21 } s_ m_ [.ref aR, .ref aW].toArray below meth c_ H_ locs_ (0) (0) (MQ below (ga_Q G A_ (fun r w => r = some (.int (nI ((fl (fun i => alw po ts hd (ss i)) num).length))) ∧ w = [(aR, .inr (2, [.ref aD, .int rl, .int (bI tn), .int (bI po), .int (nI ts), .int (nI hd)])), (aW, .inr (3, [.ref aS, .ref aQ, .int (nI num), .int (bI tm), .int (bI sl)])), (aS, .inl (G.2.2, 200, .inl (aN ss))), (aQ, .inl (G.2.2, 200, .inl (aN ns)))])) [.ref aR, .ref aW].toArray s_ 0 0 A_) (F0 m_ 4 ls []) := by
    intro n_
    induction n_ with
    | zero => intro i t hi ht hm; exact absurd hm (Nat.not_lt_zero _)
    | succ n_ ih4 =>
      intro i t hi ht hm4 H_ locs_ ls hl w
      refine lv_iload_n hx hb dX2_howManyOf_4 rfl (lv_at hl 0 rfl) ?_
      refine lv_aload_n hx hb dX2_howManyOf_5 rfl (lv_at hl 3 rfl) ?_
      refine gf_X2_57 cx hK w 1 rfl rfl dX2_howManyOf_6 ?_
      refine r_icmp_ge hx hb dX2_howManyOf_9 (tgt := 34) (by decide) (by omega) (by omega) (fun c9 => ?_) (fun c9 => ?_)
      · refine lv_iload_n hx hb dX2_howManyOf_34 rfl (lv_at hl 1 rfl) ?_
        exact ga_iret cx hr hlk w dX2_howManyOf_35 ⟨Nat.le_refl _, Nat.le_refl _⟩ (⟨ga_rv (by rw [ht, show i = num by omega]), rfl⟩)
      · refine lv_aload_n hx hb dX2_howManyOf_12 rfl (lv_at hl 2 rfl) ?_
        refine lv_aload_n hx hb dX2_howManyOf_13 rfl (lv_at hl 3 rfl) ?_
        refine gf_X2_62 cx hK w 1 rfl rfl dX2_howManyOf_14 ?_
        refine lv_iload_n hx hb dX2_howManyOf_17 rfl (lv_at hl 0 rfl) ?_
        refine r_ialdN hx hb hK w 2 rfl dX2_howManyOf_18 (by omega) (by decide) ?_
        refine ga_callV (rest := []) (wr := [(aW, .inr (3, [.ref aS, .ref aQ, .int (nI num), .int (bI tm), .int (bI sl)])), (aS, .inl (G.2.2, 200, .inl (aN ss))), (aQ, .inl (G.2.2, 200, .inl (aN ns)))]) cx hK hA w hl lk_X2_65 (c_X2_allows l G aR aD rl tn po ts hd (ss i) (by have := hss i (by omega); omega) (by omega)) ⟨by decide, by decide⟩ [0] [1, 2, 3] rfl rfl (by decide) (by decide) (by decide) 0 2 rfl rfl rfl rfl (Nat.le_of_ble_eq_true rfl) dX2_howManyOf_19 ⟨Nat.le_refl _, Nat.le_refl _⟩ rfl (fun r w1_ H_ locs_ hp w => ?_)
        obtain ⟨rfl, rfl⟩ := hp
        have w : ga_wd G A_ s_ H_ locs_ [(aR, .inr (2, [.ref aD, .int rl, .int (bI tn), .int (bI po), .int (nI ts), .int (nI hd)])), (aW, .inr (3, [.ref aS, .ref aQ, .int (nI num), .int (bI tm), .int (bI sl)])), (aS, .inl (G.2.2, 200, .inl (aN ss))), (aQ, .inl (G.2.2, 200, .inl (aN ns)))] := ga_perm w [3, 0, 1, 2] (by decide) rfl
        refine W.eq (g2 := F0 m_ 22 ls [.int (bI (alw po ts hd (ss i)))]) rfl ?_
        refine r_ifb_eq hx hb dX2_howManyOf_22 (tgt := 28) (by decide) (fun c22 => ?_) (fun c22 => ?_)
        · refine r_iinc (d := 1) (k := 0) (lv' := [(3, .int (nI (i + 1))), (2, .int (nI t)), (0, .ref aR), (1, .ref aW)]) hx hb dX2_howManyOf_28 hl rfl (by decide) (by decide) rfl (fun ls hl => ?_)
          refine lv_goto (tgt := 4) hx hb dX2_howManyOf_31 (by decide) ?_
          exact ih4 (i + 1) t (by omega) (by rw [fl_f (P := fun i => alw po ts hd (ss i)) c22]; exact ht) (by omega) _ _ _ (lv_sub hl [0, 1, 2, 3] rfl) w
        · refine r_iinc (d := 1) (k := 1) (lv' := [(2, .int (nI (t + 1))), (3, .int (nI i)), (0, .ref aR), (1, .ref aW)]) hx hb dX2_howManyOf_25 hl rfl (by decide) (by decide) rfl (fun ls hl => ?_)
          refine r_iinc (d := 1) (k := 1) (lv' := [(3, .int (nI (i + 1))), (2, .int (nI (t + 1))), (0, .ref aR), (1, .ref aW)]) hx hb dX2_howManyOf_28 hl rfl (by decide) (by decide) rfl (fun ls hl => ?_)
          refine lv_goto (tgt := 4) hx hb dX2_howManyOf_31 (by decide) ?_
          exact ih4 (i + 1) (t + 1) (by omega) (by rw [fl_t (P := fun i => alw po ts hd (ss i)) c22, List.length_append, ← ht]; rfl) (by omega) _ _ _ (lv_sub hl [0, 1, 2, 3] rfl) w
  exact loop4 _ 0 0 (by omega) (rfl) (Nat.lt_succ_self _) _ _ _ (lv_sub hl [0, 1, 2, 3] rfl) w

set_option maxHeartbeats 4000000 in
set_option maxRecDepth 100000 in
theorem c_X2_memberOf (l : Launch) (G : ga_G) (aR : Nat) (aD : Nat) (rl : Int32) (tn : Bool) (po : Bool) (ts : Nat) (hd : Nat) (aW : Nat) (aS : Nat) (aQ : Nat) (num : Nat) (tm : Bool) (sl : Bool) (ss : Nat → Nat) (ns : Nat → Nat) (x : Int32) (hnum : num ≤ 200) (hss : ∀ i, i < num → ss i < 65536) (hts : ts < 65536) : ga_M l G yX2_memberOf cX2_memberOf 5 (Option.some Jvm.ClassFile.FieldType.int) 1 21 0 0 [.ref aR, .ref aW, .int x] [(aR, .inr (2, [.ref aD, .int rl, .int (bI tn), .int (bI po), .int (nI ts), .int (nI hd)])), (aW, .inr (3, [.ref aS, .ref aQ, .int (nI num), .int (bI tm), .int (bI sl)])), (aS, .inl (G.2.2, 200, .inl (aN ss))), (aQ, .inl (G.2.2, 200, .inl (aN ns)))] (fun r w => r = some (.int (nth ((fl (fun i => alw po ts hd (ss i)) num).map nI) x)) ∧ w = [(aR, .inr (2, [.ref aD, .int rl, .int (bI tn), .int (bI po), .int (nI ts), .int (nI hd)])), (aW, .inr (3, [.ref aS, .ref aQ, .int (nI num), .int (bI tm), .int (bI sl)])), (aS, .inl (G.2.2, 200, .inl (aN ss))), (aQ, .inl (G.2.2, 200, .inl (aN ns)))]) := by
  refine ga_M.intro (by decide) (Nat.le_of_ble_eq_true rfl) (fun p_ e_ s_ m_ below meth c_ A_ H_ locs_ ls cx hr hlk hnm hA hK hl w => ?_)
  have hx := cx.1
  have hb := cx.2.1
  have hl : lv_has ls 5 [(0, .ref aR), (1, .ref aW), (2, .int x)] := hl
  refine lv_iload_n hx hb dX2_memberOf_0 rfl (lv_at hl 2 rfl) ?_
  refine lv_istore_n (lv' := [(3, .int x), (0, .ref aR), (1, .ref aW), (2, .int x)]) hx hb dX2_memberOf_1 rfl hl (by decide) rfl (fun ls hl => ?_)
  refine lv_iconst (v := nI 0) hx hb dX2_memberOf_2 (by decide) ?_
  refine lv_istore (lv' := [(4, .int (nI 0)), (3, .int x), (0, .ref aR), (1, .ref aW), (2, .int x)]) hx hb dX2_memberOf_3 hl (by decide) rfl (fun ls hl => ?_)
  have loop5 : ∀ (n_ : Nat) (i : Nat) (lf : Int32) (hi : i ≤ num) (hz : scD (fun i => alw po ts hd (ss i)) x lf i) (hm : 200 - i < n_) (H_ : Heap) (locs_ : List Loc) (ls : Array Slot) (hl : lv_has ls 5 [(4, .int (nI i)), (3, .int lf), (0, .ref aR), (1, .ref aW), (2, .int x)]) (w : ga_wd G A_ s_ H_ locs_ [(aR, .inr (2, [.ref aD, .int rl, .int (bI tn), .int (bI po), .int (nI ts), .int (nI hd)])), (aW, .inr (3, [.ref aS, .ref aQ, .int (nI num), .int (bI tm), .int (bI sl)])), (aS, .inl (G.2.2, 200, .inl (aN ss))), (aQ, .inl (G.2.2, 200, .inl (aN ns)))]), W p_ l e_ { frames := 1, cells := 0, slots := 0, locals := 21 } s_ m_ [.ref aR, .ref aW, .int x].toArray below meth c_ H_ locs_ (0) (0) (MQ below (ga_Q G A_ (fun r w => r = some (.int (nth ((fl (fun i => alw po ts hd (ss i)) num).map nI) x)) ∧ w = [(aR, .inr (2, [.ref aD, .int rl, .int (bI tn), .int (bI po), .int (nI ts), .int (nI hd)])), (aW, .inr (3, [.ref aS, .ref aQ, .int (nI num), .int (bI tm), .int (bI sl)])), (aS, .inl (G.2.2, 200, .inl (aN ss))), (aQ, .inl (G.2.2, 200, .inl (aN ns)))])) [.ref aR, .ref aW, .int x].toArray s_ 0 0 A_) (F0 m_ 5 ls []) := by
    intro n_
    induction n_ with
    | zero => intro i lf hi hz hm; exact absurd hm (Nat.not_lt_zero _)
    | succ n_ ih5 =>
      intro i lf hi hz hm5 H_ locs_ ls hl w
      refine lv_iload hx hb dX2_memberOf_5 (lv_at hl 0 rfl) ?_
      refine lv_aload_n hx hb dX2_memberOf_7 rfl (lv_at hl 3 rfl) ?_
      refine gf_X2_57 cx hK w 1 rfl rfl dX2_memberOf_8 ?_
      refine r_icmp_ge hx hb dX2_memberOf_11 (tgt := 44) (by decide) (by omega) (by omega) (fun c11 => ?_) (fun c11 => ?_)
      · refine lv_iconst (v := (-1)) hx hb dX2_memberOf_44 (by decide) ?_
        exact ga_iret cx hr hlk w dX2_memberOf_45 ⟨Nat.le_refl _, Nat.le_refl _⟩ (⟨ga_rv (scD_end nI (by rw [show num = i by omega]; exact hz) (by omega)).symm, rfl⟩)
      · refine lv_aload_n hx hb dX2_memberOf_14 rfl (lv_at hl 2 rfl) ?_
        refine lv_aload_n hx hb dX2_memberOf_15 rfl (lv_at hl 3 rfl) ?_
        refine gf_X2_62 cx hK w 1 rfl rfl dX2_memberOf_16 ?_
        refine lv_iload hx hb dX2_memberOf_19 (lv_at hl 0 rfl) ?_
        refine r_ialdN hx hb hK w 2 rfl dX2_memberOf_21 (by omega) (by decide) ?_
        refine ga_callV (rest := []) (wr := [(aW, .inr (3, [.ref aS, .ref aQ, .int (nI num), .int (bI tm), .int (bI sl)])), (aS, .inl (G.2.2, 200, .inl (aN ss))), (aQ, .inl (G.2.2, 200, .inl (aN ns)))]) cx hK hA w hl lk_X2_65 (c_X2_allows l G aR aD rl tn po ts hd (ss i) (by have := hss i (by omega); omega) (by omega)) ⟨by decide, by decide⟩ [0] [1, 2, 3] rfl rfl (by decide) (by decide) (by decide) 0 2 rfl rfl rfl rfl (Nat.le_of_ble_eq_true rfl) dX2_memberOf_22 ⟨Nat.le_refl _, Nat.le_refl _⟩ rfl (fun r w1_ H_ locs_ hp w => ?_)
        obtain ⟨rfl, rfl⟩ := hp
        have w : ga_wd G A_ s_ H_ locs_ [(aR, .inr (2, [.ref aD, .int rl, .int (bI tn), .int (bI po), .int (nI ts), .int (nI hd)])), (aW, .inr (3, [.ref aS, .ref aQ, .int (nI num), .int (bI tm), .int (bI sl)])), (aS, .inl (G.2.2, 200, .inl (aN ss))), (aQ, .inl (G.2.2, 200, .inl (aN ns)))] := ga_perm w [3, 0, 1, 2] (by decide) rfl
        refine W.eq (g2 := F0 m_ 25 ls [.int (bI (alw po ts hd (ss i)))]) rfl ?_
        refine r_ifb_eq hx hb dX2_memberOf_25 (tgt := 38) (by decide) (fun c25 => ?_) (fun c25 => ?_)
        · refine r_iinc (d := 1) (k := 0) (lv' := [(4, .int (nI (i + 1))), (3, .int lf), (0, .ref aR), (1, .ref aW), (2, .int x)]) hx hb dX2_memberOf_38 hl rfl (by decide) (by decide) rfl (fun ls hl => ?_)
          refine lv_goto (tgt := 5) hx hb dX2_memberOf_41 (by decide) ?_
          exact ih5 (i + 1) lf (by omega) (scD_f hz c25) (by omega) _ _ _ (lv_sub hl [0, 1, 2, 3, 4] rfl) w
        · refine lv_iload_n hx hb dX2_memberOf_28 rfl (lv_at hl 1 rfl) ?_
          refine lv_if_ne hx hb dX2_memberOf_29 (tgt := 35) (by decide) (fun c29 => ?_) (fun c29 => ?_)
          · refine lv_iinc (k := 1) (lv' := [(3, .int (lf + Int32.ofInt (-1))), (4, .int (nI i)), (0, .ref aR), (1, .ref aW), (2, .int x)]) hx hb dX2_memberOf_35 hl rfl rfl (by decide) rfl (fun ls hl => ?_)
            refine r_iinc (d := 1) (k := 1) (lv' := [(4, .int (nI (i + 1))), (3, .int (lf + Int32.ofInt (-1))), (0, .ref aR), (1, .ref aW), (2, .int x)]) hx hb dX2_memberOf_38 hl rfl (by decide) (by decide) rfl (fun ls hl => ?_)
            refine lv_goto (tgt := 5) hx hb dX2_memberOf_41 (by decide) ?_
            exact ih5 (i + 1) (lf + Int32.ofInt (-1)) (by omega) (scD_t hz c25 c29) (by omega) _ _ _ (lv_sub hl [0, 1, 2, 3, 4] rfl) w
          · refine lv_iload hx hb dX2_memberOf_32 (lv_at hl 0 rfl) ?_
            exact ga_iret cx hr hlk w dX2_memberOf_34 ⟨Nat.le_refl _, Nat.le_refl _⟩ (⟨ga_rv (scD_hit nI hz c25 (by omega) (by omega) c29).symm, rfl⟩)
  exact loop5 _ 0 x (by omega) (scD_0 _ _) (Nat.lt_succ_self _) _ _ _ (lv_sub hl [0, 1, 2, 3, 4] rfl) w

set_option maxHeartbeats 4000000 in
set_option maxRecDepth 100000 in
theorem c_X2_inAll (l : Launch) (G : ga_G) (aR : Nat) (aD : Nat) (rl : Int32) (tn : Bool) (po : Bool) (ts : Nat) (hd : Nat) (aW : Nat) (aS : Nat) (aQ : Nat) (num : Nat) (tm : Bool) (sl : Bool) (ss : Nat → Nat) (ns : Nat → Nat) (hnum : num ≤ 200) (hss : ∀ i, i < num → ss i < 65536) (hts : ts < 65536) : ga_M l G yX2_inAll cX2_inAll 5 (Option.some Jvm.ClassFile.FieldType.int) 1 21 0 0 [.ref aR, .ref aW, .ref aS] [(aR, .inr (2, [.ref aD, .int rl, .int (bI tn), .int (bI po), .int (nI ts), .int (nI hd)])), (aW, .inr (3, [.ref aS, .ref aQ, .int (nI num), .int (bI tm), .int (bI sl)])), (aS, .inl (G.2.2, 200, .inl (aN ss))), (aQ, .inl (G.2.2, 200, .inl (aN ns)))] (fun r w => r = some (.int (allI ss (fun i => alw po ts hd (ss i)) num)) ∧ w = [(aR, .inr (2, [.ref aD, .int rl, .int (bI tn), .int (bI po), .int (nI ts), .int (nI hd)])), (aW, .inr (3, [.ref aS, .ref aQ, .int (nI num), .int (bI tm), .int (bI sl)])), (aS, .inl (G.2.2, 200, .inl (aN ss))), (aQ, .inl (G.2.2, 200, .inl (aN ns)))]) := by
  refine ga_M.intro (by decide) (Nat.le_of_ble_eq_true rfl) (fun p_ e_ s_ m_ below meth c_ A_ H_ locs_ ls cx hr hlk hnm hA hK hl w => ?_)
  have hx := cx.1
  have hb := cx.2.1
  have hl : lv_has ls 5 [(0, .ref aR), (1, .ref aW), (2, .ref aS)] := hl
  refine lv_iconst (v := (-1)) hx hb dX2_inAll_0 (by decide) ?_
  refine lv_istore_n (lv' := [(3, .int (-1)), (0, .ref aR), (1, .ref aW), (2, .ref aS)]) hx hb dX2_inAll_1 rfl hl (by decide) rfl (fun ls hl => ?_)
  refine lv_iconst (v := nI 0) hx hb dX2_inAll_2 (by decide) ?_
  refine lv_istore (lv' := [(4, .int (nI 0)), (3, .int (-1)), (0, .ref aR), (1, .ref aW), (2, .ref aS)]) hx hb dX2_inAll_3 hl (by decide) rfl (fun ls hl => ?_)
  have loop5 : ∀ (n_ : Nat) (i : Nat) (ac : Int32) (hi : i ≤ num) (ha : ac = allI ss (fun i => alw po ts hd (ss i)) i) (hm : 200 - i < n_) (H_ : Heap) (locs_ : List Loc) (ls : Array Slot) (hl : lv_has ls 5 [(4, .int (nI i)), (3, .int ac), (0, .ref aR), (1, .ref aW), (2, .ref aS)]) (w : ga_wd G A_ s_ H_ locs_ [(aR, .inr (2, [.ref aD, .int rl, .int (bI tn), .int (bI po), .int (nI ts), .int (nI hd)])), (aW, .inr (3, [.ref aS, .ref aQ, .int (nI num), .int (bI tm), .int (bI sl)])), (aS, .inl (G.2.2, 200, .inl (aN ss))), (aQ, .inl (G.2.2, 200, .inl (aN ns)))]), W p_ l e_ { frames := 1, cells := 0, slots := 0, locals := 21 } s_ m_ [.ref aR, .ref aW, .ref aS].toArray below meth c_ H_ locs_ (0) (0) (MQ below (ga_Q G A_ (fun r w => r = some (.int (allI ss (fun i => alw po ts hd (ss i)) num)) ∧ w = [(aR, .inr (2, [.ref aD, .int rl, .int (bI tn), .int (bI po), .int (nI ts), .int (nI hd)])), (aW, .inr (3, [.ref aS, .ref aQ, .int (nI num), .int (bI tm), .int (bI sl)])), (aS, .inl (G.2.2, 200, .inl (aN ss))), (aQ, .inl (G.2.2, 200, .inl (aN ns)))])) [.ref aR, .ref aW, .ref aS].toArray s_ 0 0 A_) (F0 m_ 5 ls []) := by
    intro n_
    induction n_ with
    | zero => intro i ac hi ha hm; exact absurd hm (Nat.not_lt_zero _)
    | succ n_ ih5 =>
      intro i ac hi ha hm5 H_ locs_ ls hl w
      refine lv_iload hx hb dX2_inAll_5 (lv_at hl 0 rfl) ?_
      refine lv_aload_n hx hb dX2_inAll_7 rfl (lv_at hl 3 rfl) ?_
      refine gf_X2_57 cx hK w 1 rfl rfl dX2_inAll_8 ?_
      refine r_icmp_ge hx hb dX2_inAll_11 (tgt := 41) (by decide) (by omega) (by omega) (fun c11 => ?_) (fun c11 => ?_)
      · refine lv_iload_n hx hb dX2_inAll_41 rfl (lv_at hl 1 rfl) ?_
        exact ga_iret cx hr hlk w dX2_inAll_42 ⟨Nat.le_refl _, Nat.le_refl _⟩ (⟨ga_rv (by rw [ha, show i = num by omega]), rfl⟩)
      · refine lv_aload_n hx hb dX2_inAll_14 rfl (lv_at hl 2 rfl) ?_
        refine lv_aload_n hx hb dX2_inAll_15 rfl (lv_at hl 3 rfl) ?_
        refine gf_X2_62 cx hK w 1 rfl rfl dX2_inAll_16 ?_
        refine lv_iload hx hb dX2_inAll_19 (lv_at hl 0 rfl) ?_
        refine r_ialdN hx hb hK w 2 rfl dX2_inAll_21 (by omega) (by decide) ?_
        refine ga_callV (rest := []) (wr := [(aW, .inr (3, [.ref aS, .ref aQ, .int (nI num), .int (bI tm), .int (bI sl)])), (aS, .inl (G.2.2, 200, .inl (aN ss))), (aQ, .inl (G.2.2, 200, .inl (aN ns)))]) cx hK hA w hl lk_X2_65 (c_X2_allows l G aR aD rl tn po ts hd (ss i) (by have := hss i (by omega); omega) (by omega)) ⟨by decide, by decide⟩ [0] [1, 2, 3] rfl rfl (by decide) (by decide) (by decide) 0 2 rfl rfl rfl rfl (Nat.le_of_ble_eq_true rfl) dX2_inAll_22 ⟨Nat.le_refl _, Nat.le_refl _⟩ rfl (fun r w1_ H_ locs_ hp w => ?_)
        obtain ⟨rfl, rfl⟩ := hp
        have w : ga_wd G A_ s_ H_ locs_ [(aR, .inr (2, [.ref aD, .int rl, .int (bI tn), .int (bI po), .int (nI ts), .int (nI hd)])), (aW, .inr (3, [.ref aS, .ref aQ, .int (nI num), .int (bI tm), .int (bI sl)])), (aS, .inl (G.2.2, 200, .inl (aN ss))), (aQ, .inl (G.2.2, 200, .inl (aN ns)))] := ga_perm w [3, 0, 1, 2] (by decide) rfl
        refine W.eq (g2 := F0 m_ 25 ls [.int (bI (alw po ts hd (ss i)))]) rfl ?_
        refine r_ifb_eq hx hb dX2_inAll_25 (tgt := 35) (by decide) (fun c25 => ?_) (fun c25 => ?_)
        · refine r_iinc (d := 1) (k := 0) (lv' := [(4, .int (nI (i + 1))), (3, .int ac), (0, .ref aR), (1, .ref aW), (2, .ref aS)]) hx hb dX2_inAll_35 hl rfl (by decide) (by decide) rfl (fun ls hl => ?_)
          refine lv_goto (tgt := 5) hx hb dX2_inAll_38 (by decide) ?_
          exact ih5 (i + 1) ac (by omega) (by rw [allI, if_neg (by rw [c25]; decide)]; exact ha) (by omega) _ _ _ (lv_sub hl [0, 1, 2, 3, 4] rfl) w
        · refine lv_iload_n hx hb dX2_inAll_28 rfl (lv_at hl 1 rfl) ?_
          refine lv_aload_n hx hb dX2_inAll_29 rfl (lv_at hl 4 rfl) ?_
          refine lv_iload hx hb dX2_inAll_30 (lv_at hl 0 rfl) ?_
          refine r_ialdN hx hb hK w 2 rfl dX2_inAll_32 (by omega) (by decide) ?_
          refine lv_iand hx hb dX2_inAll_33 ?_
          refine lv_istore_n (lv' := [(3, .int (ac &&& (nI (ss i)))), (4, .int (nI i)), (0, .ref aR), (1, .ref aW), (2, .ref aS)]) hx hb dX2_inAll_34 rfl hl (by decide) rfl (fun ls hl => ?_)
          refine r_iinc (d := 1) (k := 1) (lv' := [(4, .int (nI (i + 1))), (3, .int (ac &&& (nI (ss i)))), (0, .ref aR), (1, .ref aW), (2, .ref aS)]) hx hb dX2_inAll_35 hl rfl (by decide) (by decide) rfl (fun ls hl => ?_)
          refine lv_goto (tgt := 5) hx hb dX2_inAll_38 (by decide) ?_
          exact ih5 (i + 1) (ac &&& (nI (ss i))) (by omega) (by rw [allI, if_pos c25, ha]) (by omega) _ _ _ (lv_sub hl [0, 1, 2, 3, 4] rfl) w
  exact loop5 _ 0 (-1) (by omega) (rfl) (Nat.lt_succ_self _) _ _ _ (lv_sub hl [0, 1, 2, 3, 4] rfl) w

set_option maxHeartbeats 4000000 in
set_option maxRecDepth 100000 in
theorem c_X2_inSome (l : Launch) (G : ga_G) (aR : Nat) (aD : Nat) (rl : Int32) (tn : Bool) (po : Bool) (ts : Nat) (hd : Nat) (aW : Nat) (aS : Nat) (aQ : Nat) (num : Nat) (tm : Bool) (sl : Bool) (ss : Nat → Nat) (ns : Nat → Nat) (hnum : num ≤ 200) (hss : ∀ i, i < num → ss i < 65536) (hts : ts < 65536) : ga_M l G yX2_inSome cX2_inSome 5 (Option.some Jvm.ClassFile.FieldType.int) 1 21 0 0 [.ref aR, .ref aW, .ref aS] [(aR, .inr (2, [.ref aD, .int rl, .int (bI tn), .int (bI po), .int (nI ts), .int (nI hd)])), (aW, .inr (3, [.ref aS, .ref aQ, .int (nI num), .int (bI tm), .int (bI sl)])), (aS, .inl (G.2.2, 200, .inl (aN ss))), (aQ, .inl (G.2.2, 200, .inl (aN ns)))] (fun r w => r = some (.int (nI (orI ss (fun i => alw po ts hd (ss i)) num))) ∧ w = [(aR, .inr (2, [.ref aD, .int rl, .int (bI tn), .int (bI po), .int (nI ts), .int (nI hd)])), (aW, .inr (3, [.ref aS, .ref aQ, .int (nI num), .int (bI tm), .int (bI sl)])), (aS, .inl (G.2.2, 200, .inl (aN ss))), (aQ, .inl (G.2.2, 200, .inl (aN ns)))]) := by
  refine ga_M.intro (by decide) (Nat.le_of_ble_eq_true rfl) (fun p_ e_ s_ m_ below meth c_ A_ H_ locs_ ls cx hr hlk hnm hA hK hl w => ?_)
  have hx := cx.1
  have hb := cx.2.1
  have hl : lv_has ls 5 [(0, .ref aR), (1, .ref aW), (2, .ref aS)] := hl
  refine lv_iconst (v := nI 0) hx hb dX2_inSome_0 (by decide) ?_
  refine lv_istore_n (lv' := [(3, .int (nI 0)), (0, .ref aR), (1, .ref aW), (2, .ref aS)]) hx hb dX2_inSome_1 rfl hl (by decide) rfl (fun ls hl => ?_)
  refine lv_iconst (v := nI 0) hx hb dX2_inSome_2 (by decide) ?_
  refine lv_istore (lv' := [(4, .int (nI 0)), (3, .int (nI 0)), (0, .ref aR), (1, .ref aW), (2, .ref aS)]) hx hb dX2_inSome_3 hl (by decide) rfl (fun ls hl => ?_)
  have loop5 : ∀ (n_ : Nat) (i : Nat) (ac : Nat) (hi : i ≤ num) (ha : ac = orI ss (fun i => alw po ts hd (ss i)) i) (hm : 200 - i < n_) (H_ : Heap) (locs_ : List Loc) (ls : Array Slot) (hl : lv_has ls 5 [(4, .int (nI i)), (3, .int (nI ac)), (0, .ref aR), (1, .ref aW), (2, .ref aS)]) (w : ga_wd G A_ s_ H_ locs_ [(aR, .inr (2, [.ref aD, .int rl, .int (bI tn), .int (bI po), .int (nI ts), .int (nI hd)])), (aW, .inr (3, [.ref aS, .ref aQ, .int (nI num), .int (bI tm), .int (bI sl)])), (aS, .inl (G.2.2, 200, .inl (aN ss))), (aQ, .inl (G.2.2, 200, .inl (aN ns)))]), W p_ l e_ { frames := 1, cells := 0, slots := 0, locals := 21 } s_ m_ [.ref aR, .ref aW, .ref aS].toArray below meth c_ H_ locs_ (0) (0) (MQ below (ga_Q G A_ (fun r w => r = some (.int (nI (orI ss (fun i => alw po ts hd (ss i)) num))) ∧ w = [(aR, .inr (2, [.ref aD, .int rl, .int (bI tn), .int (bI po), .int (nI ts), .int (nI hd)])), (aW, .inr (3, [.ref aS, .ref aQ, .int (nI num), .int (bI tm), .int (bI sl)])), (aS, .inl (G.2.2, 200, .inl (aN ss))), (aQ, .inl (G.2.2, 200, .inl (aN ns)))])) [.ref aR, .ref aW, .ref aS].toArray s_ 0 0 A_) (F0 m_ 5 ls []) := by
    intro n_
    induction n_ with
    | zero => intro i ac hi ha hm; exact absurd hm (Nat.not_lt_zero _)
    | succ n_ ih5 =>
      intro i ac hi ha hm5 H_ locs_ ls hl w
      refine lv_iload hx hb dX2_inSome_5 (lv_at hl 0 rfl) ?_
      refine lv_aload_n hx hb dX2_inSome_7 rfl (lv_at hl 3 rfl) ?_
      refine gf_X2_57 cx hK w 1 rfl rfl dX2_inSome_8 ?_
      refine r_icmp_ge hx hb dX2_inSome_11 (tgt := 41) (by decide) (by omega) (by omega) (fun c11 => ?_) (fun c11 => ?_)
      · refine lv_iload_n hx hb dX2_inSome_41 rfl (lv_at hl 1 rfl) ?_
        exact ga_iret cx hr hlk w dX2_inSome_42 ⟨Nat.le_refl _, Nat.le_refl _⟩ (⟨ga_rv (by rw [ha, show i = num by omega]), rfl⟩)
      · refine lv_aload_n hx hb dX2_inSome_14 rfl (lv_at hl 2 rfl) ?_
        refine lv_aload_n hx hb dX2_inSome_15 rfl (lv_at hl 3 rfl) ?_
        refine gf_X2_62 cx hK w 1 rfl rfl dX2_inSome_16 ?_
        refine lv_iload hx hb dX2_inSome_19 (lv_at hl 0 rfl) ?_
        refine r_ialdN hx hb hK w 2 rfl dX2_inSome_21 (by omega) (by decide) ?_
        refine ga_callV (rest := []) (wr := [(aW, .inr (3, [.ref aS, .ref aQ, .int (nI num), .int (bI tm), .int (bI sl)])), (aS, .inl (G.2.2, 200, .inl (aN ss))), (aQ, .inl (G.2.2, 200, .inl (aN ns)))]) cx hK hA w hl lk_X2_65 (c_X2_allows l G aR aD rl tn po ts hd (ss i) (by have := hss i (by omega); omega) (by omega)) ⟨by decide, by decide⟩ [0] [1, 2, 3] rfl rfl (by decide) (by decide) (by decide) 0 2 rfl rfl rfl rfl (Nat.le_of_ble_eq_true rfl) dX2_inSome_22 ⟨Nat.le_refl _, Nat.le_refl _⟩ rfl (fun r w1_ H_ locs_ hp w => ?_)
        obtain ⟨rfl, rfl⟩ := hp
        have w : ga_wd G A_ s_ H_ locs_ [(aR, .inr (2, [.ref aD, .int rl, .int (bI tn), .int (bI po), .int (nI ts), .int (nI hd)])), (aW, .inr (3, [.ref aS, .ref aQ, .int (nI num), .int (bI tm), .int (bI sl)])), (aS, .inl (G.2.2, 200, .inl (aN ss))), (aQ, .inl (G.2.2, 200, .inl (aN ns)))] := ga_perm w [3, 0, 1, 2] (by decide) rfl
        refine W.eq (g2 := F0 m_ 25 ls [.int (bI (alw po ts hd (ss i)))]) rfl ?_
        refine r_ifb_eq hx hb dX2_inSome_25 (tgt := 35) (by decide) (fun c25 => ?_) (fun c25 => ?_)
        · refine r_iinc (d := 1) (k := 0) (lv' := [(4, .int (nI (i + 1))), (3, .int (nI ac)), (0, .ref aR), (1, .ref aW), (2, .ref aS)]) hx hb dX2_inSome_35 hl rfl (by decide) (by decide) rfl (fun ls hl => ?_)
          refine lv_goto (tgt := 5) hx hb dX2_inSome_38 (by decide) ?_
          exact ih5 (i + 1) ac (by omega) (by rw [orI, if_neg (by rw [c25]; decide)]; exact ha) (by omega) _ _ _ (lv_sub hl [0, 1, 2, 3, 4] rfl) w
        · refine lv_iload_n hx hb dX2_inSome_28 rfl (lv_at hl 1 rfl) ?_
          refine lv_aload_n hx hb dX2_inSome_29 rfl (lv_at hl 4 rfl) ?_
          refine lv_iload hx hb dX2_inSome_30 (lv_at hl 0 rfl) ?_
          refine r_ialdN hx hb hK w 2 rfl dX2_inSome_32 (by omega) (by decide) ?_
          refine r_ior hx hb dX2_inSome_33 ?_
          refine lv_istore_n (lv' := [(3, .int (nI (ac ||| (ss i)))), (4, .int (nI i)), (0, .ref aR), (1, .ref aW), (2, .ref aS)]) hx hb dX2_inSome_34 rfl hl (by decide) rfl (fun ls hl => ?_)
          refine r_iinc (d := 1) (k := 1) (lv' := [(4, .int (nI (i + 1))), (3, .int (nI (ac ||| (ss i)))), (0, .ref aR), (1, .ref aW), (2, .ref aS)]) hx hb dX2_inSome_35 hl rfl (by decide) (by decide) rfl (fun ls hl => ?_)
          refine lv_goto (tgt := 5) hx hb dX2_inSome_38 (by decide) ?_
          exact ih5 (i + 1) (ac ||| (ss i)) (by omega) (by rw [orI, if_pos c25, ha]) (by omega) _ _ _ (lv_sub hl [0, 1, 2, 3, 4] rfl) w
  exact loop5 _ 0 0 (by omega) (rfl) (Nat.lt_succ_self _) _ _ _ (lv_sub hl [0, 1, 2, 3, 4] rfl) w

set_option maxHeartbeats 4000000 in
set_option maxRecDepth 100000 in
theorem c_X2_inAllN (l : Launch) (G : ga_G) (aR : Nat) (aD : Nat) (rl : Int32) (tn : Bool) (po : Bool) (ts : Nat) (hd : Nat) (aW : Nat) (aS : Nat) (aQ : Nat) (num : Nat) (tm : Bool) (sl : Bool) (ss : Nat → Nat) (ns : Nat → Nat) (hnum : num ≤ 200) (hss : ∀ i, i < num → ss i < 65536) (hts : ts < 65536) : ga_M l G yX2_inAll cX2_inAll 5 (Option.some Jvm.ClassFile.FieldType.int) 1 21 0 0 [.ref aR, .ref aW, .ref aQ] [(aR, .inr (2, [.ref aD, .int rl, .int (bI tn), .int (bI po), .int (nI ts), .int (nI hd)])), (aW, .inr (3, [.ref aS, .ref aQ, .int (nI num), .int (bI tm), .int (bI sl)])), (aS, .inl (G.2.2, 200, .inl (aN ss))), (aQ, .inl (G.2.2, 200, .inl (aN ns)))] (fun r w => r = some (.int (allI ns (fun i => alw po ts hd (ss i)) num)) ∧ w = [(aR, .inr (2, [.ref aD, .int rl, .int (bI tn), .int (bI po), .int (nI ts), .int (nI hd)])), (aW, .inr (3, [.ref aS, .ref aQ, .int (nI num), .int (bI tm), .int (bI sl)])), (aS, .inl (G.2.2, 200, .inl (aN ss))), (aQ, .inl (G.2.2, 200, .inl (aN ns)))]) := by
  refine ga_M.intro (by decide) (Nat.le_of_ble_eq_true rfl) (fun p_ e_ s_ m_ below meth c_ A_ H_ locs_ ls cx hr hlk hnm hA hK hl w => ?_)
  have hx := cx.1
  have hb := cx.2.1
  have hl : lv_has ls 5 [(0, .ref aR), (1, .ref aW), (2, .ref aQ)] := hl
  refine lv_iconst (v := (-1)) hx hb dX2_inAll_0 (by decide) ?_
  refine lv_istore_n (lv' := [(3, .int (-1)), (0, .ref aR), (1, .ref aW), (2, .ref aQ)]) hx hb dX2_inAll_1 rfl hl (by decide) rfl (fun ls hl => ?_)
  refine lv_iconst (v := nI 0) hx hb dX2_inAll_2 (by decide) ?_
  refine lv_istore (lv' := [(4, .int (nI 0)), (3, .int (-1)), (0, .ref aR), (1, .ref aW), (2, .ref aQ)]) hx hb dX2_inAll_3 hl (by decide) rfl (fun ls hl => ?_)
  have loop5 : ∀ (n_ : Nat) (i : Nat) (ac : Int32) (hi : i ≤ num) (ha : ac = allI ns (fun i => alw po ts hd (ss i)) i) (hm : 200 - i < n_) (H_ : Heap) (locs_ : List Loc) (ls : Array Slot) (hl : lv_has ls 5 [(4, .int (nI i)), (3, .int ac), (0, .ref aR), (1, .ref aW), (2, .ref aQ)]) (w : ga_wd G A_ s_ H_ locs_ [(aR, .inr (2, [.ref aD, .int rl, .int (bI tn), .int (bI po), .int (nI ts), .int (nI hd)])), (aW, .inr (3, [.ref aS, .ref aQ, .int (nI num), .int (bI tm), .int (bI sl)])), (aS, .inl (G.2.2, 200, .inl (aN ss))), (aQ, .inl (G.2.2, 200, .inl (aN ns)))]), W p_ l e_ { frames := 1, cells := 0, slots := 0, locals := 21 } s_ m_ [.ref aR, .ref aW, .ref aQ].toArray below meth c_ H_ locs_ (0) (0) (MQ below (ga_Q G A_ (fun r w => r = some (.int (allI ns (fun i => alw po ts hd (ss i)) num)) ∧ w = [(aR, .inr (2, [.ref aD, .int rl, .int (bI tn), .int (bI po), .int (nI ts), .int (nI hd)])), (aW, .inr (3, [.ref aS, .ref aQ, .int (nI num), .int (bI tm), .int (bI sl)])), (aS, .inl (G.2.2, 200, .inl (aN ss))), (aQ, .inl (G.2.2, 200, .inl (aN ns)))])) [.ref aR, .ref aW, .ref aQ].toArray s_ 0 0 A_) (F0 m_ 5 ls []) := by
    intro n_
    induction n_ with
    | zero => intro i ac hi ha hm; exact absurd hm (Nat.not_lt_zero _)
    | succ n_ ih5 =>
      intro i ac hi ha hm5 H_ locs_ ls hl w
      refine lv_iload hx hb dX2_inAll_5 (lv_at hl 0 rfl) ?_
      refine lv_aload_n hx hb dX2_inAll_7 rfl (lv_at hl 3 rfl) ?_
      refine gf_X2_57 cx hK w 1 rfl rfl dX2_inAll_8 ?_
      refine r_icmp_ge hx hb dX2_inAll_11 (tgt := 41) (by decide) (by omega) (by omega) (fun c11 => ?_) (fun c11 => ?_)
      · refine lv_iload_n hx hb dX2_inAll_41 rfl (lv_at hl 1 rfl) ?_
        exact ga_iret cx hr hlk w dX2_inAll_42 ⟨Nat.le_refl _, Nat.le_refl _⟩ (⟨ga_rv (by rw [ha, show i = num by omega]), rfl⟩)
      · refine lv_aload_n hx hb dX2_inAll_14 rfl (lv_at hl 2 rfl) ?_
        refine lv_aload_n hx hb dX2_inAll_15 rfl (lv_at hl 3 rfl) ?_
        refine gf_X2_62 cx hK w 1 rfl rfl dX2_inAll_16 ?_
        refine lv_iload hx hb dX2_inAll_19 (lv_at hl 0 rfl) ?_
        refine r_ialdN hx hb hK w 2 rfl dX2_inAll_21 (by omega) (by decide) ?_
        refine ga_callV (rest := []) (wr := [(aW, .inr (3, [.ref aS, .ref aQ, .int (nI num), .int (bI tm), .int (bI sl)])), (aS, .inl (G.2.2, 200, .inl (aN ss))), (aQ, .inl (G.2.2, 200, .inl (aN ns)))]) cx hK hA w hl lk_X2_65 (c_X2_allows l G aR aD rl tn po ts hd (ss i) (by have := hss i (by omega); omega) (by omega)) ⟨by decide, by decide⟩ [0] [1, 2, 3] rfl rfl (by decide) (by decide) (by decide) 0 2 rfl rfl rfl rfl (Nat.le_of_ble_eq_true rfl) dX2_inAll_22 ⟨Nat.le_refl _, Nat.le_refl _⟩ rfl (fun r w1_ H_ locs_ hp w => ?_)
        obtain ⟨rfl, rfl⟩ := hp
        have w : ga_wd G A_ s_ H_ locs_ [(aR, .inr (2, [.ref aD, .int rl, .int (bI tn), .int (bI po), .int (nI ts), .int (nI hd)])), (aW, .inr (3, [.ref aS, .ref aQ, .int (nI num), .int (bI tm), .int (bI sl)])), (aS, .inl (G.2.2, 200, .inl (aN ss))), (aQ, .inl (G.2.2, 200, .inl (aN ns)))] := ga_perm w [3, 0, 1, 2] (by decide) rfl
        refine W.eq (g2 := F0 m_ 25 ls [.int (bI (alw po ts hd (ss i)))]) rfl ?_
        refine r_ifb_eq hx hb dX2_inAll_25 (tgt := 35) (by decide) (fun c25 => ?_) (fun c25 => ?_)
        · refine r_iinc (d := 1) (k := 0) (lv' := [(4, .int (nI (i + 1))), (3, .int ac), (0, .ref aR), (1, .ref aW), (2, .ref aQ)]) hx hb dX2_inAll_35 hl rfl (by decide) (by decide) rfl (fun ls hl => ?_)
          refine lv_goto (tgt := 5) hx hb dX2_inAll_38 (by decide) ?_
          exact ih5 (i + 1) ac (by omega) (by rw [allI, if_neg (by rw [c25]; decide)]; exact ha) (by omega) _ _ _ (lv_sub hl [0, 1, 2, 3, 4] rfl) w
        · refine lv_iload_n hx hb dX2_inAll_28 rfl (lv_at hl 1 rfl) ?_
          refine lv_aload_n hx hb dX2_inAll_29 rfl (lv_at hl 4 rfl) ?_
          refine lv_iload hx hb dX2_inAll_30 (lv_at hl 0 rfl) ?_
          refine r_ialdN hx hb hK w 3 rfl dX2_inAll_32 (by omega) (by decide) ?_
          refine lv_iand hx hb dX2_inAll_33 ?_
          refine lv_istore_n (lv' := [(3, .int (ac &&& (nI (ns i)))), (4, .int (nI i)), (0, .ref aR), (1, .ref aW), (2, .ref aQ)]) hx hb dX2_inAll_34 rfl hl (by decide) rfl (fun ls hl => ?_)
          refine r_iinc (d := 1) (k := 1) (lv' := [(4, .int (nI (i + 1))), (3, .int (ac &&& (nI (ns i)))), (0, .ref aR), (1, .ref aW), (2, .ref aQ)]) hx hb dX2_inAll_35 hl rfl (by decide) (by decide) rfl (fun ls hl => ?_)
          refine lv_goto (tgt := 5) hx hb dX2_inAll_38 (by decide) ?_
          exact ih5 (i + 1) (ac &&& (nI (ns i))) (by omega) (by rw [allI, if_pos c25, ha]) (by omega) _ _ _ (lv_sub hl [0, 1, 2, 3, 4] rfl) w
  exact loop5 _ 0 (-1) (by omega) (rfl) (Nat.lt_succ_self _) _ _ _ (lv_sub hl [0, 1, 2, 3, 4] rfl) w

set_option maxHeartbeats 4000000 in
set_option maxRecDepth 100000 in
theorem c_X2_inSomeN (l : Launch) (G : ga_G) (aR : Nat) (aD : Nat) (rl : Int32) (tn : Bool) (po : Bool) (ts : Nat) (hd : Nat) (aW : Nat) (aS : Nat) (aQ : Nat) (num : Nat) (tm : Bool) (sl : Bool) (ss : Nat → Nat) (ns : Nat → Nat) (hnum : num ≤ 200) (hss : ∀ i, i < num → ss i < 65536) (hts : ts < 65536) : ga_M l G yX2_inSome cX2_inSome 5 (Option.some Jvm.ClassFile.FieldType.int) 1 21 0 0 [.ref aR, .ref aW, .ref aQ] [(aR, .inr (2, [.ref aD, .int rl, .int (bI tn), .int (bI po), .int (nI ts), .int (nI hd)])), (aW, .inr (3, [.ref aS, .ref aQ, .int (nI num), .int (bI tm), .int (bI sl)])), (aS, .inl (G.2.2, 200, .inl (aN ss))), (aQ, .inl (G.2.2, 200, .inl (aN ns)))] (fun r w => r = some (.int (nI (orI ns (fun i => alw po ts hd (ss i)) num))) ∧ w = [(aR, .inr (2, [.ref aD, .int rl, .int (bI tn), .int (bI po), .int (nI ts), .int (nI hd)])), (aW, .inr (3, [.ref aS, .ref aQ, .int (nI num), .int (bI tm), .int (bI sl)])), (aS, .inl (G.2.2, 200, .inl (aN ss))), (aQ, .inl (G.2.2, 200, .inl (aN ns)))]) := by
  refine ga_M.intro (by decide) (Nat.le_of_ble_eq_true rfl) (fun p_ e_ s_ m_ below meth c_ A_ H_ locs_ ls cx hr hlk hnm hA hK hl w => ?_)
  have hx := cx.1
  have hb := cx.2.1
  have hl : lv_has ls 5 [(0, .ref aR), (1, .ref aW), (2, .ref aQ)] := hl
  refine lv_iconst (v := nI 0) hx hb dX2_inSome_0 (by decide) ?_
  refine lv_istore_n (lv' := [(3, .int (nI 0)), (0, .ref aR), (1, .ref aW), (2, .ref aQ)]) hx hb dX2_inSome_1 rfl hl (by decide) rfl (fun ls hl => ?_)
  refine lv_iconst (v := nI 0) hx hb dX2_inSome_2 (by decide) ?_
  refine lv_istore (lv' := [(4, .int (nI 0)), (3, .int (nI 0)), (0, .ref aR), (1, .ref aW), (2, .ref aQ)]) hx hb dX2_inSome_3 hl (by decide) rfl (fun ls hl => ?_)
  have loop5 : ∀ (n_ : Nat) (i : Nat) (ac : Nat) (hi : i ≤ num) (ha : ac = orI ns (fun i => alw po ts hd (ss i)) i) (hm : 200 - i < n_) (H_ : Heap) (locs_ : List Loc) (ls : Array Slot) (hl : lv_has ls 5 [(4, .int (nI i)), (3, .int (nI ac)), (0, .ref aR), (1, .ref aW), (2, .ref aQ)]) (w : ga_wd G A_ s_ H_ locs_ [(aR, .inr (2, [.ref aD, .int rl, .int (bI tn), .int (bI po), .int (nI ts), .int (nI hd)])), (aW, .inr (3, [.ref aS, .ref aQ, .int (nI num), .int (bI tm), .int (bI sl)])), (aS, .inl (G.2.2, 200, .inl (aN ss))), (aQ, .inl (G.2.2, 200, .inl (aN ns)))]), W p_ l e_ { frames := 1, cells := 0, slots := 0, locals := 21 } s_ m_ [.ref aR, .ref aW, .ref aQ].toArray below meth c_ H_ locs_ (0) (0) (MQ below (ga_Q G A_ (fun r w => r = some (.int (nI (orI ns (fun i => alw po ts hd (ss i)) num))) ∧ w = [(aR, .inr (2, [.ref aD, .int rl, .int (bI tn), .int (bI po), .int (nI ts), .int (nI hd)])), (aW, .inr (3, [.ref aS, .ref aQ, .int (nI num), .int (bI tm), .int (bI sl)])), (aS, .inl (G.2.2, 200, .inl (aN ss))), (aQ, .inl (G.2.2, 200, .inl (aN ns)))])) [.ref aR, .ref aW, .ref aQ].toArray s_ 0 0 A_) (F0 m_ 5 ls []) := by
    intro n_
    induction n_ with
    | zero => intro i ac hi ha hm; exact absurd hm (Nat.not_lt_zero _)
    | succ n_ ih5 =>
      intro i ac hi ha hm5 H_ locs_ ls hl w
      refine lv_iload hx hb dX2_inSome_5 (lv_at hl 0 rfl) ?_
      refine lv_aload_n hx hb dX2_inSome_7 rfl (lv_at hl 3 rfl) ?_
      refine gf_X2_57 cx hK w 1 rfl rfl dX2_inSome_8 ?_
      refine r_icmp_ge hx hb dX2_inSome_11 (tgt := 41) (by decide) (by omega) (by omega) (fun c11 => ?_) (fun c11 => ?_)
      · refine lv_iload_n hx hb dX2_inSome_41 rfl (lv_at hl 1 rfl) ?_
        exact ga_iret cx hr hlk w dX2_inSome_42 ⟨Nat.le_refl _, Nat.le_refl _⟩ (⟨ga_rv (by rw [ha, show i = num by omega]), rfl⟩)
      · refine lv_aload_n hx hb dX2_inSome_14 rfl (lv_at hl 2 rfl) ?_
        refine lv_aload_n hx hb dX2_inSome_15 rfl (lv_at hl 3 rfl) ?_
        refine gf_X2_62 cx hK w 1 rfl rfl dX2_inSome_16 ?_
        refine lv_iload hx hb dX2_inSome_19 (lv_at hl 0 rfl) ?_
        refine r_ialdN hx hb hK w 2 rfl dX2_inSome_21 (by omega) (by decide) ?_
        refine ga_callV (rest := []) (wr := [(aW, .inr (3, [.ref aS, .ref aQ, .int (nI num), .int (bI tm), .int (bI sl)])), (aS, .inl (G.2.2, 200, .inl (aN ss))), (aQ, .inl (G.2.2, 200, .inl (aN ns)))]) cx hK hA w hl lk_X2_65 (c_X2_allows l G aR aD rl tn po ts hd (ss i) (by have := hss i (by omega); omega) (by omega)) ⟨by decide, by decide⟩ [0] [1, 2, 3] rfl rfl (by decide) (by decide) (by decide) 0 2 rfl rfl rfl rfl (Nat.le_of_ble_eq_true rfl) dX2_inSome_22 ⟨Nat.le_refl _, Nat.le_refl _⟩ rfl (fun r w1_ H_ locs_ hp w => ?_)
        obtain ⟨rfl, rfl⟩ := hp
        have w : ga_wd G A_ s_ H_ locs_ [(aR, .inr (2, [.ref aD, .int rl, .int (bI tn), .int (bI po), .int (nI ts), .int (nI hd)])), (aW, .inr (3, [.ref aS, .ref aQ, .int (nI num), .int (bI tm), .int (bI sl)])), (aS, .inl (G.2.2, 200, .inl (aN ss))), (aQ, .inl (G.2.2, 200, .inl (aN ns)))] := ga_perm w [3, 0, 1, 2] (by decide) rfl
        refine W.eq (g2 := F0 m_ 25 ls [.int (bI (alw po ts hd (ss i)))]) rfl ?_
        refine r_ifb_eq hx hb dX2_inSome_25 (tgt := 35) (by decide) (fun c25 => ?_) (fun c25 => ?_)
        · refine r_iinc (d := 1) (k := 0) (lv' := [(4, .int (nI (i + 1))), (3, .int (nI ac)), (0, .ref aR), (1, .ref aW), (2, .ref aQ)]) hx hb dX2_inSome_35 hl rfl (by decide) (by decide) rfl (fun ls hl => ?_)
          refine lv_goto (tgt := 5) hx hb dX2_inSome_38 (by decide) ?_
          exact ih5 (i + 1) ac (by omega) (by rw [orI, if_neg (by rw [c25]; decide)]; exact ha) (by omega) _ _ _ (lv_sub hl [0, 1, 2, 3, 4] rfl) w
        · refine lv_iload_n hx hb dX2_inSome_28 rfl (lv_at hl 1 rfl) ?_
          refine lv_aload_n hx hb dX2_inSome_29 rfl (lv_at hl 4 rfl) ?_
          refine lv_iload hx hb dX2_inSome_30 (lv_at hl 0 rfl) ?_
          refine r_ialdN hx hb hK w 3 rfl dX2_inSome_32 (by omega) (by decide) ?_
          refine r_ior hx hb dX2_inSome_33 ?_
          refine lv_istore_n (lv' := [(3, .int (nI (ac ||| (ns i)))), (4, .int (nI i)), (0, .ref aR), (1, .ref aW), (2, .ref aQ)]) hx hb dX2_inSome_34 rfl hl (by decide) rfl (fun ls hl => ?_)
          refine r_iinc (d := 1) (k := 1) (lv' := [(4, .int (nI (i + 1))), (3, .int (nI (ac ||| (ns i)))), (0, .ref aR), (1, .ref aW), (2, .ref aQ)]) hx hb dX2_inSome_35 hl rfl (by decide) (by decide) rfl (fun ls hl => ?_)
          refine lv_goto (tgt := 5) hx hb dX2_inSome_38 (by decide) ?_
          exact ih5 (i + 1) (ac ||| (ns i)) (by omega) (by rw [orI, if_pos c25, ha]) (by omega) _ _ _ (lv_sub hl [0, 1, 2, 3, 4] rfl) w
  exact loop5 _ 0 0 (by omega) (rfl) (Nat.lt_succ_self _) _ _ _ (lv_sub hl [0, 1, 2, 3, 4] rfl) w

set_option maxHeartbeats 4000000 in
set_option maxRecDepth 100000 in
theorem c_X3_add (l : Launch) (G : ga_G) (aW : Nat) (aS : Nat) (aQ : Nat) (num : Nat) (tm : Bool) (sl : Bool) (ss : Nat → Nat) (ns : Nat → Nat) (to : Nat → Nat) (ws : List (List Nat)) (p : List Nat) (hR : Rep to ws num tm ss ns) : ga_M l G yX3_add cX3_add 3 (Option.none : Option Jvm.ClassFile.FieldType) 0 0 0 0 [.ref aW, .int (nI (bs p)), .int (nI (nb to p))] [(aW, .inr (3, [.ref aS, .ref aQ, .int (nI num), .int (bI tm), .int (bI sl)])), (aS, .inl (G.2.2, 200, .inl (aN ss))), (aQ, .inl (G.2.2, 200, .inl (aN ns)))] (fun r w => ∃ (num2 : Nat), ∃ (tm2 : Bool), ∃ (ss2 : Nat → Nat), ∃ (ns2 : Nat → Nat), (Rep to (ws ++ [p]) num2 tm2 ss2 ns2) ∧ r = none ∧ w = [(aW, .inr (3, [.ref aS, .ref aQ, .int (nI num2), .int (bI tm2), .int (bI sl)])), (aS, .inl (G.2.2, 200, .inl (aN ss2))), (aQ, .inl (G.2.2, 200, .inl (aN ns2)))]) := by
  refine ga_M.intro (by decide) (Nat.le_of_ble_eq_true rfl) (fun p_ e_ s_ m_ below meth c_ A_ H_ locs_ ls cx hr hlk hnm hA hK hl w => ?_)
  have hx := cx.1
  have hb := cx.2.1
  have hl : lv_has ls 3 [(0, .ref aW), (1, .int (nI (bs p))), (2, .int (nI (nb to p)))] := hl
  have hnum : num ≤ 200 := by rw [hR.1]; exact Nat.min_le_left _ _
  refine lv_aload_n hx hb dX3_add_0 rfl (lv_at hl 0 rfl) ?_
  refine gf_X3_22 cx hK w 0 rfl rfl dX3_add_1 ?_
  refine lv_sipush (v := nI 200) hx hb dX3_add_4 (by decide) ?_
  refine r_icmp_lt hx hb dX3_add_7 (tgt := 16) (by decide) (by omega) (by omega) (fun c7 => ?_) (fun c7 => ?_)
  · refine lv_aload_n hx hb dX3_add_16 rfl (lv_at hl 0 rfl) ?_
    refine gf_X3_9 cx hK w 0 rfl rfl dX3_add_17 ?_
    refine lv_aload_n hx hb dX3_add_20 rfl (lv_at hl 0 rfl) ?_
    refine gf_X3_22 cx hK w 0 rfl rfl dX3_add_21 ?_
    refine lv_iload_n hx hb dX3_add_24 rfl (lv_at hl 1 rfl) ?_
    refine r_iastN hx hb hK w 1 rfl dX3_add_25 (by omega) (by decide) (fun H_ locs_ w => ?_)
    have w : ga_wd G A_ s_ H_ locs_ [(aW, .inr (3, [.ref aS, .ref aQ, .int (nI num), .int (bI tm), .int (bI sl)])), (aS, .inl (G.2.2, 200, .inl (aN (uN ss num (bs p))))), (aQ, .inl (G.2.2, 200, .inl (aN ns)))] := w
    refine lv_aload_n hx hb dX3_add_26 rfl (lv_at hl 0 rfl) ?_
    refine gf_X3_15 cx hK w 0 rfl rfl dX3_add_27 ?_
    refine lv_aload_n hx hb dX3_add_30 rfl (lv_at hl 0 rfl) ?_
    refine gf_X3_22 cx hK w 0 rfl rfl dX3_add_31 ?_
    refine lv_iload_n hx hb dX3_add_34 rfl (lv_at hl 2 rfl) ?_
    refine r_iastN hx hb hK w 2 rfl dX3_add_35 (by omega) (by decide) (fun H_ locs_ w => ?_)
    have w : ga_wd G A_ s_ H_ locs_ [(aW, .inr (3, [.ref aS, .ref aQ, .int (nI num), .int (bI tm), .int (bI sl)])), (aS, .inl (G.2.2, 200, .inl (aN (uN ss num (bs p))))), (aQ, .inl (G.2.2, 200, .inl (aN (uN ns num (nb to p)))))] := w
    refine lv_aload_n hx hb dX3_add_36 rfl (lv_at hl 0 rfl) ?_
    refine lv_dup hx hb dX3_add_37 rfl ?_
    refine gf_X3_22 cx hK w 0 rfl rfl dX3_add_38 ?_
    refine lv_iconst (v := nI 1) hx hb dX3_add_41 (by decide) ?_
    refine r_iadd hx hb dX3_add_42 ?_
    refine pf_X3_22 cx hK w 0 rfl rfl rfl (Nat.le_of_ble_eq_true rfl) dX3_add_43 (fun H_ locs_ w => ?_)
    have w : ga_wd G A_ s_ H_ locs_ [(aW, .inr (3, [.ref aS, .ref aQ, .int (nI (num + 1)), .int (bI tm), .int (bI sl)])), (aS, .inl (G.2.2, 200, .inl (aN (uN ss num (bs p))))), (aQ, .inl (G.2.2, 200, .inl (aN (uN ns num (nb to p)))))] := w
    exact ga_vret cx hr hlk w dX3_add_46 ⟨Nat.le_refl _, Nat.le_refl _⟩ (⟨num + 1, tm, _, _, Rep_add hR c7, rfl, rfl⟩)
  · refine lv_aload_n hx hb dX3_add_10 rfl (lv_at hl 0 rfl) ?_
    refine lv_iconst (v := nI 1) hx hb dX3_add_11 (by decide) ?_
    refine pf_X3_26 cx hK w 0 rfl rfl rfl (Nat.le_of_ble_eq_true rfl) dX3_add_12 (fun H_ locs_ w => ?_)
    have w : ga_wd G A_ s_ H_ locs_ [(aW, .inr (3, [.ref aS, .ref aQ, .int (nI num), .int (nI 1), .int (bI sl)])), (aS, .inl (G.2.2, 200, .inl (aN ss))), (aQ, .inl (G.2.2, 200, .inl (aN ns)))] := w
    exact ga_vret cx hr hlk w dX3_add_15 ⟨Nat.le_refl _, Nat.le_refl _⟩ (⟨num, true, ss, ns, Rep_full hR c7 (by simp), rfl, rfl⟩)

set_option maxHeartbeats 4000000 in
set_option maxRecDepth 100000 in
theorem c_X3_firstLike (l : Launch) (G : ga_G) (aW : Nat) (aS : Nat) (aQ : Nat) (num : Nat) (tm : Bool) (sl : Bool) (ss : Nat → Nat) (ns : Nat → Nat) (i : Nat) (li : Nat) (hi : i < 200) (hss : ∀ j, j ≤ i → ss j < 65536) : ga_M l G yX3_firstLike cX3_firstLike 5 (Option.some Jvm.ClassFile.FieldType.int) 0 0 0 0 [.ref aW, .int (nI i), .int (nI li)] [(aW, .inr (3, [.ref aS, .ref aQ, .int (nI num), .int (bI tm), .int (bI sl)])), (aS, .inl (G.2.2, 200, .inl (aN ss))), (aQ, .inl (G.2.2, 200, .inl (aN ns)))] (fun r w => r = some (.int (nI (lfst (like ss li i) i))) ∧ w = [(aW, .inr (3, [.ref aS, .ref aQ, .int (nI num), .int (bI tm), .int (bI sl)])), (aS, .inl (G.2.2, 200, .inl (aN ss))), (aQ, .inl (G.2.2, 200, .inl (aN ns)))]) := by
  refine ga_M.intro (by decide) (Nat.le_of_ble_eq_true rfl) (fun p_ e_ s_ m_ below meth c_ A_ H_ locs_ ls cx hr hlk hnm hA hK hl w => ?_)
  have hx := cx.1
  have hb := cx.2.1
  have hl : lv_has ls 5 [(0, .ref aW), (1, .int (nI i)), (2, .int (nI li))] := hl
  refine lv_aload_n hx hb dX3_firstLike_0 rfl (lv_at hl 0 rfl) ?_
  refine gf_X3_9 cx hK w 0 rfl rfl dX3_firstLike_1 ?_
  refine lv_iload_n hx hb dX3_firstLike_4 rfl (lv_at hl 1 rfl) ?_
  refine r_ialdN hx hb hK w 1 rfl dX3_firstLike_5 (by omega) (by decide) ?_
  refine lv_iload_n hx hb dX3_firstLike_6 rfl (lv_at hl 2 rfl) ?_
  refine r_iand hx hb dX3_firstLike_7 ?_
  refine lv_istore_n (lv' := [(3, .int (nI ((ss i) &&& li))), (0, .ref aW), (1, .int (nI i)), (2, .int (nI li))]) hx hb dX3_firstLike_8 rfl hl (by decide) rfl (fun ls hl => ?_)
  refine lv_iconst (v := nI 0) hx hb dX3_firstLike_9 (by decide) ?_
  refine lv_istore (lv' := [(4, .int (nI 0)), (3, .int (nI ((ss i) &&& li))), (0, .ref aW), (1, .int (nI i)), (2, .int (nI li))]) hx hb dX3_firstLike_10 hl (by decide) rfl (fun ls hl => ?_)
  have loop12 : ∀ (n_ : Nat) (j : Nat) (hj : j ≤ i) (hbf : ∀ u, u < j → like ss li i u = false) (hm : 200 - j < n_) (H_ : Heap) (locs_ : List Loc) (ls : Array Slot) (hl : lv_has ls 5 [(4, .int (nI j)), (3, .int (nI ((ss i) &&& li))), (0, .ref aW), (1, .int (nI i)), (2, .int (nI li))]) (w : ga_wd G A_ s_ H_ locs_ [(aW, .inr (3, [.ref aS, .ref aQ, .int (nI num), .int (bI tm), .int (bI sl)])), (aS, .inl (G.2.2, 200, .inl (aN ss))), (aQ, .inl (G.2.2, 200, .inl (aN ns)))]), W p_ l e_ { frames := 0, cells := 0, slots := 0, locals := 0 } s_ m_ [.ref aW, .int (nI i), .int (nI li)].toArray below meth c_ H_ locs_ (0) (0) (MQ below (ga_Q G A_ (fun r w => r = some (.int (nI (lfst (like ss li i) i))) ∧ w = [(aW, .inr (3, [.ref aS, .ref aQ, .int (nI num), .int (bI tm), .int (bI sl)])), (aS, .inl (G.2.2, 200, .inl (aN ss))), (aQ, .inl (G.2.2, 200, .inl (aN ns)))])) [.ref aW, .int (nI i), .int (nI li)].toArray s_ 0 0 A_) (F0 m_ 12 ls []) := by
    intro n_
    induction n_ with
    | zero => intro j hj hbf hm; exact absurd hm (Nat.not_lt_zero _)
    | succ n_ ih12 =>
      intro j hj hbf hm12 H_ locs_ ls hl w
      refine lv_iload hx hb dX3_firstLike_12 (lv_at hl 0 rfl) ?_
      refine lv_iload_n hx hb dX3_firstLike_14 rfl (lv_at hl 3 rfl) ?_
      refine r_icmp_ge hx hb dX3_firstLike_15 (tgt := 40) (by decide) (by omega) (by omega) (fun c15 => ?_) (fun c15 => ?_)
      · refine lv_iload_n hx hb dX3_firstLike_40 rfl (lv_at hl 3 rfl) ?_
        exact ga_iret cx hr hlk w dX3_firstLike_41 ⟨Nat.le_refl _, Nat.le_refl _⟩ (⟨ga_rv (congrArg nI (lfst_no (fun u hu => hbf u (by omega))).symm), rfl⟩)
      · refine lv_aload_n hx hb dX3_firstLike_18 rfl (lv_at hl 2 rfl) ?_
        refine gf_X3_9 cx hK w 0 rfl rfl dX3_firstLike_19 ?_
        refine lv_iload hx hb dX3_firstLike_22 (lv_at hl 0 rfl) ?_
        refine r_ialdN hx hb hK w 1 rfl dX3_firstLike_24 (by omega) (by decide) ?_
        refine lv_iload_n hx hb dX3_firstLike_25 rfl (lv_at hl 4 rfl) ?_
        refine r_iand hx hb dX3_firstLike_26 ?_
        refine lv_iload_n hx hb dX3_firstLike_27 rfl (lv_at hl 1 rfl) ?_
        refine r_icmp_ne hx hb dX3_firstLike_28 (tgt := 34) (by decide) (andL_lt (by have := hss j (by omega); omega)) (andL_lt (by have := hss i (by omega); omega)) (fun c28 => ?_) (fun c28 => ?_)
        · refine r_iinc (d := 1) (k := 0) (lv' := [(4, .int (nI (j + 1))), (3, .int (nI ((ss i) &&& li))), (0, .ref aW), (1, .int (nI i)), (2, .int (nI li))]) hx hb dX3_firstLike_34 hl rfl (by decide) (by decide) rfl (fun ls hl => ?_)
          refine lv_goto (tgt := 12) hx hb dX3_firstLike_37 (by decide) ?_
          exact ih12 (j + 1) (by omega) (fun u hu => by rcases Nat.lt_or_ge u j with h | h; exact hbf u h; (rw [show u = j by omega]; simp [like, c28])) (by omega) _ _ _ (lv_sub hl [0, 1, 2, 3, 4] rfl) w
        · refine lv_iload hx hb dX3_firstLike_31 (lv_at hl 0 rfl) ?_
          exact ga_iret cx hr hlk w dX3_firstLike_33 ⟨Nat.le_refl _, Nat.le_refl _⟩ (⟨ga_rv (congrArg nI (lfst_lt (by omega) (by simp [like, c28]) hbf).symm), rfl⟩)
  exact loop12 _ 0 (by omega) (fun u h => absurd h (Nat.not_lt_zero _)) (Nat.lt_succ_self _) _ _ _ (lv_sub hl [0, 1, 2, 3, 4] rfl) w

set_option maxHeartbeats 4000000 in
set_option maxRecDepth 100000 in
theorem c_X3_logsUnlike (l : Launch) (G : ga_G) (aW : Nat) (aS : Nat) (aQ : Nat) (num : Nat) (tm : Bool) (sl : Bool) (ss : Nat → Nat) (ns : Nat → Nat) (li : Nat) (hnum : num ≤ 200) (hss : ∀ j, j < num → ss j < 65536) : ga_M l G yX3_logsUnlike cX3_logsUnlike 4 (Option.some Jvm.ClassFile.FieldType.int) 1 24 0 0 [.ref aW, .int (nI li)] [(aW, .inr (3, [.ref aS, .ref aQ, .int (nI num), .int (bI tm), .int (bI sl)])), (aS, .inl (G.2.2, 200, .inl (aN ss))), (aQ, .inl (G.2.2, 200, .inl (aN ns)))] (fun r w => r = some (.int (nI (hpsN ss li num))) ∧ w = [(aW, .inr (3, [.ref aS, .ref aQ, .int (nI num), .int (bI tm), .int (bI sl)])), (aS, .inl (G.2.2, 200, .inl (aN ss))), (aQ, .inl (G.2.2, 200, .inl (aN ns)))]) := by
  refine ga_M.intro (by decide) (Nat.le_of_ble_eq_true rfl) (fun p_ e_ s_ m_ below meth c_ A_ H_ locs_ ls cx hr hlk hnm hA hK hl w => ?_)
  have hx := cx.1
  have hb := cx.2.1
  have hl : lv_has ls 4 [(0, .ref aW), (1, .int (nI li))] := hl
  refine lv_iconst (v := nI 0) hx hb dX3_logsUnlike_0 (by decide) ?_
  refine lv_istore_n (lv' := [(2, .int (nI 0)), (0, .ref aW), (1, .int (nI li))]) hx hb dX3_logsUnlike_1 rfl hl (by decide) rfl (fun ls hl => ?_)
  refine lv_iconst (v := nI 0) hx hb dX3_logsUnlike_2 (by decide) ?_
  refine lv_istore_n (lv' := [(3, .int (nI 0)), (2, .int (nI 0)), (0, .ref aW), (1, .int (nI li))]) hx hb dX3_logsUnlike_3 rfl hl (by decide) rfl (fun ls hl => ?_)
  have loop4 : ∀ (n_ : Nat) (i : Nat) (t : Nat) (hi : i ≤ num) (ht : t = (fl (fun i => decide (lfst (like ss li i) i = i)) i).length) (hm : 200 - i < n_) (H_ : Heap) (locs_ : List Loc) (ls : Array Slot) (hl : lv_has ls 4 [(3, .int (nI i)), (2, .int (nI t)), (0, .ref aW), (1, .int (nI li))]) (w : ga_wd G A_ s_ H_ locs_ [(aW, .inr (3, [.ref aS, .ref aQ, .int (nI num), .int (bI tm), .int (bI sl)])), (aS, .inl (G.2.2, 200, .inl (aN ss))), (aQ, .inl (G.2.2, 200, .inl (aN ns)))]), W p_ l e_ { frames := 1, cells := 0, slots := 0, locals := 24 } s_ m_ [.ref aW, .int (nI li)].toArray below meth c_ H_ locs_ (0) (0) (MQ below (ga_Q G A_ (fun r w => r = some (.int (nI (hpsN ss li num))) ∧ w = [(aW, .inr (3, [.ref aS, .ref aQ, .int (nI num), .int (bI tm), .int (bI sl)])), (aS, .inl (G.2.2, 200, .inl (aN ss))), (aQ, .inl (G.2.2, 200, .inl (aN ns)))])) [.ref aW, .int (nI li)].toArray s_ 0 0 A_) (F0 m_ 4 ls []) := by
    intro n_
    induction n_ with
    | zero => intro i t hi ht hm; exact absurd hm (Nat.not_lt_zero _)
    | succ n_ ih4 =>
      intro i t hi ht hm4 H_ locs_ ls hl w
      refine lv_iload_n hx hb dX3_logsUnlike_4 rfl (lv_at hl 0 rfl) ?_
      refine lv_aload_n hx hb dX3_logsUnlike_5 rfl (lv_at hl 2 rfl) ?_
      refine gf_X3_22 cx hK w 0 rfl rfl dX3_logsUnlike_6 ?_
      refine r_icmp_ge hx hb dX3_logsUnlike_9 (tgt := 31) (by decide) (by omega) (by omega) (fun c9 => ?_) (fun c9 => ?_)
      · refine lv_iload_n hx hb dX3_logsUnlike_31 rfl (lv_at hl 1 rfl) ?_
        exact ga_iret cx hr hlk w dX3_logsUnlike_32 ⟨Nat.le_refl _, Nat.le_refl _⟩ (⟨ga_rv (by rw [ht, show i = num by omega]; rfl), rfl⟩)
      · refine lv_aload_n hx hb dX3_logsUnlike_12 rfl (lv_at hl 2 rfl) ?_
        refine lv_iload_n hx hb dX3_logsUnlike_13 rfl (lv_at hl 0 rfl) ?_
        refine lv_iload_n hx hb dX3_logsUnlike_14 rfl (lv_at hl 3 rfl) ?_
        refine ga_callV (rest := []) (wr := []) cx hK hA w hl lk_X3_51 (c_X3_firstLike l G aW aS aQ num tm sl ss ns i li (by omega) (fun j hj => hss j (by omega))) ⟨by decide, by decide⟩ [0, 1, 2] [] rfl rfl (by decide) (by decide) (by decide) 0 3 rfl rfl rfl rfl (Nat.le_of_ble_eq_true rfl) dX3_logsUnlike_15 ⟨Nat.le_refl _, Nat.le_refl _⟩ rfl (fun r w1_ H_ locs_ hp w => ?_)
        obtain ⟨rfl, rfl⟩ := hp
        have w : ga_wd G A_ s_ H_ locs_ [(aW, .inr (3, [.ref aS, .ref aQ, .int (nI num), .int (bI tm), .int (bI sl)])), (aS, .inl (G.2.2, 200, .inl (aN ss))), (aQ, .inl (G.2.2, 200, .inl (aN ns)))] := ga_perm w [0, 1, 2] (by decide) rfl
        refine W.eq (g2 := F0 m_ 18 ls [.int (nI (lfst (like ss li i) i))]) rfl ?_
        refine lv_iload_n hx hb dX3_logsUnlike_18 rfl (lv_at hl 0 rfl) ?_
        refine r_icmp_ne hx hb dX3_logsUnlike_19 (tgt := 25) (by decide) (by have := (lfst_sp (like ss li i) i).1; omega) (by omega) (fun c19 => ?_) (fun c19 => ?_)
        · refine r_iinc (d := 1) (k := 0) (lv' := [(3, .int (nI (i + 1))), (2, .int (nI t)), (0, .ref aW), (1, .int (nI li))]) hx hb dX3_logsUnlike_25 hl rfl (by decide) (by decide) rfl (fun ls hl => ?_)
          refine lv_goto (tgt := 4) hx hb dX3_logsUnlike_28 (by decide) ?_
          exact ih4 (i + 1) t (by omega) (by rw [fl_f (P := fun i => decide (lfst (like ss li i) i = i)) (by simp [c19])]; exact ht) (by omega) _ _ _ (lv_sub hl [0, 1, 2, 3] rfl) w
        · refine r_iinc (d := 1) (k := 1) (lv' := [(2, .int (nI (t + 1))), (3, .int (nI i)), (0, .ref aW), (1, .int (nI li))]) hx hb dX3_logsUnlike_22 hl rfl (by decide) (by decide) rfl (fun ls hl => ?_)
          refine r_iinc (d := 1) (k := 1) (lv' := [(3, .int (nI (i + 1))), (2, .int (nI (t + 1))), (0, .ref aW), (1, .int (nI li))]) hx hb dX3_logsUnlike_25 hl rfl (by decide) (by decide) rfl (fun ls hl => ?_)
          refine lv_goto (tgt := 4) hx hb dX3_logsUnlike_28 (by decide) ?_
          exact ih4 (i + 1) (t + 1) (by omega) (by rw [fl_t (P := fun i => decide (lfst (like ss li i) i = i)) (by simp [c19]), List.length_append, ← ht]; rfl) (by omega) _ _ _ (lv_sub hl [0, 1, 2, 3] rfl) w
  exact loop4 _ 0 0 (by omega) (rfl) (Nat.lt_succ_self _) _ _ _ (lv_sub hl [0, 1, 2, 3] rfl) w
end
section
/-! PURE for the ways, the lines that part alone -/
/-- all ways from v with f steps left, p behind -/
def wlp (k : Nat) (fr to : Nat → Nat) (g : Nat) : Nat → Nat → List Nat → List (List Nat)
  | 0, _, _ => []
  | f + 1, v, p => if v = g then [p] else (List.range k).flatMap (fun e => if fr e = v then wlp k fr to g f (to e) (p ++ [e]) else [])
def wlq (k : Nat) (fr to : Nat → Nat) (g f v : Nat) (p : List Nat) (e : Nat) : List (List Nat) := (List.range e).flatMap (fun e => if fr e = v then wlp k fr to g f (to e) (p ++ [e]) else [])
theorem wlq_0 {k : Nat} {fr to : Nat → Nat} {g f v : Nat} {p : List Nat} : wlq k fr to g f v p 0 = [] := rfl
theorem wlq_t {k : Nat} {fr to : Nat → Nat} {g f v : Nat} {p : List Nat} {e : Nat} (h : fr e = v) : wlq k fr to g f v p (e + 1) = wlq k fr to g f v p e ++ wlp k fr to g f (to e) (p ++ [e]) := by
  unfold wlq; rw [List.range_succ, List.flatMap_append]; simp [h]
theorem wlq_f {k : Nat} {fr to : Nat → Nat} {g f v : Nat} {p : List Nat} {e : Nat} (h : ¬ fr e = v) : wlq k fr to g f v p (e + 1) = wlq k fr to g f v p e := by
  unfold wlq; rw [List.range_succ, List.flatMap_append]; simp [h]
theorem wlp_g {k : Nat} {fr to : Nat → Nat} {g f v : Nat} {p : List Nat} (h : v = g) : wlp k fr to g (f + 1) v p = [p] := by rw [wlp, if_pos h]
theorem wlp_q {k : Nat} {fr to : Nat → Nat} {g f v : Nat} {p : List Nat} (h : ¬ v = g) : wlp k fr to g (f + 1) v p = wlq k fr to g f v p k := by rw [wlp, if_neg h]; rfl
/-! lines that part two ways alone -/
def SPs (ss : Nat → Nat) (li num rr : Nat) : Prop := rr < 65536 ∧ ∀ e, rr.testBit e = true → ∃ i j, i < j ∧ j < num ∧ (ss i ^^^ ss j) &&& li = 1 <<< e
def SPc (ss : Nat → Nat) (li num rr i j : Nat) : Prop := ∀ a b e, a < b → b < num → (a < i ∨ (a = i ∧ b < j)) → (ss a ^^^ ss b) &&& li = 1 <<< e → rr.testBit e = true
theorem pop_one {x : Nat} (hx : x < 65536) : pop x = 1 ↔ ∃ e, e < 16 ∧ x = 1 <<< e := by
  constructor
  · intro h
    have h1 : (fl (Nat.testBit x) 16).length = 1 := h
    obtain ⟨e, he⟩ := List.length_eq_one_iff.mp h1
    have hm : e ∈ fl (Nat.testBit x) 16 := by rw [he]; exact List.mem_singleton.mpr rfl
    obtain ⟨e1, e2⟩ := fl_mem.mp hm
    refine ⟨e, e1, Nat.eq_of_testBit_eq (fun i => ?_)⟩
    rw [tb_one]
    by_cases hi : e = i
    · subst hi; simp [e2]
    · cases hb : x.testBit i
      · simp [hi]
      · have h2 : i ∈ fl (Nat.testBit x) 16 := fl_mem.mpr ⟨tb_big (k := 16) hx hb, hb⟩
        rw [he, List.mem_singleton] at h2
        exact absurd h2.symm hi
  · rintro ⟨e, he, rfl⟩
    have h2 : fl (Nat.testBit (1 <<< e)) 16 = [e] := by
      have h3 : ∀ k, fl (Nat.testBit (1 <<< e)) k = if e < k then [e] else [] := fun k => by
        induction k with
        | zero => simp [fl_0]
        | succ k ih =>
          by_cases h : e = k
          · rw [fl_t (by rw [tb_one]; simp [h]), ih]; simp [h]
          · rw [fl_f (by rw [tb_one]; simp [h]), ih]
            by_cases h4 : e < k
            · simp [h4, Nat.lt_succ_of_lt h4]
            · simp [h4]; omega
      rw [h3, if_pos he]
    unfold pop; rw [h2]; rfl
theorem SPs_0 (ss : Nat → Nat) (li num : Nat) : SPs ss li num 0 := ⟨by decide, fun e h => by simp at h⟩
theorem SPc_0 (ss : Nat → Nat) (li num : Nat) : SPc ss li num 0 0 1 := fun a b e h1 _ h3 _ => by omega
theorem SPc_row {ss : Nat → Nat} {li num rr i j : Nat} (h : SPc ss li num rr i j) (hj : num ≤ j) : SPc ss li num rr (i + 1) (i + 1 + 1) := fun a b e h1 h2 h3 h4 => h a b e h1 h2 (by omega) h4
theorem SPc_no {ss : Nat → Nat} {li num rr i j : Nat} (h : SPc ss li num rr i j) (hx : (ss i ^^^ ss j) &&& li < 65536) (hp : ¬ pop ((ss i ^^^ ss j) &&& li) = 1) : SPc ss li num rr i (j + 1) := fun a b e h1 h2 h3 h4 => by
  by_cases hc : a = i ∧ b = j
  · obtain ⟨rfl, rfl⟩ := hc
    have h5 : e < 16 := tb_big (k := 16) hx (by rw [h4, tb_one]; simp)
    exact absurd ((pop_one hx).mpr ⟨e, h5, h4⟩) hp
  · exact h a b e h1 h2 (by omega) h4
theorem SPc_yes {ss : Nat → Nat} {li num rr i j : Nat} (h : SPc ss li num rr i j) : SPc ss li num (rr ||| ((ss i ^^^ ss j) &&& li)) i (j + 1) := fun a b e h1 h2 h3 h4 => by
  rw [Nat.testBit_or, Bool.or_eq_true]
  by_cases hc : a = i ∧ b = j
  · obtain ⟨rfl, rfl⟩ := hc
    exact Or.inr (by rw [h4, tb_one]; simp)
  · exact Or.inl (h a b e h1 h2 (by omega) h4)
theorem SPs_yes {ss : Nat → Nat} {li num rr i j : Nat} (h : SPs ss li num rr) (hij : i < j) (hj : j < num) (hx : (ss i ^^^ ss j) &&& li < 65536) (hp : pop ((ss i ^^^ ss j) &&& li) = 1) : SPs ss li num (rr ||| ((ss i ^^^ ss j) &&& li)) := by
  refine ⟨or_lt 16 h.1 hx, fun e he => ?_⟩
  rw [Nat.testBit_or, Bool.or_eq_true] at he
  rcases he with he | he
  · exact h.2 e he
  · obtain ⟨e2, _, h2⟩ := (pop_one hx).mp hp
    rw [h2, tb_one] at he
    have : e2 = e := by simpa using he
    subst this
    exact ⟨i, j, hij, hj, h2⟩
def SPx (ss : Nat → Nat) (li num rr : Nat) : Prop := rr < 65536 ∧ ∀ e, rr.testBit e = true ↔ ∃ i j, i < j ∧ j < num ∧ (ss i ^^^ ss j) &&& li = 1 <<< e
theorem SPx_end {ss : Nat → Nat} {li num rr i j : Nat} (h : SPs ss li num rr) (hc : SPc ss li num rr i j) (hi : num ≤ i) : SPx ss li num rr :=
  ⟨h.1, fun e => ⟨h.2 e, fun ⟨a, b, h1, h2, h3⟩ => hc a b e h1 h2 (by omega) h3⟩⟩
theorem SPx_all {ss : Nat → Nat} {li num rr : Nat} (h : SPs ss li num rr) (he : rr = li) : SPx ss li num rr :=
  ⟨h.1, fun e => ⟨h.2 e, fun ⟨a, b, h1, h2, h3⟩ => by
    have h4 : ((ss a ^^^ ss b) &&& li).testBit e = true := by rw [h3, tb_one]; simp
    rw [Nat.testBit_and, Bool.and_eq_true] at h4
    rw [he]; exact h4.2⟩⟩
/-! the first two ways that a line alone parts -/
def fpN (ss : Nat → Nat) (li ln num i j : Nat) : Prop := ∀ a b, a < b → b < num → (a < i ∨ (a = i ∧ b < j)) → ¬ (ss a ^^^ ss b) &&& li = ln
def FPP (ss : Nat → Nat) (li ln num : Nat) (fb : Bool) (i j : Nat) : Prop := if fb then i < j ∧ j < num ∧ (ss i ^^^ ss j) &&& li = ln ∧ fpN ss li ln num i j else ∀ a b, a < b → b < num → ¬ (ss a ^^^ ss b) &&& li = ln
theorem fpN_0 (ss : Nat → Nat) (li ln num : Nat) : fpN ss li ln num 0 1 := fun a b h1 _ h3 => by omega
theorem fpN_row {ss : Nat → Nat} {li ln num i j : Nat} (h : fpN ss li ln num i j) (hj : num ≤ j) : fpN ss li ln num (i + 1) (i + 1 + 1) := fun a b h1 h2 h3 => h a b h1 h2 (by omega)
theorem fpN_no {ss : Nat → Nat} {li ln num i j : Nat} (h : fpN ss li ln num i j) (hp : ¬ (ss i ^^^ ss j) &&& li = ln) : fpN ss li ln num i (j + 1) := fun a b h1 h2 h3 => by
  by_cases hc : a = i ∧ b = j
  · obtain ⟨rfl, rfl⟩ := hc; exact hp
  · exact h a b h1 h2 (by omega)
end
section
set_option maxHeartbeats 4000000 in
set_option maxRecDepth 100000 in
theorem c_X3_soleParters (l : Launch) (G : ga_G) (aW : Nat) (aS : Nat) (aQ : Nat) (num : Nat) (tm : Bool) (sl : Bool) (ss : Nat → Nat) (ns : Nat → Nat) (li : Nat) (hnum : num ≤ 200) (hli : li < 65536) (hss : ∀ j, j < num → ss j < 65536) : ga_M l G yX3_soleParters cX3_soleParters 6 (Option.some Jvm.ClassFile.FieldType.int) 1 20 0 0 [.ref aW, .int (nI li)] [(aW, .inr (3, [.ref aS, .ref aQ, .int (nI num), .int (bI tm), .int (bI sl)])), (aS, .inl (G.2.2, 200, .inl (aN ss))), (aQ, .inl (G.2.2, 200, .inl (aN ns)))] (fun r w => ∃ (rr : Nat), (SPx ss li num rr) ∧ r = some (.int (nI rr)) ∧ w = [(aW, .inr (3, [.ref aS, .ref aQ, .int (nI num), .int (bI tm), .int (bI sl)])), (aS, .inl (G.2.2, 200, .inl (aN ss))), (aQ, .inl (G.2.2, 200, .inl (aN ns)))]) := by
  refine ga_M.intro (by decide) (Nat.le_of_ble_eq_true rfl) (fun p_ e_ s_ m_ below meth c_ A_ H_ locs_ ls cx hr hlk hnm hA hK hl w => ?_)
  have hx := cx.1
  have hb := cx.2.1
  have hl : lv_has ls 6 [(0, .ref aW), (1, .int (nI li))] := hl
  refine lv_iconst (v := nI 0) hx hb dX3_soleParters_0 (by decide) ?_
  refine lv_istore_n (lv' := [(2, .int (nI 0)), (0, .ref aW), (1, .int (nI li))]) hx hb dX3_soleParters_1 rfl hl (by decide) rfl (fun ls hl => ?_)
  refine lv_iconst (v := nI 0) hx hb dX3_soleParters_2 (by decide) ?_
  refine lv_istore_n (lv' := [(3, .int (nI 0)), (2, .int (nI 0)), (0, .ref aW), (1, .int (nI li))]) hx hb dX3_soleParters_3 rfl hl (by decide) rfl (fun ls hl => ?_)
  have loop4 : ∀ (n_ : Nat) (i : Nat) (r2 : Nat) (hil : i ≤ num) (hsp : SPs ss li num r2) (hsc : SPc ss li num r2 i (i + 1)) (hm : num - i < n_) (H_ : Heap) (locs_ : List Loc) (ls : Array Slot) (hl : lv_has ls 6 [(3, .int (nI i)), (2, .int (nI r2)), (0, .ref aW), (1, .int (nI li))]) (w : ga_wd G A_ s_ H_ locs_ [(aW, .inr (3, [.ref aS, .ref aQ, .int (nI num), .int (bI tm), .int (bI sl)])), (aS, .inl (G.2.2, 200, .inl (aN ss))), (aQ, .inl (G.2.2, 200, .inl (aN ns)))]), W p_ l e_ { frames := 1, cells := 0, slots := 0, locals := 20 } s_ m_ [.ref aW, .int (nI li)].toArray below meth c_ H_ locs_ (0) (0) (MQ below (ga_Q G A_ (fun r w => ∃ (rr : Nat), (SPx ss li num rr) ∧ r = some (.int (nI rr)) ∧ w = [(aW, .inr (3, [.ref aS, .ref aQ, .int (nI num), .int (bI tm), .int (bI sl)])), (aS, .inl (G.2.2, 200, .inl (aN ss))), (aQ, .inl (G.2.2, 200, .inl (aN ns)))])) [.ref aW, .int (nI li)].toArray s_ 0 0 A_) (F0 m_ 4 ls []) := by
    intro n_
    induction n_ with
    | zero => intro i r2 hil hsp hsc hm; exact absurd hm (Nat.not_lt_zero _)
    | succ n_ ih4 =>
      intro i r2 hil hsp hsc hm4 H_ locs_ ls hl w
      refine lv_iload_n hx hb dX3_soleParters_4 rfl (lv_at hl 0 rfl) ?_
      refine lv_aload_n hx hb dX3_soleParters_5 rfl (lv_at hl 2 rfl) ?_
      refine gf_X3_22 cx hK w 0 rfl rfl dX3_soleParters_6 ?_
      refine r_icmp_ge hx hb dX3_soleParters_9 (tgt := 75) (by decide) (by omega) (by omega) (fun c9 => ?_) (fun c9 => ?_)
      · refine lv_iload_n hx hb dX3_soleParters_75 rfl (lv_at hl 1 rfl) ?_
        exact ga_iret cx hr hlk w dX3_soleParters_76 ⟨Nat.le_refl _, Nat.le_refl _⟩ (⟨r2, SPx_end hsp hsc (by omega), rfl, rfl⟩)
      · refine lv_iload_n hx hb dX3_soleParters_12 rfl (lv_at hl 1 rfl) ?_
        refine lv_iload_n hx hb dX3_soleParters_13 rfl (lv_at hl 3 rfl) ?_
        refine r_icmp_eq hx hb dX3_soleParters_14 (tgt := 75) (by decide) (by have := hsp.1; omega) (by omega) (fun c14 => ?_) (fun c14 => ?_)
        · refine lv_iload_n hx hb dX3_soleParters_75 rfl (lv_at hl 1 rfl) ?_
          exact ga_iret cx hr hlk w dX3_soleParters_76 ⟨Nat.le_refl _, Nat.le_refl _⟩ (⟨r2, SPx_all hsp c14, rfl, rfl⟩)
        · refine lv_iload_n hx hb dX3_soleParters_17 rfl (lv_at hl 0 rfl) ?_
          refine lv_iconst (v := nI 1) hx hb dX3_soleParters_18 (by decide) ?_
          refine r_iadd hx hb dX3_soleParters_19 ?_
          refine lv_istore (lv' := [(4, .int (nI (i + 1))), (3, .int (nI i)), (2, .int (nI r2)), (0, .ref aW), (1, .int (nI li))]) hx hb dX3_soleParters_20 hl (by decide) rfl (fun ls hl => ?_)
          have loop22 : ∀ (n_ : Nat) (j : Nat) (r3 : Nat) (hij : i < j) (hjl : j ≤ num) (hsp2 : SPs ss li num r3) (hsc2 : SPc ss li num r3 i j) (hm : num - j < n_) (H_ : Heap) (locs_ : List Loc) (ls : Array Slot) (hl : lv_has ls 6 [(4, .int (nI j)), (3, .int (nI i)), (2, .int (nI r3)), (0, .ref aW), (1, .int (nI li))]) (w : ga_wd G A_ s_ H_ locs_ [(aW, .inr (3, [.ref aS, .ref aQ, .int (nI num), .int (bI tm), .int (bI sl)])), (aS, .inl (G.2.2, 200, .inl (aN ss))), (aQ, .inl (G.2.2, 200, .inl (aN ns)))]), W p_ l e_ { frames := 1, cells := 0, slots := 0, locals := 20 } s_ m_ [.ref aW, .int (nI li)].toArray below meth c_ H_ locs_ (0) (0) (MQ below (ga_Q G A_ (fun r w => ∃ (rr : Nat), (SPx ss li num rr) ∧ r = some (.int (nI rr)) ∧ w = [(aW, .inr (3, [.ref aS, .ref aQ, .int (nI num), .int (bI tm), .int (bI sl)])), (aS, .inl (G.2.2, 200, .inl (aN ss))), (aQ, .inl (G.2.2, 200, .inl (aN ns)))])) [.ref aW, .int (nI li)].toArray s_ 0 0 A_) (F0 m_ 22 ls []) := by
            intro n_
            induction n_ with
            | zero => intro j r3 hij hjl hsp2 hsc2 hm; exact absurd hm (Nat.not_lt_zero _)
            | succ n_ ih22 =>
              intro j r3 hij hjl hsp2 hsc2 hm22 H_ locs_ ls hl w
              refine lv_iload hx hb dX3_soleParters_22 (lv_at hl 0 rfl) ?_
              refine lv_aload_n hx hb dX3_soleParters_24 rfl (lv_at hl 3 rfl) ?_
              refine gf_X3_22 cx hK w 0 rfl rfl dX3_soleParters_25 ?_
              refine r_icmp_ge hx hb dX3_soleParters_28 (tgt := 69) (by decide) (by omega) (by omega) (fun c28 => ?_) (fun c28 => ?_)
              · refine r_iinc (d := 1) (k := 1) (lv' := [(3, .int (nI (i + 1))), (4, .int (nI j)), (2, .int (nI r3)), (0, .ref aW), (1, .int (nI li))]) hx hb dX3_soleParters_69 hl rfl (by decide) (by decide) rfl (fun ls hl => ?_)
                refine lv_goto (tgt := 4) hx hb dX3_soleParters_72 (by decide) ?_
                exact ih4 (i + 1) r3 (by omega) (hsp2) (SPc_row hsc2 (by omega)) (by omega) _ _ _ (lv_sub hl [0, 2, 3, 4] rfl) w
              · refine lv_aload_n hx hb dX3_soleParters_31 rfl (lv_at hl 3 rfl) ?_
                refine gf_X3_9 cx hK w 0 rfl rfl dX3_soleParters_32 ?_
                refine lv_iload_n hx hb dX3_soleParters_35 rfl (lv_at hl 1 rfl) ?_
                refine r_ialdN hx hb hK w 1 rfl dX3_soleParters_36 (by omega) (by decide) ?_
                refine lv_aload_n hx hb dX3_soleParters_37 rfl (lv_at hl 3 rfl) ?_
                refine gf_X3_9 cx hK w 0 rfl rfl dX3_soleParters_38 ?_
                refine lv_iload hx hb dX3_soleParters_41 (lv_at hl 0 rfl) ?_
                refine r_ialdN hx hb hK w 1 rfl dX3_soleParters_43 (by omega) (by decide) ?_
                refine r_ixor hx hb dX3_soleParters_44 ?_
                refine lv_iload_n hx hb dX3_soleParters_45 rfl (lv_at hl 4 rfl) ?_
                refine r_iand hx hb dX3_soleParters_46 ?_
                refine lv_istore (lv' := [(5, .int (nI (((ss i) ^^^ (ss j)) &&& li))), (4, .int (nI j)), (3, .int (nI i)), (2, .int (nI r3)), (0, .ref aW), (1, .int (nI li))]) hx hb dX3_soleParters_47 hl (by decide) rfl (fun ls hl => ?_)
                refine lv_iload hx hb dX3_soleParters_49 (lv_at hl 0 rfl) ?_
                refine ga_callS (rest := []) (wr := [(aW, .inr (3, [.ref aS, .ref aQ, .int (nI num), .int (bI tm), .int (bI sl)])), (aS, .inl (G.2.2, 200, .inl (aN ss))), (aQ, .inl (G.2.2, 200, .inl (aN ns)))]) cx hK hA w hl lk_X3_55 (c_J6_bitCount_0f7a4 l G (((ss i) ^^^ (ss j)) &&& li) (andL_lt (xor_lt 16 (hss i (by omega)) (hss j (by omega))))) ⟨by decide, by decide⟩ [] [0, 1, 2] rfl rfl (by decide) (by decide) (by decide) rfl (Nat.le_of_ble_eq_true rfl) dX3_soleParters_51 ⟨Nat.le_refl _, Nat.le_refl _⟩ rfl (fun r w1_ H_ locs_ hp w => ?_)
                obtain ⟨rfl, rfl⟩ := hp
                have w : ga_wd G A_ s_ H_ locs_ [(aW, .inr (3, [.ref aS, .ref aQ, .int (nI num), .int (bI tm), .int (bI sl)])), (aS, .inl (G.2.2, 200, .inl (aN ss))), (aQ, .inl (G.2.2, 200, .inl (aN ns)))] := ga_perm w [0, 1, 2] (by decide) rfl
                refine W.eq (g2 := F0 m_ 54 ls [.int (nI (pop (((ss i) ^^^ (ss j)) &&& li)))]) rfl ?_
                refine lv_iconst (v := nI 1) hx hb dX3_soleParters_54 (by decide) ?_
                refine r_icmp_ne hx hb dX3_soleParters_55 (tgt := 63) (by decide) (by have := fl_le (Nat.testBit (((ss i) ^^^ (ss j)) &&& li)) 16; unfold pop; omega) (by decide) (fun c55 => ?_) (fun c55 => ?_)
                · refine r_iinc (d := 1) (k := 1) (lv' := [(4, .int (nI (j + 1))), (5, .int (nI (((ss i) ^^^ (ss j)) &&& li))), (3, .int (nI i)), (2, .int (nI r3)), (0, .ref aW), (1, .int (nI li))]) hx hb dX3_soleParters_63 hl rfl (by decide) (by decide) rfl (fun ls hl => ?_)
                  refine lv_goto (tgt := 22) hx hb dX3_soleParters_66 (by decide) ?_
                  exact ih22 (j + 1) r3 (by omega) (by omega) (hsp2) (SPc_no hsc2 (andL_lt (xor_lt 16 (hss i (by omega)) (hss j (by omega)))) c55) (by omega) _ _ _ (lv_sub hl [0, 2, 3, 4, 5] rfl) w
                · refine lv_iload_n hx hb dX3_soleParters_58 rfl (lv_at hl 3 rfl) ?_
                  refine lv_iload hx hb dX3_soleParters_59 (lv_at hl 0 rfl) ?_
                  refine r_ior hx hb dX3_soleParters_61 ?_
                  refine lv_istore_n (lv' := [(2, .int (nI (r3 ||| (((ss i) ^^^ (ss j)) &&& li)))), (5, .int (nI (((ss i) ^^^ (ss j)) &&& li))), (4, .int (nI j)), (3, .int (nI i)), (0, .ref aW), (1, .int (nI li))]) hx hb dX3_soleParters_62 rfl hl (by decide) rfl (fun ls hl => ?_)
                  refine r_iinc (d := 1) (k := 2) (lv' := [(4, .int (nI (j + 1))), (2, .int (nI (r3 ||| (((ss i) ^^^ (ss j)) &&& li)))), (5, .int (nI (((ss i) ^^^ (ss j)) &&& li))), (3, .int (nI i)), (0, .ref aW), (1, .int (nI li))]) hx hb dX3_soleParters_63 hl rfl (by decide) (by decide) rfl (fun ls hl => ?_)
                  refine lv_goto (tgt := 22) hx hb dX3_soleParters_66 (by decide) ?_
                  exact ih22 (j + 1) (r3 ||| (((ss i) ^^^ (ss j)) &&& li)) (by omega) (by omega) (SPs_yes hsp2 hij (by omega) (andL_lt (xor_lt 16 (hss i (by omega)) (hss j (by omega)))) c55) (SPc_yes hsc2) (by omega) _ _ _ (lv_sub hl [0, 3, 1, 4, 5] rfl) w
          exact loop22 _ (i + 1) r2 (by omega) (by omega) (hsp) (hsc) (Nat.lt_succ_self _) _ _ _ (lv_sub hl [0, 1, 2, 3, 4] rfl) w
  exact loop4 _ 0 0 (by omega) (SPs_0 _ _ _) (SPc_0 _ _ _) (Nat.lt_succ_self _) _ _ _ (lv_sub hl [0, 1, 2, 3] rfl) w

set_option maxHeartbeats 4000000 in
set_option maxRecDepth 100000 in
theorem c_X3_firstPairPartedBy (l : Launch) (G : ga_G) (aW : Nat) (aS : Nat) (aQ : Nat) (num : Nat) (tm : Bool) (sl : Bool) (ss : Nat → Nat) (ns : Nat → Nat) (ln : Nat) (li : Nat) (hnum : num ≤ 200) (hln : ln < 65536) (hss : ∀ j, j < num → ss j < 65536) : ga_M l G yX3_firstPairPartedBy cX3_firstPairPartedBy 5 (Option.some Jvm.ClassFile.FieldType.int) 0 0 0 0 [.ref aW, .int (nI ln), .int (nI li)] [(aW, .inr (3, [.ref aS, .ref aQ, .int (nI num), .int (bI tm), .int (bI sl)])), (aS, .inl (G.2.2, 200, .inl (aN ss))), (aQ, .inl (G.2.2, 200, .inl (aN ns)))] (fun r w => ∃ (fb : Bool), ∃ (fi : Nat), ∃ (fj : Nat), (FPP ss li ln num fb fi fj) ∧ r = some (.int (if fb then nI (fi * 200 + fj) else -1)) ∧ w = [(aW, .inr (3, [.ref aS, .ref aQ, .int (nI num), .int (bI tm), .int (bI sl)])), (aS, .inl (G.2.2, 200, .inl (aN ss))), (aQ, .inl (G.2.2, 200, .inl (aN ns)))]) := by
  refine ga_M.intro (by decide) (Nat.le_of_ble_eq_true rfl) (fun p_ e_ s_ m_ below meth c_ A_ H_ locs_ ls cx hr hlk hnm hA hK hl w => ?_)
  have hx := cx.1
  have hb := cx.2.1
  have hl : lv_has ls 5 [(0, .ref aW), (1, .int (nI ln)), (2, .int (nI li))] := hl
  refine lv_iconst (v := nI 0) hx hb dX3_firstPairPartedBy_0 (by decide) ?_
  refine lv_istore_n (lv' := [(3, .int (nI 0)), (0, .ref aW), (1, .int (nI ln)), (2, .int (nI li))]) hx hb dX3_firstPairPartedBy_1 rfl hl (by decide) rfl (fun ls hl => ?_)
  have loop2 : ∀ (n_ : Nat) (i : Nat) (hil : i ≤ num) (hsc : fpN ss li ln num i (i + 1)) (hm : num - i < n_) (H_ : Heap) (locs_ : List Loc) (ls : Array Slot) (hl : lv_has ls 5 [(3, .int (nI i)), (0, .ref aW), (1, .int (nI ln)), (2, .int (nI li))]) (w : ga_wd G A_ s_ H_ locs_ [(aW, .inr (3, [.ref aS, .ref aQ, .int (nI num), .int (bI tm), .int (bI sl)])), (aS, .inl (G.2.2, 200, .inl (aN ss))), (aQ, .inl (G.2.2, 200, .inl (aN ns)))]), W p_ l e_ { frames := 0, cells := 0, slots := 0, locals := 0 } s_ m_ [.ref aW, .int (nI ln), .int (nI li)].toArray below meth c_ H_ locs_ (0) (0) (MQ below (ga_Q G A_ (fun r w => ∃ (fb : Bool), ∃ (fi : Nat), ∃ (fj : Nat), (FPP ss li ln num fb fi fj) ∧ r = some (.int (if fb then nI (fi * 200 + fj) else -1)) ∧ w = [(aW, .inr (3, [.ref aS, .ref aQ, .int (nI num), .int (bI tm), .int (bI sl)])), (aS, .inl (G.2.2, 200, .inl (aN ss))), (aQ, .inl (G.2.2, 200, .inl (aN ns)))])) [.ref aW, .int (nI ln), .int (nI li)].toArray s_ 0 0 A_) (F0 m_ 2 ls []) := by
    intro n_
    induction n_ with
    | zero => intro i hil hsc hm; exact absurd hm (Nat.not_lt_zero _)
    | succ n_ ih2 =>
      intro i hil hsc hm2 H_ locs_ ls hl w
      refine lv_iload_n hx hb dX3_firstPairPartedBy_2 rfl (lv_at hl 0 rfl) ?_
      refine lv_aload_n hx hb dX3_firstPairPartedBy_3 rfl (lv_at hl 1 rfl) ?_
      refine gf_X3_22 cx hK w 0 rfl rfl dX3_firstPairPartedBy_4 ?_
      refine r_icmp_ge hx hb dX3_firstPairPartedBy_7 (tgt := 65) (by decide) (by omega) (by omega) (fun c7 => ?_) (fun c7 => ?_)
      · refine lv_iconst (v := (-1)) hx hb dX3_firstPairPartedBy_65 (by decide) ?_
        exact ga_iret cx hr hlk w dX3_firstPairPartedBy_66 ⟨Nat.le_refl _, Nat.le_refl _⟩ (⟨false, 0, 0, (fun a b h1 h2 => hsc a b h1 h2 (by omega)), rfl, rfl⟩)
      · refine lv_iload_n hx hb dX3_firstPairPartedBy_10 rfl (lv_at hl 0 rfl) ?_
        refine lv_iconst (v := nI 1) hx hb dX3_firstPairPartedBy_11 (by decide) ?_
        refine r_iadd hx hb dX3_firstPairPartedBy_12 ?_
        refine lv_istore (lv' := [(4, .int (nI (i + 1))), (3, .int (nI i)), (0, .ref aW), (1, .int (nI ln)), (2, .int (nI li))]) hx hb dX3_firstPairPartedBy_13 hl (by decide) rfl (fun ls hl => ?_)
        have loop15 : ∀ (n_ : Nat) (j : Nat) (hij : i < j) (hjl : j ≤ num) (hsc2 : fpN ss li ln num i j) (hm : num - j < n_) (H_ : Heap) (locs_ : List Loc) (ls : Array Slot) (hl : lv_has ls 5 [(4, .int (nI j)), (3, .int (nI i)), (0, .ref aW), (1, .int (nI ln)), (2, .int (nI li))]) (w : ga_wd G A_ s_ H_ locs_ [(aW, .inr (3, [.ref aS, .ref aQ, .int (nI num), .int (bI tm), .int (bI sl)])), (aS, .inl (G.2.2, 200, .inl (aN ss))), (aQ, .inl (G.2.2, 200, .inl (aN ns)))]), W p_ l e_ { frames := 0, cells := 0, slots := 0, locals := 0 } s_ m_ [.ref aW, .int (nI ln), .int (nI li)].toArray below meth c_ H_ locs_ (0) (0) (MQ below (ga_Q G A_ (fun r w => ∃ (fb : Bool), ∃ (fi : Nat), ∃ (fj : Nat), (FPP ss li ln num fb fi fj) ∧ r = some (.int (if fb then nI (fi * 200 + fj) else -1)) ∧ w = [(aW, .inr (3, [.ref aS, .ref aQ, .int (nI num), .int (bI tm), .int (bI sl)])), (aS, .inl (G.2.2, 200, .inl (aN ss))), (aQ, .inl (G.2.2, 200, .inl (aN ns)))])) [.ref aW, .int (nI ln), .int (nI li)].toArray s_ 0 0 A_) (F0 m_ 15 ls []) := by
          intro n_
          induction n_ with
          | zero => intro j hij hjl hsc2 hm; exact absurd hm (Nat.not_lt_zero _)
          | succ n_ ih15 =>
            intro j hij hjl hsc2 hm15 H_ locs_ ls hl w
            refine lv_iload hx hb dX3_firstPairPartedBy_15 (lv_at hl 0 rfl) ?_
            refine lv_aload_n hx hb dX3_firstPairPartedBy_17 rfl (lv_at hl 2 rfl) ?_
            refine gf_X3_22 cx hK w 0 rfl rfl dX3_firstPairPartedBy_18 ?_
            refine r_icmp_ge hx hb dX3_firstPairPartedBy_21 (tgt := 59) (by decide) (by omega) (by omega) (fun c21 => ?_) (fun c21 => ?_)
            · refine r_iinc (d := 1) (k := 1) (lv' := [(3, .int (nI (i + 1))), (4, .int (nI j)), (0, .ref aW), (1, .int (nI ln)), (2, .int (nI li))]) hx hb dX3_firstPairPartedBy_59 hl rfl (by decide) (by decide) rfl (fun ls hl => ?_)
              refine lv_goto (tgt := 2) hx hb dX3_firstPairPartedBy_62 (by decide) ?_
              exact ih2 (i + 1) (by omega) (fpN_row hsc2 (by omega)) (by omega) _ _ _ (lv_sub hl [0, 2, 3, 4] rfl) w
            · refine lv_aload_n hx hb dX3_firstPairPartedBy_24 rfl (lv_at hl 2 rfl) ?_
              refine gf_X3_9 cx hK w 0 rfl rfl dX3_firstPairPartedBy_25 ?_
              refine lv_iload_n hx hb dX3_firstPairPartedBy_28 rfl (lv_at hl 1 rfl) ?_
              refine r_ialdN hx hb hK w 1 rfl dX3_firstPairPartedBy_29 (by omega) (by decide) ?_
              refine lv_aload_n hx hb dX3_firstPairPartedBy_30 rfl (lv_at hl 2 rfl) ?_
              refine gf_X3_9 cx hK w 0 rfl rfl dX3_firstPairPartedBy_31 ?_
              refine lv_iload hx hb dX3_firstPairPartedBy_34 (lv_at hl 0 rfl) ?_
              refine r_ialdN hx hb hK w 1 rfl dX3_firstPairPartedBy_36 (by omega) (by decide) ?_
              refine r_ixor hx hb dX3_firstPairPartedBy_37 ?_
              refine lv_iload_n hx hb dX3_firstPairPartedBy_38 rfl (lv_at hl 4 rfl) ?_
              refine r_iand hx hb dX3_firstPairPartedBy_39 ?_
              refine lv_iload_n hx hb dX3_firstPairPartedBy_40 rfl (lv_at hl 3 rfl) ?_
              refine r_icmp_ne hx hb dX3_firstPairPartedBy_41 (tgt := 53) (by decide) (Nat.lt_trans (andL_lt (xor_lt 16 (hss i (by omega)) (hss j (by omega)))) (by decide)) (by omega) (fun c41 => ?_) (fun c41 => ?_)
              · refine r_iinc (d := 1) (k := 0) (lv' := [(4, .int (nI (j + 1))), (3, .int (nI i)), (0, .ref aW), (1, .int (nI ln)), (2, .int (nI li))]) hx hb dX3_firstPairPartedBy_53 hl rfl (by decide) (by decide) rfl (fun ls hl => ?_)
                refine lv_goto (tgt := 15) hx hb dX3_firstPairPartedBy_56 (by decide) ?_
                exact ih15 (j + 1) (by omega) (by omega) (fpN_no hsc2 c41) (by omega) _ _ _ (lv_sub hl [0, 1, 2, 3, 4] rfl) w
              · refine lv_iload_n hx hb dX3_firstPairPartedBy_44 rfl (lv_at hl 1 rfl) ?_
                refine lv_sipush (v := nI 200) hx hb dX3_firstPairPartedBy_45 (by decide) ?_
                refine r_imul hx hb dX3_firstPairPartedBy_48 ?_
                refine lv_iload hx hb dX3_firstPairPartedBy_49 (lv_at hl 0 rfl) ?_
                refine r_iadd hx hb dX3_firstPairPartedBy_51 ?_
                exact ga_iret cx hr hlk w dX3_firstPairPartedBy_52 ⟨Nat.le_refl _, Nat.le_refl _⟩ (⟨true, i, j, ⟨hij, by omega, c41, hsc2⟩, rfl, rfl⟩)
        exact loop15 _ (i + 1) (by omega) (by omega) (hsc) (Nat.lt_succ_self _) _ _ _ (lv_sub hl [0, 1, 2, 3, 4] rfl) w
  exact loop2 _ 0 (by omega) (fpN_0 _ _ _ _) (Nat.lt_succ_self _) _ _ _ (lv_sub hl [0, 1, 2, 3] rfl) w

set_option maxHeartbeats 4000000 in
set_option maxRecDepth 100000 in
theorem c_X3_follow (l : Launch) (G : ga_G) : ∀ (d : Nat) (aW : Nat) (aS : Nat) (aQ : Nat) (num : Nat) (tm : Bool) (sl : Bool) (ss : Nat → Nat) (ns : Nat → Nat) (aP : Nat) (aF : Nat) (aT : Nat) (aC : Nat) (aL : Nat) (n : Nat) (k : Nat) (li : Nat) (fa : Nat) (fr : Nat → Nat) (to : Nat → Nat) (nd : Nat) (dp : Nat) (p : List Nat) (ws : List (List Nat)) (hd : 12 ≤ dp + d) (hd2 : dp ≤ 12) (hn : n ≤ 12) (hn2 : 2 ≤ n) (hk : k ≤ 16) (hfr : ∀ e, e < k → fr e < n ∧ to e < n) (hnd : nd < n) (hR : Rep to ws num tm ss ns), ga_M l G yX3_follow cX3_follow 8 (Option.none : Option Jvm.ClassFile.FieldType) (d + 1) (27 * d + 27) 0 0 [.ref aW, .ref aP, .int (nI nd), .int (nI (bs p)), .int (nI (nb to p)), .int (nI dp)] [(aW, .inr (3, [.ref aS, .ref aQ, .int (nI num), .int (bI tm), .int (bI sl)])), (aS, .inl (G.2.2, 200, .inl (aN ss))), (aQ, .inl (G.2.2, 200, .inl (aN ns))), (aP, .inr (1, [.ref aF, .ref aT, .ref aC, .ref aL, .int (nI n), .int (nI k), .int (nI li), .int (nI fa)])), (aF, .inl (G.2.2, 16, .inl (aN fr))), (aT, .inl (G.2.2, 16, .inl (aN to)))] (fun r w => ∃ (num2 : Nat), ∃ (tm2 : Bool), ∃ (ss2 : Nat → Nat), ∃ (ns2 : Nat → Nat), (Rep to (ws ++ wlp k fr to (n - 1) (12 - dp) nd p) num2 tm2 ss2 ns2) ∧ r = none ∧ w = [(aW, .inr (3, [.ref aS, .ref aQ, .int (nI num2), .int (bI tm2), .int (bI sl)])), (aS, .inl (G.2.2, 200, .inl (aN ss2))), (aQ, .inl (G.2.2, 200, .inl (aN ns2))), (aP, .inr (1, [.ref aF, .ref aT, .ref aC, .ref aL, .int (nI n), .int (nI k), .int (nI li), .int (nI fa)])), (aF, .inl (G.2.2, 16, .inl (aN fr))), (aT, .inl (G.2.2, 16, .inl (aN to)))]) := by
  intro d
  induction d with
  | zero =>
    intro aW aS aQ num tm sl ss ns aP aF aT aC aL n k li fa fr to nd dp p ws hd hd2 hn hn2 hk hfr hnd hR
    refine ga_M.intro (by decide) (Nat.le_of_ble_eq_true rfl) (fun p_ e_ s_ m_ below meth c_ A_ H_ locs_ ls cx hr hlk hnm hA hK hl w => ?_)
    have hx := cx.1
    have hb := cx.2.1
    have hl : lv_has ls 8 [(0, .ref aW), (1, .ref aP), (2, .int (nI nd)), (3, .int (nI (bs p))), (4, .int (nI (nb to p))), (5, .int (nI dp))] := hl
    refine lv_iload hx hb dX3_follow_0 (lv_at hl 5 rfl) ?_
    refine lv_bipush (v := nI 12) hx hb dX3_follow_2 (by decide) ?_
    refine r_icmp_ge hx hb dX3_follow_4 (tgt := 14) (by decide) (by omega) (by omega) (fun c4 => ?_) (fun c4 => ?_)
    · exact ga_vret cx hr hlk w dX3_follow_14 ⟨Nat.le_refl _, Nat.le_refl _⟩ (⟨num, tm, ss, ns, (by rw [show 12 - dp = 0 by omega, wlp, List.append_nil]; exact hR), rfl, rfl⟩)
    · omega
  | succ d ih_ =>
    intro aW aS aQ num tm sl ss ns aP aF aT aC aL n k li fa fr to nd dp p ws hd hd2 hn hn2 hk hfr hnd hR
    refine ga_M.intro (by decide) (Nat.le_of_ble_eq_true rfl) (fun p_ e_ s_ m_ below meth c_ A_ H_ locs_ ls cx hr hlk hnm hA hK hl w => ?_)
    have hx := cx.1
    have hb := cx.2.1
    have hl : lv_has ls 8 [(0, .ref aW), (1, .ref aP), (2, .int (nI nd)), (3, .int (nI (bs p))), (4, .int (nI (nb to p))), (5, .int (nI dp))] := hl
    refine lv_iload hx hb dX3_follow_0 (lv_at hl 5 rfl) ?_
    refine lv_bipush (v := nI 12) hx hb dX3_follow_2 (by decide) ?_
    refine r_icmp_ge hx hb dX3_follow_4 (tgt := 14) (by decide) (by omega) (by omega) (fun c4 => ?_) (fun c4 => ?_)
    · exact ga_vret cx hr hlk w dX3_follow_14 ⟨Nat.le_refl _, Nat.le_refl _⟩ (⟨num, tm, ss, ns, (by rw [show 12 - dp = 0 by omega, wlp, List.append_nil]; exact hR), rfl, rfl⟩)
    · refine lv_aload_n hx hb dX3_follow_7 rfl (lv_at hl 0 rfl) ?_
      refine gf_X3_26 cx hK w 0 rfl rfl dX3_follow_8 ?_
      refine r_ifb_eq hx hb dX3_follow_11 (tgt := 15) (by decide) (fun c11 => ?_) (fun c11 => ?_)
      · refine lv_iload_n hx hb dX3_follow_15 rfl (lv_at hl 2 rfl) ?_
        refine lv_aload_n hx hb dX3_follow_16 rfl (lv_at hl 1 rfl) ?_
        refine gf_X3_33 cx hK w 3 rfl rfl dX3_follow_17 ?_
        refine lv_iconst (v := nI 1) hx hb dX3_follow_20 (by decide) ?_
        refine r_isub hx hb dX3_follow_21 (by omega) ?_
        refine r_icmp_ne hx hb dX3_follow_22 (tgt := 33) (by decide) (by omega) (by omega) (fun c22 => ?_) (fun c22 => ?_)
        · refine lv_iconst (v := nI 0) hx hb dX3_follow_33 (by decide) ?_
          refine lv_istore (lv' := [(6, .int (nI 0)), (0, .ref aW), (1, .ref aP), (2, .int (nI nd)), (3, .int (nI (bs p))), (4, .int (nI (nb to p))), (5, .int (nI dp))]) hx hb dX3_follow_34 hl (by decide) rfl (fun ls hl => ?_)
          have loop36 : ∀ (n_ : Nat) (ee : Nat) (nu : Nat) (tw : Bool) (sw : Nat → Nat) (nw : Nat → Nat) (hee : ee ≤ k) (hRl : Rep to (ws ++ wlq k fr to (n - 1) (11 - dp) nd p ee) nu tw sw nw) (hm : k - ee < n_) (H_ : Heap) (locs_ : List Loc) (ls : Array Slot) (hl : lv_has ls 8 [(6, .int (nI ee)), (0, .ref aW), (1, .ref aP), (2, .int (nI nd)), (3, .int (nI (bs p))), (4, .int (nI (nb to p))), (5, .int (nI dp))]) (w : ga_wd G A_ s_ H_ locs_ [(aW, .inr (3, [.ref aS, .ref aQ, .int (nI nu), .int (bI tw), .int (bI sl)])), (aS, .inl (G.2.2, 200, .inl (aN sw))), (aQ, .inl (G.2.2, 200, .inl (aN nw))), (aP, .inr (1, [.ref aF, .ref aT, .ref aC, .ref aL, .int (nI n), .int (nI k), .int (nI li), .int (nI fa)])), (aF, .inl (G.2.2, 16, .inl (aN fr))), (aT, .inl (G.2.2, 16, .inl (aN to)))]), W p_ l e_ { frames := (d + 1) + 1, cells := 0, slots := 0, locals := 27 * (d + 1) + 27 } s_ m_ [.ref aW, .ref aP, .int (nI nd), .int (nI (bs p)), .int (nI (nb to p)), .int (nI dp)].toArray below meth c_ H_ locs_ (0) (0) (MQ below (ga_Q G A_ (fun r w => ∃ (num2 : Nat), ∃ (tm2 : Bool), ∃ (ss2 : Nat → Nat), ∃ (ns2 : Nat → Nat), (Rep to (ws ++ wlp k fr to (n - 1) (12 - dp) nd p) num2 tm2 ss2 ns2) ∧ r = none ∧ w = [(aW, .inr (3, [.ref aS, .ref aQ, .int (nI num2), .int (bI tm2), .int (bI sl)])), (aS, .inl (G.2.2, 200, .inl (aN ss2))), (aQ, .inl (G.2.2, 200, .inl (aN ns2))), (aP, .inr (1, [.ref aF, .ref aT, .ref aC, .ref aL, .int (nI n), .int (nI k), .int (nI li), .int (nI fa)])), (aF, .inl (G.2.2, 16, .inl (aN fr))), (aT, .inl (G.2.2, 16, .inl (aN to)))])) [.ref aW, .ref aP, .int (nI nd), .int (nI (bs p)), .int (nI (nb to p)), .int (nI dp)].toArray s_ 0 0 A_) (F0 m_ 36 ls []) := by
            intro n_
            induction n_ with
            | zero => intro ee nu tw sw nw hee hRl hm; exact absurd hm (Nat.not_lt_zero _)
            | succ n_ ih36 =>
              intro ee nu tw sw nw hee hRl hm36 H_ locs_ ls hl w
              refine lv_iload hx hb dX3_follow_36 (lv_at hl 0 rfl) ?_
              refine lv_aload_n hx hb dX3_follow_38 rfl (lv_at hl 2 rfl) ?_
              refine gf_X3_42 cx hK w 3 rfl rfl dX3_follow_39 ?_
              refine r_icmp_ge hx hb dX3_follow_42 (tgt := 95) (by decide) (by omega) (by omega) (fun c42 => ?_) (fun c42 => ?_)
              · exact ga_vret cx hr hlk w dX3_follow_95 ⟨Nat.le_refl _, Nat.le_refl _⟩ (⟨nu, tw, sw, nw, (by rw [show 12 - dp = (11 - dp) + 1 by omega, wlp_q c22, show k = ee by omega]; rw [show k = ee by omega] at hRl; exact hRl), rfl, rfl⟩)
              · have hfe := hfr ee (by omega)
                refine lv_aload_n hx hb dX3_follow_45 rfl (lv_at hl 2 rfl) ?_
                refine gf_X3_45 cx hK w 3 rfl rfl dX3_follow_46 ?_
                refine lv_iload hx hb dX3_follow_49 (lv_at hl 0 rfl) ?_
                refine r_ialdN hx hb hK w 4 rfl dX3_follow_51 (by omega) (by decide) ?_
                refine lv_iload_n hx hb dX3_follow_52 rfl (lv_at hl 3 rfl) ?_
                refine r_icmp_ne hx hb dX3_follow_53 (tgt := 89) (by decide) (by omega) (by omega) (fun c53 => ?_) (fun c53 => ?_)
                · refine r_iinc (d := 1) (k := 0) (lv' := [(6, .int (nI (ee + 1))), (0, .ref aW), (1, .ref aP), (2, .int (nI nd)), (3, .int (nI (bs p))), (4, .int (nI (nb to p))), (5, .int (nI dp))]) hx hb dX3_follow_89 hl rfl (by decide) (by decide) rfl (fun ls hl => ?_)
                  refine lv_goto (tgt := 36) hx hb dX3_follow_92 (by decide) ?_
                  exact ih36 (ee + 1) nu tw sw nw (by omega) (by rw [wlq_f c53]; exact hRl) (by omega) _ _ _ (lv_sub hl [0, 1, 2, 3, 4, 5, 6] rfl) w
                · refine lv_aload_n hx hb dX3_follow_56 rfl (lv_at hl 2 rfl) ?_
                  refine gf_X3_48 cx hK w 3 rfl rfl dX3_follow_57 ?_
                  refine lv_iload hx hb dX3_follow_60 (lv_at hl 0 rfl) ?_
                  refine r_ialdN hx hb hK w 5 rfl dX3_follow_62 (by omega) (by decide) ?_
                  refine lv_istore (lv' := [(7, .int (nI (to ee))), (6, .int (nI ee)), (0, .ref aW), (1, .ref aP), (2, .int (nI nd)), (3, .int (nI (bs p))), (4, .int (nI (nb to p))), (5, .int (nI dp))]) hx hb dX3_follow_63 hl (by decide) rfl (fun ls hl => ?_)
                  refine lv_aload_n hx hb dX3_follow_65 rfl (lv_at hl 2 rfl) ?_
                  refine lv_aload_n hx hb dX3_follow_66 rfl (lv_at hl 3 rfl) ?_
                  refine lv_iload hx hb dX3_follow_67 (lv_at hl 0 rfl) ?_
                  refine lv_iload_n hx hb dX3_follow_69 rfl (lv_at hl 5 rfl) ?_
                  refine lv_iconst (v := nI 1) hx hb dX3_follow_70 (by decide) ?_
                  refine lv_iload hx hb dX3_follow_71 (lv_at hl 1 rfl) ?_
                  refine r_ishl hx hb dX3_follow_73 (by omega) ?_
                  refine r_ior hx hb dX3_follow_74 ?_
                  refine r_topi (y := nI (bs (p ++ [ee]))) (by rw [bs_a]) ?_
                  refine lv_iload hx hb dX3_follow_75 (lv_at hl 6 rfl) ?_
                  refine lv_iconst (v := nI 1) hx hb dX3_follow_77 (by decide) ?_
                  refine lv_iload hx hb dX3_follow_78 (lv_at hl 0 rfl) ?_
                  refine r_ishl hx hb dX3_follow_80 (by omega) ?_
                  refine r_ior hx hb dX3_follow_81 ?_
                  refine r_topi (y := nI (nb to (p ++ [ee]))) (by rw [nb_a]) ?_
                  refine lv_iload hx hb dX3_follow_82 (lv_at hl 7 rfl) ?_
                  refine lv_iconst (v := nI 1) hx hb dX3_follow_84 (by decide) ?_
                  refine r_iadd hx hb dX3_follow_85 ?_
                  refine ga_callS (rest := []) (wr := []) cx hK hA w hl lk_X3_29 (ih_ aW aS aQ nu tw sl sw nw aP aF aT aC aL n k li fa fr to (to ee) (dp + 1) (p ++ [ee]) (ws ++ wlq k fr to (n - 1) (11 - dp) nd p ee) (by omega) (by omega) (by omega) (by omega) (by omega) (hfr) (hfe.2) (hRl)) ⟨(by show d + 1 + 1 ≤ (d + 1) + 1; omega), (by show 8 + (8 + 11) + (27 * d + 27) ≤ 27 * (d + 1) + 27; omega)⟩ [0, 1, 2, 3, 4, 5] [] rfl rfl (by decide) (by decide) (by decide) rfl (Nat.le_of_ble_eq_true rfl) dX3_follow_86 ⟨Nat.le_refl _, Nat.le_refl _⟩ rfl (fun r w1_ H_ locs_ hp w => ?_)
                  obtain ⟨nu3, tm3, ss3, ns3, hR3, rfl, rfl⟩ := hp
                  have w : ga_wd G A_ s_ H_ locs_ [(aW, .inr (3, [.ref aS, .ref aQ, .int (nI nu3), .int (bI tm3), .int (bI sl)])), (aS, .inl (G.2.2, 200, .inl (aN ss3))), (aQ, .inl (G.2.2, 200, .inl (aN ns3))), (aP, .inr (1, [.ref aF, .ref aT, .ref aC, .ref aL, .int (nI n), .int (nI k), .int (nI li), .int (nI fa)])), (aF, .inl (G.2.2, 16, .inl (aN fr))), (aT, .inl (G.2.2, 16, .inl (aN to)))] := ga_perm w [0, 1, 2, 3, 4, 5] (by decide) rfl
                  refine W.eq (g2 := F0 m_ 89 ls []) rfl ?_
                  refine r_iinc (d := 1) (k := 1) (lv' := [(6, .int (nI (ee + 1))), (7, .int (nI (to ee))), (0, .ref aW), (1, .ref aP), (2, .int (nI nd)), (3, .int (nI (bs p))), (4, .int (nI (nb to p))), (5, .int (nI dp))]) hx hb dX3_follow_89 hl rfl (by decide) (by decide) rfl (fun ls hl => ?_)
                  refine lv_goto (tgt := 36) hx hb dX3_follow_92 (by decide) ?_
                  exact ih36 (ee + 1) nu3 tm3 ss3 ns3 (by omega) (by rw [wlq_t c53, ← List.append_assoc]; have h9 := hR3; rw [show 12 - (dp + 1) = 11 - dp by omega] at h9; exact h9) (by omega) _ _ _ (lv_sub hl [0, 2, 3, 4, 5, 6, 7] rfl) w
          exact loop36 _ 0 num tm ss ns (by omega) (by rw [wlq_0, List.append_nil]; exact hR) (Nat.lt_succ_self _) _ _ _ (lv_sub hl [0, 1, 2, 3, 4, 5, 6] rfl) w
        · refine lv_aload_n hx hb dX3_follow_25 rfl (lv_at hl 0 rfl) ?_
          refine lv_iload_n hx hb dX3_follow_26 rfl (lv_at hl 3 rfl) ?_
          refine lv_iload hx hb dX3_follow_27 (lv_at hl 4 rfl) ?_
          refine ga_callV (rest := []) (wr := [(aP, .inr (1, [.ref aF, .ref aT, .ref aC, .ref aL, .int (nI n), .int (nI k), .int (nI li), .int (nI fa)])), (aF, .inl (G.2.2, 16, .inl (aN fr))), (aT, .inl (G.2.2, 16, .inl (aN to)))]) cx hK hA w hl lk_X3_38 (c_X3_add l G aW aS aQ num tm sl ss ns to ws p (hR)) ⟨(by show 0 + 1 ≤ (d + 1) + 1; omega), (by show 8 + (3 + 11) + (0) ≤ 27 * (d + 1) + 27; omega)⟩ [0, 1, 2] [3, 4, 5] rfl rfl (by decide) (by decide) (by decide) 0 3 rfl rfl rfl rfl (Nat.le_of_ble_eq_true rfl) dX3_follow_29 ⟨Nat.le_refl _, Nat.le_refl _⟩ rfl (fun r w1_ H_ locs_ hp w => ?_)
          obtain ⟨nu3, tm3, ss3, ns3, hR3, rfl, rfl⟩ := hp
          have w : ga_wd G A_ s_ H_ locs_ [(aW, .inr (3, [.ref aS, .ref aQ, .int (nI nu3), .int (bI tm3), .int (bI sl)])), (aS, .inl (G.2.2, 200, .inl (aN ss3))), (aQ, .inl (G.2.2, 200, .inl (aN ns3))), (aP, .inr (1, [.ref aF, .ref aT, .ref aC, .ref aL, .int (nI n), .int (nI k), .int (nI li), .int (nI fa)])), (aF, .inl (G.2.2, 16, .inl (aN fr))), (aT, .inl (G.2.2, 16, .inl (aN to)))] := ga_perm w [3, 4, 5, 0, 1, 2] (by decide) rfl
          refine W.eq (g2 := F0 m_ 32 ls []) rfl ?_
          exact ga_vret cx hr hlk w dX3_follow_32 ⟨Nat.le_refl _, Nat.le_refl _⟩ (⟨nu3, tm3, ss3, ns3, (by rw [show 12 - dp = (11 - dp) + 1 by omega, wlp_g c22]; exact hR3), rfl, rfl⟩)
      · exact ga_vret cx hr hlk w dX3_follow_14 ⟨Nat.le_refl _, Nat.le_refl _⟩ (⟨num, true, ss, ns, Rep_more _ (by rw [← c11]; exact hR), rfl, by rw [c11]⟩)

set_option maxHeartbeats 4000000 in
set_option maxRecDepth 100000 in
theorem c_X3_gather (l : Launch) (G : ga_G) (aW : Nat) (aS : Nat) (aQ : Nat) (num : Nat) (tm : Bool) (sl : Bool) (ss : Nat → Nat) (ns : Nat → Nat) (aP : Nat) (aF : Nat) (aT : Nat) (aC : Nat) (aL : Nat) (n : Nat) (k : Nat) (li : Nat) (fa : Nat) (fr : Nat → Nat) (to : Nat → Nat) (hn : n ≤ 12) (hn2 : 2 ≤ n) (hk : k ≤ 16) (hfr : ∀ e, e < k → fr e < n ∧ to e < n) : ga_M l G yX3_gather cX3_gather 2 (Option.none : Option Jvm.ClassFile.FieldType) 14 378 0 0 [.ref aW, .ref aP] [(aW, .inr (3, [.ref aS, .ref aQ, .int (nI num), .int (bI tm), .int (bI sl)])), (aS, .inl (G.2.2, 200, .inl (aN ss))), (aQ, .inl (G.2.2, 200, .inl (aN ns))), (aP, .inr (1, [.ref aF, .ref aT, .ref aC, .ref aL, .int (nI n), .int (nI k), .int (nI li), .int (nI fa)])), (aF, .inl (G.2.2, 16, .inl (aN fr))), (aT, .inl (G.2.2, 16, .inl (aN to)))] (fun r w => ∃ (num2 : Nat), ∃ (tm2 : Bool), ∃ (ss2 : Nat → Nat), ∃ (ns2 : Nat → Nat), (Rep to (wlp k fr to (n - 1) 12 0 []) num2 tm2 ss2 ns2) ∧ r = none ∧ w = [(aW, .inr (3, [.ref aS, .ref aQ, .int (nI num2), .int (bI tm2), .int (bI false)])), (aS, .inl (G.2.2, 200, .inl (aN ss2))), (aQ, .inl (G.2.2, 200, .inl (aN ns2))), (aP, .inr (1, [.ref aF, .ref aT, .ref aC, .ref aL, .int (nI n), .int (nI k), .int (nI li), .int (nI fa)])), (aF, .inl (G.2.2, 16, .inl (aN fr))), (aT, .inl (G.2.2, 16, .inl (aN to)))]) := by
  refine ga_M.intro (by decide) (Nat.le_of_ble_eq_true rfl) (fun p_ e_ s_ m_ below meth c_ A_ H_ locs_ ls cx hr hlk hnm hA hK hl w => ?_)
  have hx := cx.1
  have hb := cx.2.1
  have hl : lv_has ls 2 [(0, .ref aW), (1, .ref aP)] := hl
  refine lv_aload_n hx hb dX3_gather_0 rfl (lv_at hl 0 rfl) ?_
  refine lv_iconst (v := nI 0) hx hb dX3_gather_1 (by decide) ?_
  refine pf_X3_22 cx hK w 0 rfl rfl rfl (Nat.le_of_ble_eq_true rfl) dX3_gather_2 (fun H_ locs_ w => ?_)
  have w : ga_wd G A_ s_ H_ locs_ [(aW, .inr (3, [.ref aS, .ref aQ, .int (nI 0), .int (bI tm), .int (bI sl)])), (aS, .inl (G.2.2, 200, .inl (aN ss))), (aQ, .inl (G.2.2, 200, .inl (aN ns))), (aP, .inr (1, [.ref aF, .ref aT, .ref aC, .ref aL, .int (nI n), .int (nI k), .int (nI li), .int (nI fa)])), (aF, .inl (G.2.2, 16, .inl (aN fr))), (aT, .inl (G.2.2, 16, .inl (aN to)))] := w
  refine lv_aload_n hx hb dX3_gather_5 rfl (lv_at hl 0 rfl) ?_
  refine lv_iconst (v := nI 0) hx hb dX3_gather_6 (by decide) ?_
  refine pf_X3_26 cx hK w 0 rfl rfl rfl (Nat.le_of_ble_eq_true rfl) dX3_gather_7 (fun H_ locs_ w => ?_)
  have w : ga_wd G A_ s_ H_ locs_ [(aW, .inr (3, [.ref aS, .ref aQ, .int (nI 0), .int (nI 0), .int (bI sl)])), (aS, .inl (G.2.2, 200, .inl (aN ss))), (aQ, .inl (G.2.2, 200, .inl (aN ns))), (aP, .inr (1, [.ref aF, .ref aT, .ref aC, .ref aL, .int (nI n), .int (nI k), .int (nI li), .int (nI fa)])), (aF, .inl (G.2.2, 16, .inl (aN fr))), (aT, .inl (G.2.2, 16, .inl (aN to)))] := w
  refine lv_aload_n hx hb dX3_gather_10 rfl (lv_at hl 0 rfl) ?_
  refine lv_iconst (v := nI 0) hx hb dX3_gather_11 (by decide) ?_
  refine pf_X3_18 cx hK w 0 rfl rfl rfl (Nat.le_of_ble_eq_true rfl) dX3_gather_12 (fun H_ locs_ w => ?_)
  have w : ga_wd G A_ s_ H_ locs_ [(aW, .inr (3, [.ref aS, .ref aQ, .int (nI 0), .int (nI 0), .int (nI 0)])), (aS, .inl (G.2.2, 200, .inl (aN ss))), (aQ, .inl (G.2.2, 200, .inl (aN ns))), (aP, .inr (1, [.ref aF, .ref aT, .ref aC, .ref aL, .int (nI n), .int (nI k), .int (nI li), .int (nI fa)])), (aF, .inl (G.2.2, 16, .inl (aN fr))), (aT, .inl (G.2.2, 16, .inl (aN to)))] := w
  refine lv_aload_n hx hb dX3_gather_15 rfl (lv_at hl 0 rfl) ?_
  refine lv_aload_n hx hb dX3_gather_16 rfl (lv_at hl 1 rfl) ?_
  refine lv_iconst (v := nI 0) hx hb dX3_gather_17 (by decide) ?_
  refine lv_iconst (v := nI 0) hx hb dX3_gather_18 (by decide) ?_
  refine lv_iconst (v := nI 1) hx hb dX3_gather_19 (by decide) ?_
  refine lv_iconst (v := nI 0) hx hb dX3_gather_20 (by decide) ?_
  refine ga_callS (rest := []) (wr := []) cx hK hA w hl lk_X3_29 (c_X3_follow l G 12 aW aS aQ 0 false false ss ns aP aF aT aC aL n k li fa fr to 0 0 ([]) ([]) (by decide) (by decide) (hn) (hn2) (hk) (hfr) (by omega) (⟨rfl, rfl, fun i hi => absurd hi (Nat.not_lt_zero _)⟩)) ⟨by decide, by decide⟩ [0, 1, 2, 3, 4, 5] [] rfl rfl (by decide) (by decide) (by decide) rfl (Nat.le_of_ble_eq_true rfl) dX3_gather_21 ⟨Nat.le_refl _, Nat.le_refl _⟩ rfl (fun r w1_ H_ locs_ hp w => ?_)
  obtain ⟨nu3, tm3, ss3, ns3, hR3, rfl, rfl⟩ := hp
  have w : ga_wd G A_ s_ H_ locs_ [(aW, .inr (3, [.ref aS, .ref aQ, .int (nI nu3), .int (bI tm3), .int (bI false)])), (aS, .inl (G.2.2, 200, .inl (aN ss3))), (aQ, .inl (G.2.2, 200, .inl (aN ns3))), (aP, .inr (1, [.ref aF, .ref aT, .ref aC, .ref aL, .int (nI n), .int (nI k), .int (nI li), .int (nI fa)])), (aF, .inl (G.2.2, 16, .inl (aN fr))), (aT, .inl (G.2.2, 16, .inl (aN to)))] := ga_perm w [0, 1, 2, 3, 4, 5] (by decide) rfl
  refine W.eq (g2 := F0 m_ 24 ls []) rfl ?_
  exact ga_vret cx hr hlk w dX3_gather_24 ⟨Nat.le_refl _, Nat.le_refl _⟩ (⟨nu3, tm3, ss3, ns3, hR3, rfl, rfl⟩)
end
section
/-! PURE for Partings -/
def lz (z : Nat → Nat) (n : Nat) : List Nat := (List.range n).map z
theorem lz_s (z : Nat → Nat) (i : Nat) : lz z (i + 1) = lz z i ++ [z i] := by unfold lz; rw [List.range_succ, List.map_append]; rfl
theorem lz_len (z : Nat → Nat) (n : Nat) : (lz z n).length = n := by unfold lz; simp
theorem lz_congr {z y : Nat → Nat} {n : Nat} (h : ∀ q, q < n → z q = y q) : lz z n = lz y n := by
  unfold lz; exact List.map_congr_left (fun q hq => h q (List.mem_range.mp hq))
theorem lz_u (g : Nat → Nat) (t y : Nat) : lz (uN g t y) (t + 1) = lz g t ++ [y] := by
  rw [lz_s, uN_s]; congr 1; exact lz_congr (fun q hq => uN_n _ _ (by omega))
theorem lz_get {z : Nat → Nat} {n q : Nat} (h : q < n) : (lz z n)[q]? = some (z q) := by unfold lz; simp [h]
theorem lz_mem {z : Nat → Nat} {n y : Nat} : y ∈ lz z n ↔ ∃ q, q < n ∧ z q = y := by unfold lz; simp [List.mem_map, List.mem_range]
theorem flt_f {z : Nat → Nat} {P : Nat → Bool} {i : Nat} (h : P (z i) = false) : (lz z (i + 1)).filter P = (lz z i).filter P := by rw [lz_s, List.filter_append]; simp [h]
theorem flt_t {z : Nat → Nat} {P : Nat → Bool} {i : Nat} (h : P (z i) = true) : (lz z (i + 1)).filter P = (lz z i).filter P ++ [z i] := by rw [lz_s, List.filter_append]; simp [h]
/-- y has no step but those of x -/
def sbs (y x : Nat) : Bool := decide (y &&& (65535 ^^^ x) = 0)
def addL (zl : List Nat) (x : Nat) : List Nat := if zl.any (fun y => sbs y x) then zl else zl.filter (fun y => !sbs x y) ++ [x]
def capL (cap : Nat) (zl : List Nat) (x : Nat) : Nat := if zl.any (fun y => sbs y x) then cap else if cap ≤ (zl.filter (fun y => !sbs x y)).length then 2 * cap else cap
theorem capL_ge (cap : Nat) (zl : List Nat) (x : Nat) : cap ≤ capL cap zl x := by unfold capL; split; omega; split <;> omega
theorem anyL_t {z : Nat → Nat} {pn q x : Nat} (hq : q < pn) (h : sbs (z q) x = true) : (lz z pn).any (fun y => sbs y x) = true := by
  rw [List.any_eq_true]; exact ⟨z q, lz_mem.mpr ⟨q, hq, rfl⟩, h⟩
theorem anyL_f {z : Nat → Nat} {pn x : Nat} (h : ∀ q, q < pn → sbs (z q) x = false) : (lz z pn).any (fun y => sbs y x) = false := by
  rw [List.any_eq_false]; intro y hy; obtain ⟨q, h1, rfl⟩ := lz_mem.mp hy; simp [h q h1]
theorem sbs_t {y x : Nat} (h : y &&& (65535 ^^^ x) = 0) : sbs y x = true := decide_eq_true h
theorem sbs_f {y x : Nat} (h : ¬ y &&& (65535 ^^^ x) = 0) : sbs y x = false := decide_eq_false h
/-- the first set from s on that ch doesn't meet -/
def fnm (z : Nat → Nat) (ch pn s : Nat) : Nat := s + lfst (fun q => decide (z (s + q) &&& ch = 0)) (pn - s)
theorem fnm_hit {z : Nat → Nat} {ch pn s o : Nat} (h1 : s ≤ o) (h2 : o < pn) (h3 : z o &&& ch = 0) (h4 : ∀ u, s ≤ u → u < o → ¬ z u &&& ch = 0) : fnm z ch pn s = o := by
  unfold fnm
  rw [lfst_lt (r := o - s) (by omega) (by rw [show s + (o - s) = o by omega]; exact decide_eq_true h3) (fun j hj => decide_eq_false (h4 (s + j) (by omega) (by omega)))]
  omega
theorem fnm_end {z : Nat → Nat} {ch pn s : Nat} (h1 : s ≤ pn) (h4 : ∀ u, s ≤ u → u < pn → ¬ z u &&& ch = 0) : fnm z ch pn s = pn := by
  unfold fnm
  rw [lfst_no (fun j hj => decide_eq_false (h4 (s + j) (by omega) (by omega)))]
  omega
theorem fnm_sp {z : Nat → Nat} {ch pn s : Nat} (hs : s ≤ pn) : s ≤ fnm z ch pn s ∧ fnm z ch pn s ≤ pn ∧ (fnm z ch pn s < pn → z (fnm z ch pn s) &&& ch = 0) ∧ ∀ u, s ≤ u → u < fnm z ch pn s → ¬ z u &&& ch = 0 := by
  obtain ⟨h1, h2, h3⟩ := lfst_sp (fun q => decide (z (s + q) &&& ch = 0)) (pn - s)
  unfold fnm
  refine ⟨by omega, by omega, fun h => of_decide_eq_true (h2 (by omega)), fun u hu1 hu2 => ?_⟩
  have h4 := of_decide_eq_false (h3 (u - s) (by omega))
  rwa [show s + (u - s) = u by omega] at h4
theorem va_cpyN (f : Nat → Nat) (L : Nat) : va_cpy (aN f) (fun _ => 0) 0 0 L = aN (fun j => if j < L then f j else 0) := by
  funext j; unfold va_cpy aN
  by_cases h : j < L
  · simp [h]
  · simp [h]; rfl
/-! all pairs, in order -/
def prs (num i j : Nat) : List (Nat × Nat) := (List.range i).flatMap (fun a => (List.range' (a + 1) (num - (a + 1))).map (fun b => (a, b))) ++ (List.range' (i + 1) (j - (i + 1))).map (fun b => (i, b))
theorem prs_0 (num : Nat) : prs num 0 1 = [] := rfl
theorem prs_s {num i j : Nat} (h : i < j) : prs num i (j + 1) = prs num i j ++ [(i, j)] := by
  unfold prs
  rw [show j + 1 - (i + 1) = (j - (i + 1)) + 1 by omega, List.range'_concat, List.map_append, List.append_assoc]
  simp; omega
theorem prs_row {num i : Nat} : prs num (i + 1) (i + 1 + 1) = prs num i num := by
  unfold prs
  rw [show i + 1 + 1 - (i + 1 + 1) = 0 by omega, List.range_succ, List.flatMap_append]
  simp
theorem prs_lt {num i j : Nat} (hi : i ≤ num) (hj : j ≤ num) {a b : Nat} (h : (a, b) ∈ prs num i j) : a < b ∧ b < num := by
  unfold prs at h
  rw [List.mem_append, List.mem_flatMap] at h
  rcases h with ⟨x, h1, h2⟩ | h2
  · obtain ⟨y, h3, h4⟩ := List.mem_map.mp h2
    rw [List.mem_range'_1] at h3
    cases h4; omega
  · obtain ⟨y, h3, h4⟩ := List.mem_map.mp h2
    rw [List.mem_range'_1] at h3
    cases h4; omega
theorem prs_all {num a b : Nat} (h : a < b) (hb : b < num) : (a, b) ∈ prs num num (num + 1) := by
  unfold prs
  rw [List.mem_append, List.mem_flatMap]
  exact Or.inl ⟨a, List.mem_range.mpr (by omega), List.mem_map.mpr ⟨b, List.mem_range'_1.mpr (by omega), rfl⟩⟩
def gst (ss ns : Nat → Nat) (ea : Bool) (fa : Nat) (st : List Nat × Nat) (q : Nat × Nat) : List Nat × Nat := if ea || decide ((ns q.1 ^^^ ns q.2) &&& fa ≠ 0) then (addL st.1 (ss q.1 ^^^ ss q.2), capL st.2 st.1 (ss q.1 ^^^ ss q.2)) else st
def gth (ss ns : Nat → Nat) (ea : Bool) (fa cap : Nat) (l : List (Nat × Nat)) : List Nat × Nat := l.foldl (gst ss ns ea fa) ([], cap)
theorem gth_0 {ss ns : Nat → Nat} {ea : Bool} {fa cap : Nat} : gth ss ns ea fa cap [] = ([], cap) := rfl
theorem gth_a {ss ns : Nat → Nat} {ea : Bool} {fa cap : Nat} {l : List (Nat × Nat)} {q : Nat × Nat} : gth ss ns ea fa cap (l ++ [q]) = gst ss ns ea fa (gth ss ns ea fa cap l) q := by unfold gth; rw [List.foldl_append]; rfl
theorem gst_ge {ss ns : Nat → Nat} {ea : Bool} {fa : Nat} {st : List Nat × Nat} {q : Nat × Nat} : st.2 ≤ (gst ss ns ea fa st q).2 := by
  unfold gst; split
  · exact capL_ge _ _ _
  · exact Nat.le_refl _
theorem gfold_ge {ss ns : Nat → Nat} {ea : Bool} {fa : Nat} (l : List (Nat × Nat)) : ∀ st : List Nat × Nat, st.2 ≤ (l.foldl (gst ss ns ea fa) st).2 := by
  induction l with
  | nil => intro st; exact Nat.le_refl _
  | cons q l ih => intro st; exact Nat.le_trans gst_ge (ih _)
theorem gth_pre {ss ns : Nat → Nat} {ea : Bool} {fa cap : Nat} (l r : List (Nat × Nat)) : (gth ss ns ea fa cap l).2 ≤ (gth ss ns ea fa cap (l ++ r)).2 := by
  unfold gth; rw [List.foldl_append]; exact gfold_ge r _
theorem prs_pre {num : Nat} : ∀ (d i j : Nat), num ≤ i + d → i < j → j ≤ num ∨ (i = num ∧ j = num + 1) → ∃ r, prs num num (num + 1) = prs num i j ++ r := by
  intro d
  induction d with
  | zero =>
    intro i j h1 h2 h3
    rcases h3 with h3 | ⟨rfl, rfl⟩
    · omega
    · exact ⟨[], by simp⟩
  | succ d ih =>
    intro i j h1 h2 h3
    rcases h3 with h3 | ⟨rfl, rfl⟩
    · have hrow : ∀ (t j : Nat), i < j → j + t = num → ∃ r, prs num i num = prs num i j ++ r := by
        intro t
        induction t with
        | zero => intro j _ h; exact ⟨[], by rw [show j = num by omega]; simp⟩
        | succ t iht =>
          intro j h4 h5
          obtain ⟨r, hr⟩ := iht (j + 1) (by omega) (by omega)
          exact ⟨(i, j) :: r, by rw [hr, prs_s h4]; simp⟩
      obtain ⟨r1, hr1⟩ := hrow (num - j) j h2 (by omega)
      have h6 : ∃ r, prs num num (num + 1) = prs num (i + 1) (i + 1 + 1) ++ r := by
        rcases Nat.lt_or_ge (i + 1) num with h7 | h7
        · exact ih (i + 1) (i + 1 + 1) (by omega) (by omega) (Or.inl (by omega))
        · exact ⟨[], by rw [show i + 1 = num by omega]; simp⟩
      obtain ⟨r2, hr2⟩ := h6
      exact ⟨r1 ++ r2, by rw [hr2, prs_row, hr1]; simp⟩
    · exact ⟨[], by simp⟩
theorem addL_len (zl : List Nat) (x : Nat) : (addL zl x).length ≤ zl.length + 1 := by
  unfold addL; split
  · omega
  · rw [List.length_append]; have := List.length_filter_le (fun y => !sbs x y) zl; simp; omega
theorem gfold_len {ss ns : Nat → Nat} {ea : Bool} {fa : Nat} (l : List (Nat × Nat)) : ∀ st : List Nat × Nat, (l.foldl (gst ss ns ea fa) st).1.length ≤ st.1.length + l.length := by
  induction l with
  | nil => intro st; exact Nat.le_refl _
  | cons q l ih =>
    intro st
    have h1 := ih (gst ss ns ea fa st q)
    have h2 : (gst ss ns ea fa st q).1.length ≤ st.1.length + 1 := by
      unfold gst; split
      · exact addL_len _ _
      · omega
    show ((q :: l).foldl (gst ss ns ea fa) st).1.length ≤ _
    rw [List.foldl_cons, List.length_cons]; omega
theorem addL_lt {zl : List Nat} {x : Nat} (h : ∀ y ∈ zl, y < 65536) (hx : x < 65536) : ∀ y ∈ addL zl x, y < 65536 := by
  intro y hy
  unfold addL at hy
  split at hy
  · exact h y hy
  · rw [List.mem_append] at hy
    rcases hy with hy | hy
    · exact h y (List.mem_filter.mp hy).1
    · rw [List.mem_singleton] at hy; omega
theorem prs_len {num i j : Nat} (hi : i ≤ num) (hj : j ≤ num) (hij : i < j) : (prs num i j).length ≤ i * num + j := by
  unfold prs
  rw [List.length_append, List.length_map, List.length_range']
  have h1 : ∀ t, t ≤ num → ((List.range t).flatMap (fun a => (List.range' (a + 1) (num - (a + 1))).map (fun b => (a, b)))).length ≤ t * num := by
    intro t
    induction t with
    | zero => intro _; simp
    | succ t ih =>
      intro ht
      rw [List.range_succ, List.flatMap_append, List.length_append]
      have h2 := ih (by omega)
      simp only [List.flatMap_singleton, List.length_map, List.length_range']
      rw [Nat.succ_mul]; omega
  have := h1 i hi
  omega
theorem cnd_1 {ea b : Bool} (h : ea = true) : (ea || b) = true := by rw [h]; rfl
theorem cnd_2 {ea : Bool} {x : Nat} (h : ¬ x = 0) : (ea || decide (x ≠ 0)) = true := by simp [h]
theorem cnd_0 {ea : Bool} {x : Nat} (h1 : ea = false) (h : x = 0) : (ea || decide (x ≠ 0)) = false := by simp [h, h1]
theorem capL_le (cap : Nat) (zl : List Nat) (x : Nat) : capL cap zl x ≤ max cap (2 * zl.length) := by
  unfold capL; split
  · omega
  · have := List.length_filter_le (fun y => !sbs x y) zl
    split <;> omega
theorem gth_len {ss ns : Nat → Nat} {ea : Bool} {fa cap : Nat} (l : List (Nat × Nat)) : (gth ss ns ea fa cap l).1.length ≤ l.length := by
  have h := gfold_len (ss := ss) (ns := ns) (ea := ea) (fa := fa) l ([], cap)
  unfold gth; simpa using h
theorem gst_t {ss ns : Nat → Nat} {ea : Bool} {fa : Nat} {st : List Nat × Nat} {i j : Nat} (h : (ea || decide ((ns i ^^^ ns j) &&& fa ≠ 0)) = true) : gst ss ns ea fa st (i, j) = (addL st.1 (ss i ^^^ ss j), capL st.2 st.1 (ss i ^^^ ss j)) := by unfold gst; rw [if_pos h]
theorem gst_f {ss ns : Nat → Nat} {ea : Bool} {fa : Nat} {st : List Nat × Nat} {i j : Nat} (h : (ea || decide ((ns i ^^^ ns j) &&& fa ≠ 0)) = false) : gst ss ns ea fa st (i, j) = st := by unfold gst; rw [if_neg (by rw [h]; decide)]
end
section
set_option maxHeartbeats 4000000 in
set_option maxRecDepth 100000 in
theorem c_J7_copyOf_59c91 (l : Launch) (G : ga_G) (a : Nat) (L : Nat) (f : Nat → Nat) (nl : Nat) (h1 : L < nl) (h2 : nl < 2 ^ 26) : ga_M l G yJ7_copyOf_59c91 cJ7_copyOf_59c91 3 (Option.some (Jvm.ClassFile.FieldType.array Jvm.ClassFile.FieldType.int)) 1 60 1 nl [.ref a, .int (nI nl)] [(a, .inl (G.2.2, L, .inl (aN f)))] (fun r w => ∃ (q : Nat), ∃ (g : Nat → Nat), (∀ j, j < L → g j = f j) ∧ r = some (.ref q) ∧ w = [(a, .inl (G.2.2, L, .inl (aN f))), (q, .inl (G.2.2, nl, .inl (aN g)))]) := by
  refine ga_M.intro (by decide) (Nat.le_of_ble_eq_true rfl) (fun p_ e_ s_ m_ below meth c_ A_ H_ locs_ ls cx hr hlk hnm hA hK hl w => ?_)
  have hx := cx.1
  have hb := cx.2.1
  have hl : lv_has ls 3 [(0, .ref a), (1, .int (nI nl))] := hl
  refine lv_iload_n hx hb dJ7_copyOf_59c91_0 rfl (lv_at hl 1 rfl) ?_
  refine lv_aload_n hx hb dJ7_copyOf_59c91_1 rfl (lv_at hl 0 rfl) ?_
  refine r_alen hx hb hK w 0 rfl dJ7_copyOf_59c91_2 ?_
  refine r_icmp_ne hx hb dJ7_copyOf_59c91_3 (tgt := 14) (by decide) (by omega) (by omega) (fun c3 => ?_) (fun c3 => ?_)
  · refine lv_iload_n hx hb dJ7_copyOf_59c91_14 rfl (lv_at hl 1 rfl) ?_
    refine r_newa_i cx hK hA w dJ7_copyOf_59c91_15 (by omega) (Nat.le_refl _) (by show 0 + nl ≤ nl; omega) (fun q15 H_ w => ?_)
    have w : ga_wd G A_ s_ H_ locs_ [(a, .inl (G.2.2, L, .inl (aN f))), (q15, .inl (G.2.2, nl, .inl (fun _ => 0)))] := w
    refine lv_astore_n (lv' := [(2, .ref q15), (0, .ref a), (1, .int (nI nl))]) hx hb dJ7_copyOf_59c91_17 rfl hl (by decide) rfl (fun ls hl => ?_)
    refine lv_aload_n hx hb dJ7_copyOf_59c91_18 rfl (lv_at hl 1 rfl) ?_
    refine lv_iconst (v := nI 0) hx hb dJ7_copyOf_59c91_19 (by decide) ?_
    refine lv_aload_n hx hb dJ7_copyOf_59c91_20 rfl (lv_at hl 0 rfl) ?_
    refine lv_iconst (v := nI 0) hx hb dJ7_copyOf_59c91_21 (by decide) ?_
    refine lv_aload_n hx hb dJ7_copyOf_59c91_22 rfl (lv_at hl 1 rfl) ?_
    refine r_alen hx hb hK w 0 rfl dJ7_copyOf_59c91_23 ?_
    refine lv_iload_n hx hb dJ7_copyOf_59c91_24 rfl (lv_at hl 2 rfl) ?_
    refine va_mmin hx hb (by rw [cx.2.2.1]; exact hl.1.symm) cx.2.2.2.1 (cx.2.2.2.2 _ tm_360) (cx.2.2.2.2 _ tm_361) (cx.2.2.2.2 _ tm_31) (cx.2.2.2.2 _ tm_362) (Nat.le_of_ble_eq_true rfl) (Nat.le_of_ble_eq_true rfl) (Nat.le_refl _) (by show 0 + nl ≤ nl; omega) dJ7_copyOf_59c91_25 ?_
    refine r_topi (y := nI L) (if_neg (nI_nlt (by omega) (by omega))) ?_
    refine va_copyi hx hb (by rw [cx.2.2.1]; exact hl.1.symm) cx.2.2.2.1 (cx.2.2.2.2 _ tm_363) (cx.2.2.2.2 _ tm_365) (cx.2.2.2.2 _ tm_364) (cx.2.2.2.2 _ tm_32) hK.1 w.1 w.2.1 w.2.2 0 1 1 1 rfl rfl rfl rfl rfl (nI_pos (by decide)) (nI_pos (by decide)) (nI_pos (by omega)) (by rw [nI_clamp (by decide), nI_clamp (by omega)]; omega) (by rw [nI_clamp (by decide), nI_clamp (by omega)]; omega) (fun _ _ => rfl) (Nat.le_of_ble_eq_true rfl) (Nat.le_of_ble_eq_true rfl) dJ7_copyOf_59c91_28 (fun H_ locs_ k1_ k2_ k3_ => ?_)
    have w : ga_wd G A_ s_ H_ locs_ _ := ⟨k1_, k2_, k3_⟩
    rw [nI_clamp (by decide), nI_clamp (by omega), va_cpyN] at w
    have w : ga_wd G A_ s_ H_ locs_ [(a, .inl (G.2.2, L, .inl (aN f))), (q15, .inl (G.2.2, nl, .inl (aN (fun j => if j < L then f j else 0))))] := w
    refine lv_aload_n hx hb dJ7_copyOf_59c91_31 rfl (lv_at hl 0 rfl) ?_
    exact ga_aret cx hr (by first | exact Or.inl ⟨_, rfl⟩ | exact Or.inr ⟨_, rfl⟩) hlk w dJ7_copyOf_59c91_32 ⟨Nat.le_refl _, by show 0 + nl ≤ nl; omega⟩ (⟨q15, _, fun j hj => if_pos hj, rfl, rfl⟩)
  · omega

set_option maxHeartbeats 4000000 in
set_option maxRecDepth 100000 in
theorem c_X0_dropThoseWith (l : Launch) (G : ga_G) (aK : Nat) (aZ : Nat) (cap : Nat) (z : Nat → Nat) (pn : Nat) (sl : Bool) (x : Nat) (hpc : pn ≤ cap) (hcap : cap < 2 ^ 25) (hz : ∀ q, q < pn → z q < 65536) (hx1 : x < 65536) : ga_M l G yX0_dropThoseWith cX0_dropThoseWith 4 (Option.none : Option Jvm.ClassFile.FieldType) 0 0 0 0 [.ref aK, .int (nI x)] [(aK, .inr (0, [.ref aZ, .int (nI pn), .int (bI sl)])), (aZ, .inl (G.2.2, cap, .inl (aN z)))] (fun r w => ∃ (z2 : Nat → Nat), ∃ (pn2 : Nat), (lz z2 pn2 = (lz z pn).filter (fun y => !sbs x y)) ∧ (pn2 ≤ pn) ∧ r = none ∧ w = [(aK, .inr (0, [.ref aZ, .int (nI pn2), .int (bI sl)])), (aZ, .inl (G.2.2, cap, .inl (aN z2)))]) := by
  refine ga_M.intro (by decide) (Nat.le_of_ble_eq_true rfl) (fun p_ e_ s_ m_ below meth c_ A_ H_ locs_ ls cx hr hlk hnm hA hK hl w => ?_)
  have hx := cx.1
  have hb := cx.2.1
  have hl : lv_has ls 4 [(0, .ref aK), (1, .int (nI x))] := hl
  refine lv_iconst (v := nI 0) hx hb dX0_dropThoseWith_0 (by decide) ?_
  refine lv_istore_n (lv' := [(2, .int (nI 0)), (0, .ref aK), (1, .int (nI x))]) hx hb dX0_dropThoseWith_1 rfl hl (by decide) rfl (fun ls hl => ?_)
  refine lv_iconst (v := nI 0) hx hb dX0_dropThoseWith_2 (by decide) ?_
  refine lv_istore_n (lv' := [(3, .int (nI 0)), (2, .int (nI 0)), (0, .ref aK), (1, .int (nI x))]) hx hb dX0_dropThoseWith_3 rfl hl (by decide) rfl (fun ls hl => ?_)
  have loop4 : ∀ (n_ : Nat) (i : Nat) (t : Nat) (g : Nat → Nat) (hti : t ≤ i) (hi : i ≤ pn) (hf : lz g t = (lz z i).filter (fun y => !sbs x y)) (hgz : ∀ q, i ≤ q → g q = z q) (hm : pn - i < n_) (H_ : Heap) (locs_ : List Loc) (ls : Array Slot) (hl : lv_has ls 4 [(3, .int (nI i)), (2, .int (nI t)), (0, .ref aK), (1, .int (nI x))]) (w : ga_wd G A_ s_ H_ locs_ [(aK, .inr (0, [.ref aZ, .int (nI pn), .int (bI sl)])), (aZ, .inl (G.2.2, cap, .inl (aN g)))]), W p_ l e_ { frames := 0, cells := 0, slots := 0, locals := 0 } s_ m_ [.ref aK, .int (nI x)].toArray below meth c_ H_ locs_ (0) (0) (MQ below (ga_Q G A_ (fun r w => ∃ (z2 : Nat → Nat), ∃ (pn2 : Nat), (lz z2 pn2 = (lz z pn).filter (fun y => !sbs x y)) ∧ (pn2 ≤ pn) ∧ r = none ∧ w = [(aK, .inr (0, [.ref aZ, .int (nI pn2), .int (bI sl)])), (aZ, .inl (G.2.2, cap, .inl (aN z2)))])) [.ref aK, .int (nI x)].toArray s_ 0 0 A_) (F0 m_ 4 ls []) := by
    intro n_
    induction n_ with
    | zero => intro i t g hti hi hf hgz hm; exact absurd hm (Nat.not_lt_zero _)
    | succ n_ ih4 =>
      intro i t g hti hi hf hgz hm4 H_ locs_ ls hl w
      refine lv_iload_n hx hb dX0_dropThoseWith_4 rfl (lv_at hl 0 rfl) ?_
      refine lv_aload_n hx hb dX0_dropThoseWith_5 rfl (lv_at hl 2 rfl) ?_
      refine gf_X0_19 cx hK w 0 rfl rfl dX0_dropThoseWith_6 ?_
      refine r_icmp_ge hx hb dX0_dropThoseWith_9 (tgt := 46) (by decide) (by omega) (by omega) (fun c9 => ?_) (fun c9 => ?_)
      · refine lv_aload_n hx hb dX0_dropThoseWith_46 rfl (lv_at hl 2 rfl) ?_
        refine lv_iload_n hx hb dX0_dropThoseWith_47 rfl (lv_at hl 1 rfl) ?_
        refine pf_X0_19 cx hK w 0 rfl rfl rfl (Nat.le_of_ble_eq_true rfl) dX0_dropThoseWith_48 (fun H_ locs_ w => ?_)
        have w : ga_wd G A_ s_ H_ locs_ [(aK, .inr (0, [.ref aZ, .int (nI t), .int (bI sl)])), (aZ, .inl (G.2.2, cap, .inl (aN g)))] := w
        exact ga_vret cx hr hlk w dX0_dropThoseWith_51 ⟨Nat.le_refl _, Nat.le_refl _⟩ (⟨g, t, (by rw [show pn = i by omega]; exact hf), (by omega), rfl, rfl⟩)
      · refine lv_iload_n hx hb dX0_dropThoseWith_12 rfl (lv_at hl 3 rfl) ?_
        refine lv_aload_n hx hb dX0_dropThoseWith_13 rfl (lv_at hl 2 rfl) ?_
        refine gf_X0_9 cx hK w 0 rfl rfl dX0_dropThoseWith_14 ?_
        refine lv_iload_n hx hb dX0_dropThoseWith_17 rfl (lv_at hl 0 rfl) ?_
        refine r_ialdN hx hb hK w 1 rfl dX0_dropThoseWith_18 (by omega) (by omega) ?_
        refine lv_iconst (v := (-1)) hx hb dX0_dropThoseWith_19 (by decide) ?_
        refine lv_ixor hx hb dX0_dropThoseWith_20 ?_
        refine lv_iand hx hb dX0_dropThoseWith_21 ?_
        refine r_topi (y := nI (x &&& (65535 ^^^ (g i)))) (nI_andn hx1) ?_
        refine r_if_eq hx hb dX0_dropThoseWith_22 (tgt := 40) (by decide) (andL_lt (by omega)) (fun c22 => ?_) (fun c22 => ?_)
        · refine r_iinc (d := 1) (k := 0) (lv' := [(3, .int (nI (i + 1))), (2, .int (nI t)), (0, .ref aK), (1, .int (nI x))]) hx hb dX0_dropThoseWith_40 hl rfl (by decide) (by decide) rfl (fun ls hl => ?_)
          refine lv_goto (tgt := 4) hx hb dX0_dropThoseWith_43 (by decide) ?_
          exact ih4 (i + 1) t g (by omega) (by omega) (by rw [flt_f (by rw [← hgz i (Nat.le_refl i)]; simp [sbs_t c22])]; exact hf) (fun q hq => hgz q (by omega)) (by omega) _ _ _ (lv_sub hl [0, 1, 2, 3] rfl) w
        · refine lv_aload_n hx hb dX0_dropThoseWith_25 rfl (lv_at hl 2 rfl) ?_
          refine gf_X0_9 cx hK w 0 rfl rfl dX0_dropThoseWith_26 ?_
          refine lv_iload_n hx hb dX0_dropThoseWith_29 rfl (lv_at hl 1 rfl) ?_
          refine lv_aload_n hx hb dX0_dropThoseWith_30 rfl (lv_at hl 2 rfl) ?_
          refine gf_X0_9 cx hK w 0 rfl rfl dX0_dropThoseWith_31 ?_
          refine lv_iload_n hx hb dX0_dropThoseWith_34 rfl (lv_at hl 0 rfl) ?_
          refine r_ialdN hx hb hK w 1 rfl dX0_dropThoseWith_35 (by omega) (by omega) ?_
          refine r_iastN hx hb hK w 1 rfl dX0_dropThoseWith_36 (by omega) (by omega) (fun H_ locs_ w => ?_)
          have w : ga_wd G A_ s_ H_ locs_ [(aK, .inr (0, [.ref aZ, .int (nI pn), .int (bI sl)])), (aZ, .inl (G.2.2, cap, .inl (aN (uN g t (g i)))))] := w
          refine r_iinc (d := 1) (k := 1) (lv' := [(2, .int (nI (t + 1))), (3, .int (nI i)), (0, .ref aK), (1, .int (nI x))]) hx hb dX0_dropThoseWith_37 hl rfl (by decide) (by decide) rfl (fun ls hl => ?_)
          refine r_iinc (d := 1) (k := 1) (lv' := [(3, .int (nI (i + 1))), (2, .int (nI (t + 1))), (0, .ref aK), (1, .int (nI x))]) hx hb dX0_dropThoseWith_40 hl rfl (by decide) (by decide) rfl (fun ls hl => ?_)
          refine lv_goto (tgt := 4) hx hb dX0_dropThoseWith_43 (by decide) ?_
          exact ih4 (i + 1) (t + 1) (uN g t (g i)) (by omega) (by omega) (by rw [lz_u, flt_t (by rw [← hgz i (Nat.le_refl i)]; simp [sbs_f c22]), hf, hgz i (Nat.le_refl i)]) (fun q hq => by rw [uN_n _ _ (by omega)]; exact hgz q (by omega)) (by omega) _ _ _ (lv_sub hl [0, 1, 2, 3] rfl) w
  exact loop4 _ 0 0 z (by omega) (by omega) (rfl) (fun _ _ => rfl) (Nat.lt_succ_self _) _ _ _ (lv_sub hl [0, 1, 2, 3] rfl) w

set_option maxHeartbeats 4000000 in
set_option maxRecDepth 100000 in
theorem c_X0_add (l : Launch) (G : ga_G) (aK : Nat) (aZ : Nat) (cap : Nat) (z : Nat → Nat) (pn : Nat) (sl : Bool) (x : Nat) (hpc : pn ≤ cap) (hcap : cap < 2 ^ 25) (hz : ∀ q, q < pn → z q < 65536) (hx1 : x < 65536) (hc1 : 1 ≤ cap) : ga_M l G yX0_add cX0_add 3 (Option.none : Option Jvm.ClassFile.FieldType) 2 82 (2 * capL cap (lz z pn) x - 2 * cap) (2 * capL cap (lz z pn) x - 2 * cap) [.ref aK, .int (nI x)] [(aK, .inr (0, [.ref aZ, .int (nI pn), .int (bI sl)])), (aZ, .inl (G.2.2, cap, .inl (aN z)))] (fun r w => ∃ (aZ2 : Nat), ∃ (z2 : Nat → Nat), ∃ (pn2 : Nat), (lz z2 pn2 = addL (lz z pn) x) ∧ (pn2 ≤ capL cap (lz z pn) x) ∧ r = none ∧ w = [(aK, .inr (0, [.ref aZ2, .int (nI pn2), .int (bI sl)])), (aZ2, .inl (G.2.2, capL cap (lz z pn) x, .inl (aN z2)))]) := by
  refine ga_M.intro (by decide) (Nat.le_of_ble_eq_true rfl) (fun p_ e_ s_ m_ below meth c_ A_ H_ locs_ ls cx hr hlk hnm hA hK hl w => ?_)
  have hx := cx.1
  have hb := cx.2.1
  have hl : lv_has ls 3 [(0, .ref aK), (1, .int (nI x))] := hl
  refine lv_iconst (v := nI 0) hx hb dX0_add_0 (by decide) ?_
  refine lv_istore_n (lv' := [(2, .int (nI 0)), (0, .ref aK), (1, .int (nI x))]) hx hb dX0_add_1 rfl hl (by decide) rfl (fun ls hl => ?_)
  have loop2 : ∀ (n_ : Nat) (i : Nat) (hi : i ≤ pn) (hno : ∀ q, q < i → sbs (z q) x = false) (hm : pn - i < n_) (H_ : Heap) (locs_ : List Loc) (ls : Array Slot) (hl : lv_has ls 3 [(2, .int (nI i)), (0, .ref aK), (1, .int (nI x))]) (w : ga_wd G A_ s_ H_ locs_ [(aK, .inr (0, [.ref aZ, .int (nI pn), .int (bI sl)])), (aZ, .inl (G.2.2, cap, .inl (aN z)))]), W p_ l e_ { frames := 2, cells := 2 * capL cap (lz z pn) x - 2 * cap, slots := 2 * capL cap (lz z pn) x - 2 * cap, locals := 82 } s_ m_ [.ref aK, .int (nI x)].toArray below meth c_ H_ locs_ (0) (0) (MQ below (ga_Q G A_ (fun r w => ∃ (aZ2 : Nat), ∃ (z2 : Nat → Nat), ∃ (pn2 : Nat), (lz z2 pn2 = addL (lz z pn) x) ∧ (pn2 ≤ capL cap (lz z pn) x) ∧ r = none ∧ w = [(aK, .inr (0, [.ref aZ2, .int (nI pn2), .int (bI sl)])), (aZ2, .inl (G.2.2, capL cap (lz z pn) x, .inl (aN z2)))])) [.ref aK, .int (nI x)].toArray s_ (2 * capL cap (lz z pn) x - 2 * cap) (2 * capL cap (lz z pn) x - 2 * cap) A_) (F0 m_ 2 ls []) := by
    intro n_
    induction n_ with
    | zero => intro i hi hno hm; exact absurd hm (Nat.not_lt_zero _)
    | succ n_ ih2 =>
      intro i hi hno hm2 H_ locs_ ls hl w
      refine lv_iload_n hx hb dX0_add_2 rfl (lv_at hl 0 rfl) ?_
      refine lv_aload_n hx hb dX0_add_3 rfl (lv_at hl 1 rfl) ?_
      refine gf_X0_19 cx hK w 0 rfl rfl dX0_add_4 ?_
      refine r_icmp_ge hx hb dX0_add_7 (tgt := 30) (by decide) (by omega) (by omega) (fun c7 => ?_) (fun c7 => ?_)
      · have hany := anyL_f (z := z) (pn := pn) (x := x) (fun q hq => hno q (by omega))
        have had : addL (lz z pn) x = (lz z pn).filter (fun y => !sbs x y) ++ [x] := by unfold addL; rw [hany]; rfl
        refine lv_aload_n hx hb dX0_add_30 rfl (lv_at hl 1 rfl) ?_
        refine lv_iload_n hx hb dX0_add_31 rfl (lv_at hl 2 rfl) ?_
        refine ga_callV (rest := []) (wr := []) cx hK hA w hl lk_X0_36 (c_X0_dropThoseWith l G aK aZ cap z pn sl x (hpc) (hcap) (hz) (hx1)) ⟨Nat.le_of_ble_eq_true rfl, Nat.le_of_ble_eq_true rfl⟩ [0, 1] [] rfl rfl (by decide) (by decide) (by decide) 0 0 rfl rfl rfl rfl (Nat.le_of_ble_eq_true rfl) dX0_add_32 ⟨Nat.zero_le _, Nat.zero_le _⟩ rfl (fun r w1_ H_ locs_ hp w => ?_)
        obtain ⟨zd, pd, hd2, hd3, rfl, rfl⟩ := hp
        have w : ga_wd G A_ s_ H_ locs_ [(aK, .inr (0, [.ref aZ, .int (nI pd), .int (bI sl)])), (aZ, .inl (G.2.2, cap, .inl (aN zd)))] := ga_perm w [0, 1] (by decide) rfl
        refine W.eq (g2 := F0 m_ 35 ls []) rfl ?_
        refine lv_aload_n hx hb dX0_add_35 rfl (lv_at hl 1 rfl) ?_
        have hfl : ((lz z pn).filter (fun y => !sbs x y)).length = pd := by rw [← hd2, lz_len]
        refine gf_X0_19 cx hK w 0 rfl rfl dX0_add_36 ?_
        refine lv_aload_n hx hb dX0_add_39 rfl (lv_at hl 1 rfl) ?_
        refine gf_X0_9 cx hK w 0 rfl rfl dX0_add_40 ?_
        refine r_alen hx hb hK w 1 rfl dX0_add_43 ?_
        refine r_icmp_lt hx hb dX0_add_44 (tgt := 65) (by decide) (by omega) (by omega) (fun c44 => ?_) (fun c44 => ?_)
        · have hcl : capL cap (lz z pn) x = cap := by unfold capL; rw [hany, if_neg (by decide), if_neg (by rw [hfl]; omega)]
          refine lv_aload_n hx hb dX0_add_65 rfl (lv_at hl 1 rfl) ?_
          refine gf_X0_9 cx hK w 0 rfl rfl dX0_add_66 ?_
          refine lv_aload_n hx hb dX0_add_69 rfl (lv_at hl 1 rfl) ?_
          refine gf_X0_19 cx hK w 0 rfl rfl dX0_add_70 ?_
          refine lv_iload_n hx hb dX0_add_73 rfl (lv_at hl 2 rfl) ?_
          refine r_iastN hx hb hK w 1 rfl dX0_add_74 (by omega) (by omega) (fun H_ locs_ w => ?_)
          have w : ga_wd G A_ s_ H_ locs_ [(aK, .inr (0, [.ref aZ, .int (nI pd), .int (bI sl)])), (aZ, .inl (G.2.2, cap, .inl (aN (uN zd pd x))))] := w
          refine lv_aload_n hx hb dX0_add_75 rfl (lv_at hl 1 rfl) ?_
          refine lv_dup hx hb dX0_add_76 rfl ?_
          refine gf_X0_19 cx hK w 0 rfl rfl dX0_add_77 ?_
          refine lv_iconst (v := nI 1) hx hb dX0_add_80 (by decide) ?_
          refine r_iadd hx hb dX0_add_81 ?_
          refine pf_X0_19 cx hK w 0 rfl rfl rfl (Nat.le_of_ble_eq_true rfl) dX0_add_82 (fun H_ locs_ w => ?_)
          have w : ga_wd G A_ s_ H_ locs_ [(aK, .inr (0, [.ref aZ, .int (nI (pd + 1)), .int (bI sl)])), (aZ, .inl (G.2.2, cap, .inl (aN (uN zd pd x))))] := w
          exact ga_vret cx hr hlk w dX0_add_85 ⟨by first | exact Nat.zero_le _ | (rw [hcl]; omega), by first | exact Nat.zero_le _ | (rw [hcl]; omega)⟩ (⟨aZ, _, pd + 1, (by rw [lz_u, had, hd2]), (by rw [hcl]; omega), rfl, (by rw [hcl])⟩)
        · refine lv_aload_n hx hb dX0_add_47 rfl (lv_at hl 1 rfl) ?_
          refine lv_aload_n hx hb dX0_add_48 rfl (lv_at hl 1 rfl) ?_
          have hcl : capL cap (lz z pn) x = 2 * cap := by unfold capL; rw [hany, if_neg (by decide), if_pos (by rw [hfl]; omega)]
          refine gf_X0_9 cx hK w 0 rfl rfl dX0_add_49 ?_
          refine lv_iconst (v := nI 2) hx hb dX0_add_52 (by decide) ?_
          refine lv_aload_n hx hb dX0_add_53 rfl (lv_at hl 1 rfl) ?_
          refine gf_X0_9 cx hK w 0 rfl rfl dX0_add_54 ?_
          refine r_alen hx hb hK w 1 rfl dX0_add_57 ?_
          refine r_imul hx hb dX0_add_58 ?_
          refine ga_callS (rest := [.ref aK]) (wr := [(aK, .inr (0, [.ref aZ, .int (nI pd), .int (bI sl)]))]) cx hK hA w hl lk_X0_39 (c_J7_copyOf_59c91 l G aZ cap zd (2 * cap) (by omega) (by omega)) ⟨Nat.le_of_ble_eq_true rfl, Nat.le_of_ble_eq_true rfl⟩ [1] [0] rfl rfl (by decide) (by decide) (by decide) rfl (Nat.le_of_ble_eq_true rfl) dX0_add_59 ⟨by show 0 + 0 + 1 ≤ 2 * capL cap (lz z pn) x - 2 * cap; rw [hcl]; omega, by show 0 + 0 + 2 * cap ≤ 2 * capL cap (lz z pn) x - 2 * cap; rw [hcl]; omega⟩ rfl (fun r w1_ H_ locs_ hp w => ?_)
          obtain ⟨qn, gn, hgn, rfl, rfl⟩ := hp
          have w : ga_wd G A_ s_ H_ locs_ [(aK, .inr (0, [.ref aZ, .int (nI pd), .int (bI sl)])), (aZ, .inl (G.2.2, cap, .inl (aN zd))), (qn, .inl (G.2.2, 2 * cap, .inl (aN gn)))] := ga_perm w [0, 1, 2] (by decide) rfl
          refine W.eq (g2 := F0 m_ 62 ls [.ref qn, .ref aK]) rfl ?_
          refine pf_X0_9 cx hK w 0 rfl rfl rfl (Nat.le_of_ble_eq_true rfl) dX0_add_62 (fun H_ locs_ w => ?_)
          have w : ga_wd G A_ s_ H_ locs_ [(aK, .inr (0, [.ref qn, .int (nI pd), .int (bI sl)])), (aZ, .inl (G.2.2, cap, .inl (aN zd))), (qn, .inl (G.2.2, 2 * cap, .inl (aN gn)))] := w
          have w : ga_wd G A_ s_ H_ locs_ [(aK, .inr (0, [.ref qn, .int (nI pd), .int (bI sl)])), (qn, .inl (G.2.2, 2 * cap, .inl (aN gn)))] := ga_perm w [0, 2] (by decide) rfl
          refine lv_aload_n hx hb dX0_add_65 rfl (lv_at hl 1 rfl) ?_
          refine gf_X0_9 cx hK w 0 rfl rfl dX0_add_66 ?_
          refine lv_aload_n hx hb dX0_add_69 rfl (lv_at hl 1 rfl) ?_
          refine gf_X0_19 cx hK w 0 rfl rfl dX0_add_70 ?_
          refine lv_iload_n hx hb dX0_add_73 rfl (lv_at hl 2 rfl) ?_
          refine r_iastN hx hb hK w 1 rfl dX0_add_74 (by omega) (by omega) (fun H_ locs_ w => ?_)
          have w : ga_wd G A_ s_ H_ locs_ [(aK, .inr (0, [.ref qn, .int (nI pd), .int (bI sl)])), (qn, .inl (G.2.2, 2 * cap, .inl (aN (uN gn pd x))))] := w
          refine lv_aload_n hx hb dX0_add_75 rfl (lv_at hl 1 rfl) ?_
          refine lv_dup hx hb dX0_add_76 rfl ?_
          refine gf_X0_19 cx hK w 0 rfl rfl dX0_add_77 ?_
          refine lv_iconst (v := nI 1) hx hb dX0_add_80 (by decide) ?_
          refine r_iadd hx hb dX0_add_81 ?_
          refine pf_X0_19 cx hK w 0 rfl rfl rfl (Nat.le_of_ble_eq_true rfl) dX0_add_82 (fun H_ locs_ w => ?_)
          have w : ga_wd G A_ s_ H_ locs_ [(aK, .inr (0, [.ref qn, .int (nI (pd + 1)), .int (bI sl)])), (qn, .inl (G.2.2, 2 * cap, .inl (aN (uN gn pd x))))] := w
          exact ga_vret cx hr hlk w dX0_add_85 ⟨by first | exact Nat.zero_le _ | (rw [hcl]; omega), by first | exact Nat.zero_le _ | (rw [hcl]; omega)⟩ (⟨qn, _, pd + 1, (by rw [lz_u, had, ← hd2, lz_congr (fun q hq => hgn q (by omega))]), (by rw [hcl]; omega), rfl, (by rw [hcl])⟩)
      · refine lv_aload_n hx hb dX0_add_10 rfl (lv_at hl 1 rfl) ?_
        refine gf_X0_9 cx hK w 0 rfl rfl dX0_add_11 ?_
        refine lv_iload_n hx hb dX0_add_14 rfl (lv_at hl 0 rfl) ?_
        refine r_ialdN hx hb hK w 1 rfl dX0_add_15 (by omega) (by omega) ?_
        refine lv_iload_n hx hb dX0_add_16 rfl (lv_at hl 2 rfl) ?_
        refine lv_iconst (v := (-1)) hx hb dX0_add_17 (by decide) ?_
        refine lv_ixor hx hb dX0_add_18 ?_
        refine lv_iand hx hb dX0_add_19 ?_
        refine r_topi (y := nI ((z i) &&& (65535 ^^^ x))) (nI_andn (hz i (by omega))) ?_
        refine r_if_ne hx hb dX0_add_20 (tgt := 24) (by decide) (andL_lt (by have := hz i (by omega); omega)) (fun c20 => ?_) (fun c20 => ?_)
        · refine r_iinc (d := 1) (k := 0) (lv' := [(2, .int (nI (i + 1))), (0, .ref aK), (1, .int (nI x))]) hx hb dX0_add_24 hl rfl (by decide) (by decide) rfl (fun ls hl => ?_)
          refine lv_goto (tgt := 2) hx hb dX0_add_27 (by decide) ?_
          exact ih2 (i + 1) (by omega) (fun q hq => by rcases Nat.lt_or_ge q i with h | h; exact hno q h; (rw [show q = i by omega]; exact sbs_f c20)) (by omega) _ _ _ (lv_sub hl [0, 1, 2] rfl) w
        · exact ga_vret cx hr hlk w dX0_add_23 ⟨by first | exact Nat.zero_le _ | (rw [hcl]; omega), by first | exact Nat.zero_le _ | (rw [hcl]; omega)⟩ (⟨aZ, z, pn, (by unfold addL; rw [anyL_t (by omega) (sbs_t c20)]; rfl), (by have := capL_ge cap (lz z pn) x; omega), rfl, (by rw [show capL cap (lz z pn) x = cap by unfold capL; rw [anyL_t (by omega) (sbs_t c20)]; rfl])⟩)
  exact loop2 _ 0 (by omega) (fun q h => absurd h (Nat.not_lt_zero _)) (Nat.lt_succ_self _) _ _ _ (lv_sub hl [0, 1, 2] rfl) w

set_option maxHeartbeats 4000000 in
set_option maxRecDepth 100000 in
theorem c_X0_firstNotMetBy (l : Launch) (G : ga_G) (aK : Nat) (aZ : Nat) (cap : Nat) (z : Nat → Nat) (pn : Nat) (sl : Bool) (ch : Nat) (s0 : Nat) (hpc : pn ≤ cap) (hcap : cap < 2 ^ 25) (hz : ∀ q, q < pn → z q < 65536) (hs0 : s0 ≤ pn) : ga_M l G yX0_firstNotMetBy cX0_firstNotMetBy 4 (Option.some Jvm.ClassFile.FieldType.int) 0 0 0 0 [.ref aK, .int (nI ch), .int (nI s0)] [(aK, .inr (0, [.ref aZ, .int (nI pn), .int (bI sl)])), (aZ, .inl (G.2.2, cap, .inl (aN z)))] (fun r w => r = some (.int (nI (fnm z ch pn s0))) ∧ w = [(aK, .inr (0, [.ref aZ, .int (nI pn), .int (bI sl)])), (aZ, .inl (G.2.2, cap, .inl (aN z)))]) := by
  refine ga_M.intro (by decide) (Nat.le_of_ble_eq_true rfl) (fun p_ e_ s_ m_ below meth c_ A_ H_ locs_ ls cx hr hlk hnm hA hK hl w => ?_)
  have hx := cx.1
  have hb := cx.2.1
  have hl : lv_has ls 4 [(0, .ref aK), (1, .int (nI ch)), (2, .int (nI s0))] := hl
  refine lv_iload_n hx hb dX0_firstNotMetBy_0 rfl (lv_at hl 2 rfl) ?_
  refine lv_istore_n (lv' := [(3, .int (nI s0)), (0, .ref aK), (1, .int (nI ch)), (2, .int (nI s0))]) hx hb dX0_firstNotMetBy_1 rfl hl (by decide) rfl (fun ls hl => ?_)
  have loop2 : ∀ (n_ : Nat) (o : Nat) (ho1 : s0 ≤ o) (ho2 : o ≤ pn) (hno : ∀ u, s0 ≤ u → u < o → ¬ z u &&& ch = 0) (hm : pn - o < n_) (H_ : Heap) (locs_ : List Loc) (ls : Array Slot) (hl : lv_has ls 4 [(3, .int (nI o)), (0, .ref aK), (1, .int (nI ch)), (2, .int (nI s0))]) (w : ga_wd G A_ s_ H_ locs_ [(aK, .inr (0, [.ref aZ, .int (nI pn), .int (bI sl)])), (aZ, .inl (G.2.2, cap, .inl (aN z)))]), W p_ l e_ { frames := 0, cells := 0, slots := 0, locals := 0 } s_ m_ [.ref aK, .int (nI ch), .int (nI s0)].toArray below meth c_ H_ locs_ (0) (0) (MQ below (ga_Q G A_ (fun r w => r = some (.int (nI (fnm z ch pn s0))) ∧ w = [(aK, .inr (0, [.ref aZ, .int (nI pn), .int (bI sl)])), (aZ, .inl (G.2.2, cap, .inl (aN z)))])) [.ref aK, .int (nI ch), .int (nI s0)].toArray s_ 0 0 A_) (F0 m_ 2 ls []) := by
    intro n_
    induction n_ with
    | zero => intro o ho1 ho2 hno hm; exact absurd hm (Nat.not_lt_zero _)
    | succ n_ ih2 =>
      intro o ho1 ho2 hno hm2 H_ locs_ ls hl w
      refine lv_iload_n hx hb dX0_firstNotMetBy_2 rfl (lv_at hl 0 rfl) ?_
      refine lv_aload_n hx hb dX0_firstNotMetBy_3 rfl (lv_at hl 1 rfl) ?_
      refine gf_X0_19 cx hK w 0 rfl rfl dX0_firstNotMetBy_4 ?_
      refine r_icmp_ge hx hb dX0_firstNotMetBy_7 (tgt := 29) (by decide) (by omega) (by omega) (fun c7 => ?_) (fun c7 => ?_)
      · refine lv_aload_n hx hb dX0_firstNotMetBy_29 rfl (lv_at hl 1 rfl) ?_
        refine gf_X0_19 cx hK w 0 rfl rfl dX0_firstNotMetBy_30 ?_
        exact ga_iret cx hr hlk w dX0_firstNotMetBy_33 ⟨Nat.le_refl _, Nat.le_refl _⟩ (⟨ga_rv (congrArg nI (fnm_end hs0 (fun u h1 h2 => hno u h1 (by omega))).symm), rfl⟩)
      · refine lv_aload_n hx hb dX0_firstNotMetBy_10 rfl (lv_at hl 1 rfl) ?_
        refine gf_X0_9 cx hK w 0 rfl rfl dX0_firstNotMetBy_11 ?_
        refine lv_iload_n hx hb dX0_firstNotMetBy_14 rfl (lv_at hl 0 rfl) ?_
        refine r_ialdN hx hb hK w 1 rfl dX0_firstNotMetBy_15 (by omega) (by omega) ?_
        refine lv_iload_n hx hb dX0_firstNotMetBy_16 rfl (lv_at hl 2 rfl) ?_
        refine r_iand hx hb dX0_firstNotMetBy_17 ?_
        refine r_if_ne hx hb dX0_firstNotMetBy_18 (tgt := 23) (by decide) (andL_lt (by have := hz o (by omega); omega)) (fun c18 => ?_) (fun c18 => ?_)
        · refine r_iinc (d := 1) (k := 0) (lv' := [(3, .int (nI (o + 1))), (0, .ref aK), (1, .int (nI ch)), (2, .int (nI s0))]) hx hb dX0_firstNotMetBy_23 hl rfl (by decide) (by decide) rfl (fun ls hl => ?_)
          refine lv_goto (tgt := 2) hx hb dX0_firstNotMetBy_26 (by decide) ?_
          exact ih2 (o + 1) (by omega) (by omega) (fun u h1 h2 => by rcases Nat.lt_or_ge u o with h | h; exact hno u h1 h; (rw [show u = o by omega]; exact c18)) (by omega) _ _ _ (lv_sub hl [0, 1, 2, 3] rfl) w
        · refine lv_iload_n hx hb dX0_firstNotMetBy_21 rfl (lv_at hl 0 rfl) ?_
          exact ga_iret cx hr hlk w dX0_firstNotMetBy_22 ⟨Nat.le_refl _, Nat.le_refl _⟩ (⟨ga_rv (congrArg nI (fnm_hit ho1 (by omega) c18 hno).symm), rfl⟩)
  exact loop2 _ s0 (by omega) (by omega) (fun u h1 h2 => by omega) (Nat.lt_succ_self _) _ _ _ (lv_sub hl [0, 1, 2, 3] rfl) w

set_option maxHeartbeats 4000000 in
set_option maxRecDepth 100000 in
theorem c_X0_allMetBy (l : Launch) (G : ga_G) (aK : Nat) (aZ : Nat) (cap : Nat) (z : Nat → Nat) (pn : Nat) (sl : Bool) (ch : Nat) (hpc : pn ≤ cap) (hcap : cap < 2 ^ 25) (hz : ∀ q, q < pn → z q < 65536) : ga_M l G yX0_allMetBy cX0_allMetBy 2 (Option.some Jvm.ClassFile.FieldType.boolean) 1 23 0 0 [.ref aK, .int (nI ch)] [(aK, .inr (0, [.ref aZ, .int (nI pn), .int (bI sl)])), (aZ, .inl (G.2.2, cap, .inl (aN z)))] (fun r w => r = some (.int (bI (decide (fnm z ch pn 0 = pn)))) ∧ w = [(aK, .inr (0, [.ref aZ, .int (nI pn), .int (bI sl)])), (aZ, .inl (G.2.2, cap, .inl (aN z)))]) := by
  refine ga_M.intro (by decide) (Nat.le_of_ble_eq_true rfl) (fun p_ e_ s_ m_ below meth c_ A_ H_ locs_ ls cx hr hlk hnm hA hK hl w => ?_)
  have hx := cx.1
  have hb := cx.2.1
  have hl : lv_has ls 2 [(0, .ref aK), (1, .int (nI ch))] := hl
  refine lv_aload_n hx hb dX0_allMetBy_0 rfl (lv_at hl 0 rfl) ?_
  refine lv_iload_n hx hb dX0_allMetBy_1 rfl (lv_at hl 1 rfl) ?_
  refine lv_iconst (v := nI 0) hx hb dX0_allMetBy_2 (by decide) ?_
  refine ga_callV (rest := []) (wr := []) cx hK hA w hl lk_X0_45 (c_X0_firstNotMetBy l G aK aZ cap z pn sl ch 0 (hpc) (hcap) (hz) (by omega)) ⟨Nat.le_of_ble_eq_true rfl, Nat.le_of_ble_eq_true rfl⟩ [0, 1] [] rfl rfl (by decide) (by decide) (by decide) 0 0 rfl rfl rfl rfl (Nat.le_of_ble_eq_true rfl) dX0_allMetBy_3 ⟨Nat.le_refl _, Nat.le_refl _⟩ rfl (fun r w1_ H_ locs_ hp w => ?_)
  obtain ⟨rfl, rfl⟩ := hp
  have w : ga_wd G A_ s_ H_ locs_ [(aK, .inr (0, [.ref aZ, .int (nI pn), .int (bI sl)])), (aZ, .inl (G.2.2, cap, .inl (aN z)))] := ga_perm w [0, 1] (by decide) rfl
  refine W.eq (g2 := F0 m_ 6 ls [.int (nI (fnm z ch pn 0))]) rfl ?_
  refine lv_aload_n hx hb dX0_allMetBy_6 rfl (lv_at hl 0 rfl) ?_
  refine gf_X0_19 cx hK w 0 rfl rfl dX0_allMetBy_7 ?_
  refine r_icmp_ne hx hb dX0_allMetBy_10 (tgt := 17) (by decide) (by have := (fnm_sp (z := z) (ch := ch) (Nat.zero_le pn)).2.1; omega) (by omega) (fun c10 => ?_) (fun c10 => ?_)
  · refine lv_iconst (v := nI 0) hx hb dX0_allMetBy_17 (by decide) ?_
    exact ga_zret cx hr hlk w rfl dX0_allMetBy_18 ⟨Nat.le_refl _, Nat.le_refl _⟩ (⟨ga_r0 (by simp [c10]), rfl⟩)
  · refine lv_iconst (v := nI 1) hx hb dX0_allMetBy_13 (by decide) ?_
    refine lv_goto (tgt := 18) hx hb dX0_allMetBy_14 (by decide) ?_
    exact ga_zret cx hr hlk w rfl dX0_allMetBy_18 ⟨Nat.le_refl _, Nat.le_refl _⟩ (⟨ga_r1 (by simp [c10]), rfl⟩)

set_option maxHeartbeats 4000000 in
set_option maxRecDepth 100000 in
theorem c_X0_gather (l : Launch) (G : ga_G) (aK : Nat) (aZ : Nat) (cap : Nat) (z : Nat → Nat) (pn : Nat) (sl : Bool) (aW : Nat) (aS : Nat) (aQ : Nat) (num : Nat) (tm : Bool) (ss : Nat → Nat) (ns : Nat → Nat) (slw : Bool) (ea : Bool) (fa : Nat) (hnum : num ≤ 200) (hcap : cap ≤ 80800) (hc1 : 1 ≤ cap) (hss : ∀ i, i < num → ss i < 65536) (hns : ∀ i, i < num → ns i < 65536) : ga_M l G yX0_gather cX0_gather 7 (Option.none : Option Jvm.ClassFile.FieldType) 3 104 (2 * (gth ss ns ea fa cap (prs num num (num + 1))).2 - 2 * cap) (2 * (gth ss ns ea fa cap (prs num num (num + 1))).2 - 2 * cap) [.ref aK, .ref aW, .int (bI ea), .int (nI fa)] [(aK, .inr (0, [.ref aZ, .int (nI pn), .int (bI sl)])), (aZ, .inl (G.2.2, cap, .inl (aN z))), (aW, .inr (3, [.ref aS, .ref aQ, .int (nI num), .int (bI tm), .int (bI slw)])), (aS, .inl (G.2.2, 200, .inl (aN ss))), (aQ, .inl (G.2.2, 200, .inl (aN ns)))] (fun r w => ∃ (aZ2 : Nat), ∃ (z2 : Nat → Nat), ∃ (pn2 : Nat), (lz z2 pn2 = (gth ss ns ea fa cap (prs num num (num + 1))).1) ∧ (pn2 ≤ (gth ss ns ea fa cap (prs num num (num + 1))).2) ∧ ((gth ss ns ea fa cap (prs num num (num + 1))).2 ≤ 80800) ∧ r = none ∧ w = [(aK, .inr (0, [.ref aZ2, .int (nI pn2), .int (bI false)])), (aZ2, .inl (G.2.2, (gth ss ns ea fa cap (prs num num (num + 1))).2, .inl (aN z2))), (aW, .inr (3, [.ref aS, .ref aQ, .int (nI num), .int (bI tm), .int (bI slw)])), (aS, .inl (G.2.2, 200, .inl (aN ss))), (aQ, .inl (G.2.2, 200, .inl (aN ns)))]) := by
  refine ga_M.intro (by decide) (Nat.le_of_ble_eq_true rfl) (fun p_ e_ s_ m_ below meth c_ A_ H_ locs_ ls cx hr hlk hnm hA hK hl w => ?_)
  have hx := cx.1
  have hb := cx.2.1
  have hl : lv_has ls 7 [(0, .ref aK), (1, .ref aW), (2, .int (bI ea)), (3, .int (nI fa))] := hl
  refine lv_aload_n hx hb dX0_gather_0 rfl (lv_at hl 0 rfl) ?_
  refine lv_iconst (v := nI 0) hx hb dX0_gather_1 (by decide) ?_
  refine pf_X0_19 cx hK w 0 rfl rfl rfl (Nat.le_of_ble_eq_true rfl) dX0_gather_2 (fun H_ locs_ w => ?_)
  have w : ga_wd G A_ s_ H_ locs_ [(aK, .inr (0, [.ref aZ, .int (nI 0), .int (bI sl)])), (aZ, .inl (G.2.2, cap, .inl (aN z))), (aW, .inr (3, [.ref aS, .ref aQ, .int (nI num), .int (bI tm), .int (bI slw)])), (aS, .inl (G.2.2, 200, .inl (aN ss))), (aQ, .inl (G.2.2, 200, .inl (aN ns)))] := w
  refine lv_aload_n hx hb dX0_gather_5 rfl (lv_at hl 0 rfl) ?_
  refine lv_iconst (v := nI 0) hx hb dX0_gather_6 (by decide) ?_
  refine pf_X0_15 cx hK w 0 rfl rfl rfl (Nat.le_of_ble_eq_true rfl) dX0_gather_7 (fun H_ locs_ w => ?_)
  have w : ga_wd G A_ s_ H_ locs_ [(aK, .inr (0, [.ref aZ, .int (nI 0), .int (nI 0)])), (aZ, .inl (G.2.2, cap, .inl (aN z))), (aW, .inr (3, [.ref aS, .ref aQ, .int (nI num), .int (bI tm), .int (bI slw)])), (aS, .inl (G.2.2, 200, .inl (aN ss))), (aQ, .inl (G.2.2, 200, .inl (aN ns)))] := w
  refine lv_iconst (v := nI 0) hx hb dX0_gather_10 (by decide) ?_
  refine lv_istore (lv' := [(4, .int (nI 0)), (0, .ref aK), (1, .ref aW), (2, .int (bI ea)), (3, .int (nI fa))]) hx hb dX0_gather_11 hl (by decide) rfl (fun ls hl => ?_)
  have loop13 : ∀ (n_ : Nat) (i : Nat) (az1 : Nat) (z1 : Nat → Nat) (pn1 : Nat) (cp1 : Nat) (hi : i ≤ num) (hg1 : gth ss ns ea fa cap (prs num i (i + 1)) = (lz z1 pn1, cp1)) (hp1 : pn1 ≤ cp1) (hcc : cp1 ≤ 80800) (hc0 : cap ≤ cp1) (hzm : ∀ y ∈ lz z1 pn1, y < 65536) (hm : num - i < n_) (H_ : Heap) (locs_ : List Loc) (ls : Array Slot) (hl : lv_has ls 7 [(4, .int (nI i)), (0, .ref aK), (1, .ref aW), (2, .int (bI ea)), (3, .int (nI fa))]) (w : ga_wd G A_ s_ H_ locs_ [(aK, .inr (0, [.ref az1, .int (nI pn1), .int (bI false)])), (az1, .inl (G.2.2, cp1, .inl (aN z1))), (aW, .inr (3, [.ref aS, .ref aQ, .int (nI num), .int (bI tm), .int (bI slw)])), (aS, .inl (G.2.2, 200, .inl (aN ss))), (aQ, .inl (G.2.2, 200, .inl (aN ns)))]), W p_ l e_ { frames := 3, cells := 2 * (gth ss ns ea fa cap (prs num num (num + 1))).2 - 2 * cap, slots := 2 * (gth ss ns ea fa cap (prs num num (num + 1))).2 - 2 * cap, locals := 104 } s_ m_ [.ref aK, .ref aW, .int (bI ea), .int (nI fa)].toArray below meth c_ H_ locs_ (2 * cp1 - 2 * cap) (2 * cp1 - 2 * cap) (MQ below (ga_Q G A_ (fun r w => ∃ (aZ2 : Nat), ∃ (z2 : Nat → Nat), ∃ (pn2 : Nat), (lz z2 pn2 = (gth ss ns ea fa cap (prs num num (num + 1))).1) ∧ (pn2 ≤ (gth ss ns ea fa cap (prs num num (num + 1))).2) ∧ ((gth ss ns ea fa cap (prs num num (num + 1))).2 ≤ 80800) ∧ r = none ∧ w = [(aK, .inr (0, [.ref aZ2, .int (nI pn2), .int (bI false)])), (aZ2, .inl (G.2.2, (gth ss ns ea fa cap (prs num num (num + 1))).2, .inl (aN z2))), (aW, .inr (3, [.ref aS, .ref aQ, .int (nI num), .int (bI tm), .int (bI slw)])), (aS, .inl (G.2.2, 200, .inl (aN ss))), (aQ, .inl (G.2.2, 200, .inl (aN ns)))])) [.ref aK, .ref aW, .int (bI ea), .int (nI fa)].toArray s_ (2 * (gth ss ns ea fa cap (prs num num (num + 1))).2 - 2 * cap) (2 * (gth ss ns ea fa cap (prs num num (num + 1))).2 - 2 * cap) A_) (F0 m_ 13 ls []) := by
    intro n_
    induction n_ with
    | zero => intro i az1 z1 pn1 cp1 hi hg1 hp1 hcc hc0 hzm hm; exact absurd hm (Nat.not_lt_zero _)
    | succ n_ ih13 =>
      intro i az1 z1 pn1 cp1 hi hg1 hp1 hcc hc0 hzm hm13 H_ locs_ ls hl w
      refine lv_iload hx hb dX0_gather_13 (lv_at hl 0 rfl) ?_
      refine lv_aload_n hx hb dX0_gather_15 rfl (lv_at hl 2 rfl) ?_
      refine gf_X0_23 cx hK w 2 rfl rfl dX0_gather_16 ?_
      refine r_icmp_ge hx hb dX0_gather_19 (tgt := 104) (by decide) (by omega) (by omega) (fun c19 => ?_) (fun c19 => ?_)
      · have hfin : gth ss ns ea fa cap (prs num num (num + 1)) = (lz z1 pn1, cp1) := by rw [show num = i by omega]; rw [show num = i by omega] at hg1; exact hg1
        exact ga_vret cx hr hlk w dX0_gather_104 ⟨by rw [hfin]; exact Nat.le_refl _, by rw [hfin]; exact Nat.le_refl _⟩ (⟨az1, z1, pn1, by rw [hfin], by rw [hfin]; exact hp1, by rw [hfin]; exact hcc, rfl, by rw [hfin]⟩)
      · refine lv_iload hx hb dX0_gather_22 (lv_at hl 0 rfl) ?_
        refine lv_iconst (v := nI 1) hx hb dX0_gather_24 (by decide) ?_
        refine r_iadd hx hb dX0_gather_25 ?_
        refine lv_istore (lv' := [(5, .int (nI (i + 1))), (4, .int (nI i)), (0, .ref aK), (1, .ref aW), (2, .int (bI ea)), (3, .int (nI fa))]) hx hb dX0_gather_26 hl (by decide) rfl (fun ls hl => ?_)
        have loop28 : ∀ (n_ : Nat) (j : Nat) (az3 : Nat) (z3 : Nat → Nat) (pn3 : Nat) (cp3 : Nat) (hij : i < j) (hj : j ≤ num) (hg3 : gth ss ns ea fa cap (prs num i j) = (lz z3 pn3, cp3)) (hp3 : pn3 ≤ cp3) (hcc3 : cp3 ≤ 80800) (hc03 : cap ≤ cp3) (hzm3 : ∀ y ∈ lz z3 pn3, y < 65536) (hm : num - j < n_) (H_ : Heap) (locs_ : List Loc) (ls : Array Slot) (hl : lv_has ls 7 [(5, .int (nI j)), (4, .int (nI i)), (0, .ref aK), (1, .ref aW), (2, .int (bI ea)), (3, .int (nI fa))]) (w : ga_wd G A_ s_ H_ locs_ [(aK, .inr (0, [.ref az3, .int (nI pn3), .int (bI false)])), (az3, .inl (G.2.2, cp3, .inl (aN z3))), (aW, .inr (3, [.ref aS, .ref aQ, .int (nI num), .int (bI tm), .int (bI slw)])), (aS, .inl (G.2.2, 200, .inl (aN ss))), (aQ, .inl (G.2.2, 200, .inl (aN ns)))]), W p_ l e_ { frames := 3, cells := 2 * (gth ss ns ea fa cap (prs num num (num + 1))).2 - 2 * cap, slots := 2 * (gth ss ns ea fa cap (prs num num (num + 1))).2 - 2 * cap, locals := 104 } s_ m_ [.ref aK, .ref aW, .int (bI ea), .int (nI fa)].toArray below meth c_ H_ locs_ (2 * cp3 - 2 * cap) (2 * cp3 - 2 * cap) (MQ below (ga_Q G A_ (fun r w => ∃ (aZ2 : Nat), ∃ (z2 : Nat → Nat), ∃ (pn2 : Nat), (lz z2 pn2 = (gth ss ns ea fa cap (prs num num (num + 1))).1) ∧ (pn2 ≤ (gth ss ns ea fa cap (prs num num (num + 1))).2) ∧ ((gth ss ns ea fa cap (prs num num (num + 1))).2 ≤ 80800) ∧ r = none ∧ w = [(aK, .inr (0, [.ref aZ2, .int (nI pn2), .int (bI false)])), (aZ2, .inl (G.2.2, (gth ss ns ea fa cap (prs num num (num + 1))).2, .inl (aN z2))), (aW, .inr (3, [.ref aS, .ref aQ, .int (nI num), .int (bI tm), .int (bI slw)])), (aS, .inl (G.2.2, 200, .inl (aN ss))), (aQ, .inl (G.2.2, 200, .inl (aN ns)))])) [.ref aK, .ref aW, .int (bI ea), .int (nI fa)].toArray s_ (2 * (gth ss ns ea fa cap (prs num num (num + 1))).2 - 2 * cap) (2 * (gth ss ns ea fa cap (prs num num (num + 1))).2 - 2 * cap) A_) (F0 m_ 28 ls []) := by
          intro n_
          induction n_ with
          | zero => intro j az3 z3 pn3 cp3 hij hj hg3 hp3 hcc3 hc03 hzm3 hm; exact absurd hm (Nat.not_lt_zero _)
          | succ n_ ih28 =>
            intro j az3 z3 pn3 cp3 hij hj hg3 hp3 hcc3 hc03 hzm3 hm28 H_ locs_ ls hl w
            refine lv_iload hx hb dX0_gather_28 (lv_at hl 0 rfl) ?_
            refine lv_aload_n hx hb dX0_gather_30 rfl (lv_at hl 3 rfl) ?_
            refine gf_X0_23 cx hK w 2 rfl rfl dX0_gather_31 ?_
            refine r_icmp_ge hx hb dX0_gather_34 (tgt := 98) (by decide) (by omega) (by omega) (fun c34 => ?_) (fun c34 => ?_)
            · refine r_iinc (d := 1) (k := 1) (lv' := [(4, .int (nI (i + 1))), (5, .int (nI j)), (0, .ref aK), (1, .ref aW), (2, .int (bI ea)), (3, .int (nI fa))]) hx hb dX0_gather_98 hl rfl (by decide) (by decide) rfl (fun ls hl => ?_)
              refine lv_goto (tgt := 13) hx hb dX0_gather_101 (by decide) ?_
              refine W.widen (k := 2 * cp3 - 2 * cap) (n := 2 * cp3 - 2 * cap) (by omega) (by omega) ?_
              exact ih13 (i + 1) az3 z3 pn3 cp3 (by omega) (by rw [prs_row, show num = j by omega]; rw [show num = j by omega] at hg3; exact hg3) (hp3) (hcc3) (hc03) (hzm3) (by omega) _ _ _ (lv_sub hl [0, 2, 3, 4, 5] rfl) w
            · refine lv_aload_n hx hb dX0_gather_37 rfl (lv_at hl 3 rfl) ?_
              refine gf_X0_26 cx hK w 2 rfl rfl dX0_gather_38 ?_
              refine lv_iload hx hb dX0_gather_41 (lv_at hl 1 rfl) ?_
              refine r_ialdN hx hb hK w 4 rfl dX0_gather_43 (by omega) (by decide) ?_
              refine lv_aload_n hx hb dX0_gather_44 rfl (lv_at hl 3 rfl) ?_
              refine gf_X0_26 cx hK w 2 rfl rfl dX0_gather_45 ?_
              refine lv_iload hx hb dX0_gather_48 (lv_at hl 0 rfl) ?_
              refine r_ialdN hx hb hK w 4 rfl dX0_gather_50 (by omega) (by decide) ?_
              refine r_ixor hx hb dX0_gather_51 ?_
              refine lv_iload_n hx hb dX0_gather_52 rfl (lv_at hl 5 rfl) ?_
              refine r_iand hx hb dX0_gather_53 ?_
              refine r_if_eq hx hb dX0_gather_54 (tgt := 61) (by decide) (andL_lt (by have := xor_lt 16 (hns i (by omega)) (hns j (by omega)); omega)) (fun c54 => ?_) (fun c54 => ?_)
              · refine lv_iconst (v := nI 0) hx hb dX0_gather_61 (by decide) ?_
                refine lv_istore (lv' := [(6, .int (nI 0)), (5, .int (nI j)), (4, .int (nI i)), (0, .ref aK), (1, .ref aW), (2, .int (bI ea)), (3, .int (nI fa))]) hx hb dX0_gather_62 hl (by decide) rfl (fun ls hl => ?_)
                refine lv_iload_n hx hb dX0_gather_64 rfl (lv_at hl 5 rfl) ?_
                refine r_ifb_ne hx hb dX0_gather_65 (tgt := 73) (by decide) (fun c65 => ?_) (fun c65 => ?_)
                · refine lv_aload_n hx hb dX0_gather_73 rfl (lv_at hl 3 rfl) ?_
                  refine lv_aload_n hx hb dX0_gather_74 rfl (lv_at hl 4 rfl) ?_
                  refine gf_X0_29 cx hK w 2 rfl rfl dX0_gather_75 ?_
                  refine lv_iload hx hb dX0_gather_78 (lv_at hl 2 rfl) ?_
                  refine r_ialdN hx hb hK w 3 rfl dX0_gather_80 (by omega) (by decide) ?_
                  refine lv_aload_n hx hb dX0_gather_81 rfl (lv_at hl 4 rfl) ?_
                  refine gf_X0_29 cx hK w 2 rfl rfl dX0_gather_82 ?_
                  refine lv_iload hx hb dX0_gather_85 (lv_at hl 1 rfl) ?_
                  refine r_ialdN hx hb hK w 3 rfl dX0_gather_87 (by omega) (by decide) ?_
                  refine r_ixor hx hb dX0_gather_88 ?_
                  have hst : gth ss ns ea fa cap (prs num i (j + 1)) = (addL (lz z3 pn3) ((ss i) ^^^ (ss j)), capL cp3 (lz z3 pn3) ((ss i) ^^^ (ss j))) := by rw [prs_s hij, gth_a, hg3, gst_t (by first | exact cnd_1 c65 | exact cnd_2 c54)]
                  have hle : capL cp3 (lz z3 pn3) ((ss i) ^^^ (ss j)) ≤ (gth ss ns ea fa cap (prs num num (num + 1))).2 := by
                    obtain ⟨r, hr9⟩ := prs_pre (num := num) (num - i) i (j + 1) (by omega) (by omega) (Or.inl (by omega))
                    have h9 := gth_pre (ss := ss) (ns := ns) (ea := ea) (fa := fa) (cap := cap) (prs num i (j + 1)) r
                    rw [← hr9, hst] at h9
                    exact h9
                  have hcg := capL_ge cp3 (lz z3 pn3) ((ss i) ^^^ (ss j))
                  have hln : pn3 ≤ i * num + j := by
                    have h9 := gth_len (ss := ss) (ns := ns) (ea := ea) (fa := fa) (cap := cap) (prs num i j)
                    rw [hg3, lz_len] at h9
                    exact Nat.le_trans h9 (prs_len (by omega) (by omega) hij)
                  have hin : i * num ≤ 200 * 200 := Nat.mul_le_mul (by omega) (by omega)
                  have hcm := capL_le cp3 (lz z3 pn3) ((ss i) ^^^ (ss j))
                  rw [lz_len] at hcm
                  have hxx : (ss i) ^^^ (ss j) < 65536 := xor_lt 16 (hss i (by omega)) (hss j (by omega))
                  refine ga_callV (rest := []) (wr := [(aW, .inr (3, [.ref aS, .ref aQ, .int (nI num), .int (bI tm), .int (bI slw)])), (aS, .inl (G.2.2, 200, .inl (aN ss))), (aQ, .inl (G.2.2, 200, .inl (aN ns)))]) cx hK hA w hl lk_X0_32 (c_X0_add l G aK az3 cp3 z3 pn3 false ((ss i) ^^^ (ss j)) (hp3) (by omega) (fun q hq => hzm3 _ (lz_mem.mpr ⟨q, hq, rfl⟩)) (hxx) (by omega)) ⟨Nat.le_of_ble_eq_true rfl, Nat.le_of_ble_eq_true rfl⟩ [0, 1] [2, 3, 4] rfl rfl (by decide) (by decide) (by decide) 0 0 rfl rfl rfl rfl (Nat.le_of_ble_eq_true rfl) dX0_gather_89 ⟨by show 2 * cp3 - 2 * cap + _ ≤ 2 * (gth ss ns ea fa cap (prs num num (num + 1))).2 - 2 * cap; omega, by show 2 * cp3 - 2 * cap + _ ≤ 2 * (gth ss ns ea fa cap (prs num num (num + 1))).2 - 2 * cap; omega⟩ rfl (fun r w1_ H_ locs_ hp w => ?_)
                  obtain ⟨az4, z4, pn4, h42, h43, rfl, rfl⟩ := hp
                  have w : ga_wd G A_ s_ H_ locs_ [(aK, .inr (0, [.ref az4, .int (nI pn4), .int (bI false)])), (aW, .inr (3, [.ref aS, .ref aQ, .int (nI num), .int (bI tm), .int (bI slw)])), (aS, .inl (G.2.2, 200, .inl (aN ss))), (aQ, .inl (G.2.2, 200, .inl (aN ns))), (az4, .inl (G.2.2, capL cp3 (lz z3 pn3) ((ss i) ^^^ (ss j)), .inl (aN z4)))] := ga_perm w [3, 0, 1, 2, 4] (by decide) rfl
                  refine W.eq (g2 := F0 m_ 92 ls []) rfl ?_
                  refine r_iinc (d := 1) (k := 1) (lv' := [(5, .int (nI (j + 1))), (6, .int (nI 0)), (4, .int (nI i)), (0, .ref aK), (1, .ref aW), (2, .int (bI ea)), (3, .int (nI fa))]) hx hb dX0_gather_92 hl rfl (by decide) (by decide) rfl (fun ls hl => ?_)
                  refine lv_goto (tgt := 28) hx hb dX0_gather_95 (by decide) ?_
                  refine W.widen (k := 2 * (capL cp3 (lz z3 pn3) ((ss i) ^^^ (ss j))) - 2 * cap) (n := 2 * (capL cp3 (lz z3 pn3) ((ss i) ^^^ (ss j))) - 2 * cap) (by omega) (by omega) ?_
                  exact ih28 (j + 1) az4 z4 pn4 (capL cp3 (lz z3 pn3) ((ss i) ^^^ (ss j))) (by omega) (by omega) (by rw [hst, h42]) (h43) (by omega) (by omega) (by rw [h42]; exact addL_lt hzm3 hxx) (by omega) _ _ _ (lv_sub hl [0, 2, 3, 4, 5, 6] rfl) (ga_perm w [0, 4, 1, 2, 3] (by decide) rfl)
                · refine lv_iload hx hb dX0_gather_68 (lv_at hl 0 rfl) ?_
                  refine r_if_eq hx hb dX0_gather_70 (tgt := 92) (by decide) (by decide) (fun c70 => ?_) (fun c70 => ?_)
                  · refine r_iinc (d := 1) (k := 1) (lv' := [(5, .int (nI (j + 1))), (6, .int (nI 0)), (4, .int (nI i)), (0, .ref aK), (1, .ref aW), (2, .int (bI ea)), (3, .int (nI fa))]) hx hb dX0_gather_92 hl rfl (by decide) (by decide) rfl (fun ls hl => ?_)
                    refine lv_goto (tgt := 28) hx hb dX0_gather_95 (by decide) ?_
                    refine W.widen (k := 2 * cp3 - 2 * cap) (n := 2 * cp3 - 2 * cap) (by omega) (by omega) ?_
                    exact ih28 (j + 1) az3 z3 pn3 cp3 (by omega) (by omega) (by rw [prs_s hij, gth_a, hg3, gst_f (cnd_0 c65 c54)]) (hp3) (hcc3) (hc03) (hzm3) (by omega) _ _ _ (lv_sub hl [0, 2, 3, 4, 5, 6] rfl) w
                  · exact absurd rfl c70
              · refine lv_iconst (v := nI 1) hx hb dX0_gather_57 (by decide) ?_
                refine lv_goto (tgt := 62) hx hb dX0_gather_58 (by decide) ?_
                refine lv_istore (lv' := [(6, .int (nI 1)), (5, .int (nI j)), (4, .int (nI i)), (0, .ref aK), (1, .ref aW), (2, .int (bI ea)), (3, .int (nI fa))]) hx hb dX0_gather_62 hl (by decide) rfl (fun ls hl => ?_)
                refine lv_iload_n hx hb dX0_gather_64 rfl (lv_at hl 5 rfl) ?_
                refine r_ifb_ne hx hb dX0_gather_65 (tgt := 73) (by decide) (fun c65 => ?_) (fun c65 => ?_)
                · refine lv_aload_n hx hb dX0_gather_73 rfl (lv_at hl 3 rfl) ?_
                  refine lv_aload_n hx hb dX0_gather_74 rfl (lv_at hl 4 rfl) ?_
                  refine gf_X0_29 cx hK w 2 rfl rfl dX0_gather_75 ?_
                  refine lv_iload hx hb dX0_gather_78 (lv_at hl 2 rfl) ?_
                  refine r_ialdN hx hb hK w 3 rfl dX0_gather_80 (by omega) (by decide) ?_
                  refine lv_aload_n hx hb dX0_gather_81 rfl (lv_at hl 4 rfl) ?_
                  refine gf_X0_29 cx hK w 2 rfl rfl dX0_gather_82 ?_
                  refine lv_iload hx hb dX0_gather_85 (lv_at hl 1 rfl) ?_
                  refine r_ialdN hx hb hK w 3 rfl dX0_gather_87 (by omega) (by decide) ?_
                  refine r_ixor hx hb dX0_gather_88 ?_
                  have hst : gth ss ns ea fa cap (prs num i (j + 1)) = (addL (lz z3 pn3) ((ss i) ^^^ (ss j)), capL cp3 (lz z3 pn3) ((ss i) ^^^ (ss j))) := by rw [prs_s hij, gth_a, hg3, gst_t (by first | exact cnd_1 c65 | exact cnd_2 c54)]
                  have hle : capL cp3 (lz z3 pn3) ((ss i) ^^^ (ss j)) ≤ (gth ss ns ea fa cap (prs num num (num + 1))).2 := by
                    obtain ⟨r, hr9⟩ := prs_pre (num := num) (num - i) i (j + 1) (by omega) (by omega) (Or.inl (by omega))
                    have h9 := gth_pre (ss := ss) (ns := ns) (ea := ea) (fa := fa) (cap := cap) (prs num i (j + 1)) r
                    rw [← hr9, hst] at h9
                    exact h9
                  have hcg := capL_ge cp3 (lz z3 pn3) ((ss i) ^^^ (ss j))
                  have hln : pn3 ≤ i * num + j := by
                    have h9 := gth_len (ss := ss) (ns := ns) (ea := ea) (fa := fa) (cap := cap) (prs num i j)
                    rw [hg3, lz_len] at h9
                    exact Nat.le_trans h9 (prs_len (by omega) (by omega) hij)
                  have hin : i * num ≤ 200 * 200 := Nat.mul_le_mul (by omega) (by omega)
                  have hcm := capL_le cp3 (lz z3 pn3) ((ss i) ^^^ (ss j))
                  rw [lz_len] at hcm
                  have hxx : (ss i) ^^^ (ss j) < 65536 := xor_lt 16 (hss i (by omega)) (hss j (by omega))
                  refine ga_callV (rest := []) (wr := [(aW, .inr (3, [.ref aS, .ref aQ, .int (nI num), .int (bI tm), .int (bI slw)])), (aS, .inl (G.2.2, 200, .inl (aN ss))), (aQ, .inl (G.2.2, 200, .inl (aN ns)))]) cx hK hA w hl lk_X0_32 (c_X0_add l G aK az3 cp3 z3 pn3 false ((ss i) ^^^ (ss j)) (hp3) (by omega) (fun q hq => hzm3 _ (lz_mem.mpr ⟨q, hq, rfl⟩)) (hxx) (by omega)) ⟨Nat.le_of_ble_eq_true rfl, Nat.le_of_ble_eq_true rfl⟩ [0, 1] [2, 3, 4] rfl rfl (by decide) (by decide) (by decide) 0 0 rfl rfl rfl rfl (Nat.le_of_ble_eq_true rfl) dX0_gather_89 ⟨by show 2 * cp3 - 2 * cap + _ ≤ 2 * (gth ss ns ea fa cap (prs num num (num + 1))).2 - 2 * cap; omega, by show 2 * cp3 - 2 * cap + _ ≤ 2 * (gth ss ns ea fa cap (prs num num (num + 1))).2 - 2 * cap; omega⟩ rfl (fun r w1_ H_ locs_ hp w => ?_)
                  obtain ⟨az4, z4, pn4, h42, h43, rfl, rfl⟩ := hp
                  have w : ga_wd G A_ s_ H_ locs_ [(aK, .inr (0, [.ref az4, .int (nI pn4), .int (bI false)])), (aW, .inr (3, [.ref aS, .ref aQ, .int (nI num), .int (bI tm), .int (bI slw)])), (aS, .inl (G.2.2, 200, .inl (aN ss))), (aQ, .inl (G.2.2, 200, .inl (aN ns))), (az4, .inl (G.2.2, capL cp3 (lz z3 pn3) ((ss i) ^^^ (ss j)), .inl (aN z4)))] := ga_perm w [3, 0, 1, 2, 4] (by decide) rfl
                  refine W.eq (g2 := F0 m_ 92 ls []) rfl ?_
                  refine r_iinc (d := 1) (k := 1) (lv' := [(5, .int (nI (j + 1))), (6, .int (nI 1)), (4, .int (nI i)), (0, .ref aK), (1, .ref aW), (2, .int (bI ea)), (3, .int (nI fa))]) hx hb dX0_gather_92 hl rfl (by decide) (by decide) rfl (fun ls hl => ?_)
                  refine lv_goto (tgt := 28) hx hb dX0_gather_95 (by decide) ?_
                  refine W.widen (k := 2 * (capL cp3 (lz z3 pn3) ((ss i) ^^^ (ss j))) - 2 * cap) (n := 2 * (capL cp3 (lz z3 pn3) ((ss i) ^^^ (ss j))) - 2 * cap) (by omega) (by omega) ?_
                  exact ih28 (j + 1) az4 z4 pn4 (capL cp3 (lz z3 pn3) ((ss i) ^^^ (ss j))) (by omega) (by omega) (by rw [hst, h42]) (h43) (by omega) (by omega) (by rw [h42]; exact addL_lt hzm3 hxx) (by omega) _ _ _ (lv_sub hl [0, 2, 3, 4, 5, 6] rfl) (ga_perm w [0, 4, 1, 2, 3] (by decide) rfl)
                · refine lv_iload hx hb dX0_gather_68 (lv_at hl 0 rfl) ?_
                  refine r_if_eq hx hb dX0_gather_70 (tgt := 92) (by decide) (by decide) (fun c70 => ?_) (fun c70 => ?_)
                  · exact absurd c70 (by decide)
                  · refine lv_aload_n hx hb dX0_gather_73 rfl (lv_at hl 3 rfl) ?_
                    refine lv_aload_n hx hb dX0_gather_74 rfl (lv_at hl 4 rfl) ?_
                    refine gf_X0_29 cx hK w 2 rfl rfl dX0_gather_75 ?_
                    refine lv_iload hx hb dX0_gather_78 (lv_at hl 2 rfl) ?_
                    refine r_ialdN hx hb hK w 3 rfl dX0_gather_80 (by omega) (by decide) ?_
                    refine lv_aload_n hx hb dX0_gather_81 rfl (lv_at hl 4 rfl) ?_
                    refine gf_X0_29 cx hK w 2 rfl rfl dX0_gather_82 ?_
                    refine lv_iload hx hb dX0_gather_85 (lv_at hl 1 rfl) ?_
                    refine r_ialdN hx hb hK w 3 rfl dX0_gather_87 (by omega) (by decide) ?_
                    refine r_ixor hx hb dX0_gather_88 ?_
                    have hst : gth ss ns ea fa cap (prs num i (j + 1)) = (addL (lz z3 pn3) ((ss i) ^^^ (ss j)), capL cp3 (lz z3 pn3) ((ss i) ^^^ (ss j))) := by rw [prs_s hij, gth_a, hg3, gst_t (by first | exact cnd_1 c65 | exact cnd_2 c54)]
                    have hle : capL cp3 (lz z3 pn3) ((ss i) ^^^ (ss j)) ≤ (gth ss ns ea fa cap (prs num num (num + 1))).2 := by
                      obtain ⟨r, hr9⟩ := prs_pre (num := num) (num - i) i (j + 1) (by omega) (by omega) (Or.inl (by omega))
                      have h9 := gth_pre (ss := ss) (ns := ns) (ea := ea) (fa := fa) (cap := cap) (prs num i (j + 1)) r
                      rw [← hr9, hst] at h9
                      exact h9
                    have hcg := capL_ge cp3 (lz z3 pn3) ((ss i) ^^^ (ss j))
                    have hln : pn3 ≤ i * num + j := by
                      have h9 := gth_len (ss := ss) (ns := ns) (ea := ea) (fa := fa) (cap := cap) (prs num i j)
                      rw [hg3, lz_len] at h9
                      exact Nat.le_trans h9 (prs_len (by omega) (by omega) hij)
                    have hin : i * num ≤ 200 * 200 := Nat.mul_le_mul (by omega) (by omega)
                    have hcm := capL_le cp3 (lz z3 pn3) ((ss i) ^^^ (ss j))
                    rw [lz_len] at hcm
                    have hxx : (ss i) ^^^ (ss j) < 65536 := xor_lt 16 (hss i (by omega)) (hss j (by omega))
                    refine ga_callV (rest := []) (wr := [(aW, .inr (3, [.ref aS, .ref aQ, .int (nI num), .int (bI tm), .int (bI slw)])), (aS, .inl (G.2.2, 200, .inl (aN ss))), (aQ, .inl (G.2.2, 200, .inl (aN ns)))]) cx hK hA w hl lk_X0_32 (c_X0_add l G aK az3 cp3 z3 pn3 false ((ss i) ^^^ (ss j)) (hp3) (by omega) (fun q hq => hzm3 _ (lz_mem.mpr ⟨q, hq, rfl⟩)) (hxx) (by omega)) ⟨Nat.le_of_ble_eq_true rfl, Nat.le_of_ble_eq_true rfl⟩ [0, 1] [2, 3, 4] rfl rfl (by decide) (by decide) (by decide) 0 0 rfl rfl rfl rfl (Nat.le_of_ble_eq_true rfl) dX0_gather_89 ⟨by show 2 * cp3 - 2 * cap + _ ≤ 2 * (gth ss ns ea fa cap (prs num num (num + 1))).2 - 2 * cap; omega, by show 2 * cp3 - 2 * cap + _ ≤ 2 * (gth ss ns ea fa cap (prs num num (num + 1))).2 - 2 * cap; omega⟩ rfl (fun r w1_ H_ locs_ hp w => ?_)
                    obtain ⟨az4, z4, pn4, h42, h43, rfl, rfl⟩ := hp
                    have w : ga_wd G A_ s_ H_ locs_ [(aK, .inr (0, [.ref az4, .int (nI pn4), .int (bI false)])), (aW, .inr (3, [.ref aS, .ref aQ, .int (nI num), .int (bI tm), .int (bI slw)])), (aS, .inl (G.2.2, 200, .inl (aN ss))), (aQ, .inl (G.2.2, 200, .inl (aN ns))), (az4, .inl (G.2.2, capL cp3 (lz z3 pn3) ((ss i) ^^^ (ss j)), .inl (aN z4)))] := ga_perm w [3, 0, 1, 2, 4] (by decide) rfl
                    refine W.eq (g2 := F0 m_ 92 ls []) rfl ?_
                    refine r_iinc (d := 1) (k := 1) (lv' := [(5, .int (nI (j + 1))), (6, .int (nI 1)), (4, .int (nI i)), (0, .ref aK), (1, .ref aW), (2, .int (bI ea)), (3, .int (nI fa))]) hx hb dX0_gather_92 hl rfl (by decide) (by decide) rfl (fun ls hl => ?_)
                    refine lv_goto (tgt := 28) hx hb dX0_gather_95 (by decide) ?_
                    refine W.widen (k := 2 * (capL cp3 (lz z3 pn3) ((ss i) ^^^ (ss j))) - 2 * cap) (n := 2 * (capL cp3 (lz z3 pn3) ((ss i) ^^^ (ss j))) - 2 * cap) (by omega) (by omega) ?_
                    exact ih28 (j + 1) az4 z4 pn4 (capL cp3 (lz z3 pn3) ((ss i) ^^^ (ss j))) (by omega) (by omega) (by rw [hst, h42]) (h43) (by omega) (by omega) (by rw [h42]; exact addL_lt hzm3 hxx) (by omega) _ _ _ (lv_sub hl [0, 2, 3, 4, 5, 6] rfl) (ga_perm w [0, 4, 1, 2, 3] (by decide) rfl)
        refine W.widen (k := 2 * cp1 - 2 * cap) (n := 2 * cp1 - 2 * cap) (by omega) (by omega) ?_
        exact loop28 _ (i + 1) az1 z1 pn1 cp1 (by omega) (by omega) (hg1) (hp1) (hcc) (hc0) (hzm) (Nat.lt_succ_self _) _ _ _ (lv_sub hl [0, 1, 2, 3, 4, 5] rfl) w
  refine W.widen (k := 2 * cap - 2 * cap) (n := 2 * cap - 2 * cap) (by omega) (by omega) ?_
  exact loop13 _ 0 aZ z 0 cap (by omega) (rfl) (by omega) (hcap) (Nat.le_refl _) (fun y h => absurd h List.not_mem_nil) (Nat.lt_succ_self _) _ _ _ (lv_sub hl [0, 1, 2, 3, 4] rfl) w
end
section
/-! PURE for Search -/
def lowb (u : Nat) : Nat := u &&& (2 ^ 32 - u)
theorem nI_neg {u : Nat} (h : u ≤ 2 ^ 32) : -(nI u) = nI (2 ^ 32 - u) := by
  have h1 : nI u + nI (2 ^ 32 - u) = 0 := by
    rw [nI_add, show u + (2 ^ 32 - u) = 2 ^ 32 by omega]; decide
  have h2 : nI (2 ^ 32 - u) + nI u = 0 := by rw [Int32.add_comm]; exact h1
  have h3 := congrArg (fun z => z - nI u) h2
  simp only [Int32.add_sub_cancel] at h3
  rw [h3, Int32.zero_sub]
theorem lowb_ok {u : Nat} (h : u < 65536) : nI u &&& -(nI u) = nI (lowb u) := by
  rw [nI_neg (by omega), nI_and]; rfl
def rat (a b : Nat) : Bool := decide (pop a < pop b ∨ (pop a = pop b ∧ ¬ a &&& lowb (a ^^^ b) = 0))
theorem pop_lt (x : Nat) : pop x ≤ 16 := fl_le _ _
theorem rat_a {a b : Nat} (h : nI (pop a) - nI (pop b) < 0) : rat a b = true := by
  have h1 := Int32.lt_iff_toInt_lt.mp h
  have ha := pop_lt a; have hb := pop_lt b
  rw [pk_sub_toInt (by omega) (by omega)] at h1
  exact decide_eq_true (Or.inl (by simp at h1; omega))
theorem sub0_eq {a b : Nat} (ha : a < 2 ^ 30) (hb : b < 2 ^ 30) : nI a - nI b = 0 ↔ a = b := by
  constructor
  · intro h
    have h1 := congrArg Int32.toInt h
    rw [pk_sub_toInt ha hb] at h1
    simp at h1; omega
  · rintro rfl; simp
theorem rat_b {a b : Nat} (h : ¬ nI (pop a) - nI (pop b) < 0) (h2 : ¬ nI (pop a) - nI (pop b) = 0) : rat a b = false := by
  have ha := pop_lt a; have hb := pop_lt b
  have h3 : ¬ pop a = pop b := fun z => h2 ((sub0_eq (by omega) (by omega)).mpr z)
  have h4 : ¬ pop a < pop b := fun z => h (Int32.lt_iff_toInt_lt.mpr (by rw [pk_sub_toInt (by omega) (by omega)]; simp; omega))
  exact decide_eq_false (by omega)
theorem rat_c {a b : Nat} (h2 : nI (pop a) - nI (pop b) = 0) (h3 : a &&& lowb (a ^^^ b) = 0) : rat a b = false := by
  have ha := pop_lt a; have hb := pop_lt b
  have h4 := (sub0_eq (by omega) (by omega)).mp h2
  exact decide_eq_false (fun z => by rcases z with z | z; omega; exact z.2 h3)
theorem rat_d {a b : Nat} (h2 : nI (pop a) - nI (pop b) = 0) (h3 : ¬ a &&& lowb (a ^^^ b) = 0) : rat a b = true := by
  have ha := pop_lt a; have hb := pop_lt b
  exact decide_eq_true (Or.inr ⟨(sub0_eq (by omega) (by omega)).mp h2, h3⟩)
def ofr (st : Nat × Nat) (s p : Nat) : Nat × Nat := if p < st.2 ∨ (p = st.2 ∧ rat s st.1 = true) then (s, p) else st
def chz (k : Nat) (ct z : Nat → Nat) (pn : Nat) : Nat → Nat → Nat → Nat → Nat → Nat × Nat → Nat × Nat
  | 0, s, ch, _, pr, st => if pn ≤ fnm z ch pn s then ofr st ch pr else st
  | f + 1, s, ch, bar, pr, st => if pn ≤ fnm z ch pn s then ofr st ch pr else
      ((List.range k).foldl (fun q e => if (z (fnm z ch pn s) &&& (65535 ^^^ q.2)).testBit e then ((if pr + ct e + 1 ≤ q.1.2 then chz k ct z pn f (fnm z ch pn s + 1) (ch ||| 1 <<< e) q.2 (pr + ct e + 1) q.1 else q.1), q.2 ||| 1 <<< e) else q) (st, bar)).1
def chq (k : Nat) (ct z : Nat → Nat) (pn f s ch bar pr : Nat) (st : Nat × Nat) (e : Nat) : (Nat × Nat) × Nat := (List.range e).foldl (fun q e => if (z (fnm z ch pn s) &&& (65535 ^^^ q.2)).testBit e then ((if pr + ct e + 1 ≤ q.1.2 then chz k ct z pn f (fnm z ch pn s + 1) (ch ||| 1 <<< e) q.2 (pr + ct e + 1) q.1 else q.1), q.2 ||| 1 <<< e) else q) (st, bar)
theorem chq_s {k : Nat} {ct z : Nat → Nat} {pn f s ch bar pr : Nat} {st : Nat × Nat} {e : Nat} : chq k ct z pn f s ch bar pr st (e + 1) = (if (z (fnm z ch pn s) &&& (65535 ^^^ (chq k ct z pn f s ch bar pr st e).2)).testBit e then ((if pr + ct e + 1 ≤ (chq k ct z pn f s ch bar pr st e).1.2 then chz k ct z pn f (fnm z ch pn s + 1) (ch ||| 1 <<< e) (chq k ct z pn f s ch bar pr st e).2 (pr + ct e + 1) (chq k ct z pn f s ch bar pr st e).1 else (chq k ct z pn f s ch bar pr st e).1), (chq k ct z pn f s ch bar pr st e).2 ||| 1 <<< e) else chq k ct z pn f s ch bar pr st e) := by
  unfold chq; rw [List.range_succ, List.foldl_append]; rfl
theorem chq_n {k : Nat} {ct z : Nat → Nat} {pn f s ch bar pr : Nat} {st st2 : Nat × Nat} {tr e : Nat} (h : chq k ct z pn f s ch bar pr st e = (st2, tr)) (ht : (z (fnm z ch pn s) &&& (65535 ^^^ tr)).testBit e = false) : chq k ct z pn f s ch bar pr st (e + 1) = (st2, tr) := by
  rw [chq_s, h]; simp only [ht]; rfl
theorem chq_x {k : Nat} {ct z : Nat → Nat} {pn f s ch bar pr : Nat} {st st2 : Nat × Nat} {tr e : Nat} (h : chq k ct z pn f s ch bar pr st e = (st2, tr)) (ht : (z (fnm z ch pn s) &&& (65535 ^^^ tr)).testBit e = true) (hp : st2.2 < pr + ct e + 1) : chq k ct z pn f s ch bar pr st (e + 1) = (st2, tr ||| 1 <<< e) := by
  rw [chq_s, h]; simp only [ht]; rw [if_neg (show ¬ pr + ct e + 1 ≤ st2.2 by omega)]; rfl
theorem chq_y {k : Nat} {ct z : Nat → Nat} {pn f s ch bar pr : Nat} {st st2 : Nat × Nat} {tr e : Nat} (h : chq k ct z pn f s ch bar pr st e = (st2, tr)) (ht : (z (fnm z ch pn s) &&& (65535 ^^^ tr)).testBit e = true) (hp : ¬ st2.2 < pr + ct e + 1) : chq k ct z pn f s ch bar pr st (e + 1) = (chz k ct z pn f (fnm z ch pn s + 1) (ch ||| 1 <<< e) tr (pr + ct e + 1) st2, tr ||| 1 <<< e) := by
  rw [chq_s, h]; simp only [ht]; rw [if_pos (show pr + ct e + 1 ≤ st2.2 by omega)]; rfl
theorem chz_o {k : Nat} {ct z : Nat → Nat} {pn f s ch bar pr : Nat} {st : Nat × Nat} (h : pn ≤ fnm z ch pn s) : chz k ct z pn f s ch bar pr st = ofr st ch pr := by
  cases f <;> (rw [chz, if_pos h])
theorem chz_0 {k : Nat} {ct z : Nat → Nat} {pn s ch bar pr : Nat} {st : Nat × Nat} (h : ¬ pn ≤ fnm z ch pn s) : chz k ct z pn 0 s ch bar pr st = st := by
  rw [chz, if_neg h]
theorem chz_q {k : Nat} {ct z : Nat → Nat} {pn f s ch bar pr : Nat} {st : Nat × Nat} (h : ¬ pn ≤ fnm z ch pn s) : chz k ct z pn (f + 1) s ch bar pr st = (chq k ct z pn f s ch bar pr st k).1 := by
  rw [chz, if_neg h]; rfl
theorem ofr_lt {st : Nat × Nat} {s p b c : Nat} (h1 : st.1 < b) (h2 : s < b) (h3 : st.2 < c) (h4 : p < c) : (ofr st s p).1 < b ∧ (ofr st s p).2 < c := by
  unfold ofr; split
  · exact ⟨h2, h4⟩
  · exact ⟨h1, h3⟩
end
section
set_option maxHeartbeats 4000000 in
set_option maxRecDepth 100000 in
theorem c_X4_isRatherThan (l : Launch) (G : ga_G) (a : Nat) (b : Nat) (ha1 : a < 65536) (hb1 : b < 65536) : ga_M l G yX4_isRatherThan cX4_isRatherThan 5 (Option.some Jvm.ClassFile.FieldType.boolean) 1 20 0 0 [.int (nI a), .int (nI b)] [] (fun r w => r = some (.int (bI (rat a b))) ∧ w = []) := by
  refine ga_M.intro (by decide) (Nat.le_of_ble_eq_true rfl) (fun p_ e_ s_ m_ below meth c_ A_ H_ locs_ ls cx hr hlk hnm hA hK hl w => ?_)
  have hx := cx.1
  have hb := cx.2.1
  have hl : lv_has ls 5 [(0, .int (nI a)), (1, .int (nI b))] := hl
  refine lv_iload_n hx hb dX4_isRatherThan_0 rfl (lv_at hl 0 rfl) ?_
  refine ga_callS (rest := []) (wr := []) cx hK hA w hl lk_X4_67 (c_J6_bitCount_0f7a4 l G a (by omega)) ⟨Nat.le_of_ble_eq_true rfl, Nat.le_of_ble_eq_true rfl⟩ [] [] rfl rfl (by decide) (by decide) (by decide) rfl (Nat.le_of_ble_eq_true rfl) dX4_isRatherThan_1 ⟨Nat.le_refl _, Nat.le_refl _⟩ rfl (fun r w1_ H_ locs_ hp w => ?_)
  obtain ⟨rfl, rfl⟩ := hp
  have w : ga_wd G A_ s_ H_ locs_ [] := ga_perm w [] (by decide) rfl
  refine W.eq (g2 := F0 m_ 4 ls [.int (nI (pop a))]) rfl ?_
  refine lv_iload_n hx hb dX4_isRatherThan_4 rfl (lv_at hl 1 rfl) ?_
  refine ga_callS (rest := [.int (nI (pop a))]) (wr := []) cx hK hA w hl lk_X4_67 (c_J6_bitCount_0f7a4 l G b (by omega)) ⟨Nat.le_of_ble_eq_true rfl, Nat.le_of_ble_eq_true rfl⟩ [] [] rfl rfl (by decide) (by decide) (by decide) rfl (Nat.le_of_ble_eq_true rfl) dX4_isRatherThan_5 ⟨Nat.le_refl _, Nat.le_refl _⟩ rfl (fun r w1_ H_ locs_ hp w => ?_)
  obtain ⟨rfl, rfl⟩ := hp
  have w : ga_wd G A_ s_ H_ locs_ [] := ga_perm w [] (by decide) rfl
  refine W.eq (g2 := F0 m_ 8 ls [.int (nI (pop b)), .int (nI (pop a))]) rfl ?_
  refine lv_isub hx hb dX4_isRatherThan_8 ?_
  refine lv_istore_n (lv' := [(2, .int ((nI (pop a)) - (nI (pop b)))), (0, .int (nI a)), (1, .int (nI b))]) hx hb dX4_isRatherThan_9 rfl hl (by decide) rfl (fun ls hl => ?_)
  refine lv_iload_n hx hb dX4_isRatherThan_10 rfl (lv_at hl 1 rfl) ?_
  refine lv_iload_n hx hb dX4_isRatherThan_11 rfl (lv_at hl 2 rfl) ?_
  refine r_ixor hx hb dX4_isRatherThan_12 ?_
  refine lv_istore_n (lv' := [(3, .int (nI (a ^^^ b))), (2, .int ((nI (pop a)) - (nI (pop b)))), (0, .int (nI a)), (1, .int (nI b))]) hx hb dX4_isRatherThan_13 rfl hl (by decide) rfl (fun ls hl => ?_)
  refine lv_iload_n hx hb dX4_isRatherThan_14 rfl (lv_at hl 0 rfl) ?_
  refine lv_iload_n hx hb dX4_isRatherThan_15 rfl (lv_at hl 0 rfl) ?_
  refine lv_ineg hx hb dX4_isRatherThan_16 ?_
  refine lv_iand hx hb dX4_isRatherThan_17 ?_
  refine r_topi (y := nI (lowb (a ^^^ b))) (lowb_ok (xor_lt 16 ha1 hb1)) ?_
  refine lv_istore (lv' := [(4, .int (nI (lowb (a ^^^ b)))), (3, .int (nI (a ^^^ b))), (2, .int ((nI (pop a)) - (nI (pop b)))), (0, .int (nI a)), (1, .int (nI b))]) hx hb dX4_isRatherThan_18 hl (by decide) rfl (fun ls hl => ?_)
  refine lv_iload_n hx hb dX4_isRatherThan_20 rfl (lv_at hl 2 rfl) ?_
  refine lv_if_lt hx hb dX4_isRatherThan_21 (tgt := 35) (by decide) (fun c21 => ?_) (fun c21 => ?_)
  · refine lv_iconst (v := nI 1) hx hb dX4_isRatherThan_35 (by decide) ?_
    refine lv_goto (tgt := 40) hx hb dX4_isRatherThan_36 (by decide) ?_
    exact ga_zret cx hr hlk w rfl dX4_isRatherThan_40 ⟨Nat.le_refl _, Nat.le_refl _⟩ (⟨ga_r1 (by first | exact rat_a c21 | exact rat_b c21 c25 | exact rat_c c25 c32 | exact rat_d c25 c32), rfl⟩)
  · refine lv_iload_n hx hb dX4_isRatherThan_24 rfl (lv_at hl 2 rfl) ?_
    refine lv_if_ne hx hb dX4_isRatherThan_25 (tgt := 39) (by decide) (fun c25 => ?_) (fun c25 => ?_)
    · refine lv_iconst (v := nI 0) hx hb dX4_isRatherThan_39 (by decide) ?_
      exact ga_zret cx hr hlk w rfl dX4_isRatherThan_40 ⟨Nat.le_refl _, Nat.le_refl _⟩ (⟨ga_r0 (by first | exact rat_a c21 | exact rat_b c21 c25 | exact rat_c c25 c32 | exact rat_d c25 c32), rfl⟩)
    · refine lv_iload_n hx hb dX4_isRatherThan_28 rfl (lv_at hl 3 rfl) ?_
      refine lv_iload hx hb dX4_isRatherThan_29 (lv_at hl 0 rfl) ?_
      refine r_iand hx hb dX4_isRatherThan_31 ?_
      refine r_if_eq hx hb dX4_isRatherThan_32 (tgt := 39) (by decide) (andL_lt (by omega)) (fun c32 => ?_) (fun c32 => ?_)
      · refine lv_iconst (v := nI 0) hx hb dX4_isRatherThan_39 (by decide) ?_
        exact ga_zret cx hr hlk w rfl dX4_isRatherThan_40 ⟨Nat.le_refl _, Nat.le_refl _⟩ (⟨ga_r0 (by first | exact rat_a c21 | exact rat_b c21 c25 | exact rat_c c25 c32 | exact rat_d c25 c32), rfl⟩)
      · refine lv_iconst (v := nI 1) hx hb dX4_isRatherThan_35 (by decide) ?_
        refine lv_goto (tgt := 40) hx hb dX4_isRatherThan_36 (by decide) ?_
        exact ga_zret cx hr hlk w rfl dX4_isRatherThan_40 ⟨Nat.le_refl _, Nat.le_refl _⟩ (⟨ga_r1 (by first | exact rat_a c21 | exact rat_b c21 c25 | exact rat_c c25 c32 | exact rat_d c25 c32), rfl⟩)

set_option maxHeartbeats 4000000 in
set_option maxRecDepth 100000 in
theorem c_X4_offer (l : Launch) (G : ga_G) (aH : Nat) (aP : Nat) (be : Nat) (bp : Nat) (s0 : Nat) (p0 : Nat) (h1 : s0 < 65536) (h2 : be < 65536) (h3 : p0 < 2 ^ 40) (h4 : bp < 2 ^ 40) : ga_M l G yX4_offer cX4_offer 4 (Option.none : Option Jvm.ClassFile.FieldType) 2 44 0 0 [.ref aH, .int (nI s0), .long (lN p0)] [(aH, .inr (4, [.ref aP, .int (nI be), .long (lN bp)]))] (fun r w => r = none ∧ w = [(aH, .inr (4, [.ref aP, .int (nI ((ofr (be, bp) s0 p0).1)), .long (lN ((ofr (be, bp) s0 p0).2))]))]) := by
  refine ga_M.intro (by decide) (Nat.le_of_ble_eq_true rfl) (fun p_ e_ s_ m_ below meth c_ A_ H_ locs_ ls cx hr hlk hnm hA hK hl w => ?_)
  have hx := cx.1
  have hb := cx.2.1
  have hl : lv_has ls 4 [(0, .ref aH), (1, .int (nI s0)), (2, .long (lN p0))] := hl
  refine lv_lload_n hx hb dX4_offer_0 rfl (lv_at hl 2 rfl) ?_
  refine lv_aload_n hx hb dX4_offer_1 rfl (lv_at hl 0 rfl) ?_
  refine gf_X4_29 cx hK w 0 rfl rfl dX4_offer_2 ?_
  refine W.lcmp hx hb dX4_offer_5 ?_
  refine r_lcN_lt hx hb dX4_offer_6 (tgt := 29) (by decide) (by omega) (by omega) (fun c6 => ?_) (fun c6 => ?_)
  · refine lv_aload_n hx hb dX4_offer_29 rfl (lv_at hl 0 rfl) ?_
    refine lv_iload_n hx hb dX4_offer_30 rfl (lv_at hl 1 rfl) ?_
    refine pf_X4_21 cx hK w 0 rfl rfl rfl (Nat.le_of_ble_eq_true rfl) dX4_offer_31 (fun H_ locs_ w => ?_)
    have w : ga_wd G A_ s_ H_ locs_ [(aH, .inr (4, [.ref aP, .int (nI s0), .long (lN bp)]))] := w
    refine lv_aload_n hx hb dX4_offer_34 rfl (lv_at hl 0 rfl) ?_
    refine lv_lload_n hx hb dX4_offer_35 rfl (lv_at hl 2 rfl) ?_
    refine pf_X4_29 cx hK w 0 rfl rfl rfl (Nat.le_of_ble_eq_true rfl) dX4_offer_36 (fun H_ locs_ w => ?_)
    have w : ga_wd G A_ s_ H_ locs_ [(aH, .inr (4, [.ref aP, .int (nI s0), .long (lN p0)]))] := w
    exact ga_vret cx hr hlk w dX4_offer_39 ⟨Nat.le_refl _, Nat.le_refl _⟩ (⟨rfl, by rw [show ofr (be, bp) s0 p0 = (s0, p0) from if_pos (Or.inl c6)]⟩)
  · refine lv_lload_n hx hb dX4_offer_9 rfl (lv_at hl 2 rfl) ?_
    refine lv_aload_n hx hb dX4_offer_10 rfl (lv_at hl 0 rfl) ?_
    refine gf_X4_29 cx hK w 0 rfl rfl dX4_offer_11 ?_
    refine W.lcmp hx hb dX4_offer_14 ?_
    refine r_lcN_ne hx hb dX4_offer_15 (tgt := 39) (by decide) (by omega) (by omega) (fun c15 => ?_) (fun c15 => ?_)
    · exact ga_vret cx hr hlk w dX4_offer_39 ⟨Nat.le_refl _, Nat.le_refl _⟩ (⟨rfl, by rw [show ofr (be, bp) s0 p0 = (be, bp) from if_neg (by intro z; rcases z with z | z; exact c6 z; exact c15 z.1)]⟩)
    · refine lv_iload_n hx hb dX4_offer_18 rfl (lv_at hl 1 rfl) ?_
      refine lv_aload_n hx hb dX4_offer_19 rfl (lv_at hl 0 rfl) ?_
      refine gf_X4_21 cx hK w 0 rfl rfl dX4_offer_20 ?_
      refine ga_callS (rest := []) (wr := [(aH, .inr (4, [.ref aP, .int (nI be), .long (lN bp)]))]) cx hK hA w hl lk_X4_64 (c_X4_isRatherThan l G s0 be (by omega) (by omega)) ⟨Nat.le_of_ble_eq_true rfl, Nat.le_of_ble_eq_true rfl⟩ [] [0] rfl rfl (by decide) (by decide) (by decide) rfl (Nat.le_of_ble_eq_true rfl) dX4_offer_23 ⟨Nat.le_refl _, Nat.le_refl _⟩ rfl (fun r w1_ H_ locs_ hp w => ?_)
      obtain ⟨rfl, rfl⟩ := hp
      have w : ga_wd G A_ s_ H_ locs_ [(aH, .inr (4, [.ref aP, .int (nI be), .long (lN bp)]))] := ga_perm w [0] (by decide) rfl
      refine W.eq (g2 := F0 m_ 26 ls [.int (bI (rat s0 be))]) rfl ?_
      refine r_ifb_eq hx hb dX4_offer_26 (tgt := 39) (by decide) (fun c26 => ?_) (fun c26 => ?_)
      · exact ga_vret cx hr hlk w dX4_offer_39 ⟨Nat.le_refl _, Nat.le_refl _⟩ (⟨rfl, by rw [show ofr (be, bp) s0 p0 = (be, bp) from if_neg (by intro z; rcases z with z | z; exact c6 z; rw [z.2] at c26; cases c26)]⟩)
      · refine lv_aload_n hx hb dX4_offer_29 rfl (lv_at hl 0 rfl) ?_
        refine lv_iload_n hx hb dX4_offer_30 rfl (lv_at hl 1 rfl) ?_
        refine pf_X4_21 cx hK w 0 rfl rfl rfl (Nat.le_of_ble_eq_true rfl) dX4_offer_31 (fun H_ locs_ w => ?_)
        have w : ga_wd G A_ s_ H_ locs_ [(aH, .inr (4, [.ref aP, .int (nI s0), .long (lN bp)]))] := w
        refine lv_aload_n hx hb dX4_offer_34 rfl (lv_at hl 0 rfl) ?_
        refine lv_lload_n hx hb dX4_offer_35 rfl (lv_at hl 2 rfl) ?_
        refine pf_X4_29 cx hK w 0 rfl rfl rfl (Nat.le_of_ble_eq_true rfl) dX4_offer_36 (fun H_ locs_ w => ?_)
        have w : ga_wd G A_ s_ H_ locs_ [(aH, .inr (4, [.ref aP, .int (nI s0), .long (lN p0)]))] := w
        exact ga_vret cx hr hlk w dX4_offer_39 ⟨Nat.le_refl _, Nat.le_refl _⟩ (⟨rfl, by rw [show ofr (be, bp) s0 p0 = (s0, p0) from if_pos (Or.inr ⟨c15, c26⟩)]⟩)

set_option maxHeartbeats 4000000 in
set_option maxRecDepth 100000 in
theorem c_X4_choose (l : Launch) (G : ga_G) : ∀ (d : Nat) (aH : Nat) (be : Nat) (bp : Nat) (aP : Nat) (aF : Nat) (aT : Nat) (aC : Nat) (aL : Nat) (n : Nat) (k : Nat) (li : Nat) (fa : Nat) (ct : Nat → Nat) (aK : Nat) (aZ : Nat) (cap : Nat) (z : Nat → Nat) (pn : Nat) (sl : Bool) (s0 : Nat) (ch : Nat) (bar : Nat) (pr : Nat) (dp : Nat) (hd : 16 ≤ dp + d) (hd2 : dp ≤ 16) (hk : k ≤ 16) (hct : ∀ e, e < k → ct e ≤ 1000000) (hpc : pn ≤ cap) (hcap : cap < 2 ^ 25) (hz : ∀ q, q < pn → z q < 65536) (hs0 : s0 ≤ pn) (hch : ch < 65536) (hbar : bar < 65536) (hbe : be < 65536) (hbp : bp < 2 ^ 40) (hpr : pr ≤ 16000016 + 1000001 * dp), ga_M l G yX4_choose cX4_choose 14 (Option.none : Option Jvm.ClassFile.FieldType) (d + 5) (33 * d + 120) 0 0 [.ref aH, .ref aK, .int (nI s0), .int (nI ch), .int (nI bar), .long (lN pr), .int (nI dp)] [(aH, .inr (4, [.ref aP, .int (nI be), .long (lN bp)])), (aP, .inr (1, [.ref aF, .ref aT, .ref aC, .ref aL, .int (nI n), .int (nI k), .int (nI li), .int (nI fa)])), (aC, .inl (G.2.2, 16, .inl (aN ct))), (aK, .inr (0, [.ref aZ, .int (nI pn), .int (bI sl)])), (aZ, .inl (G.2.2, cap, .inl (aN z)))] (fun r w => ∃ (be9 : Nat), ∃ (bp9 : Nat), ((be9, bp9) = chz k ct z pn (16 - dp) s0 ch bar pr (be, bp)) ∧ (be9 < 65536) ∧ (bp9 < 2 ^ 40) ∧ r = none ∧ w = [(aH, .inr (4, [.ref aP, .int (nI be9), .long (lN bp9)])), (aP, .inr (1, [.ref aF, .ref aT, .ref aC, .ref aL, .int (nI n), .int (nI k), .int (nI li), .int (nI fa)])), (aC, .inl (G.2.2, 16, .inl (aN ct))), (aK, .inr (0, [.ref aZ, .int (nI pn), .int (bI sl)])), (aZ, .inl (G.2.2, cap, .inl (aN z)))]) := by
  intro d
  induction d with
  | zero =>
    intro aH be bp aP aF aT aC aL n k li fa ct aK aZ cap z pn sl s0 ch bar pr dp hd hd2 hk hct hpc hcap hz hs0 hch hbar hbe hbp hpr
    refine ga_M.intro (by decide) (Nat.le_of_ble_eq_true rfl) (fun p_ e_ s_ m_ below meth c_ A_ H_ locs_ ls cx hr hlk hnm hA hK hl w => ?_)
    have hx := cx.1
    have hb := cx.2.1
    have hl : lv_has ls 14 [(0, .ref aH), (1, .ref aK), (2, .int (nI s0)), (3, .int (nI ch)), (4, .int (nI bar)), (5, .long (lN pr)), (7, .int (nI dp))] := hl
    refine lv_aload_n hx hb dX4_choose_0 rfl (lv_at hl 1 rfl) ?_
    refine lv_iload_n hx hb dX4_choose_1 rfl (lv_at hl 3 rfl) ?_
    refine lv_iload_n hx hb dX4_choose_2 rfl (lv_at hl 2 rfl) ?_
    refine ga_callV (rest := []) (wr := [(aH, .inr (4, [.ref aP, .int (nI be), .long (lN bp)])), (aP, .inr (1, [.ref aF, .ref aT, .ref aC, .ref aL, .int (nI n), .int (nI k), .int (nI li), .int (nI fa)])), (aC, .inl (G.2.2, 16, .inl (aN ct)))]) cx hK hA w hl lk_X4_37 (c_X0_firstNotMetBy l G aK aZ cap z pn sl ch s0 (hpc) (hcap) (hz) (hs0)) ⟨(by show 0 + 1 ≤ 0 + 5; omega), (by show 8 + (4 + 11) + (0) ≤ 33 * 0 + 120; omega)⟩ [3, 4] [0, 1, 2] rfl rfl (by decide) (by decide) (by decide) 3 0 rfl rfl rfl rfl (Nat.le_of_ble_eq_true rfl) dX4_choose_3 ⟨Nat.le_refl _, Nat.le_refl _⟩ rfl (fun r w1_ H_ locs_ hp w => ?_)
    obtain ⟨rfl, rfl⟩ := hp
    have w : ga_wd G A_ s_ H_ locs_ [(aH, .inr (4, [.ref aP, .int (nI be), .long (lN bp)])), (aP, .inr (1, [.ref aF, .ref aT, .ref aC, .ref aL, .int (nI n), .int (nI k), .int (nI li), .int (nI fa)])), (aC, .inl (G.2.2, 16, .inl (aN ct))), (aK, .inr (0, [.ref aZ, .int (nI pn), .int (bI sl)])), (aZ, .inl (G.2.2, cap, .inl (aN z)))] := ga_perm w [0, 1, 2, 3, 4] (by decide) rfl
    refine W.eq (g2 := F0 m_ 6 ls [.int (nI (fnm z ch pn s0))]) rfl ?_
    refine lv_istore (lv' := [(8, .int (nI (fnm z ch pn s0))), (0, .ref aH), (1, .ref aK), (2, .int (nI s0)), (3, .int (nI ch)), (4, .int (nI bar)), (5, .long (lN pr)), (7, .int (nI dp))]) hx hb dX4_choose_6 hl (by decide) rfl (fun ls hl => ?_)
    have hfn := fnm_sp (z := z) (ch := ch) (pn := pn) hs0
    refine lv_iload hx hb dX4_choose_8 (lv_at hl 0 rfl) ?_
    refine lv_aload_n hx hb dX4_choose_10 rfl (lv_at hl 2 rfl) ?_
    refine gf_X4_43 cx hK w 3 rfl rfl dX4_choose_11 ?_
    refine r_icmp_lt hx hb dX4_choose_14 (tgt := 25) (by decide) (by omega) (by omega) (fun c14 => ?_) (fun c14 => ?_)
    · have c14x : fnm z ch pn s0 < pn := c14
      refine lv_iload hx hb dX4_choose_25 (lv_at hl 7 rfl) ?_
      refine lv_bipush (v := nI 16) hx hb dX4_choose_27 (by decide) ?_
      refine r_icmp_lt hx hb dX4_choose_29 (tgt := 33) (by decide) (by omega) (by omega) (fun c29 => ?_) (fun c29 => ?_)
      · omega
      · exact ga_vret cx hr hlk w dX4_choose_32 ⟨Nat.le_refl _, Nat.le_refl _⟩ (⟨be, bp, (by rw [show 16 - dp = 0 by omega, chz_0 (by omega)]), hbe, hbp, rfl, rfl⟩)
    · refine lv_aload_n hx hb dX4_choose_17 rfl (lv_at hl 1 rfl) ?_
      refine lv_iload_n hx hb dX4_choose_18 rfl (lv_at hl 4 rfl) ?_
      refine lv_lload hx hb dX4_choose_19 (lv_at hl 6 rfl) ?_
      refine ga_callV (rest := []) (wr := [(aP, .inr (1, [.ref aF, .ref aT, .ref aC, .ref aL, .int (nI n), .int (nI k), .int (nI li), .int (nI fa)])), (aC, .inl (G.2.2, 16, .inl (aN ct))), (aK, .inr (0, [.ref aZ, .int (nI pn), .int (bI sl)])), (aZ, .inl (G.2.2, cap, .inl (aN z)))]) cx hK hA w hl lk_X4_46 (c_X4_offer l G aH aP be bp ch pr (hch) (hbe) (by omega) (hbp)) ⟨(by show 2 + 1 ≤ 0 + 5; omega), (by show 8 + (4 + 11) + (44) ≤ 33 * 0 + 120; omega)⟩ [0] [1, 2, 3, 4] rfl rfl (by decide) (by decide) (by decide) 0 4 rfl rfl rfl rfl (Nat.le_of_ble_eq_true rfl) dX4_choose_21 ⟨Nat.le_refl _, Nat.le_refl _⟩ rfl (fun r w1_ H_ locs_ hp w => ?_)
      obtain ⟨rfl, rfl⟩ := hp
      have w : ga_wd G A_ s_ H_ locs_ [(aH, .inr (4, [.ref aP, .int (nI ((ofr (be, bp) ch pr).1)), .long (lN ((ofr (be, bp) ch pr).2))])), (aP, .inr (1, [.ref aF, .ref aT, .ref aC, .ref aL, .int (nI n), .int (nI k), .int (nI li), .int (nI fa)])), (aC, .inl (G.2.2, 16, .inl (aN ct))), (aK, .inr (0, [.ref aZ, .int (nI pn), .int (bI sl)])), (aZ, .inl (G.2.2, cap, .inl (aN z)))] := ga_perm w [4, 0, 1, 2, 3] (by decide) rfl
      refine W.eq (g2 := F0 m_ 24 ls []) rfl ?_
      exact ga_vret cx hr hlk w dX4_choose_24 ⟨Nat.le_refl _, Nat.le_refl _⟩ (⟨_, _, (by rw [chz_o (by omega)]), (ofr_lt (st := (be, bp)) hbe hch hbp (by omega)).1, (ofr_lt (st := (be, bp)) hbe hch hbp (by omega)).2, rfl, rfl⟩)
  | succ d ih_ =>
    intro aH be bp aP aF aT aC aL n k li fa ct aK aZ cap z pn sl s0 ch bar pr dp hd hd2 hk hct hpc hcap hz hs0 hch hbar hbe hbp hpr
    refine ga_M.intro (by decide) (Nat.le_of_ble_eq_true rfl) (fun p_ e_ s_ m_ below meth c_ A_ H_ locs_ ls cx hr hlk hnm hA hK hl w => ?_)
    have hx := cx.1
    have hb := cx.2.1
    have hl : lv_has ls 14 [(0, .ref aH), (1, .ref aK), (2, .int (nI s0)), (3, .int (nI ch)), (4, .int (nI bar)), (5, .long (lN pr)), (7, .int (nI dp))] := hl
    refine lv_aload_n hx hb dX4_choose_0 rfl (lv_at hl 1 rfl) ?_
    refine lv_iload_n hx hb dX4_choose_1 rfl (lv_at hl 3 rfl) ?_
    refine lv_iload_n hx hb dX4_choose_2 rfl (lv_at hl 2 rfl) ?_
    refine ga_callV (rest := []) (wr := [(aH, .inr (4, [.ref aP, .int (nI be), .long (lN bp)])), (aP, .inr (1, [.ref aF, .ref aT, .ref aC, .ref aL, .int (nI n), .int (nI k), .int (nI li), .int (nI fa)])), (aC, .inl (G.2.2, 16, .inl (aN ct)))]) cx hK hA w hl lk_X4_37 (c_X0_firstNotMetBy l G aK aZ cap z pn sl ch s0 (hpc) (hcap) (hz) (hs0)) ⟨(by show 0 + 1 ≤ (d + 1) + 5; omega), (by show 8 + (4 + 11) + (0) ≤ 33 * (d + 1) + 120; omega)⟩ [3, 4] [0, 1, 2] rfl rfl (by decide) (by decide) (by decide) 3 0 rfl rfl rfl rfl (Nat.le_of_ble_eq_true rfl) dX4_choose_3 ⟨Nat.le_refl _, Nat.le_refl _⟩ rfl (fun r w1_ H_ locs_ hp w => ?_)
    obtain ⟨rfl, rfl⟩ := hp
    have w : ga_wd G A_ s_ H_ locs_ [(aH, .inr (4, [.ref aP, .int (nI be), .long (lN bp)])), (aP, .inr (1, [.ref aF, .ref aT, .ref aC, .ref aL, .int (nI n), .int (nI k), .int (nI li), .int (nI fa)])), (aC, .inl (G.2.2, 16, .inl (aN ct))), (aK, .inr (0, [.ref aZ, .int (nI pn), .int (bI sl)])), (aZ, .inl (G.2.2, cap, .inl (aN z)))] := ga_perm w [0, 1, 2, 3, 4] (by decide) rfl
    refine W.eq (g2 := F0 m_ 6 ls [.int (nI (fnm z ch pn s0))]) rfl ?_
    refine lv_istore (lv' := [(8, .int (nI (fnm z ch pn s0))), (0, .ref aH), (1, .ref aK), (2, .int (nI s0)), (3, .int (nI ch)), (4, .int (nI bar)), (5, .long (lN pr)), (7, .int (nI dp))]) hx hb dX4_choose_6 hl (by decide) rfl (fun ls hl => ?_)
    have hfn := fnm_sp (z := z) (ch := ch) (pn := pn) hs0
    refine lv_iload hx hb dX4_choose_8 (lv_at hl 0 rfl) ?_
    refine lv_aload_n hx hb dX4_choose_10 rfl (lv_at hl 2 rfl) ?_
    refine gf_X4_43 cx hK w 3 rfl rfl dX4_choose_11 ?_
    refine r_icmp_lt hx hb dX4_choose_14 (tgt := 25) (by decide) (by omega) (by omega) (fun c14 => ?_) (fun c14 => ?_)
    · have c14x : fnm z ch pn s0 < pn := c14
      refine lv_iload hx hb dX4_choose_25 (lv_at hl 7 rfl) ?_
      refine lv_bipush (v := nI 16) hx hb dX4_choose_27 (by decide) ?_
      refine r_icmp_lt hx hb dX4_choose_29 (tgt := 33) (by decide) (by omega) (by omega) (fun c29 => ?_) (fun c29 => ?_)
      · refine lv_iload hx hb dX4_choose_33 (lv_at hl 5 rfl) ?_
        refine lv_istore (lv' := [(9, .int (nI bar)), (8, .int (nI (fnm z ch pn s0))), (0, .ref aH), (1, .ref aK), (2, .int (nI s0)), (3, .int (nI ch)), (4, .int (nI bar)), (5, .long (lN pr)), (7, .int (nI dp))]) hx hb dX4_choose_35 hl (by decide) rfl (fun ls hl => ?_)
        refine lv_iconst (v := nI 0) hx hb dX4_choose_37 (by decide) ?_
        refine lv_istore (lv' := [(10, .int (nI 0)), (9, .int (nI bar)), (8, .int (nI (fnm z ch pn s0))), (0, .ref aH), (1, .ref aK), (2, .int (nI s0)), (3, .int (nI ch)), (4, .int (nI bar)), (5, .long (lN pr)), (7, .int (nI dp))]) hx hb dX4_choose_38 hl (by decide) rfl (fun ls hl => ?_)
        have loop40 : ∀ (n_ : Nat) (ee : Nat) (tr : Nat) (be2 : Nat) (bp2 : Nat) (hee : ee ≤ k) (hq : chq k ct z pn (15 - dp) s0 ch bar pr (be, bp) ee = ((be2, bp2), tr)) (htr : tr < 65536) (hbe2 : be2 < 65536) (hbp2 : bp2 < 2 ^ 40) (hm : k - ee < n_) (H_ : Heap) (locs_ : List Loc) (ls : Array Slot) (hl : lv_has ls 14 [(10, .int (nI ee)), (9, .int (nI tr)), (8, .int (nI (fnm z ch pn s0))), (0, .ref aH), (1, .ref aK), (2, .int (nI s0)), (3, .int (nI ch)), (4, .int (nI bar)), (5, .long (lN pr)), (7, .int (nI dp))]) (w : ga_wd G A_ s_ H_ locs_ [(aH, .inr (4, [.ref aP, .int (nI be2), .long (lN bp2)])), (aP, .inr (1, [.ref aF, .ref aT, .ref aC, .ref aL, .int (nI n), .int (nI k), .int (nI li), .int (nI fa)])), (aC, .inl (G.2.2, 16, .inl (aN ct))), (aK, .inr (0, [.ref aZ, .int (nI pn), .int (bI sl)])), (aZ, .inl (G.2.2, cap, .inl (aN z)))]), W p_ l e_ { frames := (d + 1) + 5, cells := 0, slots := 0, locals := 33 * (d + 1) + 120 } s_ m_ [.ref aH, .ref aK, .int (nI s0), .int (nI ch), .int (nI bar), .long (lN pr), .int (nI dp)].toArray below meth c_ H_ locs_ (0) (0) (MQ below (ga_Q G A_ (fun r w => ∃ (be9 : Nat), ∃ (bp9 : Nat), ((be9, bp9) = chz k ct z pn (16 - dp) s0 ch bar pr (be, bp)) ∧ (be9 < 65536) ∧ (bp9 < 2 ^ 40) ∧ r = none ∧ w = [(aH, .inr (4, [.ref aP, .int (nI be9), .long (lN bp9)])), (aP, .inr (1, [.ref aF, .ref aT, .ref aC, .ref aL, .int (nI n), .int (nI k), .int (nI li), .int (nI fa)])), (aC, .inl (G.2.2, 16, .inl (aN ct))), (aK, .inr (0, [.ref aZ, .int (nI pn), .int (bI sl)])), (aZ, .inl (G.2.2, cap, .inl (aN z)))])) [.ref aH, .ref aK, .int (nI s0), .int (nI ch), .int (nI bar), .long (lN pr), .int (nI dp)].toArray s_ 0 0 A_) (F0 m_ 40 ls []) := by
          intro n_
          induction n_ with
          | zero => intro ee tr be2 bp2 hee hq htr hbe2 hbp2 hm; exact absurd hm (Nat.not_lt_zero _)
          | succ n_ ih40 =>
            intro ee tr be2 bp2 hee hq htr hbe2 hbp2 hm40 H_ locs_ ls hl w
            refine lv_iload hx hb dX4_choose_40 (lv_at hl 0 rfl) ?_
            refine lv_aload_n hx hb dX4_choose_42 rfl (lv_at hl 3 rfl) ?_
            refine gf_X4_9 cx hK w 0 rfl rfl dX4_choose_43 ?_
            refine gf_X4_50 cx hK w 1 rfl rfl dX4_choose_46 ?_
            refine r_icmp_ge hx hb dX4_choose_49 (tgt := 142) (by decide) (by omega) (by omega) (fun c49 => ?_) (fun c49 => ?_)
            · exact ga_vret cx hr hlk w dX4_choose_142 ⟨Nat.le_refl _, Nat.le_refl _⟩ (⟨be2, bp2, (by rw [show 16 - dp = (15 - dp) + 1 by omega, chz_q (by omega), show k = ee by omega]; rw [show k = ee by omega] at hq; rw [hq]), hbe2, hbp2, rfl, rfl⟩)
            · refine lv_aload_n hx hb dX4_choose_52 rfl (lv_at hl 4 rfl) ?_
              refine gf_X4_53 cx hK w 3 rfl rfl dX4_choose_53 ?_
              refine lv_iload hx hb dX4_choose_56 (lv_at hl 2 rfl) ?_
              refine r_ialdN hx hb hK w 4 rfl dX4_choose_58 (by omega) (by omega) ?_
              refine lv_iload hx hb dX4_choose_59 (lv_at hl 1 rfl) ?_
              refine lv_iconst (v := (-1)) hx hb dX4_choose_61 (by decide) ?_
              refine lv_ixor hx hb dX4_choose_62 ?_
              refine lv_iand hx hb dX4_choose_63 ?_
              refine r_topi (y := nI ((z (fnm z ch pn s0)) &&& (65535 ^^^ tr))) (nI_andn (hz _ c14x)) ?_
              refine lv_iload hx hb dX4_choose_64 (lv_at hl 0 rfl) ?_
              refine ga_callSN (rest := []) (wr := [(aH, .inr (4, [.ref aP, .int (nI be2), .long (lN bp2)])), (aP, .inr (1, [.ref aF, .ref aT, .ref aC, .ref aL, .int (nI n), .int (nI k), .int (nI li), .int (nI fa)])), (aC, .inl (G.2.2, 16, .inl (aN ct))), (aK, .inr (0, [.ref aZ, .int (nI pn), .int (bI sl)])), (aZ, .inl (G.2.2, cap, .inl (aN z)))]) cx hK hA w hl lk_X4_57 (c_X6_has l G ((z (fnm z ch pn s0)) &&& (65535 ^^^ tr)) ee (andL_lt (by have := hz _ c14x; omega)) (by omega)) ⟨(by show 0 + 1 ≤ (d + 1) + 5; omega), (by show 8 + (2 + 11) + (0) ≤ 33 * (d + 1) + 120; omega)⟩ [] [0, 1, 2, 3, 4] rfl rfl (by decide) (by decide) (by decide) rfl (Nat.le_of_ble_eq_true rfl) dX4_choose_66 ⟨Nat.le_refl _, Nat.le_refl _⟩ rfl (fun r w1_ H_ locs_ hp w => ?_)
              obtain ⟨rfl, rfl⟩ := hp
              have w : ga_wd G A_ s_ H_ locs_ [(aH, .inr (4, [.ref aP, .int (nI be2), .long (lN bp2)])), (aP, .inr (1, [.ref aF, .ref aT, .ref aC, .ref aL, .int (nI n), .int (nI k), .int (nI li), .int (nI fa)])), (aC, .inl (G.2.2, 16, .inl (aN ct))), (aK, .inr (0, [.ref aZ, .int (nI pn), .int (bI sl)])), (aZ, .inl (G.2.2, cap, .inl (aN z)))] := ga_perm w [0, 1, 2, 3, 4] (by decide) rfl
              refine W.eq (g2 := F0 m_ 69 ls [.int (bI (Nat.testBit ((z (fnm z ch pn s0)) &&& (65535 ^^^ tr)) ee))]) rfl ?_
              refine r_ifb_eq hx hb dX4_choose_69 (tgt := 136) (by decide) (fun c69 => ?_) (fun c69 => ?_)
              · refine r_iinc (d := 1) (k := 0) (lv' := [(10, .int (nI (ee + 1))), (9, .int (nI tr)), (8, .int (nI (fnm z ch pn s0))), (0, .ref aH), (1, .ref aK), (2, .int (nI s0)), (3, .int (nI ch)), (4, .int (nI bar)), (5, .long (lN pr)), (7, .int (nI dp))]) hx hb dX4_choose_136 hl rfl (by decide) (by decide) rfl (fun ls hl => ?_)
                refine lv_goto (tgt := 40) hx hb dX4_choose_139 (by decide) ?_
                exact ih40 (ee + 1) tr be2 bp2 (by omega) (chq_n hq c69) (htr) (hbe2) (hbp2) (by omega) _ _ _ (lv_sub hl [0, 1, 2, 3, 4, 5, 6, 7, 8, 9] rfl) w
              · refine lv_iload_n hx hb dX4_choose_72 rfl (lv_at hl 6 rfl) ?_
                refine lv_iconst (v := nI 1) hx hb dX4_choose_73 (by decide) ?_
                refine lv_iload hx hb dX4_choose_74 (lv_at hl 0 rfl) ?_
                refine r_ishl hx hb dX4_choose_76 (by omega) ?_
                refine r_ior hx hb dX4_choose_77 ?_
                refine lv_istore (lv' := [(11, .int (nI (ch ||| (1 <<< ee)))), (10, .int (nI ee)), (9, .int (nI tr)), (8, .int (nI (fnm z ch pn s0))), (0, .ref aH), (1, .ref aK), (2, .int (nI s0)), (3, .int (nI ch)), (4, .int (nI bar)), (5, .long (lN pr)), (7, .int (nI dp))]) hx hb dX4_choose_78 hl (by decide) rfl (fun ls hl => ?_)
                refine lv_lload hx hb dX4_choose_80 (lv_at hl 9 rfl) ?_
                refine lv_aload_n hx hb dX4_choose_82 rfl (lv_at hl 4 rfl) ?_
                refine gf_X4_9 cx hK w 0 rfl rfl dX4_choose_83 ?_
                refine gf_X4_61 cx hK w 1 rfl rfl dX4_choose_86 ?_
                refine lv_iload hx hb dX4_choose_89 (lv_at hl 1 rfl) ?_
                refine r_ialdN hx hb hK w 2 rfl dX4_choose_91 (by omega) (by decide) ?_
                have hcte := hct ee (by omega)
                refine r_i2l hx hb dX4_choose_92 (by omega) ?_
                refine r_ladd hx hb dX4_choose_93 ?_
                refine lv_lconst (v := lN 1) hx hb dX4_choose_94 (by decide) ?_
                refine r_ladd hx hb dX4_choose_95 ?_
                refine lv_lstore (lv' := [(12, .long (lN ((pr + (ct ee)) + 1))), (11, .int (nI (ch ||| (1 <<< ee)))), (10, .int (nI ee)), (9, .int (nI tr)), (8, .int (nI (fnm z ch pn s0))), (0, .ref aH), (1, .ref aK), (2, .int (nI s0)), (3, .int (nI ch)), (4, .int (nI bar)), (5, .long (lN pr)), (7, .int (nI dp))]) hx hb dX4_choose_96 hl (by decide) rfl (fun ls hl => ?_)
                refine lv_lload hx hb dX4_choose_98 (lv_at hl 0 rfl) ?_
                refine lv_aload_n hx hb dX4_choose_100 rfl (lv_at hl 5 rfl) ?_
                refine gf_X4_29 cx hK w 0 rfl rfl dX4_choose_101 ?_
                refine W.lcmp hx hb dX4_choose_104 ?_
                refine r_lcN_gt hx hb dX4_choose_105 (tgt := 127) (by decide) (by omega) (by omega) (fun c105 => ?_) (fun c105 => ?_)
                · refine lv_iload hx hb dX4_choose_127 (lv_at hl 3 rfl) ?_
                  refine lv_iconst (v := nI 1) hx hb dX4_choose_129 (by decide) ?_
                  refine lv_iload hx hb dX4_choose_130 (lv_at hl 2 rfl) ?_
                  refine r_ishl hx hb dX4_choose_132 (by omega) ?_
                  refine r_ior hx hb dX4_choose_133 ?_
                  refine lv_istore (lv' := [(9, .int (nI (tr ||| (1 <<< ee)))), (12, .long (lN ((pr + (ct ee)) + 1))), (11, .int (nI (ch ||| (1 <<< ee)))), (10, .int (nI ee)), (8, .int (nI (fnm z ch pn s0))), (0, .ref aH), (1, .ref aK), (2, .int (nI s0)), (3, .int (nI ch)), (4, .int (nI bar)), (5, .long (lN pr)), (7, .int (nI dp))]) hx hb dX4_choose_134 hl (by decide) rfl (fun ls hl => ?_)
                  refine r_iinc (d := 1) (k := 3) (lv' := [(10, .int (nI (ee + 1))), (9, .int (nI (tr ||| (1 <<< ee)))), (12, .long (lN ((pr + (ct ee)) + 1))), (11, .int (nI (ch ||| (1 <<< ee)))), (8, .int (nI (fnm z ch pn s0))), (0, .ref aH), (1, .ref aK), (2, .int (nI s0)), (3, .int (nI ch)), (4, .int (nI bar)), (5, .long (lN pr)), (7, .int (nI dp))]) hx hb dX4_choose_136 hl rfl (by decide) (by decide) rfl (fun ls hl => ?_)
                  refine lv_goto (tgt := 40) hx hb dX4_choose_139 (by decide) ?_
                  exact ih40 (ee + 1) (tr ||| (1 <<< ee)) be2 bp2 (by omega) (chq_x hq c69 c105) (or_lt 16 htr (one_lt (by omega))) (hbe2) (hbp2) (by omega) _ _ _ (lv_sub hl [0, 1, 4, 5, 6, 7, 8, 9, 10, 11] rfl) w
                · refine lv_aload_n hx hb dX4_choose_108 rfl (lv_at hl 5 rfl) ?_
                  refine lv_aload_n hx hb dX4_choose_109 rfl (lv_at hl 6 rfl) ?_
                  refine lv_iload hx hb dX4_choose_110 (lv_at hl 4 rfl) ?_
                  refine lv_iconst (v := nI 1) hx hb dX4_choose_112 (by decide) ?_
                  refine r_iadd hx hb dX4_choose_113 ?_
                  refine lv_iload hx hb dX4_choose_114 (lv_at hl 1 rfl) ?_
                  refine lv_iload hx hb dX4_choose_116 (lv_at hl 3 rfl) ?_
                  refine lv_lload hx hb dX4_choose_118 (lv_at hl 0 rfl) ?_
                  refine lv_iload hx hb dX4_choose_120 (lv_at hl 11 rfl) ?_
                  refine lv_iconst (v := nI 1) hx hb dX4_choose_122 (by decide) ?_
                  refine r_iadd hx hb dX4_choose_123 ?_
                  refine ga_callS (rest := []) (wr := []) cx hK hA w hl lk_X4_33 (ih_ aH be2 bp2 aP aF aT aC aL n k li fa ct aK aZ cap z pn sl ((fnm z ch pn s0) + 1) (ch ||| (1 <<< ee)) tr ((pr + (ct ee)) + 1) (dp + 1) (by omega) (by omega) (hk) (hct) (hpc) (hcap) (hz) (by omega) (or_lt 16 hch (one_lt (by omega))) (htr) (hbe2) (hbp2) (by have := hct ee (by omega); omega)) ⟨(by show d + 5 + 1 ≤ (d + 1) + 5; omega), (by show 8 + (14 + 11) + (33 * d + 120) ≤ 33 * (d + 1) + 120; omega)⟩ [0, 1, 2, 3, 4] [] rfl rfl (by decide) (by decide) (by decide) rfl (Nat.le_of_ble_eq_true rfl) dX4_choose_124 ⟨Nat.le_refl _, Nat.le_refl _⟩ rfl (fun r w1_ H_ locs_ hp w => ?_)
                  obtain ⟨be5, bp5, h51, h52, h53, rfl, rfl⟩ := hp
                  have w : ga_wd G A_ s_ H_ locs_ [(aH, .inr (4, [.ref aP, .int (nI be5), .long (lN bp5)])), (aP, .inr (1, [.ref aF, .ref aT, .ref aC, .ref aL, .int (nI n), .int (nI k), .int (nI li), .int (nI fa)])), (aC, .inl (G.2.2, 16, .inl (aN ct))), (aK, .inr (0, [.ref aZ, .int (nI pn), .int (bI sl)])), (aZ, .inl (G.2.2, cap, .inl (aN z)))] := ga_perm w [0, 1, 2, 3, 4] (by decide) rfl
                  refine W.eq (g2 := F0 m_ 127 ls []) rfl ?_
                  refine lv_iload hx hb dX4_choose_127 (lv_at hl 3 rfl) ?_
                  refine lv_iconst (v := nI 1) hx hb dX4_choose_129 (by decide) ?_
                  refine lv_iload hx hb dX4_choose_130 (lv_at hl 2 rfl) ?_
                  refine r_ishl hx hb dX4_choose_132 (by omega) ?_
                  refine r_ior hx hb dX4_choose_133 ?_
                  refine lv_istore (lv' := [(9, .int (nI (tr ||| (1 <<< ee)))), (12, .long (lN ((pr + (ct ee)) + 1))), (11, .int (nI (ch ||| (1 <<< ee)))), (10, .int (nI ee)), (8, .int (nI (fnm z ch pn s0))), (0, .ref aH), (1, .ref aK), (2, .int (nI s0)), (3, .int (nI ch)), (4, .int (nI bar)), (5, .long (lN pr)), (7, .int (nI dp))]) hx hb dX4_choose_134 hl (by decide) rfl (fun ls hl => ?_)
                  refine r_iinc (d := 1) (k := 3) (lv' := [(10, .int (nI (ee + 1))), (9, .int (nI (tr ||| (1 <<< ee)))), (12, .long (lN ((pr + (ct ee)) + 1))), (11, .int (nI (ch ||| (1 <<< ee)))), (8, .int (nI (fnm z ch pn s0))), (0, .ref aH), (1, .ref aK), (2, .int (nI s0)), (3, .int (nI ch)), (4, .int (nI bar)), (5, .long (lN pr)), (7, .int (nI dp))]) hx hb dX4_choose_136 hl rfl (by decide) (by decide) rfl (fun ls hl => ?_)
                  refine lv_goto (tgt := 40) hx hb dX4_choose_139 (by decide) ?_
                  exact ih40 (ee + 1) (tr ||| (1 <<< ee)) be5 bp5 (by omega) (by rw [chq_y hq c69 c105, h51, show 16 - (dp + 1) = 15 - dp by omega]) (or_lt 16 htr (one_lt (by omega))) (h52) (h53) (by omega) _ _ _ (lv_sub hl [0, 1, 4, 5, 6, 7, 8, 9, 10, 11] rfl) w
        exact loop40 _ 0 bar be bp (by omega) (rfl) (hbar) (hbe) (hbp) (Nat.lt_succ_self _) _ _ _ (lv_sub hl [0, 1, 2, 3, 4, 5, 6, 7, 8, 9] rfl) w
      · exact ga_vret cx hr hlk w dX4_choose_32 ⟨Nat.le_refl _, Nat.le_refl _⟩ (⟨be, bp, (by rw [show 16 - dp = 0 by omega, chz_0 (by omega)]), hbe, hbp, rfl, rfl⟩)
    · refine lv_aload_n hx hb dX4_choose_17 rfl (lv_at hl 1 rfl) ?_
      refine lv_iload_n hx hb dX4_choose_18 rfl (lv_at hl 4 rfl) ?_
      refine lv_lload hx hb dX4_choose_19 (lv_at hl 6 rfl) ?_
      refine ga_callV (rest := []) (wr := [(aP, .inr (1, [.ref aF, .ref aT, .ref aC, .ref aL, .int (nI n), .int (nI k), .int (nI li), .int (nI fa)])), (aC, .inl (G.2.2, 16, .inl (aN ct))), (aK, .inr (0, [.ref aZ, .int (nI pn), .int (bI sl)])), (aZ, .inl (G.2.2, cap, .inl (aN z)))]) cx hK hA w hl lk_X4_46 (c_X4_offer l G aH aP be bp ch pr (hch) (hbe) (by omega) (hbp)) ⟨(by show 2 + 1 ≤ (d + 1) + 5; omega), (by show 8 + (4 + 11) + (44) ≤ 33 * (d + 1) + 120; omega)⟩ [0] [1, 2, 3, 4] rfl rfl (by decide) (by decide) (by decide) 0 4 rfl rfl rfl rfl (Nat.le_of_ble_eq_true rfl) dX4_choose_21 ⟨Nat.le_refl _, Nat.le_refl _⟩ rfl (fun r w1_ H_ locs_ hp w => ?_)
      obtain ⟨rfl, rfl⟩ := hp
      have w : ga_wd G A_ s_ H_ locs_ [(aH, .inr (4, [.ref aP, .int (nI ((ofr (be, bp) ch pr).1)), .long (lN ((ofr (be, bp) ch pr).2))])), (aP, .inr (1, [.ref aF, .ref aT, .ref aC, .ref aL, .int (nI n), .int (nI k), .int (nI li), .int (nI fa)])), (aC, .inl (G.2.2, 16, .inl (aN ct))), (aK, .inr (0, [.ref aZ, .int (nI pn), .int (bI sl)])), (aZ, .inl (G.2.2, cap, .inl (aN z)))] := ga_perm w [4, 0, 1, 2, 3] (by decide) rfl
      refine W.eq (g2 := F0 m_ 24 ls []) rfl ?_
      exact ga_vret cx hr hlk w dX4_choose_24 ⟨Nat.le_refl _, Nat.le_refl _⟩ (⟨_, _, (by rw [chz_o (by omega)]), (ofr_lt (st := (be, bp)) hbe hch hbp (by omega)).1, (ofr_lt (st := (be, bp)) hbe hch hbp (by omega)).2, rfl, rfl⟩)

set_option maxHeartbeats 4000000 in
set_option maxRecDepth 100000 in
theorem c_X4_cheapestWith (l : Launch) (G : ga_G) (aH : Nat) (xb : Int32) (xp : Int64) (aP : Nat) (aF : Nat) (aT : Nat) (aC : Nat) (aL : Nat) (n : Nat) (k : Nat) (li : Nat) (fa : Nat) (ct : Nat → Nat) (aK : Nat) (aZ : Nat) (cap : Nat) (z : Nat → Nat) (pn : Nat) (sl : Bool) (gv : Nat) (hk : k ≤ 16) (hct : ∀ e, e < k → ct e ≤ 1000000) (hpc : pn ≤ cap) (hcap : cap < 2 ^ 25) (hz : ∀ q, q < pn → z q < 65536) (hgv : gv < 65536) : ga_M l G yX4_cheapestWith cX4_cheapestWith 3 (Option.some Jvm.ClassFile.FieldType.int) 22 681 0 0 [.ref aH, .int (nI gv), .ref aK] [(aH, .inr (4, [.ref aP, .int xb, .long xp])), (aP, .inr (1, [.ref aF, .ref aT, .ref aC, .ref aL, .int (nI n), .int (nI k), .int (nI li), .int (nI fa)])), (aC, .inl (G.2.2, 16, .inl (aN ct))), (aK, .inr (0, [.ref aZ, .int (nI pn), .int (bI sl)])), (aZ, .inl (G.2.2, cap, .inl (aN z)))] (fun r w => ∃ (be9 : Nat), ∃ (bp9 : Nat), ((be9, bp9) = chz k ct z pn 16 0 gv 0 (prc ct gv k) (2 ^ k - 1, prc ct (2 ^ k - 1) k)) ∧ (be9 < 65536) ∧ r = some (.int (nI be9)) ∧ w = [(aH, .inr (4, [.ref aP, .int (nI be9), .long (lN bp9)])), (aP, .inr (1, [.ref aF, .ref aT, .ref aC, .ref aL, .int (nI n), .int (nI k), .int (nI li), .int (nI fa)])), (aC, .inl (G.2.2, 16, .inl (aN ct))), (aK, .inr (0, [.ref aZ, .int (nI pn), .int (bI sl)])), (aZ, .inl (G.2.2, cap, .inl (aN z)))]) := by
  refine ga_M.intro (by decide) (Nat.le_of_ble_eq_true rfl) (fun p_ e_ s_ m_ below meth c_ A_ H_ locs_ ls cx hr hlk hnm hA hK hl w => ?_)
  have hx := cx.1
  have hb := cx.2.1
  have hl : lv_has ls 3 [(0, .ref aH), (1, .int (nI gv)), (2, .ref aK)] := hl
  refine lv_aload_n hx hb dX4_cheapestWith_0 rfl (lv_at hl 0 rfl) ?_
  refine lv_aload_n hx hb dX4_cheapestWith_1 rfl (lv_at hl 0 rfl) ?_
  refine gf_X4_9 cx hK w 0 rfl rfl dX4_cheapestWith_2 ?_
  refine ga_callV (rest := [.ref aH]) (wr := [(aH, .inr (4, [.ref aP, .int xb, .long xp])), (aC, .inl (G.2.2, 16, .inl (aN ct))), (aK, .inr (0, [.ref aZ, .int (nI pn), .int (bI sl)])), (aZ, .inl (G.2.2, cap, .inl (aN z)))]) cx hK hA w hl lk_X4_15 (c_X1_allSteps l G aP aF aT aC aL (nI n) k (nI li) (nI fa) (hk)) ⟨Nat.le_of_ble_eq_true rfl, Nat.le_of_ble_eq_true rfl⟩ [1] [0, 2, 3, 4] rfl rfl (by decide) (by decide) (by decide) 1 1 rfl rfl rfl rfl (Nat.le_of_ble_eq_true rfl) dX4_cheapestWith_5 ⟨Nat.le_refl _, Nat.le_refl _⟩ rfl (fun r w1_ H_ locs_ hp w => ?_)
  obtain ⟨rfl, rfl⟩ := hp
  have w : ga_wd G A_ s_ H_ locs_ [(aH, .inr (4, [.ref aP, .int xb, .long xp])), (aP, .inr (1, [.ref aF, .ref aT, .ref aC, .ref aL, .int (nI n), .int (nI k), .int (nI li), .int (nI fa)])), (aC, .inl (G.2.2, 16, .inl (aN ct))), (aK, .inr (0, [.ref aZ, .int (nI pn), .int (bI sl)])), (aZ, .inl (G.2.2, cap, .inl (aN z)))] := ga_perm w [0, 4, 1, 2, 3] (by decide) rfl
  refine W.eq (g2 := F0 m_ 8 ls [.int (nI (2 ^ k - 1)), .ref aH]) rfl ?_
  have hp2 : 2 ^ k ≤ 2 ^ 16 := Nat.pow_le_pow_right (by decide) hk
  refine pf_X4_21 cx hK w 0 rfl rfl rfl (Nat.le_of_ble_eq_true rfl) dX4_cheapestWith_8 (fun H_ locs_ w => ?_)
  have w : ga_wd G A_ s_ H_ locs_ [(aH, .inr (4, [.ref aP, .int (nI (2 ^ k - 1)), .long xp])), (aP, .inr (1, [.ref aF, .ref aT, .ref aC, .ref aL, .int (nI n), .int (nI k), .int (nI li), .int (nI fa)])), (aC, .inl (G.2.2, 16, .inl (aN ct))), (aK, .inr (0, [.ref aZ, .int (nI pn), .int (bI sl)])), (aZ, .inl (G.2.2, cap, .inl (aN z)))] := w
  refine lv_aload_n hx hb dX4_cheapestWith_11 rfl (lv_at hl 0 rfl) ?_
  refine lv_aload_n hx hb dX4_cheapestWith_12 rfl (lv_at hl 0 rfl) ?_
  refine gf_X4_9 cx hK w 0 rfl rfl dX4_cheapestWith_13 ?_
  refine lv_aload_n hx hb dX4_cheapestWith_16 rfl (lv_at hl 0 rfl) ?_
  refine gf_X4_21 cx hK w 0 rfl rfl dX4_cheapestWith_17 ?_
  refine ga_callV (rest := [.ref aH]) (wr := [(aH, .inr (4, [.ref aP, .int (nI (2 ^ k - 1)), .long xp])), (aK, .inr (0, [.ref aZ, .int (nI pn), .int (bI sl)])), (aZ, .inl (G.2.2, cap, .inl (aN z)))]) cx hK hA w hl lk_X4_25 (c_X1_priceOf l G aP aF aT aC aL n k li fa ct (2 ^ k - 1) (hk) (by omega) (hct)) ⟨Nat.le_of_ble_eq_true rfl, Nat.le_of_ble_eq_true rfl⟩ [1, 2] [0, 3, 4] rfl rfl (by decide) (by decide) (by decide) 1 1 rfl rfl rfl rfl (Nat.le_of_ble_eq_true rfl) dX4_cheapestWith_20 ⟨Nat.le_refl _, Nat.le_refl _⟩ rfl (fun r w1_ H_ locs_ hp w => ?_)
  obtain ⟨rfl, rfl⟩ := hp
  have w : ga_wd G A_ s_ H_ locs_ [(aH, .inr (4, [.ref aP, .int (nI (2 ^ k - 1)), .long xp])), (aP, .inr (1, [.ref aF, .ref aT, .ref aC, .ref aL, .int (nI n), .int (nI k), .int (nI li), .int (nI fa)])), (aC, .inl (G.2.2, 16, .inl (aN ct))), (aK, .inr (0, [.ref aZ, .int (nI pn), .int (bI sl)])), (aZ, .inl (G.2.2, cap, .inl (aN z)))] := ga_perm w [0, 3, 4, 1, 2] (by decide) rfl
  refine W.eq (g2 := F0 m_ 23 ls [.long (lN (prc ct (2 ^ k - 1) k)), .ref aH]) rfl ?_
  have hpa := prc_le (ct := ct) (st := 2 ^ k - 1) (k := k) hct
  refine pf_X4_29 cx hK w 0 rfl rfl rfl (Nat.le_of_ble_eq_true rfl) dX4_cheapestWith_23 (fun H_ locs_ w => ?_)
  have w : ga_wd G A_ s_ H_ locs_ [(aH, .inr (4, [.ref aP, .int (nI (2 ^ k - 1)), .long (lN (prc ct (2 ^ k - 1) k))])), (aP, .inr (1, [.ref aF, .ref aT, .ref aC, .ref aL, .int (nI n), .int (nI k), .int (nI li), .int (nI fa)])), (aC, .inl (G.2.2, 16, .inl (aN ct))), (aK, .inr (0, [.ref aZ, .int (nI pn), .int (bI sl)])), (aZ, .inl (G.2.2, cap, .inl (aN z)))] := w
  refine lv_aload_n hx hb dX4_cheapestWith_26 rfl (lv_at hl 0 rfl) ?_
  refine lv_aload_n hx hb dX4_cheapestWith_27 rfl (lv_at hl 2 rfl) ?_
  refine lv_iconst (v := nI 0) hx hb dX4_cheapestWith_28 (by decide) ?_
  refine lv_iload_n hx hb dX4_cheapestWith_29 rfl (lv_at hl 1 rfl) ?_
  refine lv_iconst (v := nI 0) hx hb dX4_cheapestWith_30 (by decide) ?_
  refine lv_aload_n hx hb dX4_cheapestWith_31 rfl (lv_at hl 0 rfl) ?_
  refine gf_X4_9 cx hK w 0 rfl rfl dX4_cheapestWith_32 ?_
  refine lv_iload_n hx hb dX4_cheapestWith_35 rfl (lv_at hl 1 rfl) ?_
  refine ga_callV (rest := [.int (nI 0), .int (nI gv), .int (nI 0), .ref aK, .ref aH]) (wr := [(aH, .inr (4, [.ref aP, .int (nI (2 ^ k - 1)), .long (lN (prc ct (2 ^ k - 1) k))])), (aK, .inr (0, [.ref aZ, .int (nI pn), .int (bI sl)])), (aZ, .inl (G.2.2, cap, .inl (aN z)))]) cx hK hA w hl lk_X4_25 (c_X1_priceOf l G aP aF aT aC aL n k li fa ct gv (hk) (by omega) (hct)) ⟨Nat.le_of_ble_eq_true rfl, Nat.le_of_ble_eq_true rfl⟩ [1, 2] [0, 3, 4] rfl rfl (by decide) (by decide) (by decide) 1 1 rfl rfl rfl rfl (Nat.le_of_ble_eq_true rfl) dX4_cheapestWith_36 ⟨Nat.le_refl _, Nat.le_refl _⟩ rfl (fun r w1_ H_ locs_ hp w => ?_)
  obtain ⟨rfl, rfl⟩ := hp
  have w : ga_wd G A_ s_ H_ locs_ [(aH, .inr (4, [.ref aP, .int (nI (2 ^ k - 1)), .long (lN (prc ct (2 ^ k - 1) k))])), (aP, .inr (1, [.ref aF, .ref aT, .ref aC, .ref aL, .int (nI n), .int (nI k), .int (nI li), .int (nI fa)])), (aC, .inl (G.2.2, 16, .inl (aN ct))), (aK, .inr (0, [.ref aZ, .int (nI pn), .int (bI sl)])), (aZ, .inl (G.2.2, cap, .inl (aN z)))] := ga_perm w [0, 3, 4, 1, 2] (by decide) rfl
  refine W.eq (g2 := F0 m_ 39 ls [.long (lN (prc ct gv k)), .int (nI 0), .int (nI gv), .int (nI 0), .ref aK, .ref aH]) rfl ?_
  have hpg := prc_le (ct := ct) (st := gv) (k := k) hct
  refine lv_iconst (v := nI 0) hx hb dX4_cheapestWith_39 (by decide) ?_
  refine ga_callS (rest := []) (wr := []) cx hK hA w hl lk_X4_33 (c_X4_choose l G 16 aH (2 ^ k - 1) (prc ct (2 ^ k - 1) k) aP aF aT aC aL n k li fa ct aK aZ cap z pn sl 0 gv 0 (prc ct gv k) 0 (by decide) (by decide) (hk) (hct) (hpc) (hcap) (hz) (by omega) (hgv) (by decide) (by omega) (by omega) (by omega)) ⟨Nat.le_of_ble_eq_true rfl, Nat.le_of_ble_eq_true rfl⟩ [0, 1, 2, 3, 4] [] rfl rfl (by decide) (by decide) (by decide) rfl (Nat.le_of_ble_eq_true rfl) dX4_cheapestWith_40 ⟨Nat.le_refl _, Nat.le_refl _⟩ rfl (fun r w1_ H_ locs_ hp w => ?_)
  obtain ⟨be5, bp5, h51, h52, h53, rfl, rfl⟩ := hp
  have w : ga_wd G A_ s_ H_ locs_ [(aH, .inr (4, [.ref aP, .int (nI be5), .long (lN bp5)])), (aP, .inr (1, [.ref aF, .ref aT, .ref aC, .ref aL, .int (nI n), .int (nI k), .int (nI li), .int (nI fa)])), (aC, .inl (G.2.2, 16, .inl (aN ct))), (aK, .inr (0, [.ref aZ, .int (nI pn), .int (bI sl)])), (aZ, .inl (G.2.2, cap, .inl (aN z)))] := ga_perm w [0, 1, 2, 3, 4] (by decide) rfl
  refine W.eq (g2 := F0 m_ 43 ls []) rfl ?_
  refine lv_aload_n hx hb dX4_cheapestWith_43 rfl (lv_at hl 0 rfl) ?_
  refine gf_X4_21 cx hK w 0 rfl rfl dX4_cheapestWith_44 ?_
  exact ga_iret cx hr hlk w dX4_cheapestWith_47 ⟨Nat.le_refl _, Nat.le_refl _⟩ (⟨be5, bp5, h51, h52, rfl, rfl⟩)
end
