-- ===== PART A: goes FIRST, ahead of the names: the tables' words, and 'selects' of the private methods out of them =====
/-- a private method of a class that the tables say can be made, by its rows of tables_1 -/
def lw_okq (q : MethodName × Nat) : Prop := (q.1.cls ≠ "java/lang/invoke/MethodHandle" ∧ q.1.cls ≠ "java/lang/invoke/VarHandle") ∧ Cond.instantiable q.1.cls q.2 ∈ tables_1 ∧ Cond.privateMethod q.1 ∈ tables_1 ∧ Cond.instanceMethod q.1 ∈ tables_1
theorem lw_p0 : lw_okq (⟨"LogPlacer", "forgetWays", "()V"⟩, 7) := ⟨⟨by decide +kernel, by decide +kernel⟩, List.mem_of_getElem? (i := 14) (by decide +kernel), List.mem_of_getElem? (i := 213) (by decide +kernel), List.mem_of_getElem? (i := 214) (by decide +kernel)⟩
theorem lw_p1 : lw_okq (⟨"LogPlacer", "tooMany", "()Z"⟩, 7) := ⟨⟨by decide +kernel, by decide +kernel⟩, List.mem_of_getElem? (i := 14) (by decide +kernel), List.mem_of_getElem? (i := 256) (by decide +kernel), List.mem_of_getElem? (i := 257) (by decide +kernel)⟩
theorem lw_p2 : lw_okq (⟨"LogPlacer$Routes", "add", "(II)V"⟩, 5) := ⟨⟨by decide +kernel, by decide +kernel⟩, List.mem_of_getElem? (i := 69) (by decide +kernel), List.mem_of_getElem? (i := 267) (by decide +kernel), List.mem_of_getElem? (i := 268) (by decide +kernel)⟩
theorem lw_p3 : lw_okq (⟨"LogPlacer", "hasWay", "(I)Z"⟩, 7) := ⟨⟨by decide +kernel, by decide +kernel⟩, List.mem_of_getElem? (i := 14) (by decide +kernel), List.mem_of_getElem? (i := 275) (by decide +kernel), List.mem_of_getElem? (i := 276) (by decide +kernel)⟩
theorem lw_p4 : lw_okq (⟨"LogPlacer", "partings", "(I)LLogPlacer$Partings;"⟩, 7) := ⟨⟨by decide +kernel, by decide +kernel⟩, List.mem_of_getElem? (i := 14) (by decide +kernel), List.mem_of_getElem? (i := 314) (by decide +kernel), List.mem_of_getElem? (i := 315) (by decide +kernel)⟩
theorem lw_p5 : lw_okq (⟨"LogPlacer$Partings", "add", "(I)V"⟩, 3) := ⟨⟨by decide +kernel, by decide +kernel⟩, List.mem_of_getElem? (i := 101) (by decide +kernel), List.mem_of_getElem? (i := 322) (by decide +kernel), List.mem_of_getElem? (i := 323) (by decide +kernel)⟩
theorem lw_p6 : lw_okq (⟨"LogPlacer$Search", "offer", "(IJ)V"⟩, 3) := ⟨⟨by decide +kernel, by decide +kernel⟩, List.mem_of_getElem? (i := 120) (by decide +kernel), List.mem_of_getElem? (i := 371) (by decide +kernel), List.mem_of_getElem? (i := 372) (by decide +kernel)⟩
theorem lw_p7 : lw_okq (⟨"LogPlacerModel", "isStep", "(I)Z"⟩, 23) := ⟨⟨by decide +kernel, by decide +kernel⟩, List.mem_of_getElem? (i := 476) (by decide +kernel), List.mem_of_getElem? (i := 572) (by decide +kernel), List.mem_of_getElem? (i := 573) (by decide +kernel)⟩
theorem lw_p8 : lw_okq (⟨"LogPlacerModel", "isTooMany", "()Z"⟩, 23) := ⟨⟨by decide +kernel, by decide +kernel⟩, List.mem_of_getElem? (i := 476) (by decide +kernel), List.mem_of_getElem? (i := 591) (by decide +kernel), List.mem_of_getElem? (i := 592) (by decide +kernel)⟩
theorem lw_p9 : lw_okq (⟨"LogPlacerModel", "works", "()V"⟩, 23) := ⟨⟨by decide +kernel, by decide +kernel⟩, List.mem_of_getElem? (i := 476) (by decide +kernel), List.mem_of_getElem? (i := 595) (by decide +kernel), List.mem_of_getElem? (i := 596) (by decide +kernel)⟩
theorem lw_p10 : lw_okq (⟨"LogPlacerModel", "keeps", "(I)V"⟩, 23) := ⟨⟨by decide +kernel, by decide +kernel⟩, List.mem_of_getElem? (i := 476) (by decide +kernel), List.mem_of_getElem? (i := 599) (by decide +kernel), List.mem_of_getElem? (i := 600) (by decide +kernel)⟩
theorem lw_p11 : lw_okq (⟨"LogPlacerModel", "logOf", "(II)I"⟩, 23) := ⟨⟨by decide +kernel, by decide +kernel⟩, List.mem_of_getElem? (i := 476) (by decide +kernel), List.mem_of_getElem? (i := 611) (by decide +kernel), List.mem_of_getElem? (i := 612) (by decide +kernel)⟩
theorem lw_p12 : lw_okq (⟨"LogPlacerModel", "heapsBy", "(I)I"⟩, 23) := ⟨⟨by decide +kernel, by decide +kernel⟩, List.mem_of_getElem? (i := 476) (by decide +kernel), List.mem_of_getElem? (i := 619) (by decide +kernel), List.mem_of_getElem? (i := 620) (by decide +kernel)⟩
theorem lw_p13 : lw_okq (⟨"LogPlacerModel", "firstOf", "(II)I"⟩, 23) := ⟨⟨by decide +kernel, by decide +kernel⟩, List.mem_of_getElem? (i := 476) (by decide +kernel), List.mem_of_getElem? (i := 623) (by decide +kernel), List.mem_of_getElem? (i := 624) (by decide +kernel)⟩
theorem lw_p14 : lw_okq (⟨"LogPlacerModel", "areParted", "(III)Z"⟩, 23) := ⟨⟨by decide +kernel, by decide +kernel⟩, List.mem_of_getElem? (i := 476) (by decide +kernel), List.mem_of_getElem? (i := 627) (by decide +kernel), List.mem_of_getElem? (i := 628) (by decide +kernel)⟩
theorem lw_p15 : lw_okq (⟨"LogPlacerModel", "isApart", "(II)Z"⟩, 23) := ⟨⟨by decide +kernel, by decide +kernel⟩, List.mem_of_getElem? (i := 476) (by decide +kernel), List.mem_of_getElem? (i := 639) (by decide +kernel), List.mem_of_getElem? (i := 640) (by decide +kernel)⟩
def lw_privs_1 : List (MethodName × Nat) := [(⟨"LogPlacer", "forgetWays", "()V"⟩, 7), (⟨"LogPlacer", "tooMany", "()Z"⟩, 7), (⟨"LogPlacer$Routes", "add", "(II)V"⟩, 5), (⟨"LogPlacer", "hasWay", "(I)Z"⟩, 7), (⟨"LogPlacer", "partings", "(I)LLogPlacer$Partings;"⟩, 7), (⟨"LogPlacer$Partings", "add", "(I)V"⟩, 3), (⟨"LogPlacer$Search", "offer", "(IJ)V"⟩, 3), (⟨"LogPlacerModel", "isStep", "(I)Z"⟩, 23), (⟨"LogPlacerModel", "isTooMany", "()Z"⟩, 23), (⟨"LogPlacerModel", "works", "()V"⟩, 23), (⟨"LogPlacerModel", "keeps", "(I)V"⟩, 23), (⟨"LogPlacerModel", "logOf", "(II)I"⟩, 23), (⟨"LogPlacerModel", "heapsBy", "(I)I"⟩, 23), (⟨"LogPlacerModel", "firstOf", "(II)I"⟩, 23), (⟨"LogPlacerModel", "areParted", "(III)Z"⟩, 23), (⟨"LogPlacerModel", "isApart", "(II)Z"⟩, 23)]
theorem lw_r1 : ∀ q ∈ lw_privs_1, lw_okq q := List.forall_mem_cons.mpr ⟨lw_p0, List.forall_mem_cons.mpr ⟨lw_p1, List.forall_mem_cons.mpr ⟨lw_p2, List.forall_mem_cons.mpr ⟨lw_p3, List.forall_mem_cons.mpr ⟨lw_p4, List.forall_mem_cons.mpr ⟨lw_p5, List.forall_mem_cons.mpr ⟨lw_p6, List.forall_mem_cons.mpr ⟨lw_p7, List.forall_mem_cons.mpr ⟨lw_p8, List.forall_mem_cons.mpr ⟨lw_p9, List.forall_mem_cons.mpr ⟨lw_p10, List.forall_mem_cons.mpr ⟨lw_p11, List.forall_mem_cons.mpr ⟨lw_p12, List.forall_mem_cons.mpr ⟨lw_p13, List.forall_mem_cons.mpr ⟨lw_p14, List.forall_mem_cons.mpr ⟨lw_p15, fun _ h => absurd h List.not_mem_nil⟩⟩⟩⟩⟩⟩⟩⟩⟩⟩⟩⟩⟩⟩⟩⟩
theorem lw_p16 : lw_okq (⟨"LogPlacerModel", "priceOf", "(I)J"⟩, 23) := ⟨⟨by decide +kernel, by decide +kernel⟩, List.mem_of_getElem? (i := 476) (by decide +kernel), List.mem_of_getElem? (i := 647) (by decide +kernel), List.mem_of_getElem? (i := 648) (by decide +kernel)⟩
theorem lw_p17 : lw_okq (⟨"LogPlacerModel", "isUseless", "(I)Z"⟩, 23) := ⟨⟨by decide +kernel, by decide +kernel⟩, List.mem_of_getElem? (i := 476) (by decide +kernel), List.mem_of_getElem? (i := 666) (by decide +kernel), List.mem_of_getElem? (i := 667) (by decide +kernel)⟩
theorem lw_p18 : lw_okq (⟨"LogPlacerModel", "push", "(I)V"⟩, 23) := ⟨⟨by decide +kernel, by decide +kernel⟩, List.mem_of_getElem? (i := 476) (by decide +kernel), List.mem_of_getElem? (i := 678) (by decide +kernel), List.mem_of_getElem? (i := 679) (by decide +kernel)⟩
theorem lw_p19 : lw_okq (⟨"LogPlacerModel", "allows", "(I)Z"⟩, 23) := ⟨⟨by decide +kernel, by decide +kernel⟩, List.mem_of_getElem? (i := 476) (by decide +kernel), List.mem_of_getElem? (i := 687) (by decide +kernel), List.mem_of_getElem? (i := 688) (by decide +kernel)⟩
def lw_privs_2 : List (MethodName × Nat) := [(⟨"LogPlacerModel", "priceOf", "(I)J"⟩, 23), (⟨"LogPlacerModel", "isUseless", "(I)Z"⟩, 23), (⟨"LogPlacerModel", "push", "(I)V"⟩, 23), (⟨"LogPlacerModel", "allows", "(I)Z"⟩, 23)]
theorem lw_r2 : ∀ q ∈ lw_privs_2, lw_okq q := List.forall_mem_cons.mpr ⟨lw_p16, List.forall_mem_cons.mpr ⟨lw_p17, List.forall_mem_cons.mpr ⟨lw_p18, List.forall_mem_cons.mpr ⟨lw_p19, fun _ h => absurd h List.not_mem_nil⟩⟩⟩⟩
def lw_privs : List (MethodName × Nat) := lw_privs_1 ++ (lw_privs_2)
def lw_tbl : List Cond := k2_sels lw_privs ++ tables_1
theorem lw_privs_ok : ∀ q ∈ lw_privs, lw_okq q := by
  show ∀ q ∈ lw_privs_1 ++ (lw_privs_2), lw_okq q
  exact List.forall_mem_append.mpr ⟨lw_r1, lw_r2⟩

def RX0 : String := "LogPlacer$Partings"
def TX0 : u_T := fun k => match k with
  | 0 => ("LogPlacer$Partings", "sets", "[I", false)
  | 1 => ("LogPlacer$Partings", "number", "I", false)
  | _ => ("LogPlacer$Partings", "stale", "Z", false)
def tyX0 : Nat → FieldType := fun k => match k with
  | 0 => .array .int
  | 1 => .int
  | _ => .boolean
theorem nmX0 : ∀ a, a < 3 → ∀ b, b < 3 → a ≠ b → (TX0 a).2.1 ≠ (TX0 b).2.1 := by decide +kernel
theorem tyX0_ok : ∀ k, k < 3 → parseFieldDescriptor (TX0 k).2.2.1 = some (tyX0 k) := by decide +kernel
abbrev cX0_init : ByteArray := prog_2_method_1_code
def yX0_init : MethodName := ⟨RX0, "<init>", "()V"⟩
abbrev cX0_gather : ByteArray := prog_2_method_2_code
def yX0_gather : MethodName := ⟨RX0, "gather", "(LLogPlacer$Routes;ZI)V"⟩
abbrev cX0_add : ByteArray := prog_2_method_3_code
def yX0_add : MethodName := ⟨RX0, "add", "(I)V"⟩
abbrev cX0_allMetBy : ByteArray := prog_2_method_4_code
def yX0_allMetBy : MethodName := ⟨RX0, "allMetBy", "(I)Z"⟩
abbrev cX0_firstNotMetBy : ByteArray := prog_2_method_5_code
def yX0_firstNotMetBy : MethodName := ⟨RX0, "firstNotMetBy", "(II)I"⟩
def RX1 : String := "LogPlacer$Program"
def TX1 : u_T := fun k => match k with
  | 0 => ("LogPlacer$Program", "from", "[I", true)
  | 1 => ("LogPlacer$Program", "to", "[I", true)
  | 2 => ("LogPlacer$Program", "times", "[I", true)
  | 3 => ("LogPlacer$Program", "leaving", "[I", true)
  | 4 => ("LogPlacer$Program", "nodes", "I", false)
  | 5 => ("LogPlacer$Program", "steps", "I", false)
  | 6 => ("LogPlacer$Program", "lines", "I", false)
  | _ => ("LogPlacer$Program", "faults", "I", false)
def tyX1 : Nat → FieldType := fun k => match k with
  | 0 => .array .int
  | 1 => .array .int
  | 2 => .array .int
  | 3 => .array .int
  | 4 => .int
  | 5 => .int
  | 6 => .int
  | _ => .int
theorem nmX1 : ∀ a, a < 8 → ∀ b, b < 8 → a ≠ b → (TX1 a).2.1 ≠ (TX1 b).2.1 := by decide +kernel
theorem tyX1_ok : ∀ k, k < 8 → parseFieldDescriptor (TX1 k).2.2.1 = some (tyX1 k) := by decide +kernel
abbrev cX1_init : ByteArray := prog_3_method_1_code
def yX1_init : MethodName := ⟨RX1, "<init>", "()V"⟩
abbrev cX1_restart : ByteArray := prog_3_method_2_code
def yX1_restart : MethodName := ⟨RX1, "restart", "(I)V"⟩
abbrev cX1_hasNode : ByteArray := prog_3_method_3_code
def yX1_hasNode : MethodName := ⟨RX1, "hasNode", "(I)Z"⟩
abbrev cX1_hasStep : ByteArray := prog_3_method_4_code
def yX1_hasStep : MethodName := ⟨RX1, "hasStep", "(I)Z"⟩
abbrev cX1_addStep : ByteArray := prog_3_method_5_code
def yX1_addStep : MethodName := ⟨RX1, "addStep", "(III)I"⟩
abbrev cX1_allSteps : ByteArray := prog_3_method_6_code
def yX1_allSteps : MethodName := ⟨RX1, "allSteps", "()I"⟩
abbrev cX1_stepsFromBelow : ByteArray := prog_3_method_7_code
def yX1_stepsFromBelow : MethodName := ⟨RX1, "stepsFromBelow", "(I)I"⟩
abbrev cX1_priceOf : ByteArray := prog_3_method_8_code
def yX1_priceOf : MethodName := ⟨RX1, "priceOf", "(I)J"⟩
abbrev cX1_stepAt : ByteArray := prog_3_method_9_code
def yX1_stepAt : MethodName := ⟨RX1, "stepAt", "(II)I"⟩
def RX2 : String := "LogPlacer$Reading"
def TX2 : u_T := fun k => match k with
  | 0 => ("LogPlacer$Reading", "told", "[I", true)
  | 1 => ("LogPlacer$Reading", "length", "I", false)
  | 2 => ("LogPlacer$Reading", "torn", "Z", false)
  | 3 => ("LogPlacer$Reading", "possible", "Z", false)
  | 4 => ("LogPlacer$Reading", "toldSet", "I", false)
  | _ => ("LogPlacer$Reading", "heard", "I", false)
def tyX2 : Nat → FieldType := fun k => match k with
  | 0 => .array .int
  | 1 => .int
  | 2 => .boolean
  | 3 => .boolean
  | 4 => .int
  | _ => .int
theorem nmX2 : ∀ a, a < 6 → ∀ b, b < 6 → a ≠ b → (TX2 a).2.1 ≠ (TX2 b).2.1 := by decide +kernel
theorem tyX2_ok : ∀ k, k < 6 → parseFieldDescriptor (TX2 k).2.2.1 = some (tyX2 k) := by decide +kernel
abbrev cX2_init : ByteArray := prog_4_method_1_code
def yX2_init : MethodName := ⟨RX2, "<init>", "()V"⟩
abbrev cX2_forget : ByteArray := prog_4_method_2_code
def yX2_forget : MethodName := ⟨RX2, "forget", "()V"⟩
abbrev cX2_take : ByteArray := prog_4_method_3_code
def yX2_take : MethodName := ⟨RX2, "take", "(LLogPlacer$Tape;IZ)V"⟩
abbrev cX2_fit : ByteArray := prog_4_method_4_code
def yX2_fit : MethodName := ⟨RX2, "fit", "(LLogPlacer$Program;)V"⟩
abbrev cX2_allows : ByteArray := prog_4_method_5_code
def yX2_allows : MethodName := ⟨RX2, "allows", "(I)Z"⟩
abbrev cX2_howManyOf : ByteArray := prog_4_method_6_code
def yX2_howManyOf : MethodName := ⟨RX2, "howManyOf", "(LLogPlacer$Routes;)I"⟩
abbrev cX2_memberOf : ByteArray := prog_4_method_7_code
def yX2_memberOf : MethodName := ⟨RX2, "memberOf", "(LLogPlacer$Routes;I)I"⟩
abbrev cX2_inAll : ByteArray := prog_4_method_8_code
def yX2_inAll : MethodName := ⟨RX2, "inAll", "(LLogPlacer$Routes;[I)I"⟩
abbrev cX2_inSome : ByteArray := prog_4_method_9_code
def yX2_inSome : MethodName := ⟨RX2, "inSome", "(LLogPlacer$Routes;[I)I"⟩
def RX3 : String := "LogPlacer$Routes"
def TX3 : u_T := fun k => match k with
  | 0 => ("LogPlacer$Routes", "stepSets", "[I", true)
  | 1 => ("LogPlacer$Routes", "nodeSets", "[I", true)
  | 2 => ("LogPlacer$Routes", "number", "I", false)
  | 3 => ("LogPlacer$Routes", "tooMany", "Z", false)
  | _ => ("LogPlacer$Routes", "stale", "Z", false)
def tyX3 : Nat → FieldType := fun k => match k with
  | 0 => .array .int
  | 1 => .array .int
  | 2 => .int
  | 3 => .boolean
  | _ => .boolean
theorem nmX3 : ∀ a, a < 5 → ∀ b, b < 5 → a ≠ b → (TX3 a).2.1 ≠ (TX3 b).2.1 := by decide +kernel
theorem tyX3_ok : ∀ k, k < 5 → parseFieldDescriptor (TX3 k).2.2.1 = some (tyX3 k) := by decide +kernel
abbrev cX3_init : ByteArray := prog_5_method_1_code
def yX3_init : MethodName := ⟨RX3, "<init>", "()V"⟩
abbrev cX3_gather : ByteArray := prog_5_method_2_code
def yX3_gather : MethodName := ⟨RX3, "gather", "(LLogPlacer$Program;)V"⟩
abbrev cX3_follow : ByteArray := prog_5_method_3_code
def yX3_follow : MethodName := ⟨RX3, "follow", "(LLogPlacer$Routes;LLogPlacer$Program;IIII)V"⟩
abbrev cX3_add : ByteArray := prog_5_method_4_code
def yX3_add : MethodName := ⟨RX3, "add", "(II)V"⟩
abbrev cX3_firstLike : ByteArray := prog_5_method_5_code
def yX3_firstLike : MethodName := ⟨RX3, "firstLike", "(II)I"⟩
abbrev cX3_logsUnlike : ByteArray := prog_5_method_6_code
def yX3_logsUnlike : MethodName := ⟨RX3, "logsUnlike", "(I)I"⟩
abbrev cX3_soleParters : ByteArray := prog_5_method_7_code
def yX3_soleParters : MethodName := ⟨RX3, "soleParters", "(I)I"⟩
abbrev cX3_firstPairPartedBy : ByteArray := prog_5_method_8_code
def yX3_firstPairPartedBy : MethodName := ⟨RX3, "firstPairPartedBy", "(II)I"⟩
def RX4 : String := "LogPlacer$Search"
def TX4 : u_T := fun k => match k with
  | 0 => ("LogPlacer$Search", "program", "LLogPlacer$Program;", true)
  | 1 => ("LogPlacer$Search", "best", "I", false)
  | _ => ("LogPlacer$Search", "bestPrice", "J", false)
def tyX4 : Nat → FieldType := fun k => match k with
  | 0 => .object "LogPlacer$Program"
  | 1 => .int
  | _ => .long
theorem nmX4 : ∀ a, a < 3 → ∀ b, b < 3 → a ≠ b → (TX4 a).2.1 ≠ (TX4 b).2.1 := by decide +kernel
theorem tyX4_ok : ∀ k, k < 3 → parseFieldDescriptor (TX4 k).2.2.1 = some (tyX4 k) := by decide +kernel
abbrev cX4_init : ByteArray := prog_6_method_1_code
def yX4_init : MethodName := ⟨RX4, "<init>", "(LLogPlacer$Program;)V"⟩
abbrev cX4_cheapestWith : ByteArray := prog_6_method_2_code
def yX4_cheapestWith : MethodName := ⟨RX4, "cheapestWith", "(ILLogPlacer$Partings;)I"⟩
abbrev cX4_choose : ByteArray := prog_6_method_3_code
def yX4_choose : MethodName := ⟨RX4, "choose", "(LLogPlacer$Search;LLogPlacer$Partings;IIIJI)V"⟩
abbrev cX4_offer : ByteArray := prog_6_method_4_code
def yX4_offer : MethodName := ⟨RX4, "offer", "(IJ)V"⟩
abbrev cX4_isRatherThan : ByteArray := prog_6_method_5_code
def yX4_isRatherThan : MethodName := ⟨RX4, "isRatherThan", "(II)Z"⟩
def RX5 : String := "LogPlacer$Tape"
def TX5 : u_T := fun k => match k with
  | 0 => ("LogPlacer$Tape", "bytes", "[I", true)
  | _ => ("LogPlacer$Tape", "length", "I", false)
def tyX5 : Nat → FieldType := fun k => match k with
  | 0 => .array .int
  | _ => .int
theorem nmX5 : ∀ a, a < 2 → ∀ b, b < 2 → a ≠ b → (TX5 a).2.1 ≠ (TX5 b).2.1 := by decide +kernel
theorem tyX5_ok : ∀ k, k < 2 → parseFieldDescriptor (TX5 k).2.2.1 = some (tyX5 k) := by decide +kernel
abbrev cX5_init : ByteArray := prog_7_method_1_code
def yX5_init : MethodName := ⟨RX5, "<init>", "()V"⟩
abbrev cX5_put : ByteArray := prog_7_method_2_code
def yX5_put : MethodName := ⟨RX5, "put", "(I)V"⟩
def RX6 : String := "LogPlacer"
def TX6 : u_T := fun k => match k with
  | 0 => ("LogPlacer", "program", "LLogPlacer$Program;", true)
  | 1 => ("LogPlacer", "routes", "LLogPlacer$Routes;", true)
  | 2 => ("LogPlacer", "ofWays", "LLogPlacer$Partings;", true)
  | 3 => ("LogPlacer", "ofFaults", "LLogPlacer$Partings;", true)
  | 4 => ("LogPlacer", "search", "LLogPlacer$Search;", true)
  | 5 => ("LogPlacer", "tape", "LLogPlacer$Tape;", true)
  | _ => ("LogPlacer", "reading", "LLogPlacer$Reading;", true)
def tyX6 : Nat → FieldType := fun k => match k with
  | 0 => .object "LogPlacer$Program"
  | 1 => .object "LogPlacer$Routes"
  | 2 => .object "LogPlacer$Partings"
  | 3 => .object "LogPlacer$Partings"
  | 4 => .object "LogPlacer$Search"
  | 5 => .object "LogPlacer$Tape"
  | _ => .object "LogPlacer$Reading"
theorem nmX6 : ∀ a, a < 7 → ∀ b, b < 7 → a ≠ b → (TX6 a).2.1 ≠ (TX6 b).2.1 := by decide +kernel
theorem tyX6_ok : ∀ k, k < 7 → parseFieldDescriptor (TX6 k).2.2.1 = some (tyX6 k) := by decide +kernel
abbrev cX6_init : ByteArray := prog_1_method_1_code
def yX6_init : MethodName := ⟨RX6, "<init>", "()V"⟩
abbrev cX6_flow : ByteArray := prog_1_method_2_code
def yX6_flow : MethodName := ⟨RX6, "flow", "(I)Z"⟩
abbrev cX6_step : ByteArray := prog_1_method_3_code
def yX6_step : MethodName := ⟨RX6, "step", "(III)I"⟩
abbrev cX6_counted : ByteArray := prog_1_method_4_code
def yX6_counted : MethodName := ⟨RX6, "counted", "(II)Z"⟩
abbrev cX6_line : ByteArray := prog_1_method_5_code
def yX6_line : MethodName := ⟨RX6, "line", "(IZ)Z"⟩
abbrev cX6_fault : ByteArray := prog_1_method_6_code
def yX6_fault : MethodName := ⟨RX6, "fault", "(IZ)Z"⟩
abbrev cX6_ways : ByteArray := prog_1_method_7_code
def yX6_ways : MethodName := ⟨RX6, "ways", "()I"⟩
abbrev cX6_way : ByteArray := prog_1_method_8_code
def yX6_way : MethodName := ⟨RX6, "way", "(II)I"⟩
abbrev cX6_log : ByteArray := prog_1_method_9_code
def yX6_log : MethodName := ⟨RX6, "log", "(II)I"⟩
abbrev cX6_heaps : ByteArray := prog_1_method_10_code
def yX6_heaps : MethodName := ⟨RX6, "heaps", "()I"⟩
abbrev cX6_heap : ByteArray := prog_1_method_11_code
def yX6_heap : MethodName := ⟨RX6, "heap", "(I)I"⟩
abbrev cX6_apart : ByteArray := prog_1_method_12_code
def yX6_apart : MethodName := ⟨RX6, "apart", "(I)I"⟩
abbrev cX6_cheapest : ByteArray := prog_1_method_13_code
def yX6_cheapest : MethodName := ⟨RX6, "cheapest", "(IZ)I"⟩
abbrev cX6_price : ByteArray := prog_1_method_14_code
def yX6_price : MethodName := ⟨RX6, "price", "(I)J"⟩
abbrev cX6_useless : ByteArray := prog_1_method_15_code
def yX6_useless : MethodName := ⟨RX6, "useless", "(I)I"⟩
abbrev cX6_why : ByteArray := prog_1_method_16_code
def yX6_why : MethodName := ⟨RX6, "why", "(II)I"⟩
abbrev cX6_feed : ByteArray := prog_1_method_17_code
def yX6_feed : MethodName := ⟨RX6, "feed", "(IIIII)I"⟩
abbrev cX6_read : ByteArray := prog_1_method_18_code
def yX6_read : MethodName := ⟨RX6, "read", "(IZ)I"⟩
abbrev cX6_allowed : ByteArray := prog_1_method_19_code
def yX6_allowed : MethodName := ⟨RX6, "allowed", "(I)I"⟩
abbrev cX6_found : ByteArray := prog_1_method_20_code
def yX6_found : MethodName := ⟨RX6, "found", "(I)I"⟩
abbrev cX6_look : ByteArray := prog_1_method_21_code
def yX6_look : MethodName := ⟨RX6, "look", "(II)I"⟩
abbrev cX6_count : ByteArray := prog_1_method_22_code
def yX6_count : MethodName := ⟨RX6, "count", "(I)J"⟩
abbrev cX6_canBeCounted : ByteArray := prog_1_method_23_code
def yX6_canBeCounted : MethodName := ⟨RX6, "canBeCounted", "(I)Z"⟩
abbrev cX6_isWaysOrFaults : ByteArray := prog_1_method_24_code
def yX6_isWaysOrFaults : MethodName := ⟨RX6, "isWaysOrFaults", "(I)Z"⟩
abbrev cX6_isFirstOrOther : ByteArray := prog_1_method_25_code
def yX6_isFirstOrOther : MethodName := ⟨RX6, "isFirstOrOther", "(I)Z"⟩
abbrev cX6_has : ByteArray := prog_1_method_26_code
def yX6_has : MethodName := ⟨RX6, "has", "(II)Z"⟩
abbrev cX6_member : ByteArray := prog_1_method_27_code
def yX6_member : MethodName := ⟨RX6, "member", "(II)I"⟩
abbrev cX6_forgetWays : ByteArray := prog_1_method_28_code
def yX6_forgetWays : MethodName := ⟨RX6, "forgetWays", "()V"⟩
abbrev cX6_tooMany : ByteArray := prog_1_method_29_code
def yX6_tooMany : MethodName := ⟨RX6, "tooMany", "()Z"⟩
abbrev cX6_hasWay : ByteArray := prog_1_method_30_code
def yX6_hasWay : MethodName := ⟨RX6, "hasWay", "(I)Z"⟩
abbrev cX6_partings : ByteArray := prog_1_method_31_code
def yX6_partings : MethodName := ⟨RX6, "partings", "(I)LLogPlacer$Partings;"⟩
def RX7 : String := "LogPlacerModel"
def TX7 : u_T := fun k => match k with
  | 0 => ("LogPlacerModel", "tape", "[B", true)
  | 1 => ("LogPlacerModel", "taped", "I", false)
  | 2 => ("LogPlacerModel", "nodes", "I", false)
  | 3 => ("LogPlacerModel", "steps", "I", false)
  | 4 => ("LogPlacerModel", "from", "[I", true)
  | 5 => ("LogPlacerModel", "to", "[I", true)
  | 6 => ("LogPlacerModel", "counted", "[I", true)
  | 7 => ("LogPlacerModel", "lines", "I", false)
  | 8 => ("LogPlacerModel", "faults", "I", false)
  | 9 => ("LogPlacerModel", "many", "I", false)
  | 10 => ("LogPlacerModel", "isMore", "Z", false)
  | 11 => ("LogPlacerModel", "row", "[I", true)
  | 12 => ("LogPlacerModel", "size", "[I", true)
  | 13 => ("LogPlacerModel", "set", "[I", true)
  | 14 => ("LogPlacerModel", "has", "[I", true)
  | 15 => ("LogPlacerModel", "isRead", "Z", false)
  | 16 => ("LogPlacerModel", "isTorn", "Z", false)
  | 17 => ("LogPlacerModel", "logSize", "I", false)
  | 18 => ("LogPlacerModel", "log", "[I", true)
  | 19 => ("LogPlacerModel", "now", "[I", true)
  | 20 => ("LogPlacerModel", "seen", "[I", true)
  | 21 => ("LogPlacerModel", "seenBy", "[I", true)
  | _ => ("LogPlacerModel", "turn", "I", false)
def tyX7 : Nat → FieldType := fun k => match k with
  | 0 => .array .byte
  | 1 => .int
  | 2 => .int
  | 3 => .int
  | 4 => .array .int
  | 5 => .array .int
  | 6 => .array .int
  | 7 => .int
  | 8 => .int
  | 9 => .int
  | 10 => .boolean
  | 11 => .array .int
  | 12 => .array .int
  | 13 => .array .int
  | 14 => .array .int
  | 15 => .boolean
  | 16 => .boolean
  | 17 => .int
  | 18 => .array .int
  | 19 => .array .int
  | 20 => .array .int
  | 21 => .array .int
  | _ => .int
theorem nmX7 : ∀ a, a < 23 → ∀ b, b < 23 → a ≠ b → (TX7 a).2.1 ≠ (TX7 b).2.1 := by decide +kernel
theorem tyX7_ok : ∀ k, k < 23 → parseFieldDescriptor (TX7 k).2.2.1 = some (tyX7 k) := by decide +kernel
abbrev cX7_init : ByteArray := prog_9_method_1_code
def yX7_init : MethodName := ⟨RX7, "<init>", "()V"⟩
abbrev cX7_lies : ByteArray := prog_9_method_2_code
def yX7_lies : MethodName := ⟨RX7, "lies", "(JJJ)Z"⟩
abbrev cX7_isStep : ByteArray := prog_9_method_3_code
def yX7_isStep : MethodName := ⟨RX7, "isStep", "(I)Z"⟩
abbrev cX7_isIn : ByteArray := prog_9_method_4_code
def yX7_isIn : MethodName := ⟨RX7, "isIn", "(II)Z"⟩
abbrev cX7_sizeOf : ByteArray := prog_9_method_5_code
def yX7_sizeOf : MethodName := ⟨RX7, "sizeOf", "(I)I"⟩
abbrev cX7_flow : ByteArray := prog_9_method_6_code
def yX7_flow : MethodName := ⟨RX7, "flow", "(I)Z"⟩
abbrev cX7_step : ByteArray := prog_9_method_7_code
def yX7_step : MethodName := ⟨RX7, "step", "(III)I"⟩
abbrev cX7_counted : ByteArray := prog_9_method_8_code
def yX7_counted : MethodName := ⟨RX7, "counted", "(II)Z"⟩
abbrev cX7_line : ByteArray := prog_9_method_9_code
def yX7_line : MethodName := ⟨RX7, "line", "(IZ)Z"⟩
abbrev cX7_fault : ByteArray := prog_9_method_10_code
def yX7_fault : MethodName := ⟨RX7, "fault", "(IZ)Z"⟩
abbrev cX7_keeps : ByteArray := prog_9_method_11_code
def yX7_keeps : MethodName := ⟨RX7, "keeps", "(I)V"⟩
abbrev cX7_works : ByteArray := prog_9_method_12_code
def yX7_works : MethodName := ⟨RX7, "works", "()V"⟩
abbrev cX7_isTooMany : ByteArray := prog_9_method_13_code
def yX7_isTooMany : MethodName := ⟨RX7, "isTooMany", "()Z"⟩
abbrev cX7_ways : ByteArray := prog_9_method_14_code
def yX7_ways : MethodName := ⟨RX7, "ways", "()I"⟩
abbrev cX7_way : ByteArray := prog_9_method_15_code
def yX7_way : MethodName := ⟨RX7, "way", "(II)I"⟩
abbrev cX7_logOf : ByteArray := prog_9_method_16_code
def yX7_logOf : MethodName := ⟨RX7, "logOf", "(II)I"⟩
abbrev cX7_log : ByteArray := prog_9_method_17_code
def yX7_log : MethodName := ⟨RX7, "log", "(II)I"⟩
abbrev cX7_areParted : ByteArray := prog_9_method_18_code
def yX7_areParted : MethodName := ⟨RX7, "areParted", "(III)Z"⟩
abbrev cX7_firstOf : ByteArray := prog_9_method_19_code
def yX7_firstOf : MethodName := ⟨RX7, "firstOf", "(II)I"⟩
abbrev cX7_heapsBy : ByteArray := prog_9_method_20_code
def yX7_heapsBy : MethodName := ⟨RX7, "heapsBy", "(I)I"⟩
abbrev cX7_heaps : ByteArray := prog_9_method_21_code
def yX7_heaps : MethodName := ⟨RX7, "heaps", "()I"⟩
abbrev cX7_heap : ByteArray := prog_9_method_22_code
def yX7_heap : MethodName := ⟨RX7, "heap", "(I)I"⟩
abbrev cX7_isApart : ByteArray := prog_9_method_23_code
def yX7_isApart : MethodName := ⟨RX7, "isApart", "(II)Z"⟩
abbrev cX7_apart : ByteArray := prog_9_method_24_code
def yX7_apart : MethodName := ⟨RX7, "apart", "(I)I"⟩
abbrev cX7_priceOf : ByteArray := prog_9_method_25_code
def yX7_priceOf : MethodName := ⟨RX7, "priceOf", "(I)J"⟩
abbrev cX7_price : ByteArray := prog_9_method_26_code
def yX7_price : MethodName := ⟨RX7, "price", "(I)J"⟩
abbrev cX7_isBetter : ByteArray := prog_9_method_27_code
def yX7_isBetter : MethodName := ⟨RX7, "isBetter", "(II)Z"⟩
abbrev cX7_cheapest : ByteArray := prog_9_method_28_code
def yX7_cheapest : MethodName := ⟨RX7, "cheapest", "(IZ)I"⟩
abbrev cX7_isUseless : ByteArray := prog_9_method_29_code
def yX7_isUseless : MethodName := ⟨RX7, "isUseless", "(I)Z"⟩
abbrev cX7_useless : ByteArray := prog_9_method_30_code
def yX7_useless : MethodName := ⟨RX7, "useless", "(I)I"⟩
abbrev cX7_why : ByteArray := prog_9_method_31_code
def yX7_why : MethodName := ⟨RX7, "why", "(II)I"⟩
abbrev cX7_push : ByteArray := prog_9_method_32_code
def yX7_push : MethodName := ⟨RX7, "push", "(I)V"⟩
abbrev cX7_feed : ByteArray := prog_9_method_33_code
def yX7_feed : MethodName := ⟨RX7, "feed", "(IIIII)I"⟩
abbrev cX7_allows : ByteArray := prog_9_method_34_code
def yX7_allows : MethodName := ⟨RX7, "allows", "(I)Z"⟩
abbrev cX7_read : ByteArray := prog_9_method_35_code
def yX7_read : MethodName := ⟨RX7, "read", "(IZ)I"⟩
abbrev cX7_allowed : ByteArray := prog_9_method_36_code
def yX7_allowed : MethodName := ⟨RX7, "allowed", "(I)I"⟩
abbrev cX7_found : ByteArray := prog_9_method_37_code
def yX7_found : MethodName := ⟨RX7, "found", "(I)I"⟩
abbrev cX7_look : ByteArray := prog_9_method_38_code
def yX7_look : MethodName := ⟨RX7, "look", "(II)I"⟩
abbrev cX7_count : ByteArray := prog_9_method_39_code
def yX7_count : MethodName := ⟨RX7, "count", "(I)J"⟩
def RJx8e188 : String := "java/lang/Cloneable"
def RJ6 : String := "java/lang/Integer"
abbrev cJ6_bitCount_0f7a4 : ByteArray := prog_11_method_49_code
def yJ6_bitCount_0f7a4 : MethodName := ⟨RJ6, "bitCount", "(I)I"⟩
def RJ9 : String := "java/lang/Math"
abbrev cJ9_min_7cf53 : ByteArray := prog_12_method_69_code
def yJ9_min_7cf53 : MethodName := ⟨RJ9, "min", "(II)I"⟩
def RJ10 : String := "java/lang/System"
def RJ7 : String := "java/util/Arrays"
abbrev cJ7_fill_53178 : ByteArray := prog_14_method_103_code
def yJ7_fill_53178 : MethodName := ⟨RJ7, "fill", "([II)V"⟩
abbrev cJ7_copyOf_59c91 : ByteArray := prog_14_method_123_code
def yJ7_copyOf_59c91 : MethodName := ⟨RJ7, "copyOf", "([II)[I"⟩
def RL : String := "LogPlacerLaw"
abbrev cL_law : ByteArray := code
def yL_law : MethodName := ⟨RL, "law", "([I)Z"⟩
abbrev vwCl : List vw_C := [(RX0, TX0, 3), (RX1, TX1, 8), (RX2, TX2, 6), (RX3, TX3, 5), (RX4, TX4, 3), (RX5, TX5, 2), (RX6, TX6, 7), (RX7, TX7, 23)]
