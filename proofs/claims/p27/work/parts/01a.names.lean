/-- a private method of a class that the tables say can be made, by its rows of tables_1 -/
def lw_okq (q : MethodName × Nat) : Prop := (q.1.cls ≠ "java/lang/invoke/MethodHandle" ∧ q.1.cls ≠ "java/lang/invoke/VarHandle") ∧ Cond.instantiable q.1.cls q.2 ∈ tables_1 ∧ Cond.privateMethod q.1 ∈ tables_1 ∧ Cond.instanceMethod q.1 ∈ tables_1
theorem lw_p0 : lw_okq (⟨"PlanShelves", "record", "()V"⟩, 4) := ⟨⟨by decide +kernel, by decide +kernel⟩, List.mem_of_getElem? (i := 18) (by decide +kernel), List.mem_of_getElem? (i := 339) (by decide +kernel), List.mem_of_getElem? (i := 340) (by decide +kernel)⟩
theorem lw_p1 : lw_okq (⟨"PlanShelves$History", "forgetOldest", "()V"⟩, 2) := ⟨⟨by decide +kernel, by decide +kernel⟩, List.mem_of_getElem? (i := 267) (by decide +kernel), List.mem_of_getElem? (i := 347) (by decide +kernel), List.mem_of_getElem? (i := 348) (by decide +kernel)⟩
theorem lw_p2 : lw_okq (⟨"PlanShelves", "gathered", "(IIII)[I"⟩, 4) := ⟨⟨by decide +kernel, by decide +kernel⟩, List.mem_of_getElem? (i := 18) (by decide +kernel), List.mem_of_getElem? (i := 395) (by decide +kernel), List.mem_of_getElem? (i := 396) (by decide +kernel)⟩
theorem lw_p3 : lw_okq (⟨"PlanShelves$Table", "addToSums", "(II)V"⟩, 3) := ⟨⟨by decide +kernel, by decide +kernel⟩, List.mem_of_getElem? (i := 32) (by decide +kernel), List.mem_of_getElem? (i := 410) (by decide +kernel), List.mem_of_getElem? (i := 411) (by decide +kernel)⟩
theorem lw_p4 : lw_okq (⟨"PlanShelves$Shelf", "remove", "(I)V"⟩, 6) := ⟨⟨by decide +kernel, by decide +kernel⟩, List.mem_of_getElem? (i := 95) (by decide +kernel), List.mem_of_getElem? (i := 471) (by decide +kernel), List.mem_of_getElem? (i := 472) (by decide +kernel)⟩
theorem lw_p5 : lw_okq (⟨"PlanShelves$Text", "canStandAt", "(I)Z"⟩, 2) := ⟨⟨by decide +kernel, by decide +kernel⟩, List.mem_of_getElem? (i := 284) (by decide +kernel), List.mem_of_getElem? (i := 534) (by decide +kernel), List.mem_of_getElem? (i := 535) (by decide +kernel)⟩
theorem lw_p6 : lw_okq (⟨"PlanShelves$Text", "characterAt", "(I)C"⟩, 2) := ⟨⟨by decide +kernel, by decide +kernel⟩, List.mem_of_getElem? (i := 284) (by decide +kernel), List.mem_of_getElem? (i := 538) (by decide +kernel), List.mem_of_getElem? (i := 539) (by decide +kernel)⟩
theorem lw_p7 : lw_okq (⟨"PlanShelves$Text", "isBehindLastCondition", "(I)Z"⟩, 2) := ⟨⟨by decide +kernel, by decide +kernel⟩, List.mem_of_getElem? (i := 284) (by decide +kernel), List.mem_of_getElem? (i := 629) (by decide +kernel), List.mem_of_getElem? (i := 630) (by decide +kernel)⟩
theorem lw_p8 : lw_okq (⟨"PlanShelves", "accepts", "(IIIII)Z"⟩, 4) := ⟨⟨by decide +kernel, by decide +kernel⟩, List.mem_of_getElem? (i := 18) (by decide +kernel), List.mem_of_getElem? (i := 708) (by decide +kernel), List.mem_of_getElem? (i := 709) (by decide +kernel)⟩
theorem lw_p9 : lw_okq (⟨"PlanShelves$State", "classOfShare", "(I)I"⟩, 12) := ⟨⟨by decide +kernel, by decide +kernel⟩, List.mem_of_getElem? (i := 26) (by decide +kernel), List.mem_of_getElem? (i := 742) (by decide +kernel), List.mem_of_getElem? (i := 743) (by decide +kernel)⟩
theorem lw_p10 : lw_okq (⟨"PlanShelves$State", "planForLastRun", "(LPlanShelves$Statement;[I)LPlanShelves$Plan;"⟩, 12) := ⟨⟨by decide +kernel, by decide +kernel⟩, List.mem_of_getElem? (i := 26) (by decide +kernel), List.mem_of_getElem? (i := 750) (by decide +kernel), List.mem_of_getElem? (i := 751) (by decide +kernel)⟩
theorem lw_p11 : lw_okq (⟨"PlanShelves$Shelf", "droppedAheadOf", "(LPlanShelves$Plan;)I"⟩, 6) := ⟨⟨by decide +kernel, by decide +kernel⟩, List.mem_of_getElem? (i := 95) (by decide +kernel), List.mem_of_getElem? (i := 766) (by decide +kernel), List.mem_of_getElem? (i := 767) (by decide +kernel)⟩
theorem lw_p12 : lw_okq (⟨"PlanShelves$State", "use", "(LPlanShelves$Plan;LPlanShelves$Statement;[I)V"⟩, 12) := ⟨⟨by decide +kernel, by decide +kernel⟩, List.mem_of_getElem? (i := 26) (by decide +kernel), List.mem_of_getElem? (i := 797) (by decide +kernel), List.mem_of_getElem? (i := 798) (by decide +kernel)⟩
theorem lw_p13 : lw_okq (⟨"PlanShelves$State", "surprise", "(LPlanShelves$Plan;)V"⟩, 12) := ⟨⟨by decide +kernel, by decide +kernel⟩, List.mem_of_getElem? (i := 26) (by decide +kernel), List.mem_of_getElem? (i := 801) (by decide +kernel), List.mem_of_getElem? (i := 802) (by decide +kernel)⟩
theorem lw_p14 : lw_okq (⟨"PlanShelves$Table", "fits", "(ILPlanShelves$Statement;[I)Z"⟩, 3) := ⟨⟨by decide +kernel, by decide +kernel⟩, List.mem_of_getElem? (i := 32) (by decide +kernel), List.mem_of_getElem? (i := 813) (by decide +kernel), List.mem_of_getElem? (i := 814) (by decide +kernel)⟩
def lw_privs_1 : List (MethodName × Nat) := [(⟨"PlanShelves", "record", "()V"⟩, 4), (⟨"PlanShelves$History", "forgetOldest", "()V"⟩, 2), (⟨"PlanShelves", "gathered", "(IIII)[I"⟩, 4), (⟨"PlanShelves$Table", "addToSums", "(II)V"⟩, 3), (⟨"PlanShelves$Shelf", "remove", "(I)V"⟩, 6), (⟨"PlanShelves$Text", "canStandAt", "(I)Z"⟩, 2), (⟨"PlanShelves$Text", "characterAt", "(I)C"⟩, 2), (⟨"PlanShelves$Text", "isBehindLastCondition", "(I)Z"⟩, 2), (⟨"PlanShelves", "accepts", "(IIIII)Z"⟩, 4), (⟨"PlanShelves$State", "classOfShare", "(I)I"⟩, 12), (⟨"PlanShelves$State", "planForLastRun", "(LPlanShelves$Statement;[I)LPlanShelves$Plan;"⟩, 12), (⟨"PlanShelves$Shelf", "droppedAheadOf", "(LPlanShelves$Plan;)I"⟩, 6), (⟨"PlanShelves$State", "use", "(LPlanShelves$Plan;LPlanShelves$Statement;[I)V"⟩, 12), (⟨"PlanShelves$State", "surprise", "(LPlanShelves$Plan;)V"⟩, 12), (⟨"PlanShelves$Table", "fits", "(ILPlanShelves$Statement;[I)Z"⟩, 3)]
theorem lw_r1 : ∀ q ∈ lw_privs_1, lw_okq q := List.forall_mem_cons.mpr ⟨lw_p0, List.forall_mem_cons.mpr ⟨lw_p1, List.forall_mem_cons.mpr ⟨lw_p2, List.forall_mem_cons.mpr ⟨lw_p3, List.forall_mem_cons.mpr ⟨lw_p4, List.forall_mem_cons.mpr ⟨lw_p5, List.forall_mem_cons.mpr ⟨lw_p6, List.forall_mem_cons.mpr ⟨lw_p7, List.forall_mem_cons.mpr ⟨lw_p8, List.forall_mem_cons.mpr ⟨lw_p9, List.forall_mem_cons.mpr ⟨lw_p10, List.forall_mem_cons.mpr ⟨lw_p11, List.forall_mem_cons.mpr ⟨lw_p12, List.forall_mem_cons.mpr ⟨lw_p13, List.forall_mem_cons.mpr ⟨lw_p14, fun _ h => absurd h List.not_mem_nil⟩⟩⟩⟩⟩⟩⟩⟩⟩⟩⟩⟩⟩⟩⟩
def lw_privs : List (MethodName × Nat) := lw_privs_1
def lw_tbl : List Cond := k2_sels lw_privs ++ tables_1
theorem lw_privs_ok : ∀ q ∈ lw_privs, lw_okq q := lw_r1
def RX0 : String := "PlanShelves$History"
def TX0 : u_T := fun k => match k with
  | 0 => ("PlanShelves$History", "states", "[LPlanShelves$State;", true)
  | _ => ("PlanShelves$History", "kept", "I", false)
def tyX0 : Nat → FieldType := fun k => match k with
  | 0 => .array (.object "PlanShelves$State")
  | _ => .int
abbrev wsX00 : List Cond := u_ws RX0 TX0 2
theorem nmX0 : ∀ a, a < 2 → ∀ b, b < 2 → a ≠ b → (TX0 a).2.1 ≠ (TX0 b).2.1 := by decide +kernel
theorem tyX0_ok : ∀ k, k < 2 → parseFieldDescriptor (TX0 k).2.2.1 = some (tyX0 k) := by decide +kernel
abbrev cX0_init : ByteArray := prog_2_method_1_code
def yX0_init : MethodName := ⟨RX0, "<init>", "()V"⟩
abbrev cX0_push : ByteArray := prog_2_method_2_code
def yX0_push : MethodName := ⟨RX0, "push", "(LPlanShelves$State;)V"⟩
abbrev cX0_forgetOldest : ByteArray := prog_2_method_4_code
def yX0_forgetOldest : MethodName := ⟨RX0, "forgetOldest", "()V"⟩
def RX1 : String := "PlanShelves$LastRun"
def TX1 : u_T := fun k => match k with
  | 0 => ("PlanShelves$LastRun", "values", "[I", true)
  | 1 => ("PlanShelves$LastRun", "was", "Z", false)
  | 2 => ("PlanShelves$LastRun", "statement", "I", false)
  | 3 => ("PlanShelves$LastRun", "own", "I", false)
  | 4 => ("PlanShelves$LastRun", "plan", "I", false)
  | 5 => ("PlanShelves$LastRun", "way", "I", false)
  | 6 => ("PlanShelves$LastRun", "estimate", "I", false)
  | 7 => ("PlanShelves$LastRun", "cost", "I", false)
  | 8 => ("PlanShelves$LastRun", "origin", "I", false)
  | 9 => ("PlanShelves$LastRun", "surprise", "Z", false)
  | _ => ("PlanShelves$LastRun", "dropped", "I", false)
def tyX1 : Nat → FieldType := fun k => match k with
  | 0 => .array .int
  | 1 => .boolean
  | 2 => .int
  | 3 => .int
  | 4 => .int
  | 5 => .int
  | 6 => .int
  | 7 => .int
  | 8 => .int
  | 9 => .boolean
  | _ => .int
abbrev wsX10 : List Cond := u_ws RX1 TX1 11
theorem nmX1 : ∀ a, a < 11 → ∀ b, b < 11 → a ≠ b → (TX1 a).2.1 ≠ (TX1 b).2.1 := by decide +kernel
theorem tyX1_ok : ∀ k, k < 11 → parseFieldDescriptor (TX1 k).2.2.1 = some (tyX1 k) := by decide +kernel
abbrev cX1_init : ByteArray := prog_3_method_1_code
def yX1_init : MethodName := ⟨RX1, "<init>", "()V"⟩
abbrev cX1_begin : ByteArray := prog_3_method_2_code
def yX1_begin : MethodName := ⟨RX1, "begin", "(I[II)V"⟩
abbrev cX1_tell : ByteArray := prog_3_method_3_code
def yX1_tell : MethodName := ⟨RX1, "tell", "(I)I"⟩
abbrev cX1_takeFrom : ByteArray := prog_3_method_4_code
def yX1_takeFrom : MethodName := ⟨RX1, "takeFrom", "(LPlanShelves$LastRun;)V"⟩
def RX2 : String := "PlanShelves$Plan"
def TX2 : u_T := fun k => match k with
  | 0 => ("PlanShelves$Plan", "number", "I", false)
  | 1 => ("PlanShelves$Plan", "statement", "I", false)
  | 2 => ("PlanShelves$Plan", "own", "I", false)
  | 3 => ("PlanShelves$Plan", "way", "I", false)
  | 4 => ("PlanShelves$Plan", "estimate", "I", false)
  | 5 => ("PlanShelves$Plan", "uses", "I", false)
  | 6 => ("PlanShelves$Plan", "surprises", "I", false)
  | 7 => ("PlanShelves$Plan", "pinned", "Z", false)
  | _ => ("PlanShelves$Plan", "lastUse", "I", false)
def tyX2 : Nat → FieldType := fun k => match k with
  | 0 => .int
  | 1 => .int
  | 2 => .int
  | 3 => .int
  | 4 => .int
  | 5 => .int
  | 6 => .int
  | 7 => .boolean
  | _ => .int
abbrev wsX20 : List Cond := u_ws RX2 TX2 9
theorem nmX2 : ∀ a, a < 9 → ∀ b, b < 9 → a ≠ b → (TX2 a).2.1 ≠ (TX2 b).2.1 := by decide +kernel
theorem tyX2_ok : ∀ k, k < 9 → parseFieldDescriptor (TX2 k).2.2.1 = some (tyX2 k) := by decide +kernel
abbrev cX2_init : ByteArray := prog_4_method_1_code
def yX2_init : MethodName := ⟨RX2, "<init>", "()V"⟩
abbrev cX2_begin : ByteArray := prog_4_method_2_code
def yX2_begin : MethodName := ⟨RX2, "begin", "(III)V"⟩
abbrev cX2_dropsAheadOf : ByteArray := prog_4_method_3_code
def yX2_dropsAheadOf : MethodName := ⟨RX2, "dropsAheadOf", "(LPlanShelves$Plan;)Z"⟩
abbrev cX2_tell : ByteArray := prog_4_method_4_code
def yX2_tell : MethodName := ⟨RX2, "tell", "(II)I"⟩
abbrev cX2_takeFrom : ByteArray := prog_4_method_5_code
def yX2_takeFrom : MethodName := ⟨RX2, "takeFrom", "(LPlanShelves$Plan;)V"⟩
def RX3 : String := "PlanShelves$Shelf"
def TX3 : u_T := fun k => match k with
  | 0 => ("PlanShelves$Shelf", "plans", "[LPlanShelves$Plan;", true)
  | 1 => ("PlanShelves$Shelf", "loose", "LPlanShelves$Plan;", true)
  | 2 => ("PlanShelves$Shelf", "kept", "I", false)
  | 3 => ("PlanShelves$Shelf", "made", "I", false)
  | 4 => ("PlanShelves$Shelf", "dropped", "I", false)
  | _ => ("PlanShelves$Shelf", "thrownAway", "I", false)
def tyX3 : Nat → FieldType := fun k => match k with
  | 0 => .array (.object "PlanShelves$Plan")
  | 1 => .object "PlanShelves$Plan"
  | 2 => .int
  | 3 => .int
  | 4 => .int
  | _ => .int
abbrev wsX30 : List Cond := u_ws RX3 TX3 6
theorem nmX3 : ∀ a, a < 6 → ∀ b, b < 6 → a ≠ b → (TX3 a).2.1 ≠ (TX3 b).2.1 := by decide +kernel
theorem tyX3_ok : ∀ k, k < 6 → parseFieldDescriptor (TX3 k).2.2.1 = some (tyX3 k) := by decide +kernel
abbrev cX3_init : ByteArray := prog_5_method_1_code
def yX3_init : MethodName := ⟨RX3, "<init>", "()V"⟩
abbrev cX3_planAt : ByteArray := prog_5_method_2_code
def yX3_planAt : MethodName := ⟨RX3, "planAt", "(I)LPlanShelves$Plan;"⟩
abbrev cX3_numberAt : ByteArray := prog_5_method_3_code
def yX3_numberAt : MethodName := ⟨RX3, "numberAt", "(I)I"⟩
abbrev cX3_placeOf : ByteArray := prog_5_method_4_code
def yX3_placeOf : MethodName := ⟨RX3, "placeOf", "(I)I"⟩
abbrev cX3_placeFor : ByteArray := prog_5_method_5_code
def yX3_placeFor : MethodName := ⟨RX3, "placeFor", "(II)I"⟩
abbrev cX3_keptFor : ByteArray := prog_5_method_6_code
def yX3_keptFor : MethodName := ⟨RX3, "keptFor", "(I)I"⟩
abbrev cX3_pinned : ByteArray := prog_5_method_7_code
def yX3_pinned : MethodName := ⟨RX3, "pinned", "()I"⟩
abbrev cX3_placeToDrop : ByteArray := prog_5_method_8_code
def yX3_placeToDrop : MethodName := ⟨RX3, "placeToDrop", "(I)I"⟩
abbrev cX3_droppedAheadOf : ByteArray := prog_5_method_9_code
def yX3_droppedAheadOf : MethodName := ⟨RX3, "droppedAheadOf", "(LPlanShelves$Plan;)I"⟩
abbrev cX3_makeRoom : ByteArray := prog_5_method_10_code
def yX3_makeRoom : MethodName := ⟨RX3, "makeRoom", "(I)I"⟩
abbrev cX3_newPlan : ByteArray := prog_5_method_11_code
def yX3_newPlan : MethodName := ⟨RX3, "newPlan", "(III)LPlanShelves$Plan;"⟩
abbrev cX3_throwAway : ByteArray := prog_5_method_12_code
def yX3_throwAway : MethodName := ⟨RX3, "throwAway", "(I)V"⟩
abbrev cX3_remove : ByteArray := prog_5_method_13_code
def yX3_remove : MethodName := ⟨RX3, "remove", "(I)V"⟩
abbrev cX3_takeFrom : ByteArray := prog_5_method_14_code
def yX3_takeFrom : MethodName := ⟨RX3, "takeFrom", "(LPlanShelves$Shelf;)V"⟩
def RX4 : String := "PlanShelves$State"
def TX4 : u_T := fun k => match k with
  | 0 => ("PlanShelves$State", "table", "LPlanShelves$Table;", true)
  | 1 => ("PlanShelves$State", "statistics", "LPlanShelves$Sums;", true)
  | 2 => ("PlanShelves$State", "statements", "[LPlanShelves$Statement;", true)
  | 3 => ("PlanShelves$State", "blank", "LPlanShelves$Statement;", true)
  | 4 => ("PlanShelves$State", "shelf", "LPlanShelves$Shelf;", true)
  | 5 => ("PlanShelves$State", "lastRun", "LPlanShelves$LastRun;", true)
  | 6 => ("PlanShelves$State", "settings", "[I", true)
  | 7 => ("PlanShelves$State", "indexes", "I", false)
  | 8 => ("PlanShelves$State", "statementCount", "I", false)
  | 9 => ("PlanShelves$State", "runs", "I", false)
  | 10 => ("PlanShelves$State", "hits", "I", false)
  | _ => ("PlanShelves$State", "surprises", "I", false)
def tyX4 : Nat → FieldType := fun k => match k with
  | 0 => .object "PlanShelves$Table"
  | 1 => .object "PlanShelves$Sums"
  | 2 => .array (.object "PlanShelves$Statement")
  | 3 => .object "PlanShelves$Statement"
  | 4 => .object "PlanShelves$Shelf"
  | 5 => .object "PlanShelves$LastRun"
  | 6 => .array .int
  | 7 => .int
  | 8 => .int
  | 9 => .int
  | 10 => .int
  | _ => .int
abbrev wsX40 : List Cond := u_ws RX4 TX4 12
theorem nmX4 : ∀ a, a < 12 → ∀ b, b < 12 → a ≠ b → (TX4 a).2.1 ≠ (TX4 b).2.1 := by decide +kernel
theorem tyX4_ok : ∀ k, k < 12 → parseFieldDescriptor (TX4 k).2.2.1 = some (tyX4 k) := by decide +kernel
abbrev cX4_init : ByteArray := prog_6_method_1_code
def yX4_init : MethodName := ⟨RX4, "<init>", "()V"⟩
abbrev cX4_isIndexed : ByteArray := prog_6_method_2_code
def yX4_isIndexed : MethodName := ⟨RX4, "isIndexed", "(I)Z"⟩
abbrev cX4_flipIndex : ByteArray := prog_6_method_3_code
def yX4_flipIndex : MethodName := ⟨RX4, "flipIndex", "(I)V"⟩
abbrev cX4_throwAwayPlansBy : ByteArray := prog_6_method_4_code
def yX4_throwAwayPlansBy : MethodName := ⟨RX4, "throwAwayPlansBy", "(I)I"⟩
abbrev cX4_changeSetting : ByteArray := prog_6_method_5_code
def yX4_changeSetting : MethodName := ⟨RX4, "changeSetting", "(II)I"⟩
abbrev cX4_hasStatement : ByteArray := prog_6_method_6_code
def yX4_hasStatement : MethodName := ⟨RX4, "hasStatement", "(I)Z"⟩
abbrev cX4_statementAt : ByteArray := prog_6_method_7_code
def yX4_statementAt : MethodName := ⟨RX4, "statementAt", "(I)LPlanShelves$Statement;"⟩
abbrev cX4_statementWith : ByteArray := prog_6_method_8_code
def yX4_statementWith : MethodName := ⟨RX4, "statementWith", "(LPlanShelves$Text;)I"⟩
abbrev cX4_addStatement : ByteArray := prog_6_method_9_code
def yX4_addStatement : MethodName := ⟨RX4, "addStatement", "(LPlanShelves$Text;)I"⟩
abbrev cX4_classWith : ByteArray := prog_6_method_10_code
def yX4_classWith : MethodName := ⟨RX4, "classWith", "(LPlanShelves$Statement;[I)I"⟩
abbrev cX4_classOfShare : ByteArray := prog_6_method_11_code
def yX4_classOfShare : MethodName := ⟨RX4, "classOfShare", "(I)I"⟩
abbrev cX4_bestWay : ByteArray := prog_6_method_12_code
def yX4_bestWay : MethodName := ⟨RX4, "bestWay", "(LPlanShelves$Sums;LPlanShelves$Statement;[I)I"⟩
abbrev cX4_execute : ByteArray := prog_6_method_13_code
def yX4_execute : MethodName := ⟨RX4, "execute", "(I[I)I"⟩
abbrev cX4_planForLastRun : ByteArray := prog_6_method_14_code
def yX4_planForLastRun : MethodName := ⟨RX4, "planForLastRun", "(LPlanShelves$Statement;[I)LPlanShelves$Plan;"⟩
abbrev cX4_use : ByteArray := prog_6_method_15_code
def yX4_use : MethodName := ⟨RX4, "use", "(LPlanShelves$Plan;LPlanShelves$Statement;[I)V"⟩
abbrev cX4_surprise : ByteArray := prog_6_method_16_code
def yX4_surprise : MethodName := ⟨RX4, "surprise", "(LPlanShelves$Plan;)V"⟩
abbrev cX4_takeFrom : ByteArray := prog_6_method_17_code
def yX4_takeFrom : MethodName := ⟨RX4, "takeFrom", "(LPlanShelves$State;)V"⟩
def RX5 : String := "PlanShelves$Statement"
def TX5 : u_T := fun k => match k with
  | 0 => ("PlanShelves$Statement", "columns", "[I", true)
  | 1 => ("PlanShelves$Statement", "operators", "[I", true)
  | 2 => ("PlanShelves$Statement", "conditions", "I", false)
  | _ => ("PlanShelves$Statement", "runs", "I", false)
def tyX5 : Nat → FieldType := fun k => match k with
  | 0 => .array .int
  | 1 => .array .int
  | 2 => .int
  | _ => .int
abbrev wsX50 : List Cond := u_ws RX5 TX5 4
theorem nmX5 : ∀ a, a < 4 → ∀ b, b < 4 → a ≠ b → (TX5 a).2.1 ≠ (TX5 b).2.1 := by decide +kernel
theorem tyX5_ok : ∀ k, k < 4 → parseFieldDescriptor (TX5 k).2.2.1 = some (tyX5 k) := by decide +kernel
abbrev cX5_init : ByteArray := prog_7_method_1_code
def yX5_init : MethodName := ⟨RX5, "<init>", "()V"⟩
abbrev cX5_hasCondition : ByteArray := prog_7_method_2_code
def yX5_hasCondition : MethodName := ⟨RX5, "hasCondition", "(I)Z"⟩
abbrev cX5_columnAt : ByteArray := prog_7_method_3_code
def yX5_columnAt : MethodName := ⟨RX5, "columnAt", "(I)I"⟩
abbrev cX5_operatorAt : ByteArray := prog_7_method_4_code
def yX5_operatorAt : MethodName := ⟨RX5, "operatorAt", "(I)I"⟩
abbrev cX5_takes : ByteArray := prog_7_method_5_code
def yX5_takes : MethodName := ⟨RX5, "takes", "(II)Z"⟩
abbrev cX5_isOf : ByteArray := prog_7_method_6_code
def yX5_isOf : MethodName := ⟨RX5, "isOf", "(LPlanShelves$Text;)Z"⟩
abbrev cX5_readFrom : ByteArray := prog_7_method_7_code
def yX5_readFrom : MethodName := ⟨RX5, "readFrom", "(LPlanShelves$Text;)V"⟩
abbrev cX5_takeFrom : ByteArray := prog_7_method_8_code
def yX5_takeFrom : MethodName := ⟨RX5, "takeFrom", "(LPlanShelves$Statement;)V"⟩
def RX6 : String := "PlanShelves$Sums"
def TX6 : u_T := fun k => match k with
  | 0 => ("PlanShelves$Sums", "weights", "[I", true)
  | _ => ("PlanShelves$Sums", "size", "I", false)
def tyX6 : Nat → FieldType := fun k => match k with
  | 0 => .array .int
  | _ => .int
abbrev wsX60 : List Cond := u_ws RX6 TX6 2
theorem nmX6 : ∀ a, a < 2 → ∀ b, b < 2 → a ≠ b → (TX6 a).2.1 ≠ (TX6 b).2.1 := by decide +kernel
theorem tyX6_ok : ∀ k, k < 2 → parseFieldDescriptor (TX6 k).2.2.1 = some (tyX6 k) := by decide +kernel
abbrev cX6_init : ByteArray := prog_8_method_1_code
def yX6_init : MethodName := ⟨RX6, "<init>", "()V"⟩
abbrev cX6_weightOf : ByteArray := prog_8_method_2_code
def yX6_weightOf : MethodName := ⟨RX6, "weightOf", "(II)I"⟩
abbrev cX6_add : ByteArray := prog_8_method_3_code
def yX6_add : MethodName := ⟨RX6, "add", "(III)V"⟩
abbrev cX6_weightWhere : ByteArray := prog_8_method_4_code
def yX6_weightWhere : MethodName := ⟨RX6, "weightWhere", "(III)I"⟩
abbrev cX6_takeFrom : ByteArray := prog_8_method_5_code
def yX6_takeFrom : MethodName := ⟨RX6, "takeFrom", "(LPlanShelves$Sums;)V"⟩
def RX7 : String := "PlanShelves$Table"
def TX7 : u_T := fun k => match k with
  | 0 => ("PlanShelves$Table", "cells", "[I", true)
  | 1 => ("PlanShelves$Table", "sums", "LPlanShelves$Sums;", true)
  | _ => ("PlanShelves$Table", "rows", "I", false)
def tyX7 : Nat → FieldType := fun k => match k with
  | 0 => .array .int
  | 1 => .object "PlanShelves$Sums"
  | _ => .int
abbrev wsX70 : List Cond := u_ws RX7 TX7 3
theorem nmX7 : ∀ a, a < 3 → ∀ b, b < 3 → a ≠ b → (TX7 a).2.1 ≠ (TX7 b).2.1 := by decide +kernel
theorem tyX7_ok : ∀ k, k < 3 → parseFieldDescriptor (TX7 k).2.2.1 = some (tyX7 k) := by decide +kernel
abbrev cX7_init : ByteArray := prog_9_method_1_code
def yX7_init : MethodName := ⟨RX7, "<init>", "()V"⟩
abbrev cX7_hasRow : ByteArray := prog_9_method_2_code
def yX7_hasRow : MethodName := ⟨RX7, "hasRow", "(I)Z"⟩
abbrev cX7_cellAt : ByteArray := prog_9_method_3_code
def yX7_cellAt : MethodName := ⟨RX7, "cellAt", "(II)I"⟩
abbrev cX7_append : ByteArray := prog_9_method_4_code
def yX7_append : MethodName := ⟨RX7, "append", "([II)I"⟩
abbrev cX7_remove : ByteArray := prog_9_method_5_code
def yX7_remove : MethodName := ⟨RX7, "remove", "(I)I"⟩
abbrev cX7_weightWhere : ByteArray := prog_9_method_6_code
def yX7_weightWhere : MethodName := ⟨RX7, "weightWhere", "(LPlanShelves$Statement;[I)I"⟩
abbrev cX7_fits : ByteArray := prog_9_method_7_code
def yX7_fits : MethodName := ⟨RX7, "fits", "(ILPlanShelves$Statement;[I)Z"⟩
abbrev cX7_addToSums : ByteArray := prog_9_method_8_code
def yX7_addToSums : MethodName := ⟨RX7, "addToSums", "(II)V"⟩
abbrev cX7_takeFrom : ByteArray := prog_9_method_9_code
def yX7_takeFrom : MethodName := ⟨RX7, "takeFrom", "(LPlanShelves$Table;)V"⟩
def RX8 : String := "PlanShelves$Text"
def TX8 : u_T := fun k => match k with
  | 0 => ("PlanShelves$Text", "characters", "[C", true)
  | _ => ("PlanShelves$Text", "length", "I", false)
def tyX8 : Nat → FieldType := fun k => match k with
  | 0 => .array .char
  | _ => .int
abbrev wsX80 : List Cond := u_ws RX8 TX8 2
theorem nmX8 : ∀ a, a < 2 → ∀ b, b < 2 → a ≠ b → (TX8 a).2.1 ≠ (TX8 b).2.1 := by decide +kernel
theorem tyX8_ok : ∀ k, k < 2 → parseFieldDescriptor (TX8 k).2.2.1 = some (tyX8 k) := by decide +kernel
abbrev cX8_init : ByteArray := prog_10_method_1_code
def yX8_init : MethodName := ⟨RX8, "<init>", "()V"⟩
abbrev cX8_append : ByteArray := prog_10_method_2_code
def yX8_append : MethodName := ⟨RX8, "append", "(C)I"⟩
abbrev cX8_empty : ByteArray := prog_10_method_3_code
def yX8_empty : MethodName := ⟨RX8, "empty", "()I"⟩
abbrev cX8_faultPlace : ByteArray := prog_10_method_4_code
def yX8_faultPlace : MethodName := ⟨RX8, "faultPlace", "()I"⟩
abbrev cX8_reasonAt : ByteArray := prog_10_method_5_code
def yX8_reasonAt : MethodName := ⟨RX8, "reasonAt", "(I)I"⟩
abbrev cX8_conditions : ByteArray := prog_10_method_6_code
def yX8_conditions : MethodName := ⟨RX8, "conditions", "()I"⟩
abbrev cX8_columnOf : ByteArray := prog_10_method_7_code
def yX8_columnOf : MethodName := ⟨RX8, "columnOf", "(I)I"⟩
abbrev cX8_operatorOf : ByteArray := prog_10_method_8_code
def yX8_operatorOf : MethodName := ⟨RX8, "operatorOf", "(I)I"⟩
abbrev cX8_canStandAt : ByteArray := prog_10_method_9_code
def yX8_canStandAt : MethodName := ⟨RX8, "canStandAt", "(I)Z"⟩
abbrev cX8_isBehindLastCondition : ByteArray := prog_10_method_10_code
def yX8_isBehindLastCondition : MethodName := ⟨RX8, "isBehindLastCondition", "(I)Z"⟩
abbrev cX8_characterAt : ByteArray := prog_10_method_11_code
def yX8_characterAt : MethodName := ⟨RX8, "characterAt", "(I)C"⟩
def RX9 : String := "PlanShelves"
def TX9 : u_T := fun k => match k with
  | 0 => ("PlanShelves", "now", "LPlanShelves$State;", true)
  | 1 => ("PlanShelves", "history", "LPlanShelves$History;", true)
  | 2 => ("PlanShelves", "text", "LPlanShelves$Text;", true)
  | _ => ("PlanShelves", "given", "[I", true)
def tyX9 : Nat → FieldType := fun k => match k with
  | 0 => .object "PlanShelves$State"
  | 1 => .object "PlanShelves$History"
  | 2 => .object "PlanShelves$Text"
  | _ => .array .int
abbrev wsX90 : List Cond := u_ws RX9 TX9 4
theorem nmX9 : ∀ a, a < 4 → ∀ b, b < 4 → a ≠ b → (TX9 a).2.1 ≠ (TX9 b).2.1 := by decide +kernel
theorem tyX9_ok : ∀ k, k < 4 → parseFieldDescriptor (TX9 k).2.2.1 = some (tyX9 k) := by decide +kernel
abbrev cX9_init : ByteArray := prog_1_method_1_code
def yX9_init : MethodName := ⟨RX9, "<init>", "()V"⟩
abbrev cX9_row : ByteArray := prog_1_method_2_code
def yX9_row : MethodName := ⟨RX9, "row", "(IIIII)I"⟩
abbrev cX9_dropRow : ByteArray := prog_1_method_3_code
def yX9_dropRow : MethodName := ⟨RX9, "dropRow", "(I)I"⟩
abbrev cX9_index : ByteArray := prog_1_method_4_code
def yX9_index : MethodName := ⟨RX9, "index", "(II)I"⟩
abbrev cX9_analyse : ByteArray := prog_1_method_5_code
def yX9_analyse : MethodName := ⟨RX9, "analyse", "()I"⟩
abbrev cX9_rowOf : ByteArray := prog_1_method_6_code
def yX9_rowOf : MethodName := ⟨RX9, "rowOf", "(II)I"⟩
abbrev cX9_known : ByteArray := prog_1_method_7_code
def yX9_known : MethodName := ⟨RX9, "known", "(II)I"⟩
abbrev cX9_statement : ByteArray := prog_1_method_8_code
def yX9_statement : MethodName := ⟨RX9, "statement", "()I"⟩
abbrev cX9_statementOf : ByteArray := prog_1_method_9_code
def yX9_statementOf : MethodName := ⟨RX9, "statementOf", "(II)I"⟩
abbrev cX9_run : ByteArray := prog_1_method_10_code
def yX9_run : MethodName := ⟨RX9, "run", "(IIIII)I"⟩
abbrev cX9_latest : ByteArray := prog_1_method_11_code
def yX9_latest : MethodName := ⟨RX9, "latest", "(I)I"⟩
abbrev cX9_pin : ByteArray := prog_1_method_12_code
def yX9_pin : MethodName := ⟨RX9, "pin", "(II)I"⟩
abbrev cX9_drop : ByteArray := prog_1_method_13_code
def yX9_drop : MethodName := ⟨RX9, "drop", "(I)I"⟩
abbrev cX9_set : ByteArray := prog_1_method_14_code
def yX9_set : MethodName := ⟨RX9, "set", "(II)I"⟩
abbrev cX9_planOf : ByteArray := prog_1_method_15_code
def yX9_planOf : MethodName := ⟨RX9, "planOf", "(II)I"⟩
abbrev cX9_planFor : ByteArray := prog_1_method_16_code
def yX9_planFor : MethodName := ⟨RX9, "planFor", "(II)I"⟩
abbrev cX9_count : ByteArray := prog_1_method_18_code
def yX9_count : MethodName := ⟨RX9, "count", "(I)I"⟩
abbrev cX9_type : ByteArray := prog_1_method_23_code
def yX9_type : MethodName := ⟨RX9, "type", "(I)I"⟩
abbrev cX9_clearText : ByteArray := prog_1_method_24_code
def yX9_clearText : MethodName := ⟨RX9, "clearText", "()I"⟩
abbrev cX9_fault : ByteArray := prog_1_method_25_code
def yX9_fault : MethodName := ⟨RX9, "fault", "(I)I"⟩
abbrev cX9_record : ByteArray := prog_1_method_26_code
def yX9_record : MethodName := ⟨RX9, "record", "()V"⟩
abbrev cX9_accepts : ByteArray := prog_1_method_27_code
def yX9_accepts : MethodName := ⟨RX9, "accepts", "(IIIII)Z"⟩
abbrev cX9_gathered : ByteArray := prog_1_method_28_code
def yX9_gathered : MethodName := ⟨RX9, "gathered", "(IIII)[I"⟩
abbrev cX9_within : ByteArray := prog_1_method_29_code
def yX9_within : MethodName := ⟨RX9, "within", "(III)Z"⟩
abbrev cX9_isValue : ByteArray := prog_1_method_30_code
def yX9_isValue : MethodName := ⟨RX9, "isValue", "(I)Z"⟩
abbrev cX9_isColumn : ByteArray := prog_1_method_31_code
def yX9_isColumn : MethodName := ⟨RX9, "isColumn", "(I)Z"⟩
abbrev cX9_at : ByteArray := prog_1_method_32_code
def yX9_at : MethodName := ⟨RX9, "at", "([II)I"⟩
abbrev cX9_put : ByteArray := prog_1_method_33_code
def yX9_put : MethodName := ⟨RX9, "put", "([III)V"⟩
abbrev cX9_copy : ByteArray := prog_1_method_34_code
def yX9_copy : MethodName := ⟨RX9, "copy", "([I[I)V"⟩
abbrev cX9_holds : ByteArray := prog_1_method_35_code
def yX9_holds : MethodName := ⟨RX9, "holds", "(III)Z"⟩
abbrev cX9_cost : ByteArray := prog_1_method_36_code
def yX9_cost : MethodName := ⟨RX9, "cost", "(LPlanShelves$Sums;LPlanShelves$Statement;[II)I"⟩
def RX10 : String := "PlanShelvesModel"
def TX10 : u_T := fun k => match k with
  | _ => ("", "", "", false)
def tyX10 : Nat → FieldType := fun k => match k with
  | _ => .int
abbrev wsX100 : List Cond := u_ws RX10 TX10 0
theorem nmX10 : ∀ a, a < 0 → ∀ b, b < 0 → a ≠ b → (TX10 a).2.1 ≠ (TX10 b).2.1 := by decide +kernel
theorem tyX10_ok : ∀ k, k < 0 → parseFieldDescriptor (TX10 k).2.2.1 = some (tyX10 k) := by decide +kernel
def RL : String := "PlanShelvesLaw"
abbrev cL_cell : ByteArray := method_2_code
def yL_cell : MethodName := ⟨RL, "cell", "([II)I"⟩
abbrev cL_low : ByteArray := method_3_code
def yL_low : MethodName := ⟨RL, "low", "(II)I"⟩
abbrev cL_of : ByteArray := method_4_code
def yL_of : MethodName := ⟨RL, "of", "([III)I"⟩
abbrev cL_weight : ByteArray := method_5_code
def yL_weight : MethodName := ⟨RL, "weight", "([II)I"⟩
abbrev cL_known : ByteArray := method_6_code
def yL_known : MethodName := ⟨RL, "known", "([JII)I"⟩
abbrev cL_many : ByteArray := method_7_code
def yL_many : MethodName := ⟨RL, "many", "([II)I"⟩
abbrev cL_condition : ByteArray := method_8_code
def yL_condition : MethodName := ⟨RL, "condition", "([III)I"⟩
abbrev cL_holds : ByteArray := method_9_code
def yL_holds : MethodName := ⟨RL, "holds", "(III)Z"⟩
abbrev cL_size : ByteArray := method_10_code
def yL_size : MethodName := ⟨RL, "size", "([I[I)I"⟩
abbrev cL_weights : ByteArray := method_11_code
def yL_weights : MethodName := ⟨RL, "weights", "([I[I[JIIZ)I"⟩
abbrev cL_cost : ByteArray := method_12_code
def yL_cost : MethodName := ⟨RL, "cost", "([I[I[J[II[IIZ)I"⟩
abbrev cL_way : ByteArray := method_13_code
def yL_way : MethodName := ⟨RL, "way", "([I[I[J[II[IZ)I"⟩
abbrev cL_sort : ByteArray := method_14_code
def yL_sort : MethodName := ⟨RL, "sort", "([I[I[J[II[I)I"⟩
abbrev cL_plan : ByteArray := method_15_code
def yL_plan : MethodName := ⟨RL, "plan", "([I[II)I"⟩
abbrev cL_takeOut : ByteArray := method_16_code
def yL_takeOut : MethodName := ⟨RL, "takeOut", "([I[II)V"⟩
abbrev cL_drops : ByteArray := method_17_code
def yL_drops : MethodName := ⟨RL, "drops", "([I[I)I"⟩
abbrev cL_runs : ByteArray := method_18_code
def yL_runs : MethodName := ⟨RL, "runs", "([I[I[J[I[I[II[I)I"⟩
abbrev cL_tells : ByteArray := method_19_code
def yL_tells : MethodName := ⟨RL, "tells", "(LPlanShelves;[I[II)Z"⟩
abbrev cL_changes : ByteArray := method_20_code
def yL_changes : MethodName := ⟨RL, "changes", "(LPlanShelves;[I[I[J[I[III)Z"⟩
abbrev cL_acts : ByteArray := method_21_code
def yL_acts : MethodName := ⟨RL, "acts", "(LPlanShelves;[I[I[J[I[I[II)Z"⟩
abbrev cL_areRows : ByteArray := method_22_code
def yL_areRows : MethodName := ⟨RL, "areRows", "(LPlanShelves;[I[I[J)Z"⟩
abbrev cL_areStatements : ByteArray := method_23_code
def yL_areStatements : MethodName := ⟨RL, "areStatements", "(LPlanShelves;[I[I[I)Z"⟩
abbrev cL_arePlans : ByteArray := method_24_code
def yL_arePlans : MethodName := ⟨RL, "arePlans", "(LPlanShelves;[I[I)Z"⟩
abbrev cL_isSo : ByteArray := method_25_code
def yL_isSo : MethodName := ⟨RL, "isSo", "(LPlanShelves;[I[I[J[I[I[I)Z"⟩
abbrev cL_law : ByteArray := code
def yL_law : MethodName := ⟨RL, "law", "([I)Z"⟩
abbrev vwCl : List vw_C := [(RX0, TX0, 2), (RX1, TX1, 11), (RX2, TX2, 9), (RX3, TX3, 6), (RX4, TX4, 12), (RX5, TX5, 4), (RX6, TX6, 2), (RX7, TX7, 3), (RX8, TX8, 2), (RX9, TX9, 4)]
