section
/-! the tables' words -/
/-- a private method of a class that the tables say can be made, by its rows of tables_1 -/
def lw_okq (q : MethodName × Nat) : Prop := (q.1.cls ≠ "java/lang/invoke/MethodHandle" ∧ q.1.cls ≠ "java/lang/invoke/VarHandle") ∧ Cond.instantiable q.1.cls q.2 ∈ tables_1 ∧ Cond.privateMethod q.1 ∈ tables_1 ∧ Cond.instanceMethod q.1 ∈ tables_1
theorem lw_p0 : lw_okq (⟨"LagoonGates", "settle", "(I)I"⟩, 6) := ⟨⟨by decide +kernel, by decide +kernel⟩, List.mem_of_getElem? (i := 10) (by decide +kernel), List.mem_of_getElem? (i := 262) (by decide +kernel), List.mem_of_getElem? (i := 263) (by decide +kernel)⟩
theorem lw_p1 : lw_okq (⟨"LagoonGates$History", "rowOf", "(I)I"⟩, 3) := ⟨⟨by decide +kernel, by decide +kernel⟩, List.mem_of_getElem? (i := 114) (by decide +kernel), List.mem_of_getElem? (i := 273) (by decide +kernel), List.mem_of_getElem? (i := 274) (by decide +kernel)⟩
theorem lw_p2 : lw_okq (⟨"LagoonGates$Tick", "siltOf", "(LLagoonGates$Lagoon;)I"⟩, 7) := ⟨⟨by decide +kernel, by decide +kernel⟩, List.mem_of_getElem? (i := 75) (by decide +kernel), List.mem_of_getElem? (i := 354) (by decide +kernel), List.mem_of_getElem? (i := 355) (by decide +kernel)⟩
theorem lw_p3 : lw_okq (⟨"LagoonGates$Lagoon", "take", "(LLagoonGates$Tick;)V"⟩, 11) := ⟨⟨by decide +kernel, by decide +kernel⟩, List.mem_of_getElem? (i := 18) (by decide +kernel), List.mem_of_getElem? (i := 358) (by decide +kernel), List.mem_of_getElem? (i := 359) (by decide +kernel)⟩
theorem lw_p4 : lw_okq (⟨"LagoonGates$Lagoon", "enterRecord", "(LLagoonGates$Tick;)V"⟩, 11) := ⟨⟨by decide +kernel, by decide +kernel⟩, List.mem_of_getElem? (i := 18) (by decide +kernel), List.mem_of_getElem? (i := 362) (by decide +kernel), List.mem_of_getElem? (i := 363) (by decide +kernel)⟩
theorem lw_p5 : lw_okq (⟨"LagoonGates$Lagoon", "beginRecord", "(II)V"⟩, 11) := ⟨⟨by decide +kernel, by decide +kernel⟩, List.mem_of_getElem? (i := 18) (by decide +kernel), List.mem_of_getElem? (i := 370) (by decide +kernel), List.mem_of_getElem? (i := 371) (by decide +kernel)⟩
def lw_privs_1 : List (MethodName × Nat) := [(⟨"LagoonGates", "settle", "(I)I"⟩, 6), (⟨"LagoonGates$History", "rowOf", "(I)I"⟩, 3), (⟨"LagoonGates$Tick", "siltOf", "(LLagoonGates$Lagoon;)I"⟩, 7), (⟨"LagoonGates$Lagoon", "take", "(LLagoonGates$Tick;)V"⟩, 11), (⟨"LagoonGates$Lagoon", "enterRecord", "(LLagoonGates$Tick;)V"⟩, 11), (⟨"LagoonGates$Lagoon", "beginRecord", "(II)V"⟩, 11)]
theorem lw_r1 : ∀ q ∈ lw_privs_1, lw_okq q := List.forall_mem_cons.mpr ⟨lw_p0, List.forall_mem_cons.mpr ⟨lw_p1, List.forall_mem_cons.mpr ⟨lw_p2, List.forall_mem_cons.mpr ⟨lw_p3, List.forall_mem_cons.mpr ⟨lw_p4, List.forall_mem_cons.mpr ⟨lw_p5, fun _ h => absurd h List.not_mem_nil⟩⟩⟩⟩⟩⟩
def lw_privs : List (MethodName × Nat) := lw_privs_1
def lw_tbl : List Cond := k2_sels lw_privs ++ tables_1
theorem lw_privs_ok : ∀ q ∈ lw_privs, lw_okq q := lw_r1
end
section
/-! names, fields, codes: printed rows of the claim -/
def RX0 : String := "LagoonGates$History"
def TX0 : u_T := fun k => match k with
  | 0 => ("LagoonGates$History", "states", "[LLagoonGates$Lagoon;", true)
  | 1 => ("LagoonGates$History", "oldest", "I", false)
  | _ => ("LagoonGates$History", "size", "I", false)
def tyX0 : Nat → FieldType := fun k => match k with
  | 0 => .array (.object "LagoonGates$Lagoon")
  | 1 => .int
  | _ => .int
abbrev wsX00 : List Cond := u_ws RX0 TX0 3
theorem nmX0 : ∀ a, a < 3 → ∀ b, b < 3 → a ≠ b → (TX0 a).2.1 ≠ (TX0 b).2.1 := by decide +kernel
theorem tyX0_ok : ∀ k, k < 3 → parseFieldDescriptor (TX0 k).2.2.1 = some (tyX0 k) := by decide +kernel
abbrev cX0_init : ByteArray := prog_2_method_1_code
def yX0_init : MethodName := ⟨RX0, "<init>", "()V"⟩
abbrev cX0_keep : ByteArray := prog_2_method_2_code
def yX0_keep : MethodName := ⟨RX0, "keep", "(LLagoonGates$Lagoon;)V"⟩
abbrev cX0_rowOf : ByteArray := prog_2_method_4_code
def yX0_rowOf : MethodName := ⟨RX0, "rowOf", "(I)I"⟩
def RX1 : String := "LagoonGates$Lagoon"
def TX1 : u_T := fun k => match k with
  | 0 => ("LagoonGates$Lagoon", "time", "I", false)
  | 1 => ("LagoonGates$Lagoon", "water", "I", false)
  | 2 => ("LagoonGates$Lagoon", "silt", "I", false)
  | 3 => ("LagoonGates$Lagoon", "gatesOpen", "I", false)
  | 4 => ("LagoonGates$Lagoon", "turbinesOpen", "I", false)
  | 5 => ("LagoonGates$Lagoon", "pumpFlow", "I", false)
  | 6 => ("LagoonGates$Lagoon", "birdsFrom", "I", false)
  | 7 => ("LagoonGates$Lagoon", "birdsTo", "I", false)
  | 8 => ("LagoonGates$Lagoon", "settings", "[I", true)
  | 9 => ("LagoonGates$Lagoon", "totals", "[I", true)
  | _ => ("LagoonGates$Lagoon", "records", "[I", true)
def tyX1 : Nat → FieldType := fun k => match k with
  | 0 => .int
  | 1 => .int
  | 2 => .int
  | 3 => .int
  | 4 => .int
  | 5 => .int
  | 6 => .int
  | 7 => .int
  | 8 => .array .int
  | 9 => .array .int
  | _ => .array .int
abbrev wsX10 : List Cond := u_ws RX1 TX1 11
theorem nmX1 : ∀ a, a < 11 → ∀ b, b < 11 → a ≠ b → (TX1 a).2.1 ≠ (TX1 b).2.1 := by decide +kernel
theorem tyX1_ok : ∀ k, k < 11 → parseFieldDescriptor (TX1 k).2.2.1 = some (tyX1 k) := by decide +kernel
abbrev cX1_init : ByteArray := prog_3_method_1_code
def yX1_init : MethodName := ⟨RX1, "<init>", "()V"⟩
abbrev cX1_copyFrom : ByteArray := prog_3_method_2_code
def yX1_copyFrom : MethodName := ⟨RX1, "copyFrom", "(LLagoonGates$Lagoon;)V"⟩
abbrev cX1_level : ByteArray := prog_3_method_3_code
def yX1_level : MethodName := ⟨RX1, "level", "()I"⟩
abbrev cX1_head : ByteArray := prog_3_method_4_code
def yX1_head : MethodName := ⟨RX1, "head", "()I"⟩
abbrev cX1_isBirdHour : ByteArray := prog_3_method_5_code
def yX1_isBirdHour : MethodName := ⟨RX1, "isBirdHour", "()Z"⟩
abbrev cX1_lastDay : ByteArray := prog_3_method_7_code
def yX1_lastDay : MethodName := ⟨RX1, "lastDay", "()I"⟩
abbrev cX1_firstDay : ByteArray := prog_3_method_8_code
def yX1_firstDay : MethodName := ⟨RX1, "firstDay", "()I"⟩
abbrev cX1_openGates : ByteArray := prog_3_method_9_code
def yX1_openGates : MethodName := ⟨RX1, "openGates", "(I)I"⟩
abbrev cX1_openTurbines : ByteArray := prog_3_method_10_code
def yX1_openTurbines : MethodName := ⟨RX1, "openTurbines", "(I)I"⟩
abbrev cX1_setPump : ByteArray := prog_3_method_11_code
def yX1_setPump : MethodName := ⟨RX1, "setPump", "(I)I"⟩
abbrev cX1_setBirds : ByteArray := prog_3_method_12_code
def yX1_setBirds : MethodName := ⟨RX1, "setBirds", "(II)I"⟩
abbrev cX1_runTicks : ByteArray := prog_3_method_13_code
def yX1_runTicks : MethodName := ⟨RX1, "runTicks", "(ILLagoonGates$Tick;)I"⟩
abbrev cX1_dredgeSilt : ByteArray := prog_3_method_14_code
def yX1_dredgeSilt : MethodName := ⟨RX1, "dredgeSilt", "(I)I"⟩
abbrev cX1_changeSetting : ByteArray := prog_3_method_15_code
def yX1_changeSetting : MethodName := ⟨RX1, "changeSetting", "(II)I"⟩
abbrev cX1_letPass : ByteArray := prog_3_method_16_code
def yX1_letPass : MethodName := ⟨RX1, "letPass", "(ILLagoonGates$Tick;)V"⟩
abbrev cX1_take : ByteArray := prog_3_method_17_code
def yX1_take : MethodName := ⟨RX1, "take", "(LLagoonGates$Tick;)V"⟩
abbrev cX1_enterRecord : ByteArray := prog_3_method_18_code
def yX1_enterRecord : MethodName := ⟨RX1, "enterRecord", "(LLagoonGates$Tick;)V"⟩
abbrev cX1_beginRecord : ByteArray := prog_3_method_19_code
def yX1_beginRecord : MethodName := ⟨RX1, "beginRecord", "(II)V"⟩
def RX2 : String := "LagoonGates$Player"
def TX2 : u_T := fun k => match k with
  | 0 => ("LagoonGates$Player", "orders", "I", false)
  | 1 => ("LagoonGates$Player", "place", "I", false)
  | 2 => ("LagoonGates$Player", "reason", "I", false)
  | _ => ("LagoonGates$Player", "cause", "I", false)
def tyX2 : Nat → FieldType := fun k => match k with
  | 0 => .int
  | 1 => .int
  | 2 => .int
  | _ => .int
abbrev wsX20 : List Cond := u_ws RX2 TX2 4
theorem nmX2 : ∀ a, a < 4 → ∀ b, b < 4 → a ≠ b → (TX2 a).2.1 ≠ (TX2 b).2.1 := by decide +kernel
theorem tyX2_ok : ∀ k, k < 4 → parseFieldDescriptor (TX2 k).2.2.1 = some (tyX2 k) := by decide +kernel
abbrev cX2_init : ByteArray := prog_4_method_1_code
def yX2_init : MethodName := ⟨RX2, "<init>", "()V"⟩
def RX3 : String := "LagoonGates$Text"
def TX3 : u_T := fun k => match k with
  | 0 => ("LagoonGates$Text", "characters", "[C", true)
  | 1 => ("LagoonGates$Text", "length", "I", false)
  | 2 => ("LagoonGates$Text", "place", "I", false)
  | 3 => ("LagoonGates$Text", "kind", "C", false)
  | 4 => ("LagoonGates$Text", "first", "I", false)
  | _ => ("LagoonGates$Text", "second", "I", false)
def tyX3 : Nat → FieldType := fun k => match k with
  | 0 => .array .char
  | 1 => .int
  | 2 => .int
  | 3 => .char
  | 4 => .int
  | _ => .int
abbrev wsX30 : List Cond := u_ws RX3 TX3 6
theorem nmX3 : ∀ a, a < 6 → ∀ b, b < 6 → a ≠ b → (TX3 a).2.1 ≠ (TX3 b).2.1 := by decide +kernel
theorem tyX3_ok : ∀ k, k < 6 → parseFieldDescriptor (TX3 k).2.2.1 = some (tyX3 k) := by decide +kernel
abbrev cX3_init : ByteArray := prog_5_method_1_code
def yX3_init : MethodName := ⟨RX3, "<init>", "()V"⟩
def RX4 : String := "LagoonGates$Tick"
def TX4 : u_T := fun k => match k with
  | 0 => ("LagoonGates$Tick", "throughGates", "I", false)
  | 1 => ("LagoonGates$Tick", "throughTurbines", "I", false)
  | 2 => ("LagoonGates$Tick", "throughPumps", "I", false)
  | 3 => ("LagoonGates$Tick", "flow", "I", false)
  | 4 => ("LagoonGates$Tick", "made", "I", false)
  | 5 => ("LagoonGates$Tick", "used", "I", false)
  | _ => ("LagoonGates$Tick", "siltChange", "I", false)
def tyX4 : Nat → FieldType := fun k => match k with
  | 0 => .int
  | 1 => .int
  | 2 => .int
  | 3 => .int
  | 4 => .int
  | 5 => .int
  | _ => .int
abbrev wsX40 : List Cond := u_ws RX4 TX4 7
theorem nmX4 : ∀ a, a < 7 → ∀ b, b < 7 → a ≠ b → (TX4 a).2.1 ≠ (TX4 b).2.1 := by decide +kernel
theorem tyX4_ok : ∀ k, k < 7 → parseFieldDescriptor (TX4 k).2.2.1 = some (tyX4 k) := by decide +kernel
abbrev cX4_init : ByteArray := prog_6_method_1_code
def yX4_init : MethodName := ⟨RX4, "<init>", "()V"⟩
abbrev cX4_foresee : ByteArray := prog_6_method_2_code
def yX4_foresee : MethodName := ⟨RX4, "foresee", "(LLagoonGates$Lagoon;I)V"⟩
abbrev cX4_siltOf : ByteArray := prog_6_method_3_code
def yX4_siltOf : MethodName := ⟨RX4, "siltOf", "(LLagoonGates$Lagoon;)I"⟩
def RX5 : String := "LagoonGates"
def TX5 : u_T := fun k => match k with
  | 0 => ("LagoonGates", "present", "LLagoonGates$Lagoon;", true)
  | 1 => ("LagoonGates", "trial", "LLagoonGates$Lagoon;", true)
  | 2 => ("LagoonGates", "tick", "LLagoonGates$Tick;", true)
  | 3 => ("LagoonGates", "history", "LLagoonGates$History;", true)
  | 4 => ("LagoonGates", "text", "LLagoonGates$Text;", true)
  | _ => ("LagoonGates", "player", "LLagoonGates$Player;", true)
def tyX5 : Nat → FieldType := fun k => match k with
  | 0 => .object "LagoonGates$Lagoon"
  | 1 => .object "LagoonGates$Lagoon"
  | 2 => .object "LagoonGates$Tick"
  | 3 => .object "LagoonGates$History"
  | 4 => .object "LagoonGates$Text"
  | _ => .object "LagoonGates$Player"
abbrev wsX50 : List Cond := u_ws RX5 TX5 6
theorem nmX5 : ∀ a, a < 6 → ∀ b, b < 6 → a ≠ b → (TX5 a).2.1 ≠ (TX5 b).2.1 := by decide +kernel
theorem tyX5_ok : ∀ k, k < 6 → parseFieldDescriptor (TX5 k).2.2.1 = some (tyX5 k) := by decide +kernel
abbrev cX5_init : ByteArray := prog_1_method_1_code
def yX5_init : MethodName := ⟨RX5, "<init>", "()V"⟩
abbrev cX5_gates : ByteArray := prog_1_method_2_code
def yX5_gates : MethodName := ⟨RX5, "gates", "(I)I"⟩
abbrev cX5_turbines : ByteArray := prog_1_method_3_code
def yX5_turbines : MethodName := ⟨RX5, "turbines", "(I)I"⟩
abbrev cX5_pump : ByteArray := prog_1_method_4_code
def yX5_pump : MethodName := ⟨RX5, "pump", "(I)I"⟩
abbrev cX5_birds : ByteArray := prog_1_method_5_code
def yX5_birds : MethodName := ⟨RX5, "birds", "(II)I"⟩
abbrev cX5_run : ByteArray := prog_1_method_6_code
def yX5_run : MethodName := ⟨RX5, "run", "(I)I"⟩
abbrev cX5_dredge : ByteArray := prog_1_method_7_code
def yX5_dredge : MethodName := ⟨RX5, "dredge", "(I)I"⟩
abbrev cX5_set : ByteArray := prog_1_method_8_code
def yX5_set : MethodName := ⟨RX5, "set", "(II)I"⟩
abbrev cX5_now : ByteArray := prog_1_method_10_code
def yX5_now : MethodName := ⟨RX5, "now", "(I)I"⟩
abbrev cX5_record : ByteArray := prog_1_method_11_code
def yX5_record : MethodName := ⟨RX5, "record", "(II)I"⟩
abbrev cX5_next : ByteArray := prog_1_method_12_code
def yX5_next : MethodName := ⟨RX5, "next", "(I)I"⟩
abbrev cX5_bestDay : ByteArray := prog_1_method_17_code
def yX5_bestDay : MethodName := ⟨RX5, "bestDay", "()I"⟩
abbrev cX5_count : ByteArray := prog_1_method_19_code
def yX5_count : MethodName := ⟨RX5, "count", "(I)I"⟩
abbrev cX5_settle : ByteArray := prog_1_method_25_code
def yX5_settle : MethodName := ⟨RX5, "settle", "(I)I"⟩
abbrev cX5_isError : ByteArray := prog_1_method_28_code
def yX5_isError : MethodName := ⟨RX5, "isError", "(I)Z"⟩
abbrev cX5_tideHeight : ByteArray := prog_1_method_29_code
def yX5_tideHeight : MethodName := ⟨RX5, "tideHeight", "(I)I"⟩
abbrev cX5_seaLevel : ByteArray := prog_1_method_30_code
def yX5_seaLevel : MethodName := ⟨RX5, "seaLevel", "(I)I"⟩
abbrev cX5_recordStart : ByteArray := prog_1_method_31_code
def yX5_recordStart : MethodName := ⟨RX5, "recordStart", "(I)I"⟩
def RX6 : String := "LagoonGatesModel"
def TX6 : u_T := fun k => match k with
  | _ => ("", "", "", false)
def tyX6 : Nat → FieldType := fun k => match k with
  | _ => .int
abbrev wsX60 : List Cond := u_ws RX6 TX6 0
theorem nmX6 : ∀ a, a < 0 → ∀ b, b < 0 → a ≠ b → (TX6 a).2.1 ≠ (TX6 b).2.1 := by decide +kernel
theorem tyX6_ok : ∀ k, k < 0 → parseFieldDescriptor (TX6 k).2.2.1 = some (tyX6 k) := by decide +kernel
def RJ9 : String := "java/lang/Math"
def TJ9 : u_T := fun k => match k with
  | _ => ("", "", "", false)
def tyJ9 : Nat → FieldType := fun k => match k with
  | _ => .int
abbrev wsJ90 : List Cond := u_ws RJ9 TJ9 0
abbrev cJ9_floorDiv_7cf53 : ByteArray := prog_9_method_47_code
def yJ9_floorDiv_7cf53 : MethodName := ⟨RJ9, "floorDiv", "(II)I"⟩
abbrev cJ9_floorMod_7cf53 : ByteArray := prog_9_method_50_code
def yJ9_floorMod_7cf53 : MethodName := ⟨RJ9, "floorMod", "(II)I"⟩
abbrev cJ9_abs_0f7a4 : ByteArray := prog_9_method_59_code
def yJ9_abs_0f7a4 : MethodName := ⟨RJ9, "abs", "(I)I"⟩
abbrev cJ9_max_7cf53 : ByteArray := prog_9_method_65_code
def yJ9_max_7cf53 : MethodName := ⟨RJ9, "max", "(II)I"⟩
abbrev cJ9_min_7cf53 : ByteArray := prog_9_method_69_code
def yJ9_min_7cf53 : MethodName := ⟨RJ9, "min", "(II)I"⟩
def RJ10 : String := "java/lang/System"
def TJ10 : u_T := fun k => match k with
  | _ => ("", "", "", false)
def tyJ10 : Nat → FieldType := fun k => match k with
  | _ => .int
abbrev wsJ100 : List Cond := u_ws RJ10 TJ10 0
def RL : String := "LagoonGatesLaw"
abbrev cL_cell : ByteArray := method_2_code
def yL_cell : MethodName := ⟨RL, "cell", "([II)I"⟩
abbrev cL_low : ByteArray := method_3_code
def yL_low : MethodName := ⟨RL, "low", "(II)I"⟩
abbrev cL_sea : ByteArray := method_4_code
def yL_sea : MethodName := ⟨RL, "sea", "(I)I"⟩
abbrev cL_level : ByteArray := method_5_code
def yL_level : MethodName := ⟨RL, "level", "([I)I"⟩
abbrev cL_size : ByteArray := method_6_code
def yL_size : MethodName := ⟨RL, "size", "(I)I"⟩
abbrev cL_birds : ByteArray := method_7_code
def yL_birds : MethodName := ⟨RL, "birds", "([I)Z"⟩
abbrev cL_weigh : ByteArray := method_8_code
def yL_weigh : MethodName := ⟨RL, "weigh", "([I[I)V"⟩
abbrev cL_run : ByteArray := method_9_code
def yL_run : MethodName := ⟨RL, "run", "([I[I[II)V"⟩
abbrev cL_acts : ByteArray := method_10_code
def yL_acts : MethodName := ⟨RL, "acts", "(LLagoonGates;[I[I[II)Z"⟩
abbrev cL_areRecords : ByteArray := method_11_code
def yL_areRecords : MethodName := ⟨RL, "areRecords", "(LLagoonGates;[I[I[I)Z"⟩
abbrev cL_isSo : ByteArray := method_12_code
def yL_isSo : MethodName := ⟨RL, "isSo", "(LLagoonGates;[I[I[I)Z"⟩
abbrev cL_law : ByteArray := code
def yL_law : MethodName := ⟨RL, "law", "([I)Z"⟩
abbrev vwCl : List vw_C := [(RX0, TX0, 3), (RX1, TX1, 11), (RX2, TX2, 4), (RX3, TX3, 6), (RX4, TX4, 7), (RX5, TX5, 6)]
/-! the words, by place -/
def gW : List Cond := lw_tbl.filter goodWord
theorem gW_in {w : Cond} (i : Nat) (h : lw_tbl[i]? = some w) (hg : goodWord w = true) : w ∈ gW := List.mem_filter.mpr ⟨List.mem_of_getElem? h, hg⟩
theorem gW_good {y : Cond} (hy : y ∈ gW) : GoodIn gW (y :: gW) := by
  intro w hw
  have hm : w ∈ gW := by
    rcases List.mem_cons.mp hw with h | h
    · rw [h]; exact hy
    · exact h
  exact ⟨hm, good_of_word (List.mem_filter.mp hm).2⟩
/-- what a call of y needs of the tables -/
def ag_fV (y : MethodName) (code : ByteArray) (maxL : Nat) (ret : Option FieldType) (n : Nat) : Prop :=
  Cond.code y code maxL ret ∈ gW ∧ Cond.instanceMethod y ∈ gW ∧ Cond.selects y.cls y y ∈ gW ∧ Cond.initialized y.cls ∈ gW ∧ y.cls ≠ "java/lang/invoke/MethodHandle" ∧ y.cls ≠ "java/lang/invoke/VarHandle" ∧ (parseMethodDescriptor y.desc).map (fun d => d.parameters.length) = some n
def ag_fS (y : MethodName) (code : ByteArray) (maxL : Nat) (ret : Option FieldType) (n : Nat) : Prop :=
  Cond.code y code maxL ret ∈ gW ∧ Cond.static y ∈ gW ∧ Cond.initialized y.cls ∈ gW ∧ y.cls ≠ "java/lang/invoke/MethodHandle" ∧ y.cls ≠ "java/lang/invoke/VarHandle" ∧ (parseMethodDescriptor y.desc).map (fun d => d.parameters.length) = some n
end
section
/-! the words that are used, by their places -/
theorem k_0 : Cond.selects yX5_settle.cls yX5_settle yX5_settle ∈ gW := gW_in 0 (by decide +kernel) rfl
theorem k_1 : Cond.selects yX0_rowOf.cls yX0_rowOf yX0_rowOf ∈ gW := gW_in 1 (by decide +kernel) rfl
theorem k_2 : Cond.selects yX4_siltOf.cls yX4_siltOf yX4_siltOf ∈ gW := gW_in 2 (by decide +kernel) rfl
theorem k_3 : Cond.selects yX1_take.cls yX1_take yX1_take ∈ gW := gW_in 3 (by decide +kernel) rfl
theorem k_4 : Cond.selects yX1_enterRecord.cls yX1_enterRecord yX1_enterRecord ∈ gW := gW_in 4 (by decide +kernel) rfl
theorem k_5 : Cond.selects yX1_beginRecord.cls yX1_beginRecord yX1_beginRecord ∈ gW := gW_in 5 (by decide +kernel) rfl
theorem k_6 : Cond.initialized RL ∈ gW := gW_in 6 (by decide +kernel) rfl
theorem k_7 : Cond.initialized RX5 ∈ gW := gW_in 7 (by decide +kernel) rfl
theorem k_8 : Cond.initialized RX1 ∈ gW := gW_in 8 (by decide +kernel) rfl
theorem k_9 : Cond.initialized RX4 ∈ gW := gW_in 9 (by decide +kernel) rfl
theorem k_10 : Cond.initialized RX0 ∈ gW := gW_in 10 (by decide +kernel) rfl
theorem k_11 : Cond.initialized RX3 ∈ gW := gW_in 11 (by decide +kernel) rfl
theorem k_12 : Cond.initialized RX2 ∈ gW := gW_in 12 (by decide +kernel) rfl
theorem k_13 : Cond.initialized RJ10 ∈ gW := gW_in 13 (by decide +kernel) rfl
theorem k_14 : Cond.initialized RJ9 ∈ gW := gW_in 14 (by decide +kernel) rfl
theorem k_15 : Cond.classLink RL 37 RX5 ∈ gW := gW_in 15 (by decide +kernel) rfl
theorem k_16 : Cond.instantiable RX5 6 ∈ gW := gW_in 16 (by decide +kernel) rfl
theorem k_17 : Cond.methodLink RL 86 yX5_init ∈ gW := gW_in 17 (by decide +kernel) rfl
theorem k_18 : Cond.instanceMethod yX5_init ∈ gW := gW_in 18 (by decide +kernel) rfl
theorem k_19 : Cond.code yX5_init cX5_init 1 none ∈ gW := gW_in 19 (by decide +kernel) rfl
theorem k_20 : Cond.methodLink RX5 1 objectInit ∈ gW := gW_in 20 (by decide +kernel) rfl
theorem k_21 : Cond.instanceMethod objectInit ∈ gW := gW_in 21 (by decide +kernel) rfl
theorem k_22 : Cond.code objectInit ⟨#[0xb1]⟩ 1 none ∈ gW := gW_in 22 (by decide +kernel) rfl
theorem k_23 : Cond.classLink RX5 7 RX1 ∈ gW := gW_in 23 (by decide +kernel) rfl
theorem k_24 : Cond.instantiable RX1 11 ∈ gW := gW_in 24 (by decide +kernel) rfl
theorem k_26 : Cond.instanceMethod yX1_init ∈ gW := gW_in 26 (by decide +kernel) rfl
theorem k_27 : Cond.code yX1_init cX1_init 1 none ∈ gW := gW_in 27 (by decide +kernel) rfl
theorem k_28 : Cond.methodLink RX1 3 objectInit ∈ gW := gW_in 28 (by decide +kernel) rfl
theorem k_29 : Cond.constant RX1 9 40000 ∈ gW := gW_in 29 (by decide +kernel) rfl
theorem k_30 : Cond.fieldLink RX1 26 RX1 (TX1 0).2.1 (TX1 0).2.2.1 ∈ gW := gW_in 30 (by decide +kernel) rfl
theorem k_31 : Cond.fieldLink RX5 82 RX1 (TX1 0).2.1 (TX1 0).2.2.1 ∈ gW := gW_in 31 (by decide +kernel) rfl
theorem k_32 : Cond.fieldLink RX1 10 RX1 (TX1 1).2.1 (TX1 1).2.2.1 ∈ gW := gW_in 32 (by decide +kernel) rfl
theorem k_33 : Cond.fieldLink RX4 52 RX1 (TX1 1).2.1 (TX1 1).2.2.1 ∈ gW := gW_in 33 (by decide +kernel) rfl
theorem k_34 : Cond.fieldLink RX5 93 RX1 (TX1 1).2.1 (TX1 1).2.2.1 ∈ gW := gW_in 34 (by decide +kernel) rfl
theorem k_35 : Cond.fieldLink RX1 29 RX1 (TX1 2).2.1 (TX1 2).2.2.1 ∈ gW := gW_in 35 (by decide +kernel) rfl
theorem k_36 : Cond.fieldLink RX4 73 RX1 (TX1 2).2.1 (TX1 2).2.2.1 ∈ gW := gW_in 36 (by decide +kernel) rfl
theorem k_37 : Cond.fieldLink RX5 96 RX1 (TX1 2).2.1 (TX1 2).2.2.1 ∈ gW := gW_in 37 (by decide +kernel) rfl
theorem k_38 : Cond.fieldLink RX4 21 RX1 (TX1 3).2.1 (TX1 3).2.2.1 ∈ gW := gW_in 38 (by decide +kernel) rfl
theorem k_39 : Cond.fieldLink RX1 32 RX1 (TX1 3).2.1 (TX1 3).2.2.1 ∈ gW := gW_in 39 (by decide +kernel) rfl
theorem k_40 : Cond.fieldLink RX5 99 RX1 (TX1 3).2.1 (TX1 3).2.2.1 ∈ gW := gW_in 40 (by decide +kernel) rfl
theorem k_41 : Cond.fieldLink RX1 35 RX1 (TX1 4).2.1 (TX1 4).2.2.1 ∈ gW := gW_in 41 (by decide +kernel) rfl
theorem k_42 : Cond.fieldLink RX4 34 RX1 (TX1 4).2.1 (TX1 4).2.2.1 ∈ gW := gW_in 42 (by decide +kernel) rfl
theorem k_43 : Cond.fieldLink RX5 102 RX1 (TX1 4).2.1 (TX1 4).2.2.1 ∈ gW := gW_in 43 (by decide +kernel) rfl
theorem k_44 : Cond.fieldLink RX1 38 RX1 (TX1 5).2.1 (TX1 5).2.2.1 ∈ gW := gW_in 44 (by decide +kernel) rfl
theorem k_45 : Cond.fieldLink RX4 40 RX1 (TX1 5).2.1 (TX1 5).2.2.1 ∈ gW := gW_in 45 (by decide +kernel) rfl
theorem k_46 : Cond.fieldLink RX5 105 RX1 (TX1 5).2.1 (TX1 5).2.2.1 ∈ gW := gW_in 46 (by decide +kernel) rfl
theorem k_47 : Cond.fieldLink RX1 41 RX1 (TX1 6).2.1 (TX1 6).2.2.1 ∈ gW := gW_in 47 (by decide +kernel) rfl
theorem k_48 : Cond.fieldLink RX1 44 RX1 (TX1 7).2.1 (TX1 7).2.2.1 ∈ gW := gW_in 48 (by decide +kernel) rfl
theorem k_49 : Cond.fieldLink RX1 16 RX1 (TX1 8).2.1 (TX1 8).2.2.1 ∈ gW := gW_in 49 (by decide +kernel) rfl
theorem k_50 : Cond.fieldLink RX4 30 RX1 (TX1 8).2.1 (TX1 8).2.2.1 ∈ gW := gW_in 50 (by decide +kernel) rfl
theorem k_51 : Cond.fieldLink RX5 176 RX1 (TX1 8).2.1 (TX1 8).2.2.1 ∈ gW := gW_in 51 (by decide +kernel) rfl
theorem k_52 : Cond.fieldLink RX1 20 RX1 (TX1 9).2.1 (TX1 9).2.2.1 ∈ gW := gW_in 52 (by decide +kernel) rfl
theorem k_53 : Cond.fieldLink RX5 158 RX1 (TX1 9).2.1 (TX1 9).2.2.1 ∈ gW := gW_in 53 (by decide +kernel) rfl
theorem k_54 : Cond.fieldLink RX1 23 RX1 (TX1 10).2.1 (TX1 10).2.2.1 ∈ gW := gW_in 54 (by decide +kernel) rfl
theorem k_55 : Cond.fieldLink RX5 122 RX1 (TX1 10).2.1 (TX1 10).2.2.1 ∈ gW := gW_in 55 (by decide +kernel) rfl
theorem k_79 : Cond.arrayClass .int ∈ gW := gW_in 79 (by decide +kernel) rfl
theorem k_80 : Cond.classLink RX5 19 RX4 ∈ gW := gW_in 80 (by decide +kernel) rfl
theorem k_81 : Cond.instantiable RX4 7 ∈ gW := gW_in 81 (by decide +kernel) rfl
theorem k_83 : Cond.instanceMethod yX4_init ∈ gW := gW_in 83 (by decide +kernel) rfl
theorem k_84 : Cond.code yX4_init cX4_init 1 none ∈ gW := gW_in 84 (by decide +kernel) rfl
theorem k_85 : Cond.methodLink RX4 3 objectInit ∈ gW := gW_in 85 (by decide +kernel) rfl
theorem k_86 : Cond.fieldLink RX4 25 RX4 (TX4 0).2.1 (TX4 0).2.2.1 ∈ gW := gW_in 86 (by decide +kernel) rfl
theorem k_87 : Cond.fieldLink RX5 133 RX4 (TX4 0).2.1 (TX4 0).2.2.1 ∈ gW := gW_in 87 (by decide +kernel) rfl
theorem k_88 : Cond.fieldLink RX4 37 RX4 (TX4 1).2.1 (TX4 1).2.2.1 ∈ gW := gW_in 88 (by decide +kernel) rfl
theorem k_89 : Cond.fieldLink RX5 136 RX4 (TX4 1).2.1 (TX4 1).2.2.1 ∈ gW := gW_in 89 (by decide +kernel) rfl
theorem k_90 : Cond.fieldLink RX4 43 RX4 (TX4 2).2.1 (TX4 2).2.2.1 ∈ gW := gW_in 90 (by decide +kernel) rfl
theorem k_91 : Cond.fieldLink RX5 139 RX4 (TX4 2).2.1 (TX4 2).2.2.1 ∈ gW := gW_in 91 (by decide +kernel) rfl
theorem k_92 : Cond.fieldLink RX4 63 RX4 (TX4 3).2.1 (TX4 3).2.2.1 ∈ gW := gW_in 92 (by decide +kernel) rfl
theorem k_93 : Cond.fieldLink RX5 142 RX4 (TX4 3).2.1 (TX4 3).2.2.1 ∈ gW := gW_in 93 (by decide +kernel) rfl
theorem k_94 : Cond.fieldLink RX1 102 RX4 (TX4 3).2.1 (TX4 3).2.2.1 ∈ gW := gW_in 94 (by decide +kernel) rfl
theorem k_95 : Cond.fieldLink RX4 46 RX4 (TX4 4).2.1 (TX4 4).2.2.1 ∈ gW := gW_in 95 (by decide +kernel) rfl
theorem k_96 : Cond.fieldLink RX5 145 RX4 (TX4 4).2.1 (TX4 4).2.2.1 ∈ gW := gW_in 96 (by decide +kernel) rfl
theorem k_97 : Cond.fieldLink RX1 108 RX4 (TX4 4).2.1 (TX4 4).2.2.1 ∈ gW := gW_in 97 (by decide +kernel) rfl
theorem k_98 : Cond.fieldLink RX4 49 RX4 (TX4 5).2.1 (TX4 5).2.2.1 ∈ gW := gW_in 98 (by decide +kernel) rfl
theorem k_99 : Cond.fieldLink RX5 148 RX4 (TX4 5).2.1 (TX4 5).2.2.1 ∈ gW := gW_in 99 (by decide +kernel) rfl
theorem k_100 : Cond.fieldLink RX1 111 RX4 (TX4 5).2.1 (TX4 5).2.2.1 ∈ gW := gW_in 100 (by decide +kernel) rfl
theorem k_101 : Cond.fieldLink RX4 70 RX4 (TX4 6).2.1 (TX4 6).2.2.1 ∈ gW := gW_in 101 (by decide +kernel) rfl
theorem k_102 : Cond.fieldLink RX5 151 RX4 (TX4 6).2.1 (TX4 6).2.2.1 ∈ gW := gW_in 102 (by decide +kernel) rfl
theorem k_103 : Cond.fieldLink RX1 105 RX4 (TX4 6).2.1 (TX4 6).2.2.1 ∈ gW := gW_in 103 (by decide +kernel) rfl
theorem k_119 : Cond.classLink RX5 26 RX0 ∈ gW := gW_in 119 (by decide +kernel) rfl
theorem k_120 : Cond.instantiable RX0 3 ∈ gW := gW_in 120 (by decide +kernel) rfl
theorem k_122 : Cond.instanceMethod yX0_init ∈ gW := gW_in 122 (by decide +kernel) rfl
theorem k_123 : Cond.code yX0_init cX0_init 1 none ∈ gW := gW_in 123 (by decide +kernel) rfl
theorem k_124 : Cond.methodLink RX0 3 objectInit ∈ gW := gW_in 124 (by decide +kernel) rfl
theorem k_125 : Cond.classLink RX0 9 RX1 ∈ gW := gW_in 125 (by decide +kernel) rfl
theorem k_128 : Cond.fieldLink RX0 12 RX0 (TX0 0).2.1 (TX0 0).2.2.1 ∈ gW := gW_in 128 (by decide +kernel) rfl
theorem k_129 : Cond.fieldLink RX0 30 RX0 (TX0 1).2.1 (TX0 1).2.2.1 ∈ gW := gW_in 129 (by decide +kernel) rfl
theorem k_130 : Cond.fieldLink RX0 18 RX0 (TX0 2).2.1 (TX0 2).2.2.1 ∈ gW := gW_in 130 (by decide +kernel) rfl
theorem k_131 : Cond.fieldLink RX5 179 RX0 (TX0 2).2.1 (TX0 2).2.2.1 ∈ gW := gW_in 131 (by decide +kernel) rfl
theorem k_139 : Cond.classLink RX5 33 RX3 ∈ gW := gW_in 139 (by decide +kernel) rfl
theorem k_140 : Cond.instantiable RX3 6 ∈ gW := gW_in 140 (by decide +kernel) rfl
theorem k_142 : Cond.instanceMethod yX3_init ∈ gW := gW_in 142 (by decide +kernel) rfl
theorem k_143 : Cond.code yX3_init cX3_init 1 none ∈ gW := gW_in 143 (by decide +kernel) rfl
theorem k_144 : Cond.methodLink RX3 3 objectInit ∈ gW := gW_in 144 (by decide +kernel) rfl
theorem k_145 : Cond.fieldLink RX3 9 RX3 (TX3 0).2.1 (TX3 0).2.2.1 ∈ gW := gW_in 145 (by decide +kernel) rfl
theorem k_146 : Cond.fieldLink RX5 182 RX3 (TX3 1).2.1 (TX3 1).2.2.1 ∈ gW := gW_in 146 (by decide +kernel) rfl
theorem k_160 : Cond.arrayClass .char ∈ gW := gW_in 160 (by decide +kernel) rfl
theorem k_161 : Cond.classLink RX5 40 RX2 ∈ gW := gW_in 161 (by decide +kernel) rfl
theorem k_162 : Cond.instantiable RX2 4 ∈ gW := gW_in 162 (by decide +kernel) rfl
theorem k_164 : Cond.instanceMethod yX2_init ∈ gW := gW_in 164 (by decide +kernel) rfl
theorem k_165 : Cond.code yX2_init cX2_init 1 none ∈ gW := gW_in 165 (by decide +kernel) rfl
theorem k_166 : Cond.methodLink RX2 3 objectInit ∈ gW := gW_in 166 (by decide +kernel) rfl
theorem k_176 : Cond.fieldLink RX5 10 RX5 (TX5 0).2.1 (TX5 0).2.2.1 ∈ gW := gW_in 176 (by decide +kernel) rfl
theorem k_177 : Cond.fieldLink RX5 16 RX5 (TX5 1).2.1 (TX5 1).2.2.1 ∈ gW := gW_in 177 (by decide +kernel) rfl
theorem k_178 : Cond.fieldLink RX5 22 RX5 (TX5 2).2.1 (TX5 2).2.2.1 ∈ gW := gW_in 178 (by decide +kernel) rfl
theorem k_179 : Cond.fieldLink RX5 29 RX5 (TX5 3).2.1 (TX5 3).2.2.1 ∈ gW := gW_in 179 (by decide +kernel) rfl
theorem k_180 : Cond.fieldLink RX5 36 RX5 (TX5 4).2.1 (TX5 4).2.2.1 ∈ gW := gW_in 180 (by decide +kernel) rfl
theorem k_181 : Cond.fieldLink RX5 43 RX5 (TX5 5).2.1 (TX5 5).2.2.1 ∈ gW := gW_in 181 (by decide +kernel) rfl
theorem k_195 : Cond.methodLink RL 79 yX5_now ∈ gW := gW_in 195 (by decide +kernel) rfl
theorem k_196 : Cond.instanceMethod yX5_now ∈ gW := gW_in 196 (by decide +kernel) rfl
theorem k_197 : Cond.selects yX5_now.cls yX5_now yX5_now ∈ gW := gW_in 197 (by decide +kernel) rfl
theorem k_198 : Cond.code yX5_now cX5_now 2 (some .int) ∈ gW := gW_in 198 (by decide +kernel) rfl
theorem k_199 : Cond.methodLink RX5 79 yX5_seaLevel ∈ gW := gW_in 199 (by decide +kernel) rfl
theorem k_200 : Cond.static yX5_seaLevel ∈ gW := gW_in 200 (by decide +kernel) rfl
theorem k_201 : Cond.code yX5_seaLevel cX5_seaLevel 3 (some .int) ∈ gW := gW_in 201 (by decide +kernel) rfl
theorem k_202 : Cond.methodLink RX5 112 yX5_tideHeight ∈ gW := gW_in 202 (by decide +kernel) rfl
theorem k_203 : Cond.static yX5_tideHeight ∈ gW := gW_in 203 (by decide +kernel) rfl
theorem k_204 : Cond.code yX5_tideHeight cX5_tideHeight 2 (some .int) ∈ gW := gW_in 204 (by decide +kernel) rfl
theorem k_205 : Cond.methodLink RX5 86 yX1_level ∈ gW := gW_in 205 (by decide +kernel) rfl
theorem k_206 : Cond.instanceMethod yX1_level ∈ gW := gW_in 206 (by decide +kernel) rfl
theorem k_207 : Cond.selects yX1_level.cls yX1_level yX1_level ∈ gW := gW_in 207 (by decide +kernel) rfl
theorem k_208 : Cond.code yX1_level cX1_level 1 (some .int) ∈ gW := gW_in 208 (by decide +kernel) rfl
theorem k_209 : Cond.methodLink RX5 90 yX1_head ∈ gW := gW_in 209 (by decide +kernel) rfl
theorem k_210 : Cond.instanceMethod yX1_head ∈ gW := gW_in 210 (by decide +kernel) rfl
theorem k_211 : Cond.selects yX1_head.cls yX1_head yX1_head ∈ gW := gW_in 211 (by decide +kernel) rfl
theorem k_212 : Cond.code yX1_head cX1_head 1 (some .int) ∈ gW := gW_in 212 (by decide +kernel) rfl
theorem k_214 : Cond.methodLink RX1 57 yX1_level ∈ gW := gW_in 214 (by decide +kernel) rfl
theorem k_215 : Cond.methodLink RX5 108 yX1_isBirdHour ∈ gW := gW_in 215 (by decide +kernel) rfl
theorem k_216 : Cond.instanceMethod yX1_isBirdHour ∈ gW := gW_in 216 (by decide +kernel) rfl
theorem k_217 : Cond.selects yX1_isBirdHour.cls yX1_isBirdHour yX1_isBirdHour ∈ gW := gW_in 217 (by decide +kernel) rfl
theorem k_218 : Cond.code yX1_isBirdHour cX1_isBirdHour 2 (some .boolean) ∈ gW := gW_in 218 (by decide +kernel) rfl
theorem k_219 : Cond.constant RX5 78 (-1000000001) ∈ gW := gW_in 219 (by decide +kernel) rfl
theorem k_220 : Cond.methodLink RL 68 yX5_count ∈ gW := gW_in 220 (by decide +kernel) rfl
theorem k_221 : Cond.instanceMethod yX5_count ∈ gW := gW_in 221 (by decide +kernel) rfl
theorem k_222 : Cond.selects yX5_count.cls yX5_count yX5_count ∈ gW := gW_in 222 (by decide +kernel) rfl
theorem k_223 : Cond.code yX5_count cX5_count 2 (some .int) ∈ gW := gW_in 223 (by decide +kernel) rfl
theorem k_224 : Cond.methodLink RX5 118 yX1_lastDay ∈ gW := gW_in 224 (by decide +kernel) rfl
theorem k_225 : Cond.instanceMethod yX1_lastDay ∈ gW := gW_in 225 (by decide +kernel) rfl
theorem k_226 : Cond.selects yX1_lastDay.cls yX1_lastDay yX1_lastDay ∈ gW := gW_in 226 (by decide +kernel) rfl
theorem k_227 : Cond.code yX1_lastDay cX1_lastDay 1 (some .int) ∈ gW := gW_in 227 (by decide +kernel) rfl
theorem k_228 : Cond.methodLink RX1 61 yJ9_floorDiv_7cf53 ∈ gW := gW_in 228 (by decide +kernel) rfl
theorem k_229 : Cond.static yJ9_floorDiv_7cf53 ∈ gW := gW_in 229 (by decide +kernel) rfl
theorem k_230 : Cond.code yJ9_floorDiv_7cf53 cJ9_floorDiv_7cf53 3 (some .int) ∈ gW := gW_in 230 (by decide +kernel) rfl
theorem k_231 : Cond.methodLink RX5 115 yX1_firstDay ∈ gW := gW_in 231 (by decide +kernel) rfl
theorem k_232 : Cond.instanceMethod yX1_firstDay ∈ gW := gW_in 232 (by decide +kernel) rfl
theorem k_233 : Cond.selects yX1_firstDay.cls yX1_firstDay yX1_firstDay ∈ gW := gW_in 233 (by decide +kernel) rfl
theorem k_234 : Cond.code yX1_firstDay cX1_firstDay 1 (some .int) ∈ gW := gW_in 234 (by decide +kernel) rfl
theorem k_235 : Cond.methodLink RX1 67 yX1_lastDay ∈ gW := gW_in 235 (by decide +kernel) rfl
theorem k_236 : Cond.methodLink RX1 70 Lib.Math.max.name ∈ gW := gW_in 236 (by decide +kernel) rfl
theorem k_237 : Cond.static Lib.Math.max.name ∈ gW := gW_in 237 (by decide +kernel) rfl
theorem k_238 : Cond.code Lib.Math.max.name Lib.Math.max.code 2 (some .int) ∈ gW := gW_in 238 (by decide +kernel) rfl
theorem k_239 : Cond.methodLink RL 87 yL_cell ∈ gW := gW_in 239 (by decide +kernel) rfl
theorem k_240 : Cond.static yL_cell ∈ gW := gW_in 240 (by decide +kernel) rfl
theorem k_241 : Cond.code yL_cell cL_cell 2 (some .int) ∈ gW := gW_in 241 (by decide +kernel) rfl
theorem k_242 : Cond.constant RL 7 40503 ∈ gW := gW_in 242 (by decide +kernel) rfl
theorem k_243 : Cond.methodLink RL 32 yL_low ∈ gW := gW_in 243 (by decide +kernel) rfl
theorem k_244 : Cond.static yL_low ∈ gW := gW_in 244 (by decide +kernel) rfl
theorem k_245 : Cond.code yL_low cL_low 2 (some .int) ∈ gW := gW_in 245 (by decide +kernel) rfl
theorem k_246 : Cond.constant RL 8 2147483647 ∈ gW := gW_in 246 (by decide +kernel) rfl
theorem k_247 : Cond.methodLink RL 91 yL_acts ∈ gW := gW_in 247 (by decide +kernel) rfl
theorem k_248 : Cond.static yL_acts ∈ gW := gW_in 248 (by decide +kernel) rfl
theorem k_249 : Cond.code yL_acts cL_acts 9 (some .boolean) ∈ gW := gW_in 249 (by decide +kernel) rfl
theorem k_250 : Cond.constant RL 31 10000000 ∈ gW := gW_in 250 (by decide +kernel) rfl
theorem k_251 : Cond.methodLink RL 36 yX5_gates ∈ gW := gW_in 251 (by decide +kernel) rfl
theorem k_252 : Cond.instanceMethod yX5_gates ∈ gW := gW_in 252 (by decide +kernel) rfl
theorem k_253 : Cond.selects yX5_gates.cls yX5_gates yX5_gates ∈ gW := gW_in 253 (by decide +kernel) rfl
theorem k_254 : Cond.code yX5_gates cX5_gates 2 (some .int) ∈ gW := gW_in 254 (by decide +kernel) rfl
theorem k_255 : Cond.methodLink RX5 47 yX1_copyFrom ∈ gW := gW_in 255 (by decide +kernel) rfl
theorem k_256 : Cond.instanceMethod yX1_copyFrom ∈ gW := gW_in 256 (by decide +kernel) rfl
theorem k_257 : Cond.selects yX1_copyFrom.cls yX1_copyFrom yX1_copyFrom ∈ gW := gW_in 257 (by decide +kernel) rfl
theorem k_258 : Cond.code yX1_copyFrom cX1_copyFrom 2 none ∈ gW := gW_in 258 (by decide +kernel) rfl
theorem k_259 : Cond.methodLink RX1 47 arraycopyName ∈ gW := gW_in 259 (by decide +kernel) rfl
theorem k_260 : Cond.static arraycopyName ∈ gW := gW_in 260 (by decide +kernel) rfl
theorem k_261 : Cond.native arraycopyName ∈ gW := gW_in 261 (by decide +kernel) rfl
theorem k_262 : Cond.methodLink RX5 51 yX1_openGates ∈ gW := gW_in 262 (by decide +kernel) rfl
theorem k_263 : Cond.instanceMethod yX1_openGates ∈ gW := gW_in 263 (by decide +kernel) rfl
theorem k_264 : Cond.selects yX1_openGates.cls yX1_openGates yX1_openGates ∈ gW := gW_in 264 (by decide +kernel) rfl
theorem k_265 : Cond.code yX1_openGates cX1_openGates 3 (some .int) ∈ gW := gW_in 265 (by decide +kernel) rfl
theorem k_266 : Cond.constant RX1 73 (-1000000001) ∈ gW := gW_in 266 (by decide +kernel) rfl
theorem k_267 : Cond.methodLink RX5 55 yX5_settle ∈ gW := gW_in 267 (by decide +kernel) rfl
theorem k_269 : Cond.instanceMethod yX5_settle ∈ gW := gW_in 269 (by decide +kernel) rfl
theorem k_270 : Cond.code yX5_settle cX5_settle 2 (some .int) ∈ gW := gW_in 270 (by decide +kernel) rfl
theorem k_271 : Cond.methodLink RX5 210 yX5_isError ∈ gW := gW_in 271 (by decide +kernel) rfl
theorem k_272 : Cond.static yX5_isError ∈ gW := gW_in 272 (by decide +kernel) rfl
theorem k_273 : Cond.code yX5_isError cX5_isError 1 (some .boolean) ∈ gW := gW_in 273 (by decide +kernel) rfl
theorem k_274 : Cond.methodLink RX5 214 yX0_keep ∈ gW := gW_in 274 (by decide +kernel) rfl
theorem k_275 : Cond.instanceMethod yX0_keep ∈ gW := gW_in 275 (by decide +kernel) rfl
theorem k_276 : Cond.selects yX0_keep.cls yX0_keep yX0_keep ∈ gW := gW_in 276 (by decide +kernel) rfl
theorem k_277 : Cond.code yX0_keep cX0_keep 2 none ∈ gW := gW_in 277 (by decide +kernel) rfl
theorem k_278 : Cond.methodLink RX0 22 yX0_rowOf ∈ gW := gW_in 278 (by decide +kernel) rfl
theorem k_280 : Cond.instanceMethod yX0_rowOf ∈ gW := gW_in 280 (by decide +kernel) rfl
theorem k_281 : Cond.code yX0_rowOf cX0_rowOf 2 (some .int) ∈ gW := gW_in 281 (by decide +kernel) rfl
theorem k_282 : Cond.methodLink RX0 33 yJ9_floorMod_7cf53 ∈ gW := gW_in 282 (by decide +kernel) rfl
theorem k_283 : Cond.static yJ9_floorMod_7cf53 ∈ gW := gW_in 283 (by decide +kernel) rfl
theorem k_284 : Cond.code yJ9_floorMod_7cf53 cJ9_floorMod_7cf53 3 (some .int) ∈ gW := gW_in 284 (by decide +kernel) rfl
theorem k_285 : Cond.methodLink RX0 26 yX1_copyFrom ∈ gW := gW_in 285 (by decide +kernel) rfl
theorem k_286 : Cond.methodLink RL 41 yX5_turbines ∈ gW := gW_in 286 (by decide +kernel) rfl
theorem k_287 : Cond.instanceMethod yX5_turbines ∈ gW := gW_in 287 (by decide +kernel) rfl
theorem k_288 : Cond.selects yX5_turbines.cls yX5_turbines yX5_turbines ∈ gW := gW_in 288 (by decide +kernel) rfl
theorem k_289 : Cond.code yX5_turbines cX5_turbines 2 (some .int) ∈ gW := gW_in 289 (by decide +kernel) rfl
theorem k_290 : Cond.methodLink RX5 58 yX1_openTurbines ∈ gW := gW_in 290 (by decide +kernel) rfl
theorem k_291 : Cond.instanceMethod yX1_openTurbines ∈ gW := gW_in 291 (by decide +kernel) rfl
theorem k_292 : Cond.selects yX1_openTurbines.cls yX1_openTurbines yX1_openTurbines ∈ gW := gW_in 292 (by decide +kernel) rfl
theorem k_293 : Cond.code yX1_openTurbines cX1_openTurbines 3 (some .int) ∈ gW := gW_in 293 (by decide +kernel) rfl
theorem k_294 : Cond.methodLink RL 44 yX5_pump ∈ gW := gW_in 294 (by decide +kernel) rfl
theorem k_295 : Cond.instanceMethod yX5_pump ∈ gW := gW_in 295 (by decide +kernel) rfl
theorem k_296 : Cond.selects yX5_pump.cls yX5_pump yX5_pump ∈ gW := gW_in 296 (by decide +kernel) rfl
theorem k_297 : Cond.code yX5_pump cX5_pump 2 (some .int) ∈ gW := gW_in 297 (by decide +kernel) rfl
theorem k_298 : Cond.methodLink RX5 61 yX1_setPump ∈ gW := gW_in 298 (by decide +kernel) rfl
theorem k_299 : Cond.instanceMethod yX1_setPump ∈ gW := gW_in 299 (by decide +kernel) rfl
theorem k_300 : Cond.selects yX1_setPump.cls yX1_setPump yX1_setPump ∈ gW := gW_in 300 (by decide +kernel) rfl
theorem k_301 : Cond.code yX1_setPump cX1_setPump 3 (some .int) ∈ gW := gW_in 301 (by decide +kernel) rfl
theorem k_302 : Cond.methodLink RL 47 yX5_birds ∈ gW := gW_in 302 (by decide +kernel) rfl
theorem k_303 : Cond.instanceMethod yX5_birds ∈ gW := gW_in 303 (by decide +kernel) rfl
theorem k_304 : Cond.selects yX5_birds.cls yX5_birds yX5_birds ∈ gW := gW_in 304 (by decide +kernel) rfl
theorem k_305 : Cond.code yX5_birds cX5_birds 3 (some .int) ∈ gW := gW_in 305 (by decide +kernel) rfl
theorem k_306 : Cond.methodLink RX5 64 yX1_setBirds ∈ gW := gW_in 306 (by decide +kernel) rfl
theorem k_307 : Cond.instanceMethod yX1_setBirds ∈ gW := gW_in 307 (by decide +kernel) rfl
theorem k_308 : Cond.selects yX1_setBirds.cls yX1_setBirds yX1_setBirds ∈ gW := gW_in 308 (by decide +kernel) rfl
theorem k_309 : Cond.code yX1_setBirds cX1_setBirds 3 (some .int) ∈ gW := gW_in 309 (by decide +kernel) rfl
theorem k_310 : Cond.methodLink RL 49 yX5_dredge ∈ gW := gW_in 310 (by decide +kernel) rfl
theorem k_311 : Cond.instanceMethod yX5_dredge ∈ gW := gW_in 311 (by decide +kernel) rfl
theorem k_312 : Cond.selects yX5_dredge.cls yX5_dredge yX5_dredge ∈ gW := gW_in 312 (by decide +kernel) rfl
theorem k_313 : Cond.code yX5_dredge cX5_dredge 2 (some .int) ∈ gW := gW_in 313 (by decide +kernel) rfl
theorem k_314 : Cond.methodLink RX5 72 yX1_dredgeSilt ∈ gW := gW_in 314 (by decide +kernel) rfl
theorem k_315 : Cond.instanceMethod yX1_dredgeSilt ∈ gW := gW_in 315 (by decide +kernel) rfl
theorem k_316 : Cond.selects yX1_dredgeSilt.cls yX1_dredgeSilt yX1_dredgeSilt ∈ gW := gW_in 316 (by decide +kernel) rfl
theorem k_317 : Cond.code yX1_dredgeSilt cX1_dredgeSilt 2 (some .int) ∈ gW := gW_in 317 (by decide +kernel) rfl
theorem k_318 : Cond.constant RX1 79 (-1000000002) ∈ gW := gW_in 318 (by decide +kernel) rfl
theorem k_319 : Cond.constant RL 52 (-1000000002) ∈ gW := gW_in 319 (by decide +kernel) rfl
theorem k_320 : Cond.methodLink RL 53 yX5_set ∈ gW := gW_in 320 (by decide +kernel) rfl
theorem k_321 : Cond.instanceMethod yX5_set ∈ gW := gW_in 321 (by decide +kernel) rfl
theorem k_322 : Cond.selects yX5_set.cls yX5_set yX5_set ∈ gW := gW_in 322 (by decide +kernel) rfl
theorem k_323 : Cond.code yX5_set cX5_set 3 (some .int) ∈ gW := gW_in 323 (by decide +kernel) rfl
theorem k_324 : Cond.methodLink RX5 75 yX1_changeSetting ∈ gW := gW_in 324 (by decide +kernel) rfl
theorem k_325 : Cond.instanceMethod yX1_changeSetting ∈ gW := gW_in 325 (by decide +kernel) rfl
theorem k_326 : Cond.selects yX1_changeSetting.cls yX1_changeSetting yX1_changeSetting ∈ gW := gW_in 326 (by decide +kernel) rfl
theorem k_327 : Cond.code yX1_changeSetting cX1_changeSetting 4 (some .int) ∈ gW := gW_in 327 (by decide +kernel) rfl
theorem k_332 : Cond.methodLink RL 56 yX5_run ∈ gW := gW_in 332 (by decide +kernel) rfl
theorem k_333 : Cond.instanceMethod yX5_run ∈ gW := gW_in 333 (by decide +kernel) rfl
theorem k_334 : Cond.selects yX5_run.cls yX5_run yX5_run ∈ gW := gW_in 334 (by decide +kernel) rfl
theorem k_335 : Cond.code yX5_run cX5_run 2 (some .int) ∈ gW := gW_in 335 (by decide +kernel) rfl
theorem k_336 : Cond.methodLink RX5 68 yX1_runTicks ∈ gW := gW_in 336 (by decide +kernel) rfl
theorem k_337 : Cond.instanceMethod yX1_runTicks ∈ gW := gW_in 337 (by decide +kernel) rfl
theorem k_338 : Cond.selects yX1_runTicks.cls yX1_runTicks yX1_runTicks ∈ gW := gW_in 338 (by decide +kernel) rfl
theorem k_339 : Cond.code yX1_runTicks cX1_runTicks 3 (some .int) ∈ gW := gW_in 339 (by decide +kernel) rfl
theorem k_340 : Cond.constant RX1 74 (-1000000003) ∈ gW := gW_in 340 (by decide +kernel) rfl
theorem k_341 : Cond.methodLink RX1 75 yX1_letPass ∈ gW := gW_in 341 (by decide +kernel) rfl
theorem k_342 : Cond.instanceMethod yX1_letPass ∈ gW := gW_in 342 (by decide +kernel) rfl
theorem k_343 : Cond.selects yX1_letPass.cls yX1_letPass yX1_letPass ∈ gW := gW_in 343 (by decide +kernel) rfl
theorem k_344 : Cond.code yX1_letPass cX1_letPass 4 none ∈ gW := gW_in 344 (by decide +kernel) rfl
theorem k_345 : Cond.methodLink RX1 86 yX1_head ∈ gW := gW_in 345 (by decide +kernel) rfl
theorem k_346 : Cond.methodLink RX1 89 yX4_foresee ∈ gW := gW_in 346 (by decide +kernel) rfl
theorem k_347 : Cond.instanceMethod yX4_foresee ∈ gW := gW_in 347 (by decide +kernel) rfl
theorem k_348 : Cond.selects yX4_foresee.cls yX4_foresee yX4_foresee ∈ gW := gW_in 348 (by decide +kernel) rfl
theorem k_349 : Cond.code yX4_foresee cX4_foresee 6 none ∈ gW := gW_in 349 (by decide +kernel) rfl
theorem k_350 : Cond.methodLink RX4 9 Lib.Math.abs.name ∈ gW := gW_in 350 (by decide +kernel) rfl
theorem k_351 : Cond.static Lib.Math.abs.name ∈ gW := gW_in 351 (by decide +kernel) rfl
theorem k_352 : Cond.code Lib.Math.abs.name Lib.Math.abs.code 1 (some .int) ∈ gW := gW_in 352 (by decide +kernel) rfl
theorem k_353 : Cond.methodLink RX4 15 yX1_isBirdHour ∈ gW := gW_in 353 (by decide +kernel) rfl
theorem k_354 : Cond.constant RX4 55 80000 ∈ gW := gW_in 354 (by decide +kernel) rfl
theorem k_355 : Cond.methodLink RX4 56 Lib.Math.min.name ∈ gW := gW_in 355 (by decide +kernel) rfl
theorem k_356 : Cond.static Lib.Math.min.name ∈ gW := gW_in 356 (by decide +kernel) rfl
theorem k_357 : Cond.code Lib.Math.min.name Lib.Math.min.code 2 (some .int) ∈ gW := gW_in 357 (by decide +kernel) rfl
theorem k_358 : Cond.methodLink RX4 60 Lib.Math.max.name ∈ gW := gW_in 358 (by decide +kernel) rfl
theorem k_359 : Cond.methodLink RX4 66 yX4_siltOf ∈ gW := gW_in 359 (by decide +kernel) rfl
theorem k_361 : Cond.instanceMethod yX4_siltOf ∈ gW := gW_in 361 (by decide +kernel) rfl
theorem k_362 : Cond.code yX4_siltOf cX4_siltOf 2 (some .int) ∈ gW := gW_in 362 (by decide +kernel) rfl
theorem k_363 : Cond.methodLink RX1 95 yX1_take ∈ gW := gW_in 363 (by decide +kernel) rfl
theorem k_365 : Cond.instanceMethod yX1_take ∈ gW := gW_in 365 (by decide +kernel) rfl
theorem k_366 : Cond.code yX1_take cX1_take 2 none ∈ gW := gW_in 366 (by decide +kernel) rfl
theorem k_367 : Cond.methodLink RX1 99 yX1_enterRecord ∈ gW := gW_in 367 (by decide +kernel) rfl
theorem k_369 : Cond.instanceMethod yX1_enterRecord ∈ gW := gW_in 369 (by decide +kernel) rfl
theorem k_370 : Cond.code yX1_enterRecord cX1_enterRecord 4 none ∈ gW := gW_in 370 (by decide +kernel) rfl
theorem k_372 : Cond.static yX5_recordStart ∈ gW := gW_in 372 (by decide +kernel) rfl
theorem k_373 : Cond.code yX5_recordStart cX5_recordStart 1 (some .int) ∈ gW := gW_in 373 (by decide +kernel) rfl
theorem k_374 : Cond.methodLink RX5 220 yJ9_floorMod_7cf53 ∈ gW := gW_in 374 (by decide +kernel) rfl
theorem k_375 : Cond.methodLink RX1 117 yX1_beginRecord ∈ gW := gW_in 375 (by decide +kernel) rfl
theorem k_377 : Cond.instanceMethod yX1_beginRecord ∈ gW := gW_in 377 (by decide +kernel) rfl
theorem k_378 : Cond.code yX1_beginRecord cX1_beginRecord 3 none ∈ gW := gW_in 378 (by decide +kernel) rfl
theorem k_379 : Cond.methodLink RX1 121 Lib.Math.min.name ∈ gW := gW_in 379 (by decide +kernel) rfl
theorem k_380 : Cond.constant RL 59 (-1000000003) ∈ gW := gW_in 380 (by decide +kernel) rfl
theorem k_381 : Cond.methodLink RL 60 yL_run ∈ gW := gW_in 381 (by decide +kernel) rfl
theorem k_382 : Cond.static yL_run ∈ gW := gW_in 382 (by decide +kernel) rfl
theorem k_383 : Cond.code yL_run cL_run 9 none ∈ gW := gW_in 383 (by decide +kernel) rfl
theorem k_384 : Cond.methodLink RL 27 yL_weigh ∈ gW := gW_in 384 (by decide +kernel) rfl
theorem k_385 : Cond.static yL_weigh ∈ gW := gW_in 385 (by decide +kernel) rfl
theorem k_386 : Cond.code yL_weigh cL_weigh 6 none ∈ gW := gW_in 386 (by decide +kernel) rfl
theorem k_387 : Cond.methodLink RL 9 yL_sea ∈ gW := gW_in 387 (by decide +kernel) rfl
theorem k_388 : Cond.static yL_sea ∈ gW := gW_in 388 (by decide +kernel) rfl
theorem k_389 : Cond.code yL_sea cL_sea 4 (some .int) ∈ gW := gW_in 389 (by decide +kernel) rfl
theorem k_390 : Cond.methodLink RL 15 yL_level ∈ gW := gW_in 390 (by decide +kernel) rfl
theorem k_391 : Cond.static yL_level ∈ gW := gW_in 391 (by decide +kernel) rfl
theorem k_392 : Cond.code yL_level cL_level 1 (some .int) ∈ gW := gW_in 392 (by decide +kernel) rfl
theorem k_393 : Cond.methodLink RL 19 yL_birds ∈ gW := gW_in 393 (by decide +kernel) rfl
theorem k_394 : Cond.static yL_birds ∈ gW := gW_in 394 (by decide +kernel) rfl
theorem k_395 : Cond.code yL_birds cL_birds 1 (some .boolean) ∈ gW := gW_in 395 (by decide +kernel) rfl
theorem k_396 : Cond.methodLink RL 23 yL_size ∈ gW := gW_in 396 (by decide +kernel) rfl
theorem k_397 : Cond.static yL_size ∈ gW := gW_in 397 (by decide +kernel) rfl
theorem k_398 : Cond.code yL_size cL_size 1 (some .int) ∈ gW := gW_in 398 (by decide +kernel) rfl
theorem k_399 : Cond.constant RL 26 80000 ∈ gW := gW_in 399 (by decide +kernel) rfl
theorem k_400 : Cond.methodLink RL 95 yL_isSo ∈ gW := gW_in 400 (by decide +kernel) rfl
theorem k_401 : Cond.static yL_isSo ∈ gW := gW_in 401 (by decide +kernel) rfl
theorem k_402 : Cond.code yL_isSo cL_isSo 7 (some .boolean) ∈ gW := gW_in 402 (by decide +kernel) rfl
theorem k_403 : Cond.methodLink RL 75 yL_areRecords ∈ gW := gW_in 403 (by decide +kernel) rfl
theorem k_404 : Cond.static yL_areRecords ∈ gW := gW_in 404 (by decide +kernel) rfl
theorem k_405 : Cond.code yL_areRecords cL_areRecords 12 (some .boolean) ∈ gW := gW_in 405 (by decide +kernel) rfl
theorem k_406 : Cond.constant RL 63 (-1000000004) ∈ gW := gW_in 406 (by decide +kernel) rfl
theorem k_407 : Cond.methodLink RL 64 yX5_record ∈ gW := gW_in 407 (by decide +kernel) rfl
theorem k_408 : Cond.instanceMethod yX5_record ∈ gW := gW_in 408 (by decide +kernel) rfl
theorem k_409 : Cond.selects yX5_record.cls yX5_record yX5_record ∈ gW := gW_in 409 (by decide +kernel) rfl
theorem k_410 : Cond.code yX5_record cX5_record 3 (some .int) ∈ gW := gW_in 410 (by decide +kernel) rfl
theorem k_411 : Cond.constant RX5 121 (-1000000004) ∈ gW := gW_in 411 (by decide +kernel) rfl
theorem k_412 : Cond.methodLink RX5 126 yX5_recordStart ∈ gW := gW_in 412 (by decide +kernel) rfl
theorem k_413 : Cond.constant RL 67 (-1000000001) ∈ gW := gW_in 413 (by decide +kernel) rfl
theorem k_414 : Cond.methodLink RL 71 yX5_bestDay ∈ gW := gW_in 414 (by decide +kernel) rfl
theorem k_415 : Cond.instanceMethod yX5_bestDay ∈ gW := gW_in 415 (by decide +kernel) rfl
theorem k_416 : Cond.selects yX5_bestDay.cls yX5_bestDay yX5_bestDay ∈ gW := gW_in 416 (by decide +kernel) rfl
theorem k_417 : Cond.code yX5_bestDay cX5_bestDay 6 (some .int) ∈ gW := gW_in 417 (by decide +kernel) rfl
theorem k_418 : Cond.constant RL 82 40000 ∈ gW := gW_in 418 (by decide +kernel) rfl
theorem k_419 : Cond.methodLink RL 83 yX5_next ∈ gW := gW_in 419 (by decide +kernel) rfl
theorem k_420 : Cond.instanceMethod yX5_next ∈ gW := gW_in 420 (by decide +kernel) rfl
theorem k_421 : Cond.selects yX5_next.cls yX5_next yX5_next ∈ gW := gW_in 421 (by decide +kernel) rfl
theorem k_422 : Cond.code yX5_next cX5_next 2 (some .int) ∈ gW := gW_in 422 (by decide +kernel) rfl
theorem k_423 : Cond.methodLink RX5 129 yX4_foresee ∈ gW := gW_in 423 (by decide +kernel) rfl
theorem inX0 : ∀ w ∈ u_ws RX0 TX0 3, w ∈ gW := List.forall_mem_cons.mpr ⟨gW_in 132 (by decide +kernel) rfl, List.forall_mem_cons.mpr ⟨gW_in 134 (by decide +kernel) rfl, List.forall_mem_cons.mpr ⟨gW_in 136 (by decide +kernel) rfl, fun _ h => absurd h List.not_mem_nil⟩⟩⟩
theorem inX1 : ∀ w ∈ u_ws RX1 TX1 11, w ∈ gW := List.forall_mem_cons.mpr ⟨gW_in 56 (by decide +kernel) rfl, List.forall_mem_cons.mpr ⟨gW_in 58 (by decide +kernel) rfl, List.forall_mem_cons.mpr ⟨gW_in 60 (by decide +kernel) rfl, List.forall_mem_cons.mpr ⟨gW_in 62 (by decide +kernel) rfl, List.forall_mem_cons.mpr ⟨gW_in 64 (by decide +kernel) rfl, List.forall_mem_cons.mpr ⟨gW_in 66 (by decide +kernel) rfl, List.forall_mem_cons.mpr ⟨gW_in 68 (by decide +kernel) rfl, List.forall_mem_cons.mpr ⟨gW_in 70 (by decide +kernel) rfl, List.forall_mem_cons.mpr ⟨gW_in 72 (by decide +kernel) rfl, List.forall_mem_cons.mpr ⟨gW_in 74 (by decide +kernel) rfl, List.forall_mem_cons.mpr ⟨gW_in 76 (by decide +kernel) rfl, fun _ h => absurd h List.not_mem_nil⟩⟩⟩⟩⟩⟩⟩⟩⟩⟩⟩
theorem inX2 : ∀ w ∈ u_ws RX2 TX2 4, w ∈ gW := List.forall_mem_cons.mpr ⟨gW_in 167 (by decide +kernel) rfl, List.forall_mem_cons.mpr ⟨gW_in 169 (by decide +kernel) rfl, List.forall_mem_cons.mpr ⟨gW_in 171 (by decide +kernel) rfl, List.forall_mem_cons.mpr ⟨gW_in 173 (by decide +kernel) rfl, fun _ h => absurd h List.not_mem_nil⟩⟩⟩⟩
theorem inX3 : ∀ w ∈ u_ws RX3 TX3 6, w ∈ gW := List.forall_mem_cons.mpr ⟨gW_in 147 (by decide +kernel) rfl, List.forall_mem_cons.mpr ⟨gW_in 149 (by decide +kernel) rfl, List.forall_mem_cons.mpr ⟨gW_in 151 (by decide +kernel) rfl, List.forall_mem_cons.mpr ⟨gW_in 153 (by decide +kernel) rfl, List.forall_mem_cons.mpr ⟨gW_in 155 (by decide +kernel) rfl, List.forall_mem_cons.mpr ⟨gW_in 157 (by decide +kernel) rfl, fun _ h => absurd h List.not_mem_nil⟩⟩⟩⟩⟩⟩
theorem inX4 : ∀ w ∈ u_ws RX4 TX4 7, w ∈ gW := List.forall_mem_cons.mpr ⟨gW_in 104 (by decide +kernel) rfl, List.forall_mem_cons.mpr ⟨gW_in 106 (by decide +kernel) rfl, List.forall_mem_cons.mpr ⟨gW_in 108 (by decide +kernel) rfl, List.forall_mem_cons.mpr ⟨gW_in 110 (by decide +kernel) rfl, List.forall_mem_cons.mpr ⟨gW_in 112 (by decide +kernel) rfl, List.forall_mem_cons.mpr ⟨gW_in 114 (by decide +kernel) rfl, List.forall_mem_cons.mpr ⟨gW_in 116 (by decide +kernel) rfl, fun _ h => absurd h List.not_mem_nil⟩⟩⟩⟩⟩⟩⟩
theorem inX5 : ∀ w ∈ u_ws RX5 TX5 6, w ∈ gW := List.forall_mem_cons.mpr ⟨gW_in 182 (by decide +kernel) rfl, List.forall_mem_cons.mpr ⟨gW_in 184 (by decide +kernel) rfl, List.forall_mem_cons.mpr ⟨gW_in 186 (by decide +kernel) rfl, List.forall_mem_cons.mpr ⟨gW_in 188 (by decide +kernel) rfl, List.forall_mem_cons.mpr ⟨gW_in 190 (by decide +kernel) rfl, List.forall_mem_cons.mpr ⟨gW_in 192 (by decide +kernel) rfl, fun _ h => absurd h List.not_mem_nil⟩⟩⟩⟩⟩⟩
theorem fX0_keep : ag_fV yX0_keep cX0_keep 2 none 1 := ⟨k_277, k_275, k_276, k_10, by decide, by decide, by decide +kernel⟩
theorem fX0_rowOf : ag_fV yX0_rowOf cX0_rowOf 2 (some .int) 1 := ⟨k_281, k_280, k_1, k_10, by decide, by decide, by decide +kernel⟩
theorem fX1_copyFrom : ag_fV yX1_copyFrom cX1_copyFrom 2 none 1 := ⟨k_258, k_256, k_257, k_8, by decide, by decide, by decide +kernel⟩
theorem fX1_level : ag_fV yX1_level cX1_level 1 (some .int) 0 := ⟨k_208, k_206, k_207, k_8, by decide, by decide, by decide +kernel⟩
theorem fX1_head : ag_fV yX1_head cX1_head 1 (some .int) 0 := ⟨k_212, k_210, k_211, k_8, by decide, by decide, by decide +kernel⟩
theorem fX1_isBirdHour : ag_fV yX1_isBirdHour cX1_isBirdHour 2 (some .boolean) 0 := ⟨k_218, k_216, k_217, k_8, by decide, by decide, by decide +kernel⟩
theorem fX1_lastDay : ag_fV yX1_lastDay cX1_lastDay 1 (some .int) 0 := ⟨k_227, k_225, k_226, k_8, by decide, by decide, by decide +kernel⟩
theorem fX1_firstDay : ag_fV yX1_firstDay cX1_firstDay 1 (some .int) 0 := ⟨k_234, k_232, k_233, k_8, by decide, by decide, by decide +kernel⟩
theorem fX1_openGates : ag_fV yX1_openGates cX1_openGates 3 (some .int) 1 := ⟨k_265, k_263, k_264, k_8, by decide, by decide, by decide +kernel⟩
theorem fX1_openTurbines : ag_fV yX1_openTurbines cX1_openTurbines 3 (some .int) 1 := ⟨k_293, k_291, k_292, k_8, by decide, by decide, by decide +kernel⟩
theorem fX1_setPump : ag_fV yX1_setPump cX1_setPump 3 (some .int) 1 := ⟨k_301, k_299, k_300, k_8, by decide, by decide, by decide +kernel⟩
theorem fX1_setBirds : ag_fV yX1_setBirds cX1_setBirds 3 (some .int) 2 := ⟨k_309, k_307, k_308, k_8, by decide, by decide, by decide +kernel⟩
theorem fX1_runTicks : ag_fV yX1_runTicks cX1_runTicks 3 (some .int) 2 := ⟨k_339, k_337, k_338, k_8, by decide, by decide, by decide +kernel⟩
theorem fX1_dredgeSilt : ag_fV yX1_dredgeSilt cX1_dredgeSilt 2 (some .int) 1 := ⟨k_317, k_315, k_316, k_8, by decide, by decide, by decide +kernel⟩
theorem fX1_changeSetting : ag_fV yX1_changeSetting cX1_changeSetting 4 (some .int) 2 := ⟨k_327, k_325, k_326, k_8, by decide, by decide, by decide +kernel⟩
theorem fX1_letPass : ag_fV yX1_letPass cX1_letPass 4 none 2 := ⟨k_344, k_342, k_343, k_8, by decide, by decide, by decide +kernel⟩
theorem fX1_take : ag_fV yX1_take cX1_take 2 none 1 := ⟨k_366, k_365, k_3, k_8, by decide, by decide, by decide +kernel⟩
theorem fX1_enterRecord : ag_fV yX1_enterRecord cX1_enterRecord 4 none 1 := ⟨k_370, k_369, k_4, k_8, by decide, by decide, by decide +kernel⟩
theorem fX1_beginRecord : ag_fV yX1_beginRecord cX1_beginRecord 3 none 2 := ⟨k_378, k_377, k_5, k_8, by decide, by decide, by decide +kernel⟩
theorem fX4_foresee : ag_fV yX4_foresee cX4_foresee 6 none 2 := ⟨k_349, k_347, k_348, k_9, by decide, by decide, by decide +kernel⟩
theorem fX4_siltOf : ag_fV yX4_siltOf cX4_siltOf 2 (some .int) 1 := ⟨k_362, k_361, k_2, k_9, by decide, by decide, by decide +kernel⟩
theorem fX5_gates : ag_fV yX5_gates cX5_gates 2 (some .int) 1 := ⟨k_254, k_252, k_253, k_7, by decide, by decide, by decide +kernel⟩
theorem fX5_turbines : ag_fV yX5_turbines cX5_turbines 2 (some .int) 1 := ⟨k_289, k_287, k_288, k_7, by decide, by decide, by decide +kernel⟩
theorem fX5_pump : ag_fV yX5_pump cX5_pump 2 (some .int) 1 := ⟨k_297, k_295, k_296, k_7, by decide, by decide, by decide +kernel⟩
theorem fX5_birds : ag_fV yX5_birds cX5_birds 3 (some .int) 2 := ⟨k_305, k_303, k_304, k_7, by decide, by decide, by decide +kernel⟩
theorem fX5_run : ag_fV yX5_run cX5_run 2 (some .int) 1 := ⟨k_335, k_333, k_334, k_7, by decide, by decide, by decide +kernel⟩
theorem fX5_dredge : ag_fV yX5_dredge cX5_dredge 2 (some .int) 1 := ⟨k_313, k_311, k_312, k_7, by decide, by decide, by decide +kernel⟩
theorem fX5_set : ag_fV yX5_set cX5_set 3 (some .int) 2 := ⟨k_323, k_321, k_322, k_7, by decide, by decide, by decide +kernel⟩
theorem fX5_now : ag_fV yX5_now cX5_now 2 (some .int) 1 := ⟨k_198, k_196, k_197, k_7, by decide, by decide, by decide +kernel⟩
theorem fX5_record : ag_fV yX5_record cX5_record 3 (some .int) 2 := ⟨k_410, k_408, k_409, k_7, by decide, by decide, by decide +kernel⟩
theorem fX5_next : ag_fV yX5_next cX5_next 2 (some .int) 1 := ⟨k_422, k_420, k_421, k_7, by decide, by decide, by decide +kernel⟩
theorem fX5_bestDay : ag_fV yX5_bestDay cX5_bestDay 6 (some .int) 0 := ⟨k_417, k_415, k_416, k_7, by decide, by decide, by decide +kernel⟩
theorem fX5_count : ag_fV yX5_count cX5_count 2 (some .int) 1 := ⟨k_223, k_221, k_222, k_7, by decide, by decide, by decide +kernel⟩
theorem fX5_settle : ag_fV yX5_settle cX5_settle 2 (some .int) 1 := ⟨k_270, k_269, k_0, k_7, by decide, by decide, by decide +kernel⟩
theorem fX5_isError : ag_fS yX5_isError cX5_isError 1 (some .boolean) 1 := ⟨k_273, k_272, k_7, by decide, by decide, by decide +kernel⟩
theorem fX5_tideHeight : ag_fS yX5_tideHeight cX5_tideHeight 2 (some .int) 1 := ⟨k_204, k_203, k_7, by decide, by decide, by decide +kernel⟩
theorem fX5_seaLevel : ag_fS yX5_seaLevel cX5_seaLevel 3 (some .int) 1 := ⟨k_201, k_200, k_7, by decide, by decide, by decide +kernel⟩
theorem fX5_recordStart : ag_fS yX5_recordStart cX5_recordStart 1 (some .int) 1 := ⟨k_373, k_372, k_7, by decide, by decide, by decide +kernel⟩
theorem fJ9_floorDiv_7cf53 : ag_fS yJ9_floorDiv_7cf53 cJ9_floorDiv_7cf53 3 (some .int) 2 := ⟨k_230, k_229, k_14, by decide, by decide, by decide +kernel⟩
theorem fJ9_floorMod_7cf53 : ag_fS yJ9_floorMod_7cf53 cJ9_floorMod_7cf53 3 (some .int) 2 := ⟨k_284, k_283, k_14, by decide, by decide, by decide +kernel⟩
theorem fJ9_abs_0f7a4 : ag_fS yJ9_abs_0f7a4 Lib.Math.abs.code 1 (some .int) 1 := ⟨k_352, k_351, k_14, by decide, by decide, by decide +kernel⟩
theorem fJ9_max_7cf53 : ag_fS yJ9_max_7cf53 Lib.Math.max.code 2 (some .int) 2 := ⟨k_238, k_237, k_14, by decide, by decide, by decide +kernel⟩
theorem fJ9_min_7cf53 : ag_fS yJ9_min_7cf53 Lib.Math.min.code 2 (some .int) 2 := ⟨k_357, k_356, k_14, by decide, by decide, by decide +kernel⟩
end
section
/-! the instructions -/
theorem dX0_init_0 : decode cX0_init 0 = .ok (.aload_n 0, 1) := by decide +kernel
theorem dX0_init_1 : decode cX0_init 1 = .ok (.invokespecial 3, 3) := by decide +kernel
theorem dX0_init_4 : decode cX0_init 4 = .ok (.aload_n 0, 1) := by decide +kernel
theorem dX0_init_5 : decode cX0_init 5 = .ok (.iconst 4, 1) := by decide +kernel
theorem dX0_init_6 : decode cX0_init 6 = .ok (.anewarray 9, 3) := by decide +kernel
theorem dX0_init_9 : decode cX0_init 9 = .ok (.dup, 1) := by decide +kernel
theorem dX0_init_10 : decode cX0_init 10 = .ok (.iconst 0, 1) := by decide +kernel
theorem dX0_init_11 : decode cX0_init 11 = .ok (.new 9, 3) := by decide +kernel
theorem dX0_init_14 : decode cX0_init 14 = .ok (.dup, 1) := by decide +kernel
theorem dX0_init_15 : decode cX0_init 15 = .ok (.invokespecial 11, 3) := by decide +kernel
theorem dX0_init_18 : decode cX0_init 18 = .ok (.aastore, 1) := by decide +kernel
theorem dX0_init_19 : decode cX0_init 19 = .ok (.dup, 1) := by decide +kernel
theorem dX0_init_20 : decode cX0_init 20 = .ok (.iconst 1, 1) := by decide +kernel
theorem dX0_init_21 : decode cX0_init 21 = .ok (.new 9, 3) := by decide +kernel
theorem dX0_init_24 : decode cX0_init 24 = .ok (.dup, 1) := by decide +kernel
theorem dX0_init_25 : decode cX0_init 25 = .ok (.invokespecial 11, 3) := by decide +kernel
theorem dX0_init_28 : decode cX0_init 28 = .ok (.aastore, 1) := by decide +kernel
theorem dX0_init_29 : decode cX0_init 29 = .ok (.dup, 1) := by decide +kernel
theorem dX0_init_30 : decode cX0_init 30 = .ok (.iconst 2, 1) := by decide +kernel
theorem dX0_init_31 : decode cX0_init 31 = .ok (.new 9, 3) := by decide +kernel
theorem dX0_init_34 : decode cX0_init 34 = .ok (.dup, 1) := by decide +kernel
theorem dX0_init_35 : decode cX0_init 35 = .ok (.invokespecial 11, 3) := by decide +kernel
theorem dX0_init_38 : decode cX0_init 38 = .ok (.aastore, 1) := by decide +kernel
theorem dX0_init_39 : decode cX0_init 39 = .ok (.dup, 1) := by decide +kernel
theorem dX0_init_40 : decode cX0_init 40 = .ok (.iconst 3, 1) := by decide +kernel
theorem dX0_init_41 : decode cX0_init 41 = .ok (.new 9, 3) := by decide +kernel
theorem dX0_init_44 : decode cX0_init 44 = .ok (.dup, 1) := by decide +kernel
theorem dX0_init_45 : decode cX0_init 45 = .ok (.invokespecial 11, 3) := by decide +kernel
theorem dX0_init_48 : decode cX0_init 48 = .ok (.aastore, 1) := by decide +kernel
theorem dX0_init_49 : decode cX0_init 49 = .ok (.putfield 12, 3) := by decide +kernel
theorem dX0_init_52 : decode cX0_init 52 = .ok (.return_, 1) := by decide +kernel
theorem dX0_keep_0 : decode cX0_keep 0 = .ok (.aload_n 0, 1) := by decide +kernel
theorem dX0_keep_1 : decode cX0_keep 1 = .ok (.getfield 12, 3) := by decide +kernel
theorem dX0_keep_4 : decode cX0_keep 4 = .ok (.aload_n 0, 1) := by decide +kernel
theorem dX0_keep_5 : decode cX0_keep 5 = .ok (.aload_n 0, 1) := by decide +kernel
theorem dX0_keep_6 : decode cX0_keep 6 = .ok (.getfield 18, 3) := by decide +kernel
theorem dX0_keep_9 : decode cX0_keep 9 = .ok (.invokevirtual 22, 3) := by decide +kernel
theorem dX0_keep_12 : decode cX0_keep 12 = .ok (.aaload, 1) := by decide +kernel
theorem dX0_keep_13 : decode cX0_keep 13 = .ok (.aload_n 1, 1) := by decide +kernel
theorem dX0_keep_14 : decode cX0_keep 14 = .ok (.invokevirtual 26, 3) := by decide +kernel
theorem dX0_keep_17 : decode cX0_keep 17 = .ok (.aload_n 0, 1) := by decide +kernel
theorem dX0_keep_18 : decode cX0_keep 18 = .ok (.getfield 18, 3) := by decide +kernel
theorem dX0_keep_21 : decode cX0_keep 21 = .ok (.iconst 4, 1) := by decide +kernel
theorem dX0_keep_22 : decode cX0_keep 22 = .ok (.if_icmp .ge 16, 3) := by decide +kernel
theorem dX0_keep_25 : decode cX0_keep 25 = .ok (.aload_n 0, 1) := by decide +kernel
theorem dX0_keep_26 : decode cX0_keep 26 = .ok (.dup, 1) := by decide +kernel
theorem dX0_keep_27 : decode cX0_keep 27 = .ok (.getfield 18, 3) := by decide +kernel
theorem dX0_keep_30 : decode cX0_keep 30 = .ok (.iconst 1, 1) := by decide +kernel
theorem dX0_keep_31 : decode cX0_keep 31 = .ok (.iadd, 1) := by decide +kernel
theorem dX0_keep_32 : decode cX0_keep 32 = .ok (.putfield 18, 3) := by decide +kernel
theorem dX0_keep_35 : decode cX0_keep 35 = .ok (.goto 12, 3) := by decide +kernel
theorem dX0_keep_38 : decode cX0_keep 38 = .ok (.aload_n 0, 1) := by decide +kernel
theorem dX0_keep_39 : decode cX0_keep 39 = .ok (.aload_n 0, 1) := by decide +kernel
theorem dX0_keep_40 : decode cX0_keep 40 = .ok (.iconst 1, 1) := by decide +kernel
theorem dX0_keep_41 : decode cX0_keep 41 = .ok (.invokevirtual 22, 3) := by decide +kernel
theorem dX0_keep_44 : decode cX0_keep 44 = .ok (.putfield 30, 3) := by decide +kernel
theorem dX0_keep_47 : decode cX0_keep 47 = .ok (.return_, 1) := by decide +kernel
theorem dX0_rowOf_0 : decode cX0_rowOf 0 = .ok (.aload_n 0, 1) := by decide +kernel
theorem dX0_rowOf_1 : decode cX0_rowOf 1 = .ok (.getfield 30, 3) := by decide +kernel
theorem dX0_rowOf_4 : decode cX0_rowOf 4 = .ok (.iload_n 1, 1) := by decide +kernel
theorem dX0_rowOf_5 : decode cX0_rowOf 5 = .ok (.iadd, 1) := by decide +kernel
theorem dX0_rowOf_6 : decode cX0_rowOf 6 = .ok (.iconst 4, 1) := by decide +kernel
theorem dX0_rowOf_7 : decode cX0_rowOf 7 = .ok (.invokestatic 33, 3) := by decide +kernel
theorem dX0_rowOf_10 : decode cX0_rowOf 10 = .ok (.ireturn, 1) := by decide +kernel
theorem dX1_init_0 : decode cX1_init 0 = .ok (.aload_n 0, 1) := by decide +kernel
theorem dX1_init_1 : decode cX1_init 1 = .ok (.invokespecial 3, 3) := by decide +kernel
theorem dX1_init_4 : decode cX1_init 4 = .ok (.aload_n 0, 1) := by decide +kernel
theorem dX1_init_5 : decode cX1_init 5 = .ok (.ldc 9, 2) := by decide +kernel
theorem dX1_init_7 : decode cX1_init 7 = .ok (.putfield 10, 3) := by decide +kernel
theorem dX1_init_10 : decode cX1_init 10 = .ok (.aload_n 0, 1) := by decide +kernel
theorem dX1_init_11 : decode cX1_init 11 = .ok (.iconst 3, 1) := by decide +kernel
theorem dX1_init_12 : decode cX1_init 12 = .ok (.newarray .int, 2) := by decide +kernel
theorem dX1_init_14 : decode cX1_init 14 = .ok (.dup, 1) := by decide +kernel
theorem dX1_init_15 : decode cX1_init 15 = .ok (.iconst 0, 1) := by decide +kernel
theorem dX1_init_16 : decode cX1_init 16 = .ok (.bipush 120, 2) := by decide +kernel
theorem dX1_init_18 : decode cX1_init 18 = .ok (.iastore, 1) := by decide +kernel
theorem dX1_init_19 : decode cX1_init 19 = .ok (.dup, 1) := by decide +kernel
theorem dX1_init_20 : decode cX1_init 20 = .ok (.iconst 1, 1) := by decide +kernel
theorem dX1_init_21 : decode cX1_init 21 = .ok (.bipush 40, 2) := by decide +kernel
theorem dX1_init_23 : decode cX1_init 23 = .ok (.iastore, 1) := by decide +kernel
theorem dX1_init_24 : decode cX1_init 24 = .ok (.dup, 1) := by decide +kernel
theorem dX1_init_25 : decode cX1_init 25 = .ok (.iconst 2, 1) := by decide +kernel
theorem dX1_init_26 : decode cX1_init 26 = .ok (.sipush 1500, 3) := by decide +kernel
theorem dX1_init_29 : decode cX1_init 29 = .ok (.iastore, 1) := by decide +kernel
theorem dX1_init_30 : decode cX1_init 30 = .ok (.putfield 16, 3) := by decide +kernel
theorem dX1_init_33 : decode cX1_init 33 = .ok (.aload_n 0, 1) := by decide +kernel
theorem dX1_init_34 : decode cX1_init 34 = .ok (.bipush 7, 2) := by decide +kernel
theorem dX1_init_36 : decode cX1_init 36 = .ok (.newarray .int, 2) := by decide +kernel
theorem dX1_init_38 : decode cX1_init 38 = .ok (.putfield 20, 3) := by decide +kernel
theorem dX1_init_41 : decode cX1_init 41 = .ok (.aload_n 0, 1) := by decide +kernel
theorem dX1_init_42 : decode cX1_init 42 = .ok (.bipush 60, 2) := by decide +kernel
theorem dX1_init_44 : decode cX1_init 44 = .ok (.newarray .int, 2) := by decide +kernel
theorem dX1_init_46 : decode cX1_init 46 = .ok (.putfield 23, 3) := by decide +kernel
theorem dX1_init_49 : decode cX1_init 49 = .ok (.return_, 1) := by decide +kernel
theorem dX1_copyFrom_0 : decode cX1_copyFrom 0 = .ok (.aload_n 0, 1) := by decide +kernel
theorem dX1_copyFrom_1 : decode cX1_copyFrom 1 = .ok (.aload_n 1, 1) := by decide +kernel
theorem dX1_copyFrom_2 : decode cX1_copyFrom 2 = .ok (.getfield 26, 3) := by decide +kernel
theorem dX1_copyFrom_5 : decode cX1_copyFrom 5 = .ok (.putfield 26, 3) := by decide +kernel
theorem dX1_copyFrom_8 : decode cX1_copyFrom 8 = .ok (.aload_n 0, 1) := by decide +kernel
theorem dX1_copyFrom_9 : decode cX1_copyFrom 9 = .ok (.aload_n 1, 1) := by decide +kernel
theorem dX1_copyFrom_10 : decode cX1_copyFrom 10 = .ok (.getfield 10, 3) := by decide +kernel
theorem dX1_copyFrom_13 : decode cX1_copyFrom 13 = .ok (.putfield 10, 3) := by decide +kernel
theorem dX1_copyFrom_16 : decode cX1_copyFrom 16 = .ok (.aload_n 0, 1) := by decide +kernel
theorem dX1_copyFrom_17 : decode cX1_copyFrom 17 = .ok (.aload_n 1, 1) := by decide +kernel
theorem dX1_copyFrom_18 : decode cX1_copyFrom 18 = .ok (.getfield 29, 3) := by decide +kernel
theorem dX1_copyFrom_21 : decode cX1_copyFrom 21 = .ok (.putfield 29, 3) := by decide +kernel
theorem dX1_copyFrom_24 : decode cX1_copyFrom 24 = .ok (.aload_n 0, 1) := by decide +kernel
theorem dX1_copyFrom_25 : decode cX1_copyFrom 25 = .ok (.aload_n 1, 1) := by decide +kernel
theorem dX1_copyFrom_26 : decode cX1_copyFrom 26 = .ok (.getfield 32, 3) := by decide +kernel
theorem dX1_copyFrom_29 : decode cX1_copyFrom 29 = .ok (.putfield 32, 3) := by decide +kernel
theorem dX1_copyFrom_32 : decode cX1_copyFrom 32 = .ok (.aload_n 0, 1) := by decide +kernel
theorem dX1_copyFrom_33 : decode cX1_copyFrom 33 = .ok (.aload_n 1, 1) := by decide +kernel
theorem dX1_copyFrom_34 : decode cX1_copyFrom 34 = .ok (.getfield 35, 3) := by decide +kernel
theorem dX1_copyFrom_37 : decode cX1_copyFrom 37 = .ok (.putfield 35, 3) := by decide +kernel
theorem dX1_copyFrom_40 : decode cX1_copyFrom 40 = .ok (.aload_n 0, 1) := by decide +kernel
theorem dX1_copyFrom_41 : decode cX1_copyFrom 41 = .ok (.aload_n 1, 1) := by decide +kernel
theorem dX1_copyFrom_42 : decode cX1_copyFrom 42 = .ok (.getfield 38, 3) := by decide +kernel
theorem dX1_copyFrom_45 : decode cX1_copyFrom 45 = .ok (.putfield 38, 3) := by decide +kernel
theorem dX1_copyFrom_48 : decode cX1_copyFrom 48 = .ok (.aload_n 0, 1) := by decide +kernel
theorem dX1_copyFrom_49 : decode cX1_copyFrom 49 = .ok (.aload_n 1, 1) := by decide +kernel
theorem dX1_copyFrom_50 : decode cX1_copyFrom 50 = .ok (.getfield 41, 3) := by decide +kernel
theorem dX1_copyFrom_53 : decode cX1_copyFrom 53 = .ok (.putfield 41, 3) := by decide +kernel
theorem dX1_copyFrom_56 : decode cX1_copyFrom 56 = .ok (.aload_n 0, 1) := by decide +kernel
theorem dX1_copyFrom_57 : decode cX1_copyFrom 57 = .ok (.aload_n 1, 1) := by decide +kernel
theorem dX1_copyFrom_58 : decode cX1_copyFrom 58 = .ok (.getfield 44, 3) := by decide +kernel
theorem dX1_copyFrom_61 : decode cX1_copyFrom 61 = .ok (.putfield 44, 3) := by decide +kernel
theorem dX1_copyFrom_64 : decode cX1_copyFrom 64 = .ok (.aload_n 1, 1) := by decide +kernel
theorem dX1_copyFrom_65 : decode cX1_copyFrom 65 = .ok (.getfield 16, 3) := by decide +kernel
theorem dX1_copyFrom_68 : decode cX1_copyFrom 68 = .ok (.iconst 0, 1) := by decide +kernel
theorem dX1_copyFrom_69 : decode cX1_copyFrom 69 = .ok (.aload_n 0, 1) := by decide +kernel
theorem dX1_copyFrom_70 : decode cX1_copyFrom 70 = .ok (.getfield 16, 3) := by decide +kernel
theorem dX1_copyFrom_73 : decode cX1_copyFrom 73 = .ok (.iconst 0, 1) := by decide +kernel
theorem dX1_copyFrom_74 : decode cX1_copyFrom 74 = .ok (.iconst 3, 1) := by decide +kernel
theorem dX1_copyFrom_75 : decode cX1_copyFrom 75 = .ok (.invokestatic 47, 3) := by decide +kernel
theorem dX1_copyFrom_78 : decode cX1_copyFrom 78 = .ok (.aload_n 1, 1) := by decide +kernel
theorem dX1_copyFrom_79 : decode cX1_copyFrom 79 = .ok (.getfield 20, 3) := by decide +kernel
theorem dX1_copyFrom_82 : decode cX1_copyFrom 82 = .ok (.iconst 0, 1) := by decide +kernel
theorem dX1_copyFrom_83 : decode cX1_copyFrom 83 = .ok (.aload_n 0, 1) := by decide +kernel
theorem dX1_copyFrom_84 : decode cX1_copyFrom 84 = .ok (.getfield 20, 3) := by decide +kernel
theorem dX1_copyFrom_87 : decode cX1_copyFrom 87 = .ok (.iconst 0, 1) := by decide +kernel
theorem dX1_copyFrom_88 : decode cX1_copyFrom 88 = .ok (.bipush 7, 2) := by decide +kernel
theorem dX1_copyFrom_90 : decode cX1_copyFrom 90 = .ok (.invokestatic 47, 3) := by decide +kernel
theorem dX1_copyFrom_93 : decode cX1_copyFrom 93 = .ok (.aload_n 1, 1) := by decide +kernel
theorem dX1_copyFrom_94 : decode cX1_copyFrom 94 = .ok (.getfield 23, 3) := by decide +kernel
theorem dX1_copyFrom_97 : decode cX1_copyFrom 97 = .ok (.iconst 0, 1) := by decide +kernel
theorem dX1_copyFrom_98 : decode cX1_copyFrom 98 = .ok (.aload_n 0, 1) := by decide +kernel
theorem dX1_copyFrom_99 : decode cX1_copyFrom 99 = .ok (.getfield 23, 3) := by decide +kernel
theorem dX1_copyFrom_102 : decode cX1_copyFrom 102 = .ok (.iconst 0, 1) := by decide +kernel
theorem dX1_copyFrom_103 : decode cX1_copyFrom 103 = .ok (.bipush 60, 2) := by decide +kernel
theorem dX1_copyFrom_105 : decode cX1_copyFrom 105 = .ok (.invokestatic 47, 3) := by decide +kernel
theorem dX1_copyFrom_108 : decode cX1_copyFrom 108 = .ok (.return_, 1) := by decide +kernel
theorem dX1_level_0 : decode cX1_level 0 = .ok (.aload_n 0, 1) := by decide +kernel
theorem dX1_level_1 : decode cX1_level 1 = .ok (.getfield 10, 3) := by decide +kernel
theorem dX1_level_4 : decode cX1_level 4 = .ok (.aload_n 0, 1) := by decide +kernel
theorem dX1_level_5 : decode cX1_level 5 = .ok (.getfield 29, 3) := by decide +kernel
theorem dX1_level_8 : decode cX1_level 8 = .ok (.iadd, 1) := by decide +kernel
theorem dX1_level_9 : decode cX1_level 9 = .ok (.bipush 100, 2) := by decide +kernel
theorem dX1_level_11 : decode cX1_level 11 = .ok (.idiv, 1) := by decide +kernel
theorem dX1_level_12 : decode cX1_level 12 = .ok (.sipush 400, 3) := by decide +kernel
theorem dX1_level_15 : decode cX1_level 15 = .ok (.isub, 1) := by decide +kernel
theorem dX1_level_16 : decode cX1_level 16 = .ok (.ireturn, 1) := by decide +kernel
theorem dX1_head_0 : decode cX1_head 0 = .ok (.aload_n 0, 1) := by decide +kernel
theorem dX1_head_1 : decode cX1_head 1 = .ok (.getfield 26, 3) := by decide +kernel
theorem dX1_head_4 : decode cX1_head 4 = .ok (.invokestatic 53, 3) := by decide +kernel
theorem dX1_head_7 : decode cX1_head 7 = .ok (.aload_n 0, 1) := by decide +kernel
theorem dX1_head_8 : decode cX1_head 8 = .ok (.invokevirtual 57, 3) := by decide +kernel
theorem dX1_head_11 : decode cX1_head 11 = .ok (.isub, 1) := by decide +kernel
theorem dX1_head_12 : decode cX1_head 12 = .ok (.ireturn, 1) := by decide +kernel
theorem dX1_isBirdHour_0 : decode cX1_isBirdHour 0 = .ok (.aload_n 0, 1) := by decide +kernel
theorem dX1_isBirdHour_1 : decode cX1_isBirdHour 1 = .ok (.getfield 26, 3) := by decide +kernel
theorem dX1_isBirdHour_4 : decode cX1_isBirdHour 4 = .ok (.sipush 144, 3) := by decide +kernel
theorem dX1_isBirdHour_7 : decode cX1_isBirdHour 7 = .ok (.irem, 1) := by decide +kernel
theorem dX1_isBirdHour_8 : decode cX1_isBirdHour 8 = .ok (.istore_n 1, 1) := by decide +kernel
theorem dX1_isBirdHour_9 : decode cX1_isBirdHour 9 = .ok (.aload_n 0, 1) := by decide +kernel
theorem dX1_isBirdHour_10 : decode cX1_isBirdHour 10 = .ok (.getfield 41, 3) := by decide +kernel
theorem dX1_isBirdHour_13 : decode cX1_isBirdHour 13 = .ok (.iload_n 1, 1) := by decide +kernel
theorem dX1_isBirdHour_14 : decode cX1_isBirdHour 14 = .ok (.if_icmp .gt 15, 3) := by decide +kernel
theorem dX1_isBirdHour_17 : decode cX1_isBirdHour 17 = .ok (.iload_n 1, 1) := by decide +kernel
theorem dX1_isBirdHour_18 : decode cX1_isBirdHour 18 = .ok (.aload_n 0, 1) := by decide +kernel
theorem dX1_isBirdHour_19 : decode cX1_isBirdHour 19 = .ok (.getfield 44, 3) := by decide +kernel
theorem dX1_isBirdHour_22 : decode cX1_isBirdHour 22 = .ok (.if_icmp .ge 7, 3) := by decide +kernel
theorem dX1_isBirdHour_25 : decode cX1_isBirdHour 25 = .ok (.iconst 1, 1) := by decide +kernel
theorem dX1_isBirdHour_26 : decode cX1_isBirdHour 26 = .ok (.goto 4, 3) := by decide +kernel
theorem dX1_isBirdHour_29 : decode cX1_isBirdHour 29 = .ok (.iconst 0, 1) := by decide +kernel
theorem dX1_isBirdHour_30 : decode cX1_isBirdHour 30 = .ok (.ireturn, 1) := by decide +kernel
theorem dX1_lastDay_0 : decode cX1_lastDay 0 = .ok (.aload_n 0, 1) := by decide +kernel
theorem dX1_lastDay_1 : decode cX1_lastDay 1 = .ok (.getfield 26, 3) := by decide +kernel
theorem dX1_lastDay_4 : decode cX1_lastDay 4 = .ok (.iconst 1, 1) := by decide +kernel
theorem dX1_lastDay_5 : decode cX1_lastDay 5 = .ok (.isub, 1) := by decide +kernel
theorem dX1_lastDay_6 : decode cX1_lastDay 6 = .ok (.sipush 144, 3) := by decide +kernel
theorem dX1_lastDay_9 : decode cX1_lastDay 9 = .ok (.invokestatic 61, 3) := by decide +kernel
theorem dX1_lastDay_12 : decode cX1_lastDay 12 = .ok (.ireturn, 1) := by decide +kernel
theorem dX1_firstDay_0 : decode cX1_firstDay 0 = .ok (.iconst 0, 1) := by decide +kernel
theorem dX1_firstDay_1 : decode cX1_firstDay 1 = .ok (.aload_n 0, 1) := by decide +kernel
theorem dX1_firstDay_2 : decode cX1_firstDay 2 = .ok (.invokevirtual 67, 3) := by decide +kernel
theorem dX1_firstDay_5 : decode cX1_firstDay 5 = .ok (.bipush 10, 2) := by decide +kernel
theorem dX1_firstDay_7 : decode cX1_firstDay 7 = .ok (.isub, 1) := by decide +kernel
theorem dX1_firstDay_8 : decode cX1_firstDay 8 = .ok (.iconst 1, 1) := by decide +kernel
theorem dX1_firstDay_9 : decode cX1_firstDay 9 = .ok (.iadd, 1) := by decide +kernel
theorem dX1_firstDay_10 : decode cX1_firstDay 10 = .ok (.invokestatic 70, 3) := by decide +kernel
theorem dX1_firstDay_13 : decode cX1_firstDay 13 = .ok (.ireturn, 1) := by decide +kernel
theorem dX1_openGates_0 : decode cX1_openGates 0 = .ok (.iload_n 1, 1) := by decide +kernel
theorem dX1_openGates_1 : decode cX1_openGates 1 = .ok (.ifCond .lt 9, 3) := by decide +kernel
theorem dX1_openGates_4 : decode cX1_openGates 4 = .ok (.iload_n 1, 1) := by decide +kernel
theorem dX1_openGates_5 : decode cX1_openGates 5 = .ok (.bipush 8, 2) := by decide +kernel
theorem dX1_openGates_7 : decode cX1_openGates 7 = .ok (.if_icmp .le 6, 3) := by decide +kernel
theorem dX1_openGates_10 : decode cX1_openGates 10 = .ok (.ldc 73, 2) := by decide +kernel
theorem dX1_openGates_12 : decode cX1_openGates 12 = .ok (.ireturn, 1) := by decide +kernel
theorem dX1_openGates_13 : decode cX1_openGates 13 = .ok (.aload_n 0, 1) := by decide +kernel
theorem dX1_openGates_14 : decode cX1_openGates 14 = .ok (.getfield 32, 3) := by decide +kernel
theorem dX1_openGates_17 : decode cX1_openGates 17 = .ok (.istore_n 2, 1) := by decide +kernel
theorem dX1_openGates_18 : decode cX1_openGates 18 = .ok (.aload_n 0, 1) := by decide +kernel
theorem dX1_openGates_19 : decode cX1_openGates 19 = .ok (.iload_n 1, 1) := by decide +kernel
theorem dX1_openGates_20 : decode cX1_openGates 20 = .ok (.putfield 32, 3) := by decide +kernel
theorem dX1_openGates_23 : decode cX1_openGates 23 = .ok (.iload_n 2, 1) := by decide +kernel
theorem dX1_openGates_24 : decode cX1_openGates 24 = .ok (.ireturn, 1) := by decide +kernel
theorem dX1_openTurbines_0 : decode cX1_openTurbines 0 = .ok (.iload_n 1, 1) := by decide +kernel
theorem dX1_openTurbines_1 : decode cX1_openTurbines 1 = .ok (.ifCond .lt 9, 3) := by decide +kernel
theorem dX1_openTurbines_4 : decode cX1_openTurbines 4 = .ok (.iload_n 1, 1) := by decide +kernel
theorem dX1_openTurbines_5 : decode cX1_openTurbines 5 = .ok (.bipush 6, 2) := by decide +kernel
theorem dX1_openTurbines_7 : decode cX1_openTurbines 7 = .ok (.if_icmp .le 6, 3) := by decide +kernel
theorem dX1_openTurbines_10 : decode cX1_openTurbines 10 = .ok (.ldc 73, 2) := by decide +kernel
theorem dX1_openTurbines_12 : decode cX1_openTurbines 12 = .ok (.ireturn, 1) := by decide +kernel
theorem dX1_openTurbines_13 : decode cX1_openTurbines 13 = .ok (.aload_n 0, 1) := by decide +kernel
theorem dX1_openTurbines_14 : decode cX1_openTurbines 14 = .ok (.getfield 35, 3) := by decide +kernel
theorem dX1_openTurbines_17 : decode cX1_openTurbines 17 = .ok (.istore_n 2, 1) := by decide +kernel
theorem dX1_openTurbines_18 : decode cX1_openTurbines 18 = .ok (.aload_n 0, 1) := by decide +kernel
theorem dX1_openTurbines_19 : decode cX1_openTurbines 19 = .ok (.iload_n 1, 1) := by decide +kernel
theorem dX1_openTurbines_20 : decode cX1_openTurbines 20 = .ok (.putfield 35, 3) := by decide +kernel
theorem dX1_openTurbines_23 : decode cX1_openTurbines 23 = .ok (.iload_n 2, 1) := by decide +kernel
theorem dX1_openTurbines_24 : decode cX1_openTurbines 24 = .ok (.ireturn, 1) := by decide +kernel
theorem dX1_setPump_0 : decode cX1_setPump 0 = .ok (.iload_n 1, 1) := by decide +kernel
theorem dX1_setPump_1 : decode cX1_setPump 1 = .ok (.sipush (-500), 3) := by decide +kernel
theorem dX1_setPump_4 : decode cX1_setPump 4 = .ok (.if_icmp .lt 10, 3) := by decide +kernel
theorem dX1_setPump_7 : decode cX1_setPump 7 = .ok (.iload_n 1, 1) := by decide +kernel
theorem dX1_setPump_8 : decode cX1_setPump 8 = .ok (.sipush 500, 3) := by decide +kernel
theorem dX1_setPump_11 : decode cX1_setPump 11 = .ok (.if_icmp .le 6, 3) := by decide +kernel
theorem dX1_setPump_14 : decode cX1_setPump 14 = .ok (.ldc 73, 2) := by decide +kernel
theorem dX1_setPump_16 : decode cX1_setPump 16 = .ok (.ireturn, 1) := by decide +kernel
theorem dX1_setPump_17 : decode cX1_setPump 17 = .ok (.aload_n 0, 1) := by decide +kernel
theorem dX1_setPump_18 : decode cX1_setPump 18 = .ok (.getfield 38, 3) := by decide +kernel
theorem dX1_setPump_21 : decode cX1_setPump 21 = .ok (.istore_n 2, 1) := by decide +kernel
theorem dX1_setPump_22 : decode cX1_setPump 22 = .ok (.aload_n 0, 1) := by decide +kernel
theorem dX1_setPump_23 : decode cX1_setPump 23 = .ok (.iload_n 1, 1) := by decide +kernel
theorem dX1_setPump_24 : decode cX1_setPump 24 = .ok (.putfield 38, 3) := by decide +kernel
theorem dX1_setPump_27 : decode cX1_setPump 27 = .ok (.iload_n 2, 1) := by decide +kernel
theorem dX1_setPump_28 : decode cX1_setPump 28 = .ok (.ireturn, 1) := by decide +kernel
theorem dX1_setBirds_0 : decode cX1_setBirds 0 = .ok (.iload_n 1, 1) := by decide +kernel
theorem dX1_setBirds_1 : decode cX1_setBirds 1 = .ok (.ifCond .lt 21, 3) := by decide +kernel
theorem dX1_setBirds_4 : decode cX1_setBirds 4 = .ok (.iload_n 1, 1) := by decide +kernel
theorem dX1_setBirds_5 : decode cX1_setBirds 5 = .ok (.sipush 144, 3) := by decide +kernel
theorem dX1_setBirds_8 : decode cX1_setBirds 8 = .ok (.if_icmp .ge 14, 3) := by decide +kernel
theorem dX1_setBirds_11 : decode cX1_setBirds 11 = .ok (.iload_n 2, 1) := by decide +kernel
theorem dX1_setBirds_12 : decode cX1_setBirds 12 = .ok (.ifCond .lt 10, 3) := by decide +kernel
theorem dX1_setBirds_15 : decode cX1_setBirds 15 = .ok (.iload_n 2, 1) := by decide +kernel
theorem dX1_setBirds_16 : decode cX1_setBirds 16 = .ok (.sipush 144, 3) := by decide +kernel
theorem dX1_setBirds_19 : decode cX1_setBirds 19 = .ok (.if_icmp .le 6, 3) := by decide +kernel
theorem dX1_setBirds_22 : decode cX1_setBirds 22 = .ok (.ldc 73, 2) := by decide +kernel
theorem dX1_setBirds_24 : decode cX1_setBirds 24 = .ok (.ireturn, 1) := by decide +kernel
theorem dX1_setBirds_25 : decode cX1_setBirds 25 = .ok (.aload_n 0, 1) := by decide +kernel
theorem dX1_setBirds_26 : decode cX1_setBirds 26 = .ok (.iload_n 1, 1) := by decide +kernel
theorem dX1_setBirds_27 : decode cX1_setBirds 27 = .ok (.putfield 41, 3) := by decide +kernel
theorem dX1_setBirds_30 : decode cX1_setBirds 30 = .ok (.aload_n 0, 1) := by decide +kernel
theorem dX1_setBirds_31 : decode cX1_setBirds 31 = .ok (.iload_n 2, 1) := by decide +kernel
theorem dX1_setBirds_32 : decode cX1_setBirds 32 = .ok (.putfield 44, 3) := by decide +kernel
theorem dX1_setBirds_35 : decode cX1_setBirds 35 = .ok (.iconst 0, 1) := by decide +kernel
theorem dX1_setBirds_36 : decode cX1_setBirds 36 = .ok (.iload_n 2, 1) := by decide +kernel
theorem dX1_setBirds_37 : decode cX1_setBirds 37 = .ok (.iload_n 1, 1) := by decide +kernel
theorem dX1_setBirds_38 : decode cX1_setBirds 38 = .ok (.isub, 1) := by decide +kernel
theorem dX1_setBirds_39 : decode cX1_setBirds 39 = .ok (.invokestatic 70, 3) := by decide +kernel
theorem dX1_setBirds_42 : decode cX1_setBirds 42 = .ok (.ireturn, 1) := by decide +kernel
theorem dX1_runTicks_0 : decode cX1_runTicks 0 = .ok (.iload_n 1, 1) := by decide +kernel
theorem dX1_runTicks_1 : decode cX1_runTicks 1 = .ok (.iconst 1, 1) := by decide +kernel
theorem dX1_runTicks_2 : decode cX1_runTicks 2 = .ok (.if_icmp .lt 10, 3) := by decide +kernel
theorem dX1_runTicks_5 : decode cX1_runTicks 5 = .ok (.iload_n 1, 1) := by decide +kernel
theorem dX1_runTicks_6 : decode cX1_runTicks 6 = .ok (.sipush 300, 3) := by decide +kernel
theorem dX1_runTicks_9 : decode cX1_runTicks 9 = .ok (.if_icmp .le 6, 3) := by decide +kernel
theorem dX1_runTicks_12 : decode cX1_runTicks 12 = .ok (.ldc 73, 2) := by decide +kernel
theorem dX1_runTicks_14 : decode cX1_runTicks 14 = .ok (.ireturn, 1) := by decide +kernel
theorem dX1_runTicks_15 : decode cX1_runTicks 15 = .ok (.aload_n 0, 1) := by decide +kernel
theorem dX1_runTicks_16 : decode cX1_runTicks 16 = .ok (.getfield 26, 3) := by decide +kernel
theorem dX1_runTicks_19 : decode cX1_runTicks 19 = .ok (.iload_n 1, 1) := by decide +kernel
theorem dX1_runTicks_20 : decode cX1_runTicks 20 = .ok (.iadd, 1) := by decide +kernel
theorem dX1_runTicks_21 : decode cX1_runTicks 21 = .ok (.sipush 9999, 3) := by decide +kernel
theorem dX1_runTicks_24 : decode cX1_runTicks 24 = .ok (.if_icmp .le 6, 3) := by decide +kernel
theorem dX1_runTicks_27 : decode cX1_runTicks 27 = .ok (.ldc 74, 2) := by decide +kernel
theorem dX1_runTicks_29 : decode cX1_runTicks 29 = .ok (.ireturn, 1) := by decide +kernel
theorem dX1_runTicks_30 : decode cX1_runTicks 30 = .ok (.aload_n 0, 1) := by decide +kernel
theorem dX1_runTicks_31 : decode cX1_runTicks 31 = .ok (.iload_n 1, 1) := by decide +kernel
theorem dX1_runTicks_32 : decode cX1_runTicks 32 = .ok (.aload_n 2, 1) := by decide +kernel
theorem dX1_runTicks_33 : decode cX1_runTicks 33 = .ok (.invokevirtual 75, 3) := by decide +kernel
theorem dX1_runTicks_36 : decode cX1_runTicks 36 = .ok (.aload_n 0, 1) := by decide +kernel
theorem dX1_runTicks_37 : decode cX1_runTicks 37 = .ok (.invokevirtual 57, 3) := by decide +kernel
theorem dX1_runTicks_40 : decode cX1_runTicks 40 = .ok (.ireturn, 1) := by decide +kernel
theorem dX1_dredgeSilt_0 : decode cX1_dredgeSilt 0 = .ok (.iload_n 1, 1) := by decide +kernel
theorem dX1_dredgeSilt_1 : decode cX1_dredgeSilt 1 = .ok (.iconst 1, 1) := by decide +kernel
theorem dX1_dredgeSilt_2 : decode cX1_dredgeSilt 2 = .ok (.if_icmp .lt 10, 3) := by decide +kernel
theorem dX1_dredgeSilt_5 : decode cX1_dredgeSilt 5 = .ok (.iload_n 1, 1) := by decide +kernel
theorem dX1_dredgeSilt_6 : decode cX1_dredgeSilt 6 = .ok (.sipush 20000, 3) := by decide +kernel
theorem dX1_dredgeSilt_9 : decode cX1_dredgeSilt 9 = .ok (.if_icmp .le 6, 3) := by decide +kernel
theorem dX1_dredgeSilt_12 : decode cX1_dredgeSilt 12 = .ok (.ldc 73, 2) := by decide +kernel
theorem dX1_dredgeSilt_14 : decode cX1_dredgeSilt 14 = .ok (.ireturn, 1) := by decide +kernel
theorem dX1_dredgeSilt_15 : decode cX1_dredgeSilt 15 = .ok (.iload_n 1, 1) := by decide +kernel
theorem dX1_dredgeSilt_16 : decode cX1_dredgeSilt 16 = .ok (.aload_n 0, 1) := by decide +kernel
theorem dX1_dredgeSilt_17 : decode cX1_dredgeSilt 17 = .ok (.getfield 29, 3) := by decide +kernel
theorem dX1_dredgeSilt_20 : decode cX1_dredgeSilt 20 = .ok (.if_icmp .le 6, 3) := by decide +kernel
theorem dX1_dredgeSilt_23 : decode cX1_dredgeSilt 23 = .ok (.ldc 79, 2) := by decide +kernel
theorem dX1_dredgeSilt_25 : decode cX1_dredgeSilt 25 = .ok (.ireturn, 1) := by decide +kernel
theorem dX1_dredgeSilt_26 : decode cX1_dredgeSilt 26 = .ok (.aload_n 0, 1) := by decide +kernel
theorem dX1_dredgeSilt_27 : decode cX1_dredgeSilt 27 = .ok (.dup, 1) := by decide +kernel
theorem dX1_dredgeSilt_28 : decode cX1_dredgeSilt 28 = .ok (.getfield 29, 3) := by decide +kernel
theorem dX1_dredgeSilt_31 : decode cX1_dredgeSilt 31 = .ok (.iload_n 1, 1) := by decide +kernel
theorem dX1_dredgeSilt_32 : decode cX1_dredgeSilt 32 = .ok (.isub, 1) := by decide +kernel
theorem dX1_dredgeSilt_33 : decode cX1_dredgeSilt 33 = .ok (.putfield 29, 3) := by decide +kernel
theorem dX1_dredgeSilt_36 : decode cX1_dredgeSilt 36 = .ok (.aload_n 0, 1) := by decide +kernel
theorem dX1_dredgeSilt_37 : decode cX1_dredgeSilt 37 = .ok (.getfield 20, 3) := by decide +kernel
theorem dX1_dredgeSilt_40 : decode cX1_dredgeSilt 40 = .ok (.iconst 4, 1) := by decide +kernel
theorem dX1_dredgeSilt_41 : decode cX1_dredgeSilt 41 = .ok (.dup2, 1) := by decide +kernel
theorem dX1_dredgeSilt_42 : decode cX1_dredgeSilt 42 = .ok (.iaload, 1) := by decide +kernel
theorem dX1_dredgeSilt_43 : decode cX1_dredgeSilt 43 = .ok (.iload_n 1, 1) := by decide +kernel
theorem dX1_dredgeSilt_44 : decode cX1_dredgeSilt 44 = .ok (.iadd, 1) := by decide +kernel
theorem dX1_dredgeSilt_45 : decode cX1_dredgeSilt 45 = .ok (.iastore, 1) := by decide +kernel
theorem dX1_dredgeSilt_46 : decode cX1_dredgeSilt 46 = .ok (.aload_n 0, 1) := by decide +kernel
theorem dX1_dredgeSilt_47 : decode cX1_dredgeSilt 47 = .ok (.getfield 29, 3) := by decide +kernel
theorem dX1_dredgeSilt_50 : decode cX1_dredgeSilt 50 = .ok (.ireturn, 1) := by decide +kernel
theorem dX1_changeSetting_0 : decode cX1_changeSetting 0 = .ok (.iload_n 1, 1) := by decide +kernel
theorem dX1_changeSetting_1 : decode cX1_changeSetting 1 = .ok (.ifCond .lt 8, 3) := by decide +kernel
theorem dX1_changeSetting_4 : decode cX1_changeSetting 4 = .ok (.iload_n 1, 1) := by decide +kernel
theorem dX1_changeSetting_5 : decode cX1_changeSetting 5 = .ok (.iconst 3, 1) := by decide +kernel
theorem dX1_changeSetting_6 : decode cX1_changeSetting 6 = .ok (.if_icmp .lt 6, 3) := by decide +kernel
theorem dX1_changeSetting_9 : decode cX1_changeSetting 9 = .ok (.ldc 73, 2) := by decide +kernel
theorem dX1_changeSetting_11 : decode cX1_changeSetting 11 = .ok (.ireturn, 1) := by decide +kernel
theorem dX1_changeSetting_12 : decode cX1_changeSetting 12 = .ok (.iload_n 2, 1) := by decide +kernel
theorem dX1_changeSetting_13 : decode cX1_changeSetting 13 = .ok (.getstatic 80, 3) := by decide +kernel
theorem dX1_changeSetting_16 : decode cX1_changeSetting 16 = .ok (.iload_n 1, 1) := by decide +kernel
theorem dX1_changeSetting_17 : decode cX1_changeSetting 17 = .ok (.iaload, 1) := by decide +kernel
theorem dX1_changeSetting_18 : decode cX1_changeSetting 18 = .ok (.if_icmp .lt 12, 3) := by decide +kernel
theorem dX1_changeSetting_21 : decode cX1_changeSetting 21 = .ok (.iload_n 2, 1) := by decide +kernel
theorem dX1_changeSetting_22 : decode cX1_changeSetting 22 = .ok (.getstatic 83, 3) := by decide +kernel
theorem dX1_changeSetting_25 : decode cX1_changeSetting 25 = .ok (.iload_n 1, 1) := by decide +kernel
theorem dX1_changeSetting_26 : decode cX1_changeSetting 26 = .ok (.iaload, 1) := by decide +kernel
theorem dX1_changeSetting_27 : decode cX1_changeSetting 27 = .ok (.if_icmp .le 6, 3) := by decide +kernel
theorem dX1_changeSetting_30 : decode cX1_changeSetting 30 = .ok (.ldc 73, 2) := by decide +kernel
theorem dX1_changeSetting_32 : decode cX1_changeSetting 32 = .ok (.ireturn, 1) := by decide +kernel
theorem dX1_changeSetting_33 : decode cX1_changeSetting 33 = .ok (.aload_n 0, 1) := by decide +kernel
theorem dX1_changeSetting_34 : decode cX1_changeSetting 34 = .ok (.getfield 16, 3) := by decide +kernel
theorem dX1_changeSetting_37 : decode cX1_changeSetting 37 = .ok (.iload_n 1, 1) := by decide +kernel
theorem dX1_changeSetting_38 : decode cX1_changeSetting 38 = .ok (.iaload, 1) := by decide +kernel
theorem dX1_changeSetting_39 : decode cX1_changeSetting 39 = .ok (.istore_n 3, 1) := by decide +kernel
theorem dX1_changeSetting_40 : decode cX1_changeSetting 40 = .ok (.aload_n 0, 1) := by decide +kernel
theorem dX1_changeSetting_41 : decode cX1_changeSetting 41 = .ok (.getfield 16, 3) := by decide +kernel
theorem dX1_changeSetting_44 : decode cX1_changeSetting 44 = .ok (.iload_n 1, 1) := by decide +kernel
theorem dX1_changeSetting_45 : decode cX1_changeSetting 45 = .ok (.iload_n 2, 1) := by decide +kernel
theorem dX1_changeSetting_46 : decode cX1_changeSetting 46 = .ok (.iastore, 1) := by decide +kernel
theorem dX1_changeSetting_47 : decode cX1_changeSetting 47 = .ok (.iload_n 3, 1) := by decide +kernel
theorem dX1_changeSetting_48 : decode cX1_changeSetting 48 = .ok (.ireturn, 1) := by decide +kernel
theorem dX1_letPass_0 : decode cX1_letPass 0 = .ok (.iconst 0, 1) := by decide +kernel
theorem dX1_letPass_1 : decode cX1_letPass 1 = .ok (.istore_n 3, 1) := by decide +kernel
theorem dX1_letPass_2 : decode cX1_letPass 2 = .ok (.iload_n 3, 1) := by decide +kernel
theorem dX1_letPass_3 : decode cX1_letPass 3 = .ok (.iload_n 1, 1) := by decide +kernel
theorem dX1_letPass_4 : decode cX1_letPass 4 = .ok (.if_icmp .ge 38, 3) := by decide +kernel
theorem dX1_letPass_7 : decode cX1_letPass 7 = .ok (.aload_n 2, 1) := by decide +kernel
theorem dX1_letPass_8 : decode cX1_letPass 8 = .ok (.aload_n 0, 1) := by decide +kernel
theorem dX1_letPass_9 : decode cX1_letPass 9 = .ok (.aload_n 0, 1) := by decide +kernel
theorem dX1_letPass_10 : decode cX1_letPass 10 = .ok (.invokevirtual 86, 3) := by decide +kernel
theorem dX1_letPass_13 : decode cX1_letPass 13 = .ok (.invokevirtual 89, 3) := by decide +kernel
theorem dX1_letPass_16 : decode cX1_letPass 16 = .ok (.aload_n 0, 1) := by decide +kernel
theorem dX1_letPass_17 : decode cX1_letPass 17 = .ok (.aload_n 2, 1) := by decide +kernel
theorem dX1_letPass_18 : decode cX1_letPass 18 = .ok (.invokevirtual 95, 3) := by decide +kernel
theorem dX1_letPass_21 : decode cX1_letPass 21 = .ok (.aload_n 0, 1) := by decide +kernel
theorem dX1_letPass_22 : decode cX1_letPass 22 = .ok (.aload_n 2, 1) := by decide +kernel
theorem dX1_letPass_23 : decode cX1_letPass 23 = .ok (.invokevirtual 99, 3) := by decide +kernel
theorem dX1_letPass_26 : decode cX1_letPass 26 = .ok (.aload_n 0, 1) := by decide +kernel
theorem dX1_letPass_27 : decode cX1_letPass 27 = .ok (.dup, 1) := by decide +kernel
theorem dX1_letPass_28 : decode cX1_letPass 28 = .ok (.getfield 26, 3) := by decide +kernel
theorem dX1_letPass_31 : decode cX1_letPass 31 = .ok (.iconst 1, 1) := by decide +kernel
theorem dX1_letPass_32 : decode cX1_letPass 32 = .ok (.iadd, 1) := by decide +kernel
theorem dX1_letPass_33 : decode cX1_letPass 33 = .ok (.putfield 26, 3) := by decide +kernel
theorem dX1_letPass_36 : decode cX1_letPass 36 = .ok (.iinc 3 1, 3) := by decide +kernel
theorem dX1_letPass_39 : decode cX1_letPass 39 = .ok (.goto (-37), 3) := by decide +kernel
theorem dX1_letPass_42 : decode cX1_letPass 42 = .ok (.return_, 1) := by decide +kernel
theorem dX1_take_0 : decode cX1_take 0 = .ok (.aload_n 0, 1) := by decide +kernel
theorem dX1_take_1 : decode cX1_take 1 = .ok (.dup, 1) := by decide +kernel
theorem dX1_take_2 : decode cX1_take 2 = .ok (.getfield 10, 3) := by decide +kernel
theorem dX1_take_5 : decode cX1_take 5 = .ok (.aload_n 1, 1) := by decide +kernel
theorem dX1_take_6 : decode cX1_take 6 = .ok (.getfield 102, 3) := by decide +kernel
theorem dX1_take_9 : decode cX1_take 9 = .ok (.iadd, 1) := by decide +kernel
theorem dX1_take_10 : decode cX1_take 10 = .ok (.putfield 10, 3) := by decide +kernel
theorem dX1_take_13 : decode cX1_take 13 = .ok (.aload_n 0, 1) := by decide +kernel
theorem dX1_take_14 : decode cX1_take 14 = .ok (.dup, 1) := by decide +kernel
theorem dX1_take_15 : decode cX1_take 15 = .ok (.getfield 29, 3) := by decide +kernel
theorem dX1_take_18 : decode cX1_take 18 = .ok (.aload_n 1, 1) := by decide +kernel
theorem dX1_take_19 : decode cX1_take 19 = .ok (.getfield 105, 3) := by decide +kernel
theorem dX1_take_22 : decode cX1_take 22 = .ok (.iadd, 1) := by decide +kernel
theorem dX1_take_23 : decode cX1_take 23 = .ok (.putfield 29, 3) := by decide +kernel
theorem dX1_take_26 : decode cX1_take 26 = .ok (.aload_n 0, 1) := by decide +kernel
theorem dX1_take_27 : decode cX1_take 27 = .ok (.getfield 20, 3) := by decide +kernel
theorem dX1_take_30 : decode cX1_take 30 = .ok (.iconst 0, 1) := by decide +kernel
theorem dX1_take_31 : decode cX1_take 31 = .ok (.dup2, 1) := by decide +kernel
theorem dX1_take_32 : decode cX1_take 32 = .ok (.iaload, 1) := by decide +kernel
theorem dX1_take_33 : decode cX1_take 33 = .ok (.aload_n 1, 1) := by decide +kernel
theorem dX1_take_34 : decode cX1_take 34 = .ok (.getfield 108, 3) := by decide +kernel
theorem dX1_take_37 : decode cX1_take 37 = .ok (.iadd, 1) := by decide +kernel
theorem dX1_take_38 : decode cX1_take 38 = .ok (.iastore, 1) := by decide +kernel
theorem dX1_take_39 : decode cX1_take 39 = .ok (.aload_n 0, 1) := by decide +kernel
theorem dX1_take_40 : decode cX1_take 40 = .ok (.getfield 20, 3) := by decide +kernel
theorem dX1_take_43 : decode cX1_take 43 = .ok (.iconst 1, 1) := by decide +kernel
theorem dX1_take_44 : decode cX1_take 44 = .ok (.dup2, 1) := by decide +kernel
theorem dX1_take_45 : decode cX1_take 45 = .ok (.iaload, 1) := by decide +kernel
theorem dX1_take_46 : decode cX1_take 46 = .ok (.aload_n 1, 1) := by decide +kernel
theorem dX1_take_47 : decode cX1_take 47 = .ok (.getfield 111, 3) := by decide +kernel
theorem dX1_take_50 : decode cX1_take 50 = .ok (.iadd, 1) := by decide +kernel
theorem dX1_take_51 : decode cX1_take 51 = .ok (.iastore, 1) := by decide +kernel
theorem dX1_take_52 : decode cX1_take 52 = .ok (.aload_n 0, 1) := by decide +kernel
theorem dX1_take_53 : decode cX1_take 53 = .ok (.getfield 20, 3) := by decide +kernel
theorem dX1_take_56 : decode cX1_take 56 = .ok (.iconst 2, 1) := by decide +kernel
theorem dX1_take_57 : decode cX1_take 57 = .ok (.dup2, 1) := by decide +kernel
theorem dX1_take_58 : decode cX1_take 58 = .ok (.iaload, 1) := by decide +kernel
theorem dX1_take_59 : decode cX1_take 59 = .ok (.iconst 0, 1) := by decide +kernel
theorem dX1_take_60 : decode cX1_take 60 = .ok (.aload_n 1, 1) := by decide +kernel
theorem dX1_take_61 : decode cX1_take 61 = .ok (.getfield 102, 3) := by decide +kernel
theorem dX1_take_64 : decode cX1_take 64 = .ok (.invokestatic 70, 3) := by decide +kernel
theorem dX1_take_67 : decode cX1_take 67 = .ok (.iadd, 1) := by decide +kernel
theorem dX1_take_68 : decode cX1_take 68 = .ok (.iastore, 1) := by decide +kernel
theorem dX1_take_69 : decode cX1_take 69 = .ok (.aload_n 0, 1) := by decide +kernel
theorem dX1_take_70 : decode cX1_take 70 = .ok (.getfield 20, 3) := by decide +kernel
theorem dX1_take_73 : decode cX1_take 73 = .ok (.iconst 3, 1) := by decide +kernel
theorem dX1_take_74 : decode cX1_take 74 = .ok (.dup2, 1) := by decide +kernel
theorem dX1_take_75 : decode cX1_take 75 = .ok (.iaload, 1) := by decide +kernel
theorem dX1_take_76 : decode cX1_take 76 = .ok (.iconst 0, 1) := by decide +kernel
theorem dX1_take_77 : decode cX1_take 77 = .ok (.aload_n 1, 1) := by decide +kernel
theorem dX1_take_78 : decode cX1_take 78 = .ok (.getfield 102, 3) := by decide +kernel
theorem dX1_take_81 : decode cX1_take 81 = .ok (.ineg, 1) := by decide +kernel
theorem dX1_take_82 : decode cX1_take 82 = .ok (.invokestatic 70, 3) := by decide +kernel
theorem dX1_take_85 : decode cX1_take 85 = .ok (.iadd, 1) := by decide +kernel
theorem dX1_take_86 : decode cX1_take 86 = .ok (.iastore, 1) := by decide +kernel
theorem dX1_take_87 : decode cX1_take 87 = .ok (.aload_n 0, 1) := by decide +kernel
theorem dX1_take_88 : decode cX1_take 88 = .ok (.getfield 20, 3) := by decide +kernel
theorem dX1_take_91 : decode cX1_take 91 = .ok (.iconst 5, 1) := by decide +kernel
theorem dX1_take_92 : decode cX1_take 92 = .ok (.dup2, 1) := by decide +kernel
theorem dX1_take_93 : decode cX1_take 93 = .ok (.iaload, 1) := by decide +kernel
theorem dX1_take_94 : decode cX1_take 94 = .ok (.iconst 0, 1) := by decide +kernel
theorem dX1_take_95 : decode cX1_take 95 = .ok (.aload_n 1, 1) := by decide +kernel
theorem dX1_take_96 : decode cX1_take 96 = .ok (.getfield 105, 3) := by decide +kernel
theorem dX1_take_99 : decode cX1_take 99 = .ok (.invokestatic 70, 3) := by decide +kernel
theorem dX1_take_102 : decode cX1_take 102 = .ok (.iadd, 1) := by decide +kernel
theorem dX1_take_103 : decode cX1_take 103 = .ok (.iastore, 1) := by decide +kernel
theorem dX1_take_104 : decode cX1_take 104 = .ok (.aload_n 0, 1) := by decide +kernel
theorem dX1_take_105 : decode cX1_take 105 = .ok (.getfield 20, 3) := by decide +kernel
theorem dX1_take_108 : decode cX1_take 108 = .ok (.bipush 6, 2) := by decide +kernel
theorem dX1_take_110 : decode cX1_take 110 = .ok (.dup2, 1) := by decide +kernel
theorem dX1_take_111 : decode cX1_take 111 = .ok (.iaload, 1) := by decide +kernel
theorem dX1_take_112 : decode cX1_take 112 = .ok (.iconst 0, 1) := by decide +kernel
theorem dX1_take_113 : decode cX1_take 113 = .ok (.aload_n 1, 1) := by decide +kernel
theorem dX1_take_114 : decode cX1_take 114 = .ok (.getfield 105, 3) := by decide +kernel
theorem dX1_take_117 : decode cX1_take 117 = .ok (.ineg, 1) := by decide +kernel
theorem dX1_take_118 : decode cX1_take 118 = .ok (.invokestatic 70, 3) := by decide +kernel
theorem dX1_take_121 : decode cX1_take 121 = .ok (.iadd, 1) := by decide +kernel
theorem dX1_take_122 : decode cX1_take 122 = .ok (.iastore, 1) := by decide +kernel
theorem dX1_take_123 : decode cX1_take 123 = .ok (.return_, 1) := by decide +kernel
theorem dX1_enterRecord_0 : decode cX1_enterRecord 0 = .ok (.aload_n 0, 1) := by decide +kernel
theorem dX1_enterRecord_1 : decode cX1_enterRecord 1 = .ok (.getfield 26, 3) := by decide +kernel
theorem dX1_enterRecord_4 : decode cX1_enterRecord 4 = .ok (.sipush 144, 3) := by decide +kernel
theorem dX1_enterRecord_7 : decode cX1_enterRecord 7 = .ok (.idiv, 1) := by decide +kernel
theorem dX1_enterRecord_8 : decode cX1_enterRecord 8 = .ok (.invokestatic 114, 3) := by decide +kernel
theorem dX1_enterRecord_11 : decode cX1_enterRecord 11 = .ok (.istore_n 2, 1) := by decide +kernel
theorem dX1_enterRecord_12 : decode cX1_enterRecord 12 = .ok (.aload_n 0, 1) := by decide +kernel
theorem dX1_enterRecord_13 : decode cX1_enterRecord 13 = .ok (.invokevirtual 57, 3) := by decide +kernel
theorem dX1_enterRecord_16 : decode cX1_enterRecord 16 = .ok (.istore_n 3, 1) := by decide +kernel
theorem dX1_enterRecord_17 : decode cX1_enterRecord 17 = .ok (.aload_n 0, 1) := by decide +kernel
theorem dX1_enterRecord_18 : decode cX1_enterRecord 18 = .ok (.getfield 26, 3) := by decide +kernel
theorem dX1_enterRecord_21 : decode cX1_enterRecord 21 = .ok (.sipush 144, 3) := by decide +kernel
theorem dX1_enterRecord_24 : decode cX1_enterRecord 24 = .ok (.irem, 1) := by decide +kernel
theorem dX1_enterRecord_25 : decode cX1_enterRecord 25 = .ok (.ifCond .ne 9, 3) := by decide +kernel
theorem dX1_enterRecord_28 : decode cX1_enterRecord 28 = .ok (.aload_n 0, 1) := by decide +kernel
theorem dX1_enterRecord_29 : decode cX1_enterRecord 29 = .ok (.iload_n 2, 1) := by decide +kernel
theorem dX1_enterRecord_30 : decode cX1_enterRecord 30 = .ok (.iload_n 3, 1) := by decide +kernel
theorem dX1_enterRecord_31 : decode cX1_enterRecord 31 = .ok (.invokevirtual 117, 3) := by decide +kernel
theorem dX1_enterRecord_34 : decode cX1_enterRecord 34 = .ok (.aload_n 0, 1) := by decide +kernel
theorem dX1_enterRecord_35 : decode cX1_enterRecord 35 = .ok (.getfield 23, 3) := by decide +kernel
theorem dX1_enterRecord_38 : decode cX1_enterRecord 38 = .ok (.iload_n 2, 1) := by decide +kernel
theorem dX1_enterRecord_39 : decode cX1_enterRecord 39 = .ok (.iconst 0, 1) := by decide +kernel
theorem dX1_enterRecord_40 : decode cX1_enterRecord 40 = .ok (.iadd, 1) := by decide +kernel
theorem dX1_enterRecord_41 : decode cX1_enterRecord 41 = .ok (.dup2, 1) := by decide +kernel
theorem dX1_enterRecord_42 : decode cX1_enterRecord 42 = .ok (.iaload, 1) := by decide +kernel
theorem dX1_enterRecord_43 : decode cX1_enterRecord 43 = .ok (.aload_n 1, 1) := by decide +kernel
theorem dX1_enterRecord_44 : decode cX1_enterRecord 44 = .ok (.getfield 108, 3) := by decide +kernel
theorem dX1_enterRecord_47 : decode cX1_enterRecord 47 = .ok (.iadd, 1) := by decide +kernel
theorem dX1_enterRecord_48 : decode cX1_enterRecord 48 = .ok (.iastore, 1) := by decide +kernel
theorem dX1_enterRecord_49 : decode cX1_enterRecord 49 = .ok (.aload_n 0, 1) := by decide +kernel
theorem dX1_enterRecord_50 : decode cX1_enterRecord 50 = .ok (.getfield 23, 3) := by decide +kernel
theorem dX1_enterRecord_53 : decode cX1_enterRecord 53 = .ok (.iload_n 2, 1) := by decide +kernel
theorem dX1_enterRecord_54 : decode cX1_enterRecord 54 = .ok (.iconst 1, 1) := by decide +kernel
theorem dX1_enterRecord_55 : decode cX1_enterRecord 55 = .ok (.iadd, 1) := by decide +kernel
theorem dX1_enterRecord_56 : decode cX1_enterRecord 56 = .ok (.dup2, 1) := by decide +kernel
theorem dX1_enterRecord_57 : decode cX1_enterRecord 57 = .ok (.iaload, 1) := by decide +kernel
theorem dX1_enterRecord_58 : decode cX1_enterRecord 58 = .ok (.aload_n 1, 1) := by decide +kernel
theorem dX1_enterRecord_59 : decode cX1_enterRecord 59 = .ok (.getfield 111, 3) := by decide +kernel
theorem dX1_enterRecord_62 : decode cX1_enterRecord 62 = .ok (.iadd, 1) := by decide +kernel
theorem dX1_enterRecord_63 : decode cX1_enterRecord 63 = .ok (.iastore, 1) := by decide +kernel
theorem dX1_enterRecord_64 : decode cX1_enterRecord 64 = .ok (.aload_n 0, 1) := by decide +kernel
theorem dX1_enterRecord_65 : decode cX1_enterRecord 65 = .ok (.getfield 23, 3) := by decide +kernel
theorem dX1_enterRecord_68 : decode cX1_enterRecord 68 = .ok (.iload_n 2, 1) := by decide +kernel
theorem dX1_enterRecord_69 : decode cX1_enterRecord 69 = .ok (.iconst 2, 1) := by decide +kernel
theorem dX1_enterRecord_70 : decode cX1_enterRecord 70 = .ok (.iadd, 1) := by decide +kernel
theorem dX1_enterRecord_71 : decode cX1_enterRecord 71 = .ok (.aload_n 0, 1) := by decide +kernel
theorem dX1_enterRecord_72 : decode cX1_enterRecord 72 = .ok (.getfield 23, 3) := by decide +kernel
theorem dX1_enterRecord_75 : decode cX1_enterRecord 75 = .ok (.iload_n 2, 1) := by decide +kernel
theorem dX1_enterRecord_76 : decode cX1_enterRecord 76 = .ok (.iconst 2, 1) := by decide +kernel
theorem dX1_enterRecord_77 : decode cX1_enterRecord 77 = .ok (.iadd, 1) := by decide +kernel
theorem dX1_enterRecord_78 : decode cX1_enterRecord 78 = .ok (.iaload, 1) := by decide +kernel
theorem dX1_enterRecord_79 : decode cX1_enterRecord 79 = .ok (.iload_n 3, 1) := by decide +kernel
theorem dX1_enterRecord_80 : decode cX1_enterRecord 80 = .ok (.invokestatic 70, 3) := by decide +kernel
theorem dX1_enterRecord_83 : decode cX1_enterRecord 83 = .ok (.iastore, 1) := by decide +kernel
theorem dX1_enterRecord_84 : decode cX1_enterRecord 84 = .ok (.aload_n 0, 1) := by decide +kernel
theorem dX1_enterRecord_85 : decode cX1_enterRecord 85 = .ok (.getfield 23, 3) := by decide +kernel
theorem dX1_enterRecord_88 : decode cX1_enterRecord 88 = .ok (.iload_n 2, 1) := by decide +kernel
theorem dX1_enterRecord_89 : decode cX1_enterRecord 89 = .ok (.iconst 3, 1) := by decide +kernel
theorem dX1_enterRecord_90 : decode cX1_enterRecord 90 = .ok (.iadd, 1) := by decide +kernel
theorem dX1_enterRecord_91 : decode cX1_enterRecord 91 = .ok (.aload_n 0, 1) := by decide +kernel
theorem dX1_enterRecord_92 : decode cX1_enterRecord 92 = .ok (.getfield 23, 3) := by decide +kernel
theorem dX1_enterRecord_95 : decode cX1_enterRecord 95 = .ok (.iload_n 2, 1) := by decide +kernel
theorem dX1_enterRecord_96 : decode cX1_enterRecord 96 = .ok (.iconst 3, 1) := by decide +kernel
theorem dX1_enterRecord_97 : decode cX1_enterRecord 97 = .ok (.iadd, 1) := by decide +kernel
theorem dX1_enterRecord_98 : decode cX1_enterRecord 98 = .ok (.iaload, 1) := by decide +kernel
theorem dX1_enterRecord_99 : decode cX1_enterRecord 99 = .ok (.iload_n 3, 1) := by decide +kernel
theorem dX1_enterRecord_100 : decode cX1_enterRecord 100 = .ok (.invokestatic 121, 3) := by decide +kernel
theorem dX1_enterRecord_103 : decode cX1_enterRecord 103 = .ok (.iastore, 1) := by decide +kernel
theorem dX1_enterRecord_104 : decode cX1_enterRecord 104 = .ok (.aload_n 0, 1) := by decide +kernel
theorem dX1_enterRecord_105 : decode cX1_enterRecord 105 = .ok (.getfield 23, 3) := by decide +kernel
theorem dX1_enterRecord_108 : decode cX1_enterRecord 108 = .ok (.iload_n 2, 1) := by decide +kernel
theorem dX1_enterRecord_109 : decode cX1_enterRecord 109 = .ok (.iconst 4, 1) := by decide +kernel
theorem dX1_enterRecord_110 : decode cX1_enterRecord 110 = .ok (.iadd, 1) := by decide +kernel
theorem dX1_enterRecord_111 : decode cX1_enterRecord 111 = .ok (.dup2, 1) := by decide +kernel
theorem dX1_enterRecord_112 : decode cX1_enterRecord 112 = .ok (.iaload, 1) := by decide +kernel
theorem dX1_enterRecord_113 : decode cX1_enterRecord 113 = .ok (.iconst 0, 1) := by decide +kernel
theorem dX1_enterRecord_114 : decode cX1_enterRecord 114 = .ok (.aload_n 1, 1) := by decide +kernel
theorem dX1_enterRecord_115 : decode cX1_enterRecord 115 = .ok (.getfield 102, 3) := by decide +kernel
theorem dX1_enterRecord_118 : decode cX1_enterRecord 118 = .ok (.invokestatic 70, 3) := by decide +kernel
theorem dX1_enterRecord_121 : decode cX1_enterRecord 121 = .ok (.iadd, 1) := by decide +kernel
theorem dX1_enterRecord_122 : decode cX1_enterRecord 122 = .ok (.iastore, 1) := by decide +kernel
theorem dX1_enterRecord_123 : decode cX1_enterRecord 123 = .ok (.aload_n 0, 1) := by decide +kernel
theorem dX1_enterRecord_124 : decode cX1_enterRecord 124 = .ok (.getfield 23, 3) := by decide +kernel
theorem dX1_enterRecord_127 : decode cX1_enterRecord 127 = .ok (.iload_n 2, 1) := by decide +kernel
theorem dX1_enterRecord_128 : decode cX1_enterRecord 128 = .ok (.iconst 5, 1) := by decide +kernel
theorem dX1_enterRecord_129 : decode cX1_enterRecord 129 = .ok (.iadd, 1) := by decide +kernel
theorem dX1_enterRecord_130 : decode cX1_enterRecord 130 = .ok (.dup2, 1) := by decide +kernel
theorem dX1_enterRecord_131 : decode cX1_enterRecord 131 = .ok (.iaload, 1) := by decide +kernel
theorem dX1_enterRecord_132 : decode cX1_enterRecord 132 = .ok (.iconst 0, 1) := by decide +kernel
theorem dX1_enterRecord_133 : decode cX1_enterRecord 133 = .ok (.aload_n 1, 1) := by decide +kernel
theorem dX1_enterRecord_134 : decode cX1_enterRecord 134 = .ok (.getfield 102, 3) := by decide +kernel
theorem dX1_enterRecord_137 : decode cX1_enterRecord 137 = .ok (.ineg, 1) := by decide +kernel
theorem dX1_enterRecord_138 : decode cX1_enterRecord 138 = .ok (.invokestatic 70, 3) := by decide +kernel
theorem dX1_enterRecord_141 : decode cX1_enterRecord 141 = .ok (.iadd, 1) := by decide +kernel
theorem dX1_enterRecord_142 : decode cX1_enterRecord 142 = .ok (.iastore, 1) := by decide +kernel
theorem dX1_enterRecord_143 : decode cX1_enterRecord 143 = .ok (.return_, 1) := by decide +kernel
theorem dX1_beginRecord_0 : decode cX1_beginRecord 0 = .ok (.aload_n 0, 1) := by decide +kernel
theorem dX1_beginRecord_1 : decode cX1_beginRecord 1 = .ok (.getfield 23, 3) := by decide +kernel
theorem dX1_beginRecord_4 : decode cX1_beginRecord 4 = .ok (.iload_n 1, 1) := by decide +kernel
theorem dX1_beginRecord_5 : decode cX1_beginRecord 5 = .ok (.iconst 0, 1) := by decide +kernel
theorem dX1_beginRecord_6 : decode cX1_beginRecord 6 = .ok (.iadd, 1) := by decide +kernel
theorem dX1_beginRecord_7 : decode cX1_beginRecord 7 = .ok (.iconst 0, 1) := by decide +kernel
theorem dX1_beginRecord_8 : decode cX1_beginRecord 8 = .ok (.iastore, 1) := by decide +kernel
theorem dX1_beginRecord_9 : decode cX1_beginRecord 9 = .ok (.aload_n 0, 1) := by decide +kernel
theorem dX1_beginRecord_10 : decode cX1_beginRecord 10 = .ok (.getfield 23, 3) := by decide +kernel
theorem dX1_beginRecord_13 : decode cX1_beginRecord 13 = .ok (.iload_n 1, 1) := by decide +kernel
theorem dX1_beginRecord_14 : decode cX1_beginRecord 14 = .ok (.iconst 1, 1) := by decide +kernel
theorem dX1_beginRecord_15 : decode cX1_beginRecord 15 = .ok (.iadd, 1) := by decide +kernel
theorem dX1_beginRecord_16 : decode cX1_beginRecord 16 = .ok (.iconst 0, 1) := by decide +kernel
theorem dX1_beginRecord_17 : decode cX1_beginRecord 17 = .ok (.iastore, 1) := by decide +kernel
theorem dX1_beginRecord_18 : decode cX1_beginRecord 18 = .ok (.aload_n 0, 1) := by decide +kernel
theorem dX1_beginRecord_19 : decode cX1_beginRecord 19 = .ok (.getfield 23, 3) := by decide +kernel
theorem dX1_beginRecord_22 : decode cX1_beginRecord 22 = .ok (.iload_n 1, 1) := by decide +kernel
theorem dX1_beginRecord_23 : decode cX1_beginRecord 23 = .ok (.iconst 2, 1) := by decide +kernel
theorem dX1_beginRecord_24 : decode cX1_beginRecord 24 = .ok (.iadd, 1) := by decide +kernel
theorem dX1_beginRecord_25 : decode cX1_beginRecord 25 = .ok (.iload_n 2, 1) := by decide +kernel
theorem dX1_beginRecord_26 : decode cX1_beginRecord 26 = .ok (.iastore, 1) := by decide +kernel
theorem dX1_beginRecord_27 : decode cX1_beginRecord 27 = .ok (.aload_n 0, 1) := by decide +kernel
theorem dX1_beginRecord_28 : decode cX1_beginRecord 28 = .ok (.getfield 23, 3) := by decide +kernel
theorem dX1_beginRecord_31 : decode cX1_beginRecord 31 = .ok (.iload_n 1, 1) := by decide +kernel
theorem dX1_beginRecord_32 : decode cX1_beginRecord 32 = .ok (.iconst 3, 1) := by decide +kernel
theorem dX1_beginRecord_33 : decode cX1_beginRecord 33 = .ok (.iadd, 1) := by decide +kernel
theorem dX1_beginRecord_34 : decode cX1_beginRecord 34 = .ok (.iload_n 2, 1) := by decide +kernel
theorem dX1_beginRecord_35 : decode cX1_beginRecord 35 = .ok (.iastore, 1) := by decide +kernel
theorem dX1_beginRecord_36 : decode cX1_beginRecord 36 = .ok (.aload_n 0, 1) := by decide +kernel
theorem dX1_beginRecord_37 : decode cX1_beginRecord 37 = .ok (.getfield 23, 3) := by decide +kernel
theorem dX1_beginRecord_40 : decode cX1_beginRecord 40 = .ok (.iload_n 1, 1) := by decide +kernel
theorem dX1_beginRecord_41 : decode cX1_beginRecord 41 = .ok (.iconst 4, 1) := by decide +kernel
theorem dX1_beginRecord_42 : decode cX1_beginRecord 42 = .ok (.iadd, 1) := by decide +kernel
theorem dX1_beginRecord_43 : decode cX1_beginRecord 43 = .ok (.iconst 0, 1) := by decide +kernel
theorem dX1_beginRecord_44 : decode cX1_beginRecord 44 = .ok (.iastore, 1) := by decide +kernel
theorem dX1_beginRecord_45 : decode cX1_beginRecord 45 = .ok (.aload_n 0, 1) := by decide +kernel
theorem dX1_beginRecord_46 : decode cX1_beginRecord 46 = .ok (.getfield 23, 3) := by decide +kernel
theorem dX1_beginRecord_49 : decode cX1_beginRecord 49 = .ok (.iload_n 1, 1) := by decide +kernel
theorem dX1_beginRecord_50 : decode cX1_beginRecord 50 = .ok (.iconst 5, 1) := by decide +kernel
theorem dX1_beginRecord_51 : decode cX1_beginRecord 51 = .ok (.iadd, 1) := by decide +kernel
theorem dX1_beginRecord_52 : decode cX1_beginRecord 52 = .ok (.iconst 0, 1) := by decide +kernel
theorem dX1_beginRecord_53 : decode cX1_beginRecord 53 = .ok (.iastore, 1) := by decide +kernel
theorem dX1_beginRecord_54 : decode cX1_beginRecord 54 = .ok (.return_, 1) := by decide +kernel
theorem dX2_init_0 : decode cX2_init 0 = .ok (.aload_n 0, 1) := by decide +kernel
theorem dX2_init_1 : decode cX2_init 1 = .ok (.invokespecial 3, 3) := by decide +kernel
theorem dX2_init_4 : decode cX2_init 4 = .ok (.return_, 1) := by decide +kernel
theorem dX3_init_0 : decode cX3_init 0 = .ok (.aload_n 0, 1) := by decide +kernel
theorem dX3_init_1 : decode cX3_init 1 = .ok (.invokespecial 3, 3) := by decide +kernel
theorem dX3_init_4 : decode cX3_init 4 = .ok (.aload_n 0, 1) := by decide +kernel
theorem dX3_init_5 : decode cX3_init 5 = .ok (.bipush 60, 2) := by decide +kernel
theorem dX3_init_7 : decode cX3_init 7 = .ok (.newarray .char, 2) := by decide +kernel
theorem dX3_init_9 : decode cX3_init 9 = .ok (.putfield 9, 3) := by decide +kernel
theorem dX3_init_12 : decode cX3_init 12 = .ok (.return_, 1) := by decide +kernel
theorem dX4_init_0 : decode cX4_init 0 = .ok (.aload_n 0, 1) := by decide +kernel
theorem dX4_init_1 : decode cX4_init 1 = .ok (.invokespecial 3, 3) := by decide +kernel
theorem dX4_init_4 : decode cX4_init 4 = .ok (.return_, 1) := by decide +kernel
theorem dX4_foresee_0 : decode cX4_foresee 0 = .ok (.iload_n 2, 1) := by decide +kernel
theorem dX4_foresee_1 : decode cX4_foresee 1 = .ok (.invokestatic 9, 3) := by decide +kernel
theorem dX4_foresee_4 : decode cX4_foresee 4 = .ok (.istore_n 3, 1) := by decide +kernel
theorem dX4_foresee_5 : decode cX4_foresee 5 = .ok (.aload_n 1, 1) := by decide +kernel
theorem dX4_foresee_6 : decode cX4_foresee 6 = .ok (.invokevirtual 15, 3) := by decide +kernel
theorem dX4_foresee_9 : decode cX4_foresee 9 = .ok (.istore 4, 2) := by decide +kernel
theorem dX4_foresee_11 : decode cX4_foresee 11 = .ok (.aload_n 0, 1) := by decide +kernel
theorem dX4_foresee_12 : decode cX4_foresee 12 = .ok (.iload 4, 2) := by decide +kernel
theorem dX4_foresee_14 : decode cX4_foresee 14 = .ok (.ifCond .eq 7, 3) := by decide +kernel
theorem dX4_foresee_17 : decode cX4_foresee 17 = .ok (.iconst 0, 1) := by decide +kernel
theorem dX4_foresee_18 : decode cX4_foresee 18 = .ok (.goto 11, 3) := by decide +kernel
theorem dX4_foresee_21 : decode cX4_foresee 21 = .ok (.aload_n 1, 1) := by decide +kernel
theorem dX4_foresee_22 : decode cX4_foresee 22 = .ok (.getfield 21, 3) := by decide +kernel
theorem dX4_foresee_25 : decode cX4_foresee 25 = .ok (.iload_n 2, 1) := by decide +kernel
theorem dX4_foresee_26 : decode cX4_foresee 26 = .ok (.imul, 1) := by decide +kernel
theorem dX4_foresee_27 : decode cX4_foresee 27 = .ok (.iconst 2, 1) := by decide +kernel
theorem dX4_foresee_28 : decode cX4_foresee 28 = .ok (.imul, 1) := by decide +kernel
theorem dX4_foresee_29 : decode cX4_foresee 29 = .ok (.putfield 25, 3) := by decide +kernel
theorem dX4_foresee_32 : decode cX4_foresee 32 = .ok (.aload_n 0, 1) := by decide +kernel
theorem dX4_foresee_33 : decode cX4_foresee 33 = .ok (.iload_n 3, 1) := by decide +kernel
theorem dX4_foresee_34 : decode cX4_foresee 34 = .ok (.aload_n 1, 1) := by decide +kernel
theorem dX4_foresee_35 : decode cX4_foresee 35 = .ok (.getfield 30, 3) := by decide +kernel
theorem dX4_foresee_38 : decode cX4_foresee 38 = .ok (.iconst 0, 1) := by decide +kernel
theorem dX4_foresee_39 : decode cX4_foresee 39 = .ok (.iaload, 1) := by decide +kernel
theorem dX4_foresee_40 : decode cX4_foresee 40 = .ok (.if_icmp .lt 12, 3) := by decide +kernel
theorem dX4_foresee_43 : decode cX4_foresee 43 = .ok (.aload_n 1, 1) := by decide +kernel
theorem dX4_foresee_44 : decode cX4_foresee 44 = .ok (.getfield 34, 3) := by decide +kernel
theorem dX4_foresee_47 : decode cX4_foresee 47 = .ok (.iload_n 2, 1) := by decide +kernel
theorem dX4_foresee_48 : decode cX4_foresee 48 = .ok (.imul, 1) := by decide +kernel
theorem dX4_foresee_49 : decode cX4_foresee 49 = .ok (.goto 4, 3) := by decide +kernel
theorem dX4_foresee_52 : decode cX4_foresee 52 = .ok (.iconst 0, 1) := by decide +kernel
theorem dX4_foresee_53 : decode cX4_foresee 53 = .ok (.putfield 37, 3) := by decide +kernel
theorem dX4_foresee_56 : decode cX4_foresee 56 = .ok (.aload_n 0, 1) := by decide +kernel
theorem dX4_foresee_57 : decode cX4_foresee 57 = .ok (.iload 4, 2) := by decide +kernel
theorem dX4_foresee_59 : decode cX4_foresee 59 = .ok (.ifCond .ne 20, 3) := by decide +kernel
theorem dX4_foresee_62 : decode cX4_foresee 62 = .ok (.iload_n 3, 1) := by decide +kernel
theorem dX4_foresee_63 : decode cX4_foresee 63 = .ok (.aload_n 1, 1) := by decide +kernel
theorem dX4_foresee_64 : decode cX4_foresee 64 = .ok (.getfield 30, 3) := by decide +kernel
theorem dX4_foresee_67 : decode cX4_foresee 67 = .ok (.iconst 1, 1) := by decide +kernel
theorem dX4_foresee_68 : decode cX4_foresee 68 = .ok (.iaload, 1) := by decide +kernel
theorem dX4_foresee_69 : decode cX4_foresee 69 = .ok (.if_icmp .gt 10, 3) := by decide +kernel
theorem dX4_foresee_72 : decode cX4_foresee 72 = .ok (.aload_n 1, 1) := by decide +kernel
theorem dX4_foresee_73 : decode cX4_foresee 73 = .ok (.getfield 40, 3) := by decide +kernel
theorem dX4_foresee_76 : decode cX4_foresee 76 = .ok (.goto 4, 3) := by decide +kernel
theorem dX4_foresee_79 : decode cX4_foresee 79 = .ok (.iconst 0, 1) := by decide +kernel
theorem dX4_foresee_80 : decode cX4_foresee 80 = .ok (.putfield 43, 3) := by decide +kernel
theorem dX4_foresee_83 : decode cX4_foresee 83 = .ok (.aload_n 0, 1) := by decide +kernel
theorem dX4_foresee_84 : decode cX4_foresee 84 = .ok (.aload_n 0, 1) := by decide +kernel
theorem dX4_foresee_85 : decode cX4_foresee 85 = .ok (.getfield 37, 3) := by decide +kernel
theorem dX4_foresee_88 : decode cX4_foresee 88 = .ok (.invokestatic 9, 3) := by decide +kernel
theorem dX4_foresee_91 : decode cX4_foresee 91 = .ok (.iload_n 3, 1) := by decide +kernel
theorem dX4_foresee_92 : decode cX4_foresee 92 = .ok (.imul, 1) := by decide +kernel
theorem dX4_foresee_93 : decode cX4_foresee 93 = .ok (.bipush 100, 2) := by decide +kernel
theorem dX4_foresee_95 : decode cX4_foresee 95 = .ok (.idiv, 1) := by decide +kernel
theorem dX4_foresee_96 : decode cX4_foresee 96 = .ok (.putfield 46, 3) := by decide +kernel
theorem dX4_foresee_99 : decode cX4_foresee 99 = .ok (.aload_n 0, 1) := by decide +kernel
theorem dX4_foresee_100 : decode cX4_foresee 100 = .ok (.aload_n 0, 1) := by decide +kernel
theorem dX4_foresee_101 : decode cX4_foresee 101 = .ok (.getfield 43, 3) := by decide +kernel
theorem dX4_foresee_104 : decode cX4_foresee 104 = .ok (.invokestatic 9, 3) := by decide +kernel
theorem dX4_foresee_107 : decode cX4_foresee 107 = .ok (.bipush 20, 2) := by decide +kernel
theorem dX4_foresee_109 : decode cX4_foresee 109 = .ok (.iload_n 3, 1) := by decide +kernel
theorem dX4_foresee_110 : decode cX4_foresee 110 = .ok (.iadd, 1) := by decide +kernel
theorem dX4_foresee_111 : decode cX4_foresee 111 = .ok (.imul, 1) := by decide +kernel
theorem dX4_foresee_112 : decode cX4_foresee 112 = .ok (.bipush 100, 2) := by decide +kernel
theorem dX4_foresee_114 : decode cX4_foresee 114 = .ok (.idiv, 1) := by decide +kernel
theorem dX4_foresee_115 : decode cX4_foresee 115 = .ok (.putfield 49, 3) := by decide +kernel
theorem dX4_foresee_118 : decode cX4_foresee 118 = .ok (.aload_n 0, 1) := by decide +kernel
theorem dX4_foresee_119 : decode cX4_foresee 119 = .ok (.getfield 25, 3) := by decide +kernel
theorem dX4_foresee_122 : decode cX4_foresee 122 = .ok (.aload_n 0, 1) := by decide +kernel
theorem dX4_foresee_123 : decode cX4_foresee 123 = .ok (.getfield 37, 3) := by decide +kernel
theorem dX4_foresee_126 : decode cX4_foresee 126 = .ok (.iadd, 1) := by decide +kernel
theorem dX4_foresee_127 : decode cX4_foresee 127 = .ok (.aload_n 0, 1) := by decide +kernel
theorem dX4_foresee_128 : decode cX4_foresee 128 = .ok (.getfield 43, 3) := by decide +kernel
theorem dX4_foresee_131 : decode cX4_foresee 131 = .ok (.iadd, 1) := by decide +kernel
theorem dX4_foresee_132 : decode cX4_foresee 132 = .ok (.istore 5, 2) := by decide +kernel
theorem dX4_foresee_134 : decode cX4_foresee 134 = .ok (.aload_n 0, 1) := by decide +kernel
theorem dX4_foresee_135 : decode cX4_foresee 135 = .ok (.aload_n 1, 1) := by decide +kernel
theorem dX4_foresee_136 : decode cX4_foresee 136 = .ok (.getfield 52, 3) := by decide +kernel
theorem dX4_foresee_139 : decode cX4_foresee 139 = .ok (.ineg, 1) := by decide +kernel
theorem dX4_foresee_140 : decode cX4_foresee 140 = .ok (.ldc 55, 2) := by decide +kernel
theorem dX4_foresee_142 : decode cX4_foresee 142 = .ok (.aload_n 1, 1) := by decide +kernel
theorem dX4_foresee_143 : decode cX4_foresee 143 = .ok (.getfield 52, 3) := by decide +kernel
theorem dX4_foresee_146 : decode cX4_foresee 146 = .ok (.isub, 1) := by decide +kernel
theorem dX4_foresee_147 : decode cX4_foresee 147 = .ok (.iload 5, 2) := by decide +kernel
theorem dX4_foresee_149 : decode cX4_foresee 149 = .ok (.invokestatic 56, 3) := by decide +kernel
theorem dX4_foresee_152 : decode cX4_foresee 152 = .ok (.invokestatic 60, 3) := by decide +kernel
theorem dX4_foresee_155 : decode cX4_foresee 155 = .ok (.putfield 63, 3) := by decide +kernel
theorem dX4_foresee_158 : decode cX4_foresee 158 = .ok (.aload_n 0, 1) := by decide +kernel
theorem dX4_foresee_159 : decode cX4_foresee 159 = .ok (.aload_n 0, 1) := by decide +kernel
theorem dX4_foresee_160 : decode cX4_foresee 160 = .ok (.aload_n 1, 1) := by decide +kernel
theorem dX4_foresee_161 : decode cX4_foresee 161 = .ok (.invokevirtual 66, 3) := by decide +kernel
theorem dX4_foresee_164 : decode cX4_foresee 164 = .ok (.putfield 70, 3) := by decide +kernel
theorem dX4_foresee_167 : decode cX4_foresee 167 = .ok (.return_, 1) := by decide +kernel
theorem dX4_siltOf_0 : decode cX4_siltOf 0 = .ok (.aload_n 0, 1) := by decide +kernel
theorem dX4_siltOf_1 : decode cX4_siltOf 1 = .ok (.getfield 63, 3) := by decide +kernel
theorem dX4_siltOf_4 : decode cX4_siltOf 4 = .ok (.ifCond .le 22, 3) := by decide +kernel
theorem dX4_siltOf_7 : decode cX4_siltOf 7 = .ok (.aload_n 0, 1) := by decide +kernel
theorem dX4_siltOf_8 : decode cX4_siltOf 8 = .ok (.getfield 63, 3) := by decide +kernel
theorem dX4_siltOf_11 : decode cX4_siltOf 11 = .ok (.bipush 50, 2) := by decide +kernel
theorem dX4_siltOf_13 : decode cX4_siltOf 13 = .ok (.idiv, 1) := by decide +kernel
theorem dX4_siltOf_14 : decode cX4_siltOf 14 = .ok (.sipush 20000, 3) := by decide +kernel
theorem dX4_siltOf_17 : decode cX4_siltOf 17 = .ok (.aload_n 1, 1) := by decide +kernel
theorem dX4_siltOf_18 : decode cX4_siltOf 18 = .ok (.getfield 73, 3) := by decide +kernel
theorem dX4_siltOf_21 : decode cX4_siltOf 21 = .ok (.isub, 1) := by decide +kernel
theorem dX4_siltOf_22 : decode cX4_siltOf 22 = .ok (.invokestatic 56, 3) := by decide +kernel
theorem dX4_siltOf_25 : decode cX4_siltOf 25 = .ok (.ireturn, 1) := by decide +kernel
theorem dX4_siltOf_26 : decode cX4_siltOf 26 = .ok (.aload_n 0, 1) := by decide +kernel
theorem dX4_siltOf_27 : decode cX4_siltOf 27 = .ok (.getfield 63, 3) := by decide +kernel
theorem dX4_siltOf_30 : decode cX4_siltOf 30 = .ok (.aload_n 1, 1) := by decide +kernel
theorem dX4_siltOf_31 : decode cX4_siltOf 31 = .ok (.getfield 30, 3) := by decide +kernel
theorem dX4_siltOf_34 : decode cX4_siltOf 34 = .ok (.iconst 2, 1) := by decide +kernel
theorem dX4_siltOf_35 : decode cX4_siltOf 35 = .ok (.iaload, 1) := by decide +kernel
theorem dX4_siltOf_36 : decode cX4_siltOf 36 = .ok (.ineg, 1) := by decide +kernel
theorem dX4_siltOf_37 : decode cX4_siltOf 37 = .ok (.if_icmp .gt 20, 3) := by decide +kernel
theorem dX4_siltOf_40 : decode cX4_siltOf 40 = .ok (.aload_n 0, 1) := by decide +kernel
theorem dX4_siltOf_41 : decode cX4_siltOf 41 = .ok (.getfield 63, 3) := by decide +kernel
theorem dX4_siltOf_44 : decode cX4_siltOf 44 = .ok (.ineg, 1) := by decide +kernel
theorem dX4_siltOf_45 : decode cX4_siltOf 45 = .ok (.bipush 20, 2) := by decide +kernel
theorem dX4_siltOf_47 : decode cX4_siltOf 47 = .ok (.idiv, 1) := by decide +kernel
theorem dX4_siltOf_48 : decode cX4_siltOf 48 = .ok (.aload_n 1, 1) := by decide +kernel
theorem dX4_siltOf_49 : decode cX4_siltOf 49 = .ok (.getfield 73, 3) := by decide +kernel
theorem dX4_siltOf_52 : decode cX4_siltOf 52 = .ok (.invokestatic 56, 3) := by decide +kernel
theorem dX4_siltOf_55 : decode cX4_siltOf 55 = .ok (.ineg, 1) := by decide +kernel
theorem dX4_siltOf_56 : decode cX4_siltOf 56 = .ok (.ireturn, 1) := by decide +kernel
theorem dX4_siltOf_57 : decode cX4_siltOf 57 = .ok (.iconst 0, 1) := by decide +kernel
theorem dX4_siltOf_58 : decode cX4_siltOf 58 = .ok (.ireturn, 1) := by decide +kernel
theorem dX5_init_0 : decode cX5_init 0 = .ok (.aload_n 0, 1) := by decide +kernel
theorem dX5_init_1 : decode cX5_init 1 = .ok (.invokespecial 1, 3) := by decide +kernel
theorem dX5_init_4 : decode cX5_init 4 = .ok (.aload_n 0, 1) := by decide +kernel
theorem dX5_init_5 : decode cX5_init 5 = .ok (.new 7, 3) := by decide +kernel
theorem dX5_init_8 : decode cX5_init 8 = .ok (.dup, 1) := by decide +kernel
theorem dX5_init_9 : decode cX5_init 9 = .ok (.invokespecial 9, 3) := by decide +kernel
theorem dX5_init_12 : decode cX5_init 12 = .ok (.putfield 10, 3) := by decide +kernel
theorem dX5_init_15 : decode cX5_init 15 = .ok (.aload_n 0, 1) := by decide +kernel
theorem dX5_init_16 : decode cX5_init 16 = .ok (.new 7, 3) := by decide +kernel
theorem dX5_init_19 : decode cX5_init 19 = .ok (.dup, 1) := by decide +kernel
theorem dX5_init_20 : decode cX5_init 20 = .ok (.invokespecial 9, 3) := by decide +kernel
theorem dX5_init_23 : decode cX5_init 23 = .ok (.putfield 16, 3) := by decide +kernel
theorem dX5_init_26 : decode cX5_init 26 = .ok (.aload_n 0, 1) := by decide +kernel
theorem dX5_init_27 : decode cX5_init 27 = .ok (.new 19, 3) := by decide +kernel
theorem dX5_init_30 : decode cX5_init 30 = .ok (.dup, 1) := by decide +kernel
theorem dX5_init_31 : decode cX5_init 31 = .ok (.invokespecial 21, 3) := by decide +kernel
theorem dX5_init_34 : decode cX5_init 34 = .ok (.putfield 22, 3) := by decide +kernel
theorem dX5_init_37 : decode cX5_init 37 = .ok (.aload_n 0, 1) := by decide +kernel
theorem dX5_init_38 : decode cX5_init 38 = .ok (.new 26, 3) := by decide +kernel
theorem dX5_init_41 : decode cX5_init 41 = .ok (.dup, 1) := by decide +kernel
theorem dX5_init_42 : decode cX5_init 42 = .ok (.invokespecial 28, 3) := by decide +kernel
theorem dX5_init_45 : decode cX5_init 45 = .ok (.putfield 29, 3) := by decide +kernel
theorem dX5_init_48 : decode cX5_init 48 = .ok (.aload_n 0, 1) := by decide +kernel
theorem dX5_init_49 : decode cX5_init 49 = .ok (.new 33, 3) := by decide +kernel
theorem dX5_init_52 : decode cX5_init 52 = .ok (.dup, 1) := by decide +kernel
theorem dX5_init_53 : decode cX5_init 53 = .ok (.invokespecial 35, 3) := by decide +kernel
theorem dX5_init_56 : decode cX5_init 56 = .ok (.putfield 36, 3) := by decide +kernel
theorem dX5_init_59 : decode cX5_init 59 = .ok (.aload_n 0, 1) := by decide +kernel
theorem dX5_init_60 : decode cX5_init 60 = .ok (.new 40, 3) := by decide +kernel
theorem dX5_init_63 : decode cX5_init 63 = .ok (.dup, 1) := by decide +kernel
theorem dX5_init_64 : decode cX5_init 64 = .ok (.invokespecial 42, 3) := by decide +kernel
theorem dX5_init_67 : decode cX5_init 67 = .ok (.putfield 43, 3) := by decide +kernel
theorem dX5_init_70 : decode cX5_init 70 = .ok (.return_, 1) := by decide +kernel
theorem dX5_gates_0 : decode cX5_gates 0 = .ok (.aload_n 0, 1) := by decide +kernel
theorem dX5_gates_1 : decode cX5_gates 1 = .ok (.getfield 16, 3) := by decide +kernel
theorem dX5_gates_4 : decode cX5_gates 4 = .ok (.aload_n 0, 1) := by decide +kernel
theorem dX5_gates_5 : decode cX5_gates 5 = .ok (.getfield 10, 3) := by decide +kernel
theorem dX5_gates_8 : decode cX5_gates 8 = .ok (.invokevirtual 47, 3) := by decide +kernel
theorem dX5_gates_11 : decode cX5_gates 11 = .ok (.aload_n 0, 1) := by decide +kernel
theorem dX5_gates_12 : decode cX5_gates 12 = .ok (.aload_n 0, 1) := by decide +kernel
theorem dX5_gates_13 : decode cX5_gates 13 = .ok (.getfield 16, 3) := by decide +kernel
theorem dX5_gates_16 : decode cX5_gates 16 = .ok (.iload_n 1, 1) := by decide +kernel
theorem dX5_gates_17 : decode cX5_gates 17 = .ok (.invokevirtual 51, 3) := by decide +kernel
theorem dX5_gates_20 : decode cX5_gates 20 = .ok (.invokevirtual 55, 3) := by decide +kernel
theorem dX5_gates_23 : decode cX5_gates 23 = .ok (.ireturn, 1) := by decide +kernel
theorem dX5_turbines_0 : decode cX5_turbines 0 = .ok (.aload_n 0, 1) := by decide +kernel
theorem dX5_turbines_1 : decode cX5_turbines 1 = .ok (.getfield 16, 3) := by decide +kernel
theorem dX5_turbines_4 : decode cX5_turbines 4 = .ok (.aload_n 0, 1) := by decide +kernel
theorem dX5_turbines_5 : decode cX5_turbines 5 = .ok (.getfield 10, 3) := by decide +kernel
theorem dX5_turbines_8 : decode cX5_turbines 8 = .ok (.invokevirtual 47, 3) := by decide +kernel
theorem dX5_turbines_11 : decode cX5_turbines 11 = .ok (.aload_n 0, 1) := by decide +kernel
theorem dX5_turbines_12 : decode cX5_turbines 12 = .ok (.aload_n 0, 1) := by decide +kernel
theorem dX5_turbines_13 : decode cX5_turbines 13 = .ok (.getfield 16, 3) := by decide +kernel
theorem dX5_turbines_16 : decode cX5_turbines 16 = .ok (.iload_n 1, 1) := by decide +kernel
theorem dX5_turbines_17 : decode cX5_turbines 17 = .ok (.invokevirtual 58, 3) := by decide +kernel
theorem dX5_turbines_20 : decode cX5_turbines 20 = .ok (.invokevirtual 55, 3) := by decide +kernel
theorem dX5_turbines_23 : decode cX5_turbines 23 = .ok (.ireturn, 1) := by decide +kernel
theorem dX5_pump_0 : decode cX5_pump 0 = .ok (.aload_n 0, 1) := by decide +kernel
theorem dX5_pump_1 : decode cX5_pump 1 = .ok (.getfield 16, 3) := by decide +kernel
theorem dX5_pump_4 : decode cX5_pump 4 = .ok (.aload_n 0, 1) := by decide +kernel
theorem dX5_pump_5 : decode cX5_pump 5 = .ok (.getfield 10, 3) := by decide +kernel
theorem dX5_pump_8 : decode cX5_pump 8 = .ok (.invokevirtual 47, 3) := by decide +kernel
theorem dX5_pump_11 : decode cX5_pump 11 = .ok (.aload_n 0, 1) := by decide +kernel
theorem dX5_pump_12 : decode cX5_pump 12 = .ok (.aload_n 0, 1) := by decide +kernel
theorem dX5_pump_13 : decode cX5_pump 13 = .ok (.getfield 16, 3) := by decide +kernel
theorem dX5_pump_16 : decode cX5_pump 16 = .ok (.iload_n 1, 1) := by decide +kernel
theorem dX5_pump_17 : decode cX5_pump 17 = .ok (.invokevirtual 61, 3) := by decide +kernel
theorem dX5_pump_20 : decode cX5_pump 20 = .ok (.invokevirtual 55, 3) := by decide +kernel
theorem dX5_pump_23 : decode cX5_pump 23 = .ok (.ireturn, 1) := by decide +kernel
theorem dX5_birds_0 : decode cX5_birds 0 = .ok (.aload_n 0, 1) := by decide +kernel
theorem dX5_birds_1 : decode cX5_birds 1 = .ok (.getfield 16, 3) := by decide +kernel
theorem dX5_birds_4 : decode cX5_birds 4 = .ok (.aload_n 0, 1) := by decide +kernel
theorem dX5_birds_5 : decode cX5_birds 5 = .ok (.getfield 10, 3) := by decide +kernel
theorem dX5_birds_8 : decode cX5_birds 8 = .ok (.invokevirtual 47, 3) := by decide +kernel
theorem dX5_birds_11 : decode cX5_birds 11 = .ok (.aload_n 0, 1) := by decide +kernel
theorem dX5_birds_12 : decode cX5_birds 12 = .ok (.aload_n 0, 1) := by decide +kernel
theorem dX5_birds_13 : decode cX5_birds 13 = .ok (.getfield 16, 3) := by decide +kernel
theorem dX5_birds_16 : decode cX5_birds 16 = .ok (.iload_n 1, 1) := by decide +kernel
theorem dX5_birds_17 : decode cX5_birds 17 = .ok (.iload_n 2, 1) := by decide +kernel
theorem dX5_birds_18 : decode cX5_birds 18 = .ok (.invokevirtual 64, 3) := by decide +kernel
theorem dX5_birds_21 : decode cX5_birds 21 = .ok (.invokevirtual 55, 3) := by decide +kernel
theorem dX5_birds_24 : decode cX5_birds 24 = .ok (.ireturn, 1) := by decide +kernel
theorem dX5_run_0 : decode cX5_run 0 = .ok (.aload_n 0, 1) := by decide +kernel
theorem dX5_run_1 : decode cX5_run 1 = .ok (.getfield 16, 3) := by decide +kernel
theorem dX5_run_4 : decode cX5_run 4 = .ok (.aload_n 0, 1) := by decide +kernel
theorem dX5_run_5 : decode cX5_run 5 = .ok (.getfield 10, 3) := by decide +kernel
theorem dX5_run_8 : decode cX5_run 8 = .ok (.invokevirtual 47, 3) := by decide +kernel
theorem dX5_run_11 : decode cX5_run 11 = .ok (.aload_n 0, 1) := by decide +kernel
theorem dX5_run_12 : decode cX5_run 12 = .ok (.aload_n 0, 1) := by decide +kernel
theorem dX5_run_13 : decode cX5_run 13 = .ok (.getfield 16, 3) := by decide +kernel
theorem dX5_run_16 : decode cX5_run 16 = .ok (.iload_n 1, 1) := by decide +kernel
theorem dX5_run_17 : decode cX5_run 17 = .ok (.aload_n 0, 1) := by decide +kernel
theorem dX5_run_18 : decode cX5_run 18 = .ok (.getfield 22, 3) := by decide +kernel
theorem dX5_run_21 : decode cX5_run 21 = .ok (.invokevirtual 68, 3) := by decide +kernel
theorem dX5_run_24 : decode cX5_run 24 = .ok (.invokevirtual 55, 3) := by decide +kernel
theorem dX5_run_27 : decode cX5_run 27 = .ok (.ireturn, 1) := by decide +kernel
theorem dX5_dredge_0 : decode cX5_dredge 0 = .ok (.aload_n 0, 1) := by decide +kernel
theorem dX5_dredge_1 : decode cX5_dredge 1 = .ok (.getfield 16, 3) := by decide +kernel
theorem dX5_dredge_4 : decode cX5_dredge 4 = .ok (.aload_n 0, 1) := by decide +kernel
theorem dX5_dredge_5 : decode cX5_dredge 5 = .ok (.getfield 10, 3) := by decide +kernel
theorem dX5_dredge_8 : decode cX5_dredge 8 = .ok (.invokevirtual 47, 3) := by decide +kernel
theorem dX5_dredge_11 : decode cX5_dredge 11 = .ok (.aload_n 0, 1) := by decide +kernel
theorem dX5_dredge_12 : decode cX5_dredge 12 = .ok (.aload_n 0, 1) := by decide +kernel
theorem dX5_dredge_13 : decode cX5_dredge 13 = .ok (.getfield 16, 3) := by decide +kernel
theorem dX5_dredge_16 : decode cX5_dredge 16 = .ok (.iload_n 1, 1) := by decide +kernel
theorem dX5_dredge_17 : decode cX5_dredge 17 = .ok (.invokevirtual 72, 3) := by decide +kernel
theorem dX5_dredge_20 : decode cX5_dredge 20 = .ok (.invokevirtual 55, 3) := by decide +kernel
theorem dX5_dredge_23 : decode cX5_dredge 23 = .ok (.ireturn, 1) := by decide +kernel
theorem dX5_set_0 : decode cX5_set 0 = .ok (.aload_n 0, 1) := by decide +kernel
theorem dX5_set_1 : decode cX5_set 1 = .ok (.getfield 16, 3) := by decide +kernel
theorem dX5_set_4 : decode cX5_set 4 = .ok (.aload_n 0, 1) := by decide +kernel
theorem dX5_set_5 : decode cX5_set 5 = .ok (.getfield 10, 3) := by decide +kernel
theorem dX5_set_8 : decode cX5_set 8 = .ok (.invokevirtual 47, 3) := by decide +kernel
theorem dX5_set_11 : decode cX5_set 11 = .ok (.aload_n 0, 1) := by decide +kernel
theorem dX5_set_12 : decode cX5_set 12 = .ok (.aload_n 0, 1) := by decide +kernel
theorem dX5_set_13 : decode cX5_set 13 = .ok (.getfield 16, 3) := by decide +kernel
theorem dX5_set_16 : decode cX5_set 16 = .ok (.iload_n 1, 1) := by decide +kernel
theorem dX5_set_17 : decode cX5_set 17 = .ok (.iload_n 2, 1) := by decide +kernel
theorem dX5_set_18 : decode cX5_set 18 = .ok (.invokevirtual 75, 3) := by decide +kernel
theorem dX5_set_21 : decode cX5_set 21 = .ok (.invokevirtual 55, 3) := by decide +kernel
theorem dX5_set_24 : decode cX5_set 24 = .ok (.ireturn, 1) := by decide +kernel
theorem dX5_now_0 : decode cX5_now 0 = .ok (.iload_n 1, 1) := by decide +kernel
theorem dX5_now_1 : decode cX5_now 1 = .ok (.tableswitch 197 0 12 #[67, 75, 87, 99, 110, 118, 126, 134, 142, 150, 158, 166, 182], 67) := by decide +kernel
theorem dX5_now_68 : decode cX5_now 68 = .ok (.aload_n 0, 1) := by decide +kernel
theorem dX5_now_69 : decode cX5_now 69 = .ok (.getfield 10, 3) := by decide +kernel
theorem dX5_now_72 : decode cX5_now 72 = .ok (.getfield 82, 3) := by decide +kernel
theorem dX5_now_75 : decode cX5_now 75 = .ok (.ireturn, 1) := by decide +kernel
theorem dX5_now_76 : decode cX5_now 76 = .ok (.aload_n 0, 1) := by decide +kernel
theorem dX5_now_77 : decode cX5_now 77 = .ok (.getfield 10, 3) := by decide +kernel
theorem dX5_now_80 : decode cX5_now 80 = .ok (.getfield 82, 3) := by decide +kernel
theorem dX5_now_83 : decode cX5_now 83 = .ok (.sipush 144, 3) := by decide +kernel
theorem dX5_now_86 : decode cX5_now 86 = .ok (.idiv, 1) := by decide +kernel
theorem dX5_now_87 : decode cX5_now 87 = .ok (.ireturn, 1) := by decide +kernel
theorem dX5_now_88 : decode cX5_now 88 = .ok (.aload_n 0, 1) := by decide +kernel
theorem dX5_now_89 : decode cX5_now 89 = .ok (.getfield 10, 3) := by decide +kernel
theorem dX5_now_92 : decode cX5_now 92 = .ok (.getfield 82, 3) := by decide +kernel
theorem dX5_now_95 : decode cX5_now 95 = .ok (.sipush 144, 3) := by decide +kernel
theorem dX5_now_98 : decode cX5_now 98 = .ok (.irem, 1) := by decide +kernel
theorem dX5_now_99 : decode cX5_now 99 = .ok (.ireturn, 1) := by decide +kernel
theorem dX5_now_100 : decode cX5_now 100 = .ok (.aload_n 0, 1) := by decide +kernel
theorem dX5_now_101 : decode cX5_now 101 = .ok (.getfield 10, 3) := by decide +kernel
theorem dX5_now_104 : decode cX5_now 104 = .ok (.getfield 82, 3) := by decide +kernel
theorem dX5_now_107 : decode cX5_now 107 = .ok (.invokestatic 79, 3) := by decide +kernel
theorem dX5_now_110 : decode cX5_now 110 = .ok (.ireturn, 1) := by decide +kernel
theorem dX5_now_111 : decode cX5_now 111 = .ok (.aload_n 0, 1) := by decide +kernel
theorem dX5_now_112 : decode cX5_now 112 = .ok (.getfield 10, 3) := by decide +kernel
theorem dX5_now_115 : decode cX5_now 115 = .ok (.invokevirtual 86, 3) := by decide +kernel
theorem dX5_now_118 : decode cX5_now 118 = .ok (.ireturn, 1) := by decide +kernel
theorem dX5_now_119 : decode cX5_now 119 = .ok (.aload_n 0, 1) := by decide +kernel
theorem dX5_now_120 : decode cX5_now 120 = .ok (.getfield 10, 3) := by decide +kernel
theorem dX5_now_123 : decode cX5_now 123 = .ok (.invokevirtual 90, 3) := by decide +kernel
theorem dX5_now_126 : decode cX5_now 126 = .ok (.ireturn, 1) := by decide +kernel
theorem dX5_now_127 : decode cX5_now 127 = .ok (.aload_n 0, 1) := by decide +kernel
theorem dX5_now_128 : decode cX5_now 128 = .ok (.getfield 10, 3) := by decide +kernel
theorem dX5_now_131 : decode cX5_now 131 = .ok (.getfield 93, 3) := by decide +kernel
theorem dX5_now_134 : decode cX5_now 134 = .ok (.ireturn, 1) := by decide +kernel
theorem dX5_now_135 : decode cX5_now 135 = .ok (.aload_n 0, 1) := by decide +kernel
theorem dX5_now_136 : decode cX5_now 136 = .ok (.getfield 10, 3) := by decide +kernel
theorem dX5_now_139 : decode cX5_now 139 = .ok (.getfield 96, 3) := by decide +kernel
theorem dX5_now_142 : decode cX5_now 142 = .ok (.ireturn, 1) := by decide +kernel
theorem dX5_now_143 : decode cX5_now 143 = .ok (.aload_n 0, 1) := by decide +kernel
theorem dX5_now_144 : decode cX5_now 144 = .ok (.getfield 10, 3) := by decide +kernel
theorem dX5_now_147 : decode cX5_now 147 = .ok (.getfield 99, 3) := by decide +kernel
theorem dX5_now_150 : decode cX5_now 150 = .ok (.ireturn, 1) := by decide +kernel
theorem dX5_now_151 : decode cX5_now 151 = .ok (.aload_n 0, 1) := by decide +kernel
theorem dX5_now_152 : decode cX5_now 152 = .ok (.getfield 10, 3) := by decide +kernel
theorem dX5_now_155 : decode cX5_now 155 = .ok (.getfield 102, 3) := by decide +kernel
theorem dX5_now_158 : decode cX5_now 158 = .ok (.ireturn, 1) := by decide +kernel
theorem dX5_now_159 : decode cX5_now 159 = .ok (.aload_n 0, 1) := by decide +kernel
theorem dX5_now_160 : decode cX5_now 160 = .ok (.getfield 10, 3) := by decide +kernel
theorem dX5_now_163 : decode cX5_now 163 = .ok (.getfield 105, 3) := by decide +kernel
theorem dX5_now_166 : decode cX5_now 166 = .ok (.ireturn, 1) := by decide +kernel
theorem dX5_now_167 : decode cX5_now 167 = .ok (.aload_n 0, 1) := by decide +kernel
theorem dX5_now_168 : decode cX5_now 168 = .ok (.getfield 10, 3) := by decide +kernel
theorem dX5_now_171 : decode cX5_now 171 = .ok (.invokevirtual 108, 3) := by decide +kernel
theorem dX5_now_174 : decode cX5_now 174 = .ok (.ifCond .eq 7, 3) := by decide +kernel
theorem dX5_now_177 : decode cX5_now 177 = .ok (.iconst 1, 1) := by decide +kernel
theorem dX5_now_178 : decode cX5_now 178 = .ok (.goto 4, 3) := by decide +kernel
theorem dX5_now_181 : decode cX5_now 181 = .ok (.iconst 0, 1) := by decide +kernel
theorem dX5_now_182 : decode cX5_now 182 = .ok (.ireturn, 1) := by decide +kernel
theorem dX5_now_183 : decode cX5_now 183 = .ok (.aload_n 0, 1) := by decide +kernel
theorem dX5_now_184 : decode cX5_now 184 = .ok (.getfield 10, 3) := by decide +kernel
theorem dX5_now_187 : decode cX5_now 187 = .ok (.getfield 82, 3) := by decide +kernel
theorem dX5_now_190 : decode cX5_now 190 = .ok (.sipush 144, 3) := by decide +kernel
theorem dX5_now_193 : decode cX5_now 193 = .ok (.idiv, 1) := by decide +kernel
theorem dX5_now_194 : decode cX5_now 194 = .ok (.invokestatic 112, 3) := by decide +kernel
theorem dX5_now_197 : decode cX5_now 197 = .ok (.ireturn, 1) := by decide +kernel
theorem dX5_now_198 : decode cX5_now 198 = .ok (.ldc 78, 2) := by decide +kernel
theorem dX5_now_200 : decode cX5_now 200 = .ok (.ireturn, 1) := by decide +kernel
theorem dX5_record_0 : decode cX5_record 0 = .ok (.iload_n 1, 1) := by decide +kernel
theorem dX5_record_1 : decode cX5_record 1 = .ok (.ifCond .lt 13, 3) := by decide +kernel
theorem dX5_record_4 : decode cX5_record 4 = .ok (.iload_n 2, 1) := by decide +kernel
theorem dX5_record_5 : decode cX5_record 5 = .ok (.ifCond .lt 9, 3) := by decide +kernel
theorem dX5_record_8 : decode cX5_record 8 = .ok (.iload_n 2, 1) := by decide +kernel
theorem dX5_record_9 : decode cX5_record 9 = .ok (.bipush 6, 2) := by decide +kernel
theorem dX5_record_11 : decode cX5_record 11 = .ok (.if_icmp .lt 6, 3) := by decide +kernel
theorem dX5_record_14 : decode cX5_record 14 = .ok (.ldc 78, 2) := by decide +kernel
theorem dX5_record_16 : decode cX5_record 16 = .ok (.ireturn, 1) := by decide +kernel
theorem dX5_record_17 : decode cX5_record 17 = .ok (.iload_n 1, 1) := by decide +kernel
theorem dX5_record_18 : decode cX5_record 18 = .ok (.aload_n 0, 1) := by decide +kernel
theorem dX5_record_19 : decode cX5_record 19 = .ok (.getfield 10, 3) := by decide +kernel
theorem dX5_record_22 : decode cX5_record 22 = .ok (.invokevirtual 115, 3) := by decide +kernel
theorem dX5_record_25 : decode cX5_record 25 = .ok (.if_icmp .lt 14, 3) := by decide +kernel
theorem dX5_record_28 : decode cX5_record 28 = .ok (.iload_n 1, 1) := by decide +kernel
theorem dX5_record_29 : decode cX5_record 29 = .ok (.aload_n 0, 1) := by decide +kernel
theorem dX5_record_30 : decode cX5_record 30 = .ok (.getfield 10, 3) := by decide +kernel
theorem dX5_record_33 : decode cX5_record 33 = .ok (.invokevirtual 118, 3) := by decide +kernel
theorem dX5_record_36 : decode cX5_record 36 = .ok (.if_icmp .le 6, 3) := by decide +kernel
theorem dX5_record_39 : decode cX5_record 39 = .ok (.ldc 121, 2) := by decide +kernel
theorem dX5_record_41 : decode cX5_record 41 = .ok (.ireturn, 1) := by decide +kernel
theorem dX5_record_42 : decode cX5_record 42 = .ok (.aload_n 0, 1) := by decide +kernel
theorem dX5_record_43 : decode cX5_record 43 = .ok (.getfield 10, 3) := by decide +kernel
theorem dX5_record_46 : decode cX5_record 46 = .ok (.getfield 122, 3) := by decide +kernel
theorem dX5_record_49 : decode cX5_record 49 = .ok (.iload_n 1, 1) := by decide +kernel
theorem dX5_record_50 : decode cX5_record 50 = .ok (.invokestatic 126, 3) := by decide +kernel
theorem dX5_record_53 : decode cX5_record 53 = .ok (.iload_n 2, 1) := by decide +kernel
theorem dX5_record_54 : decode cX5_record 54 = .ok (.iadd, 1) := by decide +kernel
theorem dX5_record_55 : decode cX5_record 55 = .ok (.iaload, 1) := by decide +kernel
theorem dX5_record_56 : decode cX5_record 56 = .ok (.ireturn, 1) := by decide +kernel
theorem dX5_next_0 : decode cX5_next 0 = .ok (.aload_n 0, 1) := by decide +kernel
theorem dX5_next_1 : decode cX5_next 1 = .ok (.getfield 22, 3) := by decide +kernel
theorem dX5_next_4 : decode cX5_next 4 = .ok (.aload_n 0, 1) := by decide +kernel
theorem dX5_next_5 : decode cX5_next 5 = .ok (.getfield 10, 3) := by decide +kernel
theorem dX5_next_8 : decode cX5_next 8 = .ok (.aload_n 0, 1) := by decide +kernel
theorem dX5_next_9 : decode cX5_next 9 = .ok (.getfield 10, 3) := by decide +kernel
theorem dX5_next_12 : decode cX5_next 12 = .ok (.invokevirtual 90, 3) := by decide +kernel
theorem dX5_next_15 : decode cX5_next 15 = .ok (.invokevirtual 129, 3) := by decide +kernel
theorem dX5_next_18 : decode cX5_next 18 = .ok (.iload_n 1, 1) := by decide +kernel
theorem dX5_next_19 : decode cX5_next 19 = .ok (.tableswitch 97 0 6 #[41, 49, 57, 65, 73, 81, 89], 41) := by decide +kernel
theorem dX5_next_60 : decode cX5_next 60 = .ok (.aload_n 0, 1) := by decide +kernel
theorem dX5_next_61 : decode cX5_next 61 = .ok (.getfield 22, 3) := by decide +kernel
theorem dX5_next_64 : decode cX5_next 64 = .ok (.getfield 133, 3) := by decide +kernel
theorem dX5_next_67 : decode cX5_next 67 = .ok (.ireturn, 1) := by decide +kernel
theorem dX5_next_68 : decode cX5_next 68 = .ok (.aload_n 0, 1) := by decide +kernel
theorem dX5_next_69 : decode cX5_next 69 = .ok (.getfield 22, 3) := by decide +kernel
theorem dX5_next_72 : decode cX5_next 72 = .ok (.getfield 136, 3) := by decide +kernel
theorem dX5_next_75 : decode cX5_next 75 = .ok (.ireturn, 1) := by decide +kernel
theorem dX5_next_76 : decode cX5_next 76 = .ok (.aload_n 0, 1) := by decide +kernel
theorem dX5_next_77 : decode cX5_next 77 = .ok (.getfield 22, 3) := by decide +kernel
theorem dX5_next_80 : decode cX5_next 80 = .ok (.getfield 139, 3) := by decide +kernel
theorem dX5_next_83 : decode cX5_next 83 = .ok (.ireturn, 1) := by decide +kernel
theorem dX5_next_84 : decode cX5_next 84 = .ok (.aload_n 0, 1) := by decide +kernel
theorem dX5_next_85 : decode cX5_next 85 = .ok (.getfield 22, 3) := by decide +kernel
theorem dX5_next_88 : decode cX5_next 88 = .ok (.getfield 142, 3) := by decide +kernel
theorem dX5_next_91 : decode cX5_next 91 = .ok (.ireturn, 1) := by decide +kernel
theorem dX5_next_92 : decode cX5_next 92 = .ok (.aload_n 0, 1) := by decide +kernel
theorem dX5_next_93 : decode cX5_next 93 = .ok (.getfield 22, 3) := by decide +kernel
theorem dX5_next_96 : decode cX5_next 96 = .ok (.getfield 145, 3) := by decide +kernel
theorem dX5_next_99 : decode cX5_next 99 = .ok (.ireturn, 1) := by decide +kernel
theorem dX5_next_100 : decode cX5_next 100 = .ok (.aload_n 0, 1) := by decide +kernel
theorem dX5_next_101 : decode cX5_next 101 = .ok (.getfield 22, 3) := by decide +kernel
theorem dX5_next_104 : decode cX5_next 104 = .ok (.getfield 148, 3) := by decide +kernel
theorem dX5_next_107 : decode cX5_next 107 = .ok (.ireturn, 1) := by decide +kernel
theorem dX5_next_108 : decode cX5_next 108 = .ok (.aload_n 0, 1) := by decide +kernel
theorem dX5_next_109 : decode cX5_next 109 = .ok (.getfield 22, 3) := by decide +kernel
theorem dX5_next_112 : decode cX5_next 112 = .ok (.getfield 151, 3) := by decide +kernel
theorem dX5_next_115 : decode cX5_next 115 = .ok (.ireturn, 1) := by decide +kernel
theorem dX5_next_116 : decode cX5_next 116 = .ok (.ldc 78, 2) := by decide +kernel
theorem dX5_next_118 : decode cX5_next 118 = .ok (.ireturn, 1) := by decide +kernel
theorem dX5_bestDay_0 : decode cX5_bestDay 0 = .ok (.ldc 121, 2) := by decide +kernel
theorem dX5_bestDay_2 : decode cX5_bestDay 2 = .ok (.istore_n 1, 1) := by decide +kernel
theorem dX5_bestDay_3 : decode cX5_bestDay 3 = .ok (.iconst (-1), 1) := by decide +kernel
theorem dX5_bestDay_4 : decode cX5_bestDay 4 = .ok (.istore_n 2, 1) := by decide +kernel
theorem dX5_bestDay_5 : decode cX5_bestDay 5 = .ok (.aload_n 0, 1) := by decide +kernel
theorem dX5_bestDay_6 : decode cX5_bestDay 6 = .ok (.getfield 10, 3) := by decide +kernel
theorem dX5_bestDay_9 : decode cX5_bestDay 9 = .ok (.invokevirtual 118, 3) := by decide +kernel
theorem dX5_bestDay_12 : decode cX5_bestDay 12 = .ok (.istore_n 3, 1) := by decide +kernel
theorem dX5_bestDay_13 : decode cX5_bestDay 13 = .ok (.aload_n 0, 1) := by decide +kernel
theorem dX5_bestDay_14 : decode cX5_bestDay 14 = .ok (.getfield 10, 3) := by decide +kernel
theorem dX5_bestDay_17 : decode cX5_bestDay 17 = .ok (.invokevirtual 115, 3) := by decide +kernel
theorem dX5_bestDay_20 : decode cX5_bestDay 20 = .ok (.istore 4, 2) := by decide +kernel
theorem dX5_bestDay_22 : decode cX5_bestDay 22 = .ok (.iload 4, 2) := by decide +kernel
theorem dX5_bestDay_24 : decode cX5_bestDay 24 = .ok (.iload_n 3, 1) := by decide +kernel
theorem dX5_bestDay_25 : decode cX5_bestDay 25 = .ok (.if_icmp .gt 38, 3) := by decide +kernel
theorem dX5_bestDay_28 : decode cX5_bestDay 28 = .ok (.aload_n 0, 1) := by decide +kernel
theorem dX5_bestDay_29 : decode cX5_bestDay 29 = .ok (.getfield 10, 3) := by decide +kernel
theorem dX5_bestDay_32 : decode cX5_bestDay 32 = .ok (.getfield 122, 3) := by decide +kernel
theorem dX5_bestDay_35 : decode cX5_bestDay 35 = .ok (.iload 4, 2) := by decide +kernel
theorem dX5_bestDay_37 : decode cX5_bestDay 37 = .ok (.invokestatic 126, 3) := by decide +kernel
theorem dX5_bestDay_40 : decode cX5_bestDay 40 = .ok (.iconst 0, 1) := by decide +kernel
theorem dX5_bestDay_41 : decode cX5_bestDay 41 = .ok (.iadd, 1) := by decide +kernel
theorem dX5_bestDay_42 : decode cX5_bestDay 42 = .ok (.iaload, 1) := by decide +kernel
theorem dX5_bestDay_43 : decode cX5_bestDay 43 = .ok (.istore 5, 2) := by decide +kernel
theorem dX5_bestDay_45 : decode cX5_bestDay 45 = .ok (.iload 5, 2) := by decide +kernel
theorem dX5_bestDay_47 : decode cX5_bestDay 47 = .ok (.iload_n 2, 1) := by decide +kernel
theorem dX5_bestDay_48 : decode cX5_bestDay 48 = .ok (.if_icmp .le 9, 3) := by decide +kernel
theorem dX5_bestDay_51 : decode cX5_bestDay 51 = .ok (.iload 4, 2) := by decide +kernel
theorem dX5_bestDay_53 : decode cX5_bestDay 53 = .ok (.istore_n 1, 1) := by decide +kernel
theorem dX5_bestDay_54 : decode cX5_bestDay 54 = .ok (.iload 5, 2) := by decide +kernel
theorem dX5_bestDay_56 : decode cX5_bestDay 56 = .ok (.istore_n 2, 1) := by decide +kernel
theorem dX5_bestDay_57 : decode cX5_bestDay 57 = .ok (.iinc 4 1, 3) := by decide +kernel
theorem dX5_bestDay_60 : decode cX5_bestDay 60 = .ok (.goto (-38), 3) := by decide +kernel
theorem dX5_bestDay_63 : decode cX5_bestDay 63 = .ok (.iload_n 1, 1) := by decide +kernel
theorem dX5_bestDay_64 : decode cX5_bestDay 64 = .ok (.ireturn, 1) := by decide +kernel
theorem dX5_count_0 : decode cX5_count 0 = .ok (.iload_n 1, 1) := by decide +kernel
theorem dX5_count_1 : decode cX5_count 1 = .ok (.ifCond .lt 19, 3) := by decide +kernel
theorem dX5_count_4 : decode cX5_count 4 = .ok (.iload_n 1, 1) := by decide +kernel
theorem dX5_count_5 : decode cX5_count 5 = .ok (.bipush 7, 2) := by decide +kernel
theorem dX5_count_7 : decode cX5_count 7 = .ok (.if_icmp .ge 13, 3) := by decide +kernel
theorem dX5_count_10 : decode cX5_count 10 = .ok (.aload_n 0, 1) := by decide +kernel
theorem dX5_count_11 : decode cX5_count 11 = .ok (.getfield 10, 3) := by decide +kernel
theorem dX5_count_14 : decode cX5_count 14 = .ok (.getfield 158, 3) := by decide +kernel
theorem dX5_count_17 : decode cX5_count 17 = .ok (.iload_n 1, 1) := by decide +kernel
theorem dX5_count_18 : decode cX5_count 18 = .ok (.iaload, 1) := by decide +kernel
theorem dX5_count_19 : decode cX5_count 19 = .ok (.ireturn, 1) := by decide +kernel
theorem dX5_count_20 : decode cX5_count 20 = .ok (.iload_n 1, 1) := by decide +kernel
theorem dX5_count_21 : decode cX5_count 21 = .ok (.bipush 20, 2) := by decide +kernel
theorem dX5_count_23 : decode cX5_count 23 = .ok (.if_icmp .lt 22, 3) := by decide +kernel
theorem dX5_count_26 : decode cX5_count 26 = .ok (.iload_n 1, 1) := by decide +kernel
theorem dX5_count_27 : decode cX5_count 27 = .ok (.bipush 23, 2) := by decide +kernel
theorem dX5_count_29 : decode cX5_count 29 = .ok (.if_icmp .ge 16, 3) := by decide +kernel
theorem dX5_count_32 : decode cX5_count 32 = .ok (.aload_n 0, 1) := by decide +kernel
theorem dX5_count_33 : decode cX5_count 33 = .ok (.getfield 10, 3) := by decide +kernel
theorem dX5_count_36 : decode cX5_count 36 = .ok (.getfield 176, 3) := by decide +kernel
theorem dX5_count_39 : decode cX5_count 39 = .ok (.iload_n 1, 1) := by decide +kernel
theorem dX5_count_40 : decode cX5_count 40 = .ok (.bipush 20, 2) := by decide +kernel
theorem dX5_count_42 : decode cX5_count 42 = .ok (.isub, 1) := by decide +kernel
theorem dX5_count_43 : decode cX5_count 43 = .ok (.iaload, 1) := by decide +kernel
theorem dX5_count_44 : decode cX5_count 44 = .ok (.ireturn, 1) := by decide +kernel
theorem dX5_count_45 : decode cX5_count 45 = .ok (.iload_n 1, 1) := by decide +kernel
theorem dX5_count_46 : decode cX5_count 46 = .ok (.tableswitch 60 7 9 #[26, 44, 52], 26) := by decide +kernel
theorem dX5_count_72 : decode cX5_count 72 = .ok (.aload_n 0, 1) := by decide +kernel
theorem dX5_count_73 : decode cX5_count 73 = .ok (.getfield 10, 3) := by decide +kernel
theorem dX5_count_76 : decode cX5_count 76 = .ok (.invokevirtual 118, 3) := by decide +kernel
theorem dX5_count_79 : decode cX5_count 79 = .ok (.aload_n 0, 1) := by decide +kernel
theorem dX5_count_80 : decode cX5_count 80 = .ok (.getfield 10, 3) := by decide +kernel
theorem dX5_count_83 : decode cX5_count 83 = .ok (.invokevirtual 115, 3) := by decide +kernel
theorem dX5_count_86 : decode cX5_count 86 = .ok (.isub, 1) := by decide +kernel
theorem dX5_count_87 : decode cX5_count 87 = .ok (.iconst 1, 1) := by decide +kernel
theorem dX5_count_88 : decode cX5_count 88 = .ok (.iadd, 1) := by decide +kernel
theorem dX5_count_89 : decode cX5_count 89 = .ok (.ireturn, 1) := by decide +kernel
theorem dX5_count_90 : decode cX5_count 90 = .ok (.aload_n 0, 1) := by decide +kernel
theorem dX5_count_91 : decode cX5_count 91 = .ok (.getfield 29, 3) := by decide +kernel
theorem dX5_count_94 : decode cX5_count 94 = .ok (.getfield 179, 3) := by decide +kernel
theorem dX5_count_97 : decode cX5_count 97 = .ok (.ireturn, 1) := by decide +kernel
theorem dX5_count_98 : decode cX5_count 98 = .ok (.aload_n 0, 1) := by decide +kernel
theorem dX5_count_99 : decode cX5_count 99 = .ok (.getfield 36, 3) := by decide +kernel
theorem dX5_count_102 : decode cX5_count 102 = .ok (.getfield 182, 3) := by decide +kernel
theorem dX5_count_105 : decode cX5_count 105 = .ok (.ireturn, 1) := by decide +kernel
theorem dX5_count_106 : decode cX5_count 106 = .ok (.ldc 78, 2) := by decide +kernel
theorem dX5_count_108 : decode cX5_count 108 = .ok (.ireturn, 1) := by decide +kernel
theorem dX5_settle_0 : decode cX5_settle 0 = .ok (.iload_n 1, 1) := by decide +kernel
theorem dX5_settle_1 : decode cX5_settle 1 = .ok (.invokestatic 210, 3) := by decide +kernel
theorem dX5_settle_4 : decode cX5_settle 4 = .ok (.ifCond .ne 25, 3) := by decide +kernel
theorem dX5_settle_7 : decode cX5_settle 7 = .ok (.aload_n 0, 1) := by decide +kernel
theorem dX5_settle_8 : decode cX5_settle 8 = .ok (.getfield 29, 3) := by decide +kernel
theorem dX5_settle_11 : decode cX5_settle 11 = .ok (.aload_n 0, 1) := by decide +kernel
theorem dX5_settle_12 : decode cX5_settle 12 = .ok (.getfield 10, 3) := by decide +kernel
theorem dX5_settle_15 : decode cX5_settle 15 = .ok (.invokevirtual 214, 3) := by decide +kernel
theorem dX5_settle_18 : decode cX5_settle 18 = .ok (.aload_n 0, 1) := by decide +kernel
theorem dX5_settle_19 : decode cX5_settle 19 = .ok (.getfield 10, 3) := by decide +kernel
theorem dX5_settle_22 : decode cX5_settle 22 = .ok (.aload_n 0, 1) := by decide +kernel
theorem dX5_settle_23 : decode cX5_settle 23 = .ok (.getfield 16, 3) := by decide +kernel
theorem dX5_settle_26 : decode cX5_settle 26 = .ok (.invokevirtual 47, 3) := by decide +kernel
theorem dX5_settle_29 : decode cX5_settle 29 = .ok (.iload_n 1, 1) := by decide +kernel
theorem dX5_settle_30 : decode cX5_settle 30 = .ok (.ireturn, 1) := by decide +kernel
theorem dX5_isError_0 : decode cX5_isError 0 = .ok (.iload_n 0, 1) := by decide +kernel
theorem dX5_isError_1 : decode cX5_isError 1 = .ok (.ldc 78, 2) := by decide +kernel
theorem dX5_isError_3 : decode cX5_isError 3 = .ok (.if_icmp .gt 7, 3) := by decide +kernel
theorem dX5_isError_6 : decode cX5_isError 6 = .ok (.iconst 1, 1) := by decide +kernel
theorem dX5_isError_7 : decode cX5_isError 7 = .ok (.goto 4, 3) := by decide +kernel
theorem dX5_isError_10 : decode cX5_isError 10 = .ok (.iconst 0, 1) := by decide +kernel
theorem dX5_isError_11 : decode cX5_isError 11 = .ok (.ireturn, 1) := by decide +kernel
theorem dX5_tideHeight_0 : decode cX5_tideHeight 0 = .ok (.iload_n 0, 1) := by decide +kernel
theorem dX5_tideHeight_1 : decode cX5_tideHeight 1 = .ok (.bipush 14, 2) := by decide +kernel
theorem dX5_tideHeight_3 : decode cX5_tideHeight 3 = .ok (.irem, 1) := by decide +kernel
theorem dX5_tideHeight_4 : decode cX5_tideHeight 4 = .ok (.bipush 7, 2) := by decide +kernel
theorem dX5_tideHeight_6 : decode cX5_tideHeight 6 = .ok (.isub, 1) := by decide +kernel
theorem dX5_tideHeight_7 : decode cX5_tideHeight 7 = .ok (.istore_n 1, 1) := by decide +kernel
theorem dX5_tideHeight_8 : decode cX5_tideHeight 8 = .ok (.sipush 200, 3) := by decide +kernel
theorem dX5_tideHeight_11 : decode cX5_tideHeight 11 = .ok (.bipush 20, 2) := by decide +kernel
theorem dX5_tideHeight_13 : decode cX5_tideHeight 13 = .ok (.iload_n 1, 1) := by decide +kernel
theorem dX5_tideHeight_14 : decode cX5_tideHeight 14 = .ok (.ifCond .ge 8, 3) := by decide +kernel
theorem dX5_tideHeight_17 : decode cX5_tideHeight 17 = .ok (.iload_n 1, 1) := by decide +kernel
theorem dX5_tideHeight_18 : decode cX5_tideHeight 18 = .ok (.ineg, 1) := by decide +kernel
theorem dX5_tideHeight_19 : decode cX5_tideHeight 19 = .ok (.goto 4, 3) := by decide +kernel
theorem dX5_tideHeight_22 : decode cX5_tideHeight 22 = .ok (.iload_n 1, 1) := by decide +kernel
theorem dX5_tideHeight_23 : decode cX5_tideHeight 23 = .ok (.imul, 1) := by decide +kernel
theorem dX5_tideHeight_24 : decode cX5_tideHeight 24 = .ok (.iadd, 1) := by decide +kernel
theorem dX5_tideHeight_25 : decode cX5_tideHeight 25 = .ok (.ireturn, 1) := by decide +kernel
theorem dX5_seaLevel_0 : decode cX5_seaLevel 0 = .ok (.iload_n 0, 1) := by decide +kernel
theorem dX5_seaLevel_1 : decode cX5_seaLevel 1 = .ok (.sipush 144, 3) := by decide +kernel
theorem dX5_seaLevel_4 : decode cX5_seaLevel 4 = .ok (.idiv, 1) := by decide +kernel
theorem dX5_seaLevel_5 : decode cX5_seaLevel 5 = .ok (.invokestatic 112, 3) := by decide +kernel
theorem dX5_seaLevel_8 : decode cX5_seaLevel 8 = .ok (.istore_n 1, 1) := by decide +kernel
theorem dX5_seaLevel_9 : decode cX5_seaLevel 9 = .ok (.iload_n 0, 1) := by decide +kernel
theorem dX5_seaLevel_10 : decode cX5_seaLevel 10 = .ok (.bipush 74, 2) := by decide +kernel
theorem dX5_seaLevel_12 : decode cX5_seaLevel 12 = .ok (.irem, 1) := by decide +kernel
theorem dX5_seaLevel_13 : decode cX5_seaLevel 13 = .ok (.istore_n 2, 1) := by decide +kernel
theorem dX5_seaLevel_14 : decode cX5_seaLevel 14 = .ok (.iload_n 2, 1) := by decide +kernel
theorem dX5_seaLevel_15 : decode cX5_seaLevel 15 = .ok (.bipush 37, 2) := by decide +kernel
theorem dX5_seaLevel_17 : decode cX5_seaLevel 17 = .ok (.if_icmp .ge 14, 3) := by decide +kernel
theorem dX5_seaLevel_20 : decode cX5_seaLevel 20 = .ok (.iconst 2, 1) := by decide +kernel
theorem dX5_seaLevel_21 : decode cX5_seaLevel 21 = .ok (.iload_n 1, 1) := by decide +kernel
theorem dX5_seaLevel_22 : decode cX5_seaLevel 22 = .ok (.imul, 1) := by decide +kernel
theorem dX5_seaLevel_23 : decode cX5_seaLevel 23 = .ok (.iload_n 2, 1) := by decide +kernel
theorem dX5_seaLevel_24 : decode cX5_seaLevel 24 = .ok (.imul, 1) := by decide +kernel
theorem dX5_seaLevel_25 : decode cX5_seaLevel 25 = .ok (.bipush 37, 2) := by decide +kernel
theorem dX5_seaLevel_27 : decode cX5_seaLevel 27 = .ok (.idiv, 1) := by decide +kernel
theorem dX5_seaLevel_28 : decode cX5_seaLevel 28 = .ok (.iload_n 1, 1) := by decide +kernel
theorem dX5_seaLevel_29 : decode cX5_seaLevel 29 = .ok (.isub, 1) := by decide +kernel
theorem dX5_seaLevel_30 : decode cX5_seaLevel 30 = .ok (.ireturn, 1) := by decide +kernel
theorem dX5_seaLevel_31 : decode cX5_seaLevel 31 = .ok (.iload_n 1, 1) := by decide +kernel
theorem dX5_seaLevel_32 : decode cX5_seaLevel 32 = .ok (.iconst 2, 1) := by decide +kernel
theorem dX5_seaLevel_33 : decode cX5_seaLevel 33 = .ok (.iload_n 1, 1) := by decide +kernel
theorem dX5_seaLevel_34 : decode cX5_seaLevel 34 = .ok (.imul, 1) := by decide +kernel
theorem dX5_seaLevel_35 : decode cX5_seaLevel 35 = .ok (.iload_n 2, 1) := by decide +kernel
theorem dX5_seaLevel_36 : decode cX5_seaLevel 36 = .ok (.bipush 37, 2) := by decide +kernel
theorem dX5_seaLevel_38 : decode cX5_seaLevel 38 = .ok (.isub, 1) := by decide +kernel
theorem dX5_seaLevel_39 : decode cX5_seaLevel 39 = .ok (.imul, 1) := by decide +kernel
theorem dX5_seaLevel_40 : decode cX5_seaLevel 40 = .ok (.bipush 37, 2) := by decide +kernel
theorem dX5_seaLevel_42 : decode cX5_seaLevel 42 = .ok (.idiv, 1) := by decide +kernel
theorem dX5_seaLevel_43 : decode cX5_seaLevel 43 = .ok (.isub, 1) := by decide +kernel
theorem dX5_seaLevel_44 : decode cX5_seaLevel 44 = .ok (.ireturn, 1) := by decide +kernel
theorem dX5_recordStart_0 : decode cX5_recordStart 0 = .ok (.iload_n 0, 1) := by decide +kernel
theorem dX5_recordStart_1 : decode cX5_recordStart 1 = .ok (.bipush 10, 2) := by decide +kernel
theorem dX5_recordStart_3 : decode cX5_recordStart 3 = .ok (.invokestatic 220, 3) := by decide +kernel
theorem dX5_recordStart_6 : decode cX5_recordStart 6 = .ok (.bipush 6, 2) := by decide +kernel
theorem dX5_recordStart_8 : decode cX5_recordStart 8 = .ok (.imul, 1) := by decide +kernel
theorem dX5_recordStart_9 : decode cX5_recordStart 9 = .ok (.ireturn, 1) := by decide +kernel
theorem dJ9_floorDiv_7cf53_0 : decode cJ9_floorDiv_7cf53 0 = .ok (.iload_n 0, 1) := by decide +kernel
theorem dJ9_floorDiv_7cf53_1 : decode cJ9_floorDiv_7cf53 1 = .ok (.iload_n 1, 1) := by decide +kernel
theorem dJ9_floorDiv_7cf53_2 : decode cJ9_floorDiv_7cf53 2 = .ok (.idiv, 1) := by decide +kernel
theorem dJ9_floorDiv_7cf53_3 : decode cJ9_floorDiv_7cf53 3 = .ok (.istore_n 2, 1) := by decide +kernel
theorem dJ9_floorDiv_7cf53_4 : decode cJ9_floorDiv_7cf53 4 = .ok (.iload_n 0, 1) := by decide +kernel
theorem dJ9_floorDiv_7cf53_5 : decode cJ9_floorDiv_7cf53 5 = .ok (.iload_n 1, 1) := by decide +kernel
theorem dJ9_floorDiv_7cf53_6 : decode cJ9_floorDiv_7cf53 6 = .ok (.ixor, 1) := by decide +kernel
theorem dJ9_floorDiv_7cf53_7 : decode cJ9_floorDiv_7cf53 7 = .ok (.ifCond .ge 14, 3) := by decide +kernel
theorem dJ9_floorDiv_7cf53_10 : decode cJ9_floorDiv_7cf53 10 = .ok (.iload_n 2, 1) := by decide +kernel
theorem dJ9_floorDiv_7cf53_11 : decode cJ9_floorDiv_7cf53 11 = .ok (.iload_n 1, 1) := by decide +kernel
theorem dJ9_floorDiv_7cf53_12 : decode cJ9_floorDiv_7cf53 12 = .ok (.imul, 1) := by decide +kernel
theorem dJ9_floorDiv_7cf53_13 : decode cJ9_floorDiv_7cf53 13 = .ok (.iload_n 0, 1) := by decide +kernel
theorem dJ9_floorDiv_7cf53_14 : decode cJ9_floorDiv_7cf53 14 = .ok (.if_icmp .eq 7, 3) := by decide +kernel
theorem dJ9_floorDiv_7cf53_17 : decode cJ9_floorDiv_7cf53 17 = .ok (.iload_n 2, 1) := by decide +kernel
theorem dJ9_floorDiv_7cf53_18 : decode cJ9_floorDiv_7cf53 18 = .ok (.iconst 1, 1) := by decide +kernel
theorem dJ9_floorDiv_7cf53_19 : decode cJ9_floorDiv_7cf53 19 = .ok (.isub, 1) := by decide +kernel
theorem dJ9_floorDiv_7cf53_20 : decode cJ9_floorDiv_7cf53 20 = .ok (.ireturn, 1) := by decide +kernel
theorem dJ9_floorDiv_7cf53_21 : decode cJ9_floorDiv_7cf53 21 = .ok (.iload_n 2, 1) := by decide +kernel
theorem dJ9_floorDiv_7cf53_22 : decode cJ9_floorDiv_7cf53 22 = .ok (.ireturn, 1) := by decide +kernel
theorem dJ9_floorMod_7cf53_0 : decode cJ9_floorMod_7cf53 0 = .ok (.iload_n 0, 1) := by decide +kernel
theorem dJ9_floorMod_7cf53_1 : decode cJ9_floorMod_7cf53 1 = .ok (.iload_n 1, 1) := by decide +kernel
theorem dJ9_floorMod_7cf53_2 : decode cJ9_floorMod_7cf53 2 = .ok (.irem, 1) := by decide +kernel
theorem dJ9_floorMod_7cf53_3 : decode cJ9_floorMod_7cf53 3 = .ok (.istore_n 2, 1) := by decide +kernel
theorem dJ9_floorMod_7cf53_4 : decode cJ9_floorMod_7cf53 4 = .ok (.iload_n 0, 1) := by decide +kernel
theorem dJ9_floorMod_7cf53_5 : decode cJ9_floorMod_7cf53 5 = .ok (.iload_n 1, 1) := by decide +kernel
theorem dJ9_floorMod_7cf53_6 : decode cJ9_floorMod_7cf53 6 = .ok (.ixor, 1) := by decide +kernel
theorem dJ9_floorMod_7cf53_7 : decode cJ9_floorMod_7cf53 7 = .ok (.ifCond .ge 11, 3) := by decide +kernel
theorem dJ9_floorMod_7cf53_10 : decode cJ9_floorMod_7cf53 10 = .ok (.iload_n 2, 1) := by decide +kernel
theorem dJ9_floorMod_7cf53_11 : decode cJ9_floorMod_7cf53 11 = .ok (.ifCond .eq 7, 3) := by decide +kernel
theorem dJ9_floorMod_7cf53_14 : decode cJ9_floorMod_7cf53 14 = .ok (.iload_n 2, 1) := by decide +kernel
theorem dJ9_floorMod_7cf53_15 : decode cJ9_floorMod_7cf53 15 = .ok (.iload_n 1, 1) := by decide +kernel
theorem dJ9_floorMod_7cf53_16 : decode cJ9_floorMod_7cf53 16 = .ok (.iadd, 1) := by decide +kernel
theorem dJ9_floorMod_7cf53_17 : decode cJ9_floorMod_7cf53 17 = .ok (.ireturn, 1) := by decide +kernel
theorem dJ9_floorMod_7cf53_18 : decode cJ9_floorMod_7cf53 18 = .ok (.iload_n 2, 1) := by decide +kernel
theorem dJ9_floorMod_7cf53_19 : decode cJ9_floorMod_7cf53 19 = .ok (.ireturn, 1) := by decide +kernel
theorem dJ9_abs_0f7a4_0 : decode cJ9_abs_0f7a4 0 = .ok (.iload_n 0, 1) := by decide +kernel
theorem dJ9_abs_0f7a4_1 : decode cJ9_abs_0f7a4 1 = .ok (.ifCond .ge 8, 3) := by decide +kernel
theorem dJ9_abs_0f7a4_4 : decode cJ9_abs_0f7a4 4 = .ok (.iload_n 0, 1) := by decide +kernel
theorem dJ9_abs_0f7a4_5 : decode cJ9_abs_0f7a4 5 = .ok (.ineg, 1) := by decide +kernel
theorem dJ9_abs_0f7a4_6 : decode cJ9_abs_0f7a4 6 = .ok (.goto 4, 3) := by decide +kernel
theorem dJ9_abs_0f7a4_9 : decode cJ9_abs_0f7a4 9 = .ok (.iload_n 0, 1) := by decide +kernel
theorem dJ9_abs_0f7a4_10 : decode cJ9_abs_0f7a4 10 = .ok (.ireturn, 1) := by decide +kernel
theorem dJ9_max_7cf53_0 : decode cJ9_max_7cf53 0 = .ok (.iload_n 0, 1) := by decide +kernel
theorem dJ9_max_7cf53_1 : decode cJ9_max_7cf53 1 = .ok (.iload_n 1, 1) := by decide +kernel
theorem dJ9_max_7cf53_2 : decode cJ9_max_7cf53 2 = .ok (.if_icmp .lt 7, 3) := by decide +kernel
theorem dJ9_max_7cf53_5 : decode cJ9_max_7cf53 5 = .ok (.iload_n 0, 1) := by decide +kernel
theorem dJ9_max_7cf53_6 : decode cJ9_max_7cf53 6 = .ok (.goto 4, 3) := by decide +kernel
theorem dJ9_max_7cf53_9 : decode cJ9_max_7cf53 9 = .ok (.iload_n 1, 1) := by decide +kernel
theorem dJ9_max_7cf53_10 : decode cJ9_max_7cf53 10 = .ok (.ireturn, 1) := by decide +kernel
theorem dJ9_min_7cf53_0 : decode cJ9_min_7cf53 0 = .ok (.iload_n 0, 1) := by decide +kernel
theorem dJ9_min_7cf53_1 : decode cJ9_min_7cf53 1 = .ok (.iload_n 1, 1) := by decide +kernel
theorem dJ9_min_7cf53_2 : decode cJ9_min_7cf53 2 = .ok (.if_icmp .gt 7, 3) := by decide +kernel
theorem dJ9_min_7cf53_5 : decode cJ9_min_7cf53 5 = .ok (.iload_n 0, 1) := by decide +kernel
theorem dJ9_min_7cf53_6 : decode cJ9_min_7cf53 6 = .ok (.goto 4, 3) := by decide +kernel
theorem dJ9_min_7cf53_9 : decode cJ9_min_7cf53 9 = .ok (.iload_n 1, 1) := by decide +kernel
theorem dJ9_min_7cf53_10 : decode cJ9_min_7cf53 10 = .ok (.ireturn, 1) := by decide +kernel
theorem dL_cell_0 : decode cL_cell 0 = .ok (.iload_n 1, 1) := by decide +kernel
theorem dL_cell_1 : decode cL_cell 1 = .ok (.aload_n 0, 1) := by decide +kernel
theorem dL_cell_2 : decode cL_cell 2 = .ok (.arraylength, 1) := by decide +kernel
theorem dL_cell_3 : decode cL_cell 3 = .ok (.if_icmp .ge 9, 3) := by decide +kernel
theorem dL_cell_6 : decode cL_cell 6 = .ok (.aload_n 0, 1) := by decide +kernel
theorem dL_cell_7 : decode cL_cell 7 = .ok (.iload_n 1, 1) := by decide +kernel
theorem dL_cell_8 : decode cL_cell 8 = .ok (.iaload, 1) := by decide +kernel
theorem dL_cell_9 : decode cL_cell 9 = .ok (.goto 9, 3) := by decide +kernel
theorem dL_cell_12 : decode cL_cell 12 = .ok (.ldc 7, 2) := by decide +kernel
theorem dL_cell_14 : decode cL_cell 14 = .ok (.iload_n 1, 1) := by decide +kernel
theorem dL_cell_15 : decode cL_cell 15 = .ok (.iconst 3, 1) := by decide +kernel
theorem dL_cell_16 : decode cL_cell 16 = .ok (.iadd, 1) := by decide +kernel
theorem dL_cell_17 : decode cL_cell 17 = .ok (.imul, 1) := by decide +kernel
theorem dL_cell_18 : decode cL_cell 18 = .ok (.ireturn, 1) := by decide +kernel
theorem dL_low_0 : decode cL_low 0 = .ok (.iload_n 0, 1) := by decide +kernel
theorem dL_low_1 : decode cL_low 1 = .ok (.ldc 8, 2) := by decide +kernel
theorem dL_low_3 : decode cL_low 3 = .ok (.iand, 1) := by decide +kernel
theorem dL_low_4 : decode cL_low 4 = .ok (.iload_n 1, 1) := by decide +kernel
theorem dL_low_5 : decode cL_low 5 = .ok (.irem, 1) := by decide +kernel
theorem dL_low_6 : decode cL_low 6 = .ok (.ireturn, 1) := by decide +kernel
theorem dL_sea_0 : decode cL_sea 0 = .ok (.iload_n 0, 1) := by decide +kernel
theorem dL_sea_1 : decode cL_sea 1 = .ok (.sipush 144, 3) := by decide +kernel
theorem dL_sea_4 : decode cL_sea 4 = .ok (.idiv, 1) := by decide +kernel
theorem dL_sea_5 : decode cL_sea 5 = .ok (.bipush 14, 2) := by decide +kernel
theorem dL_sea_7 : decode cL_sea 7 = .ok (.irem, 1) := by decide +kernel
theorem dL_sea_8 : decode cL_sea 8 = .ok (.istore_n 1, 1) := by decide +kernel
theorem dL_sea_9 : decode cL_sea 9 = .ok (.sipush 200, 3) := by decide +kernel
theorem dL_sea_12 : decode cL_sea 12 = .ok (.bipush 20, 2) := by decide +kernel
theorem dL_sea_14 : decode cL_sea 14 = .ok (.iload_n 1, 1) := by decide +kernel
theorem dL_sea_15 : decode cL_sea 15 = .ok (.bipush 7, 2) := by decide +kernel
theorem dL_sea_17 : decode cL_sea 17 = .ok (.if_icmp .le 10, 3) := by decide +kernel
theorem dL_sea_20 : decode cL_sea 20 = .ok (.iload_n 1, 1) := by decide +kernel
theorem dL_sea_21 : decode cL_sea 21 = .ok (.bipush 7, 2) := by decide +kernel
theorem dL_sea_23 : decode cL_sea 23 = .ok (.isub, 1) := by decide +kernel
theorem dL_sea_24 : decode cL_sea 24 = .ok (.goto 7, 3) := by decide +kernel
theorem dL_sea_27 : decode cL_sea 27 = .ok (.bipush 7, 2) := by decide +kernel
theorem dL_sea_29 : decode cL_sea 29 = .ok (.iload_n 1, 1) := by decide +kernel
theorem dL_sea_30 : decode cL_sea 30 = .ok (.isub, 1) := by decide +kernel
theorem dL_sea_31 : decode cL_sea 31 = .ok (.imul, 1) := by decide +kernel
theorem dL_sea_32 : decode cL_sea 32 = .ok (.iadd, 1) := by decide +kernel
theorem dL_sea_33 : decode cL_sea 33 = .ok (.istore_n 2, 1) := by decide +kernel
theorem dL_sea_34 : decode cL_sea 34 = .ok (.iload_n 0, 1) := by decide +kernel
theorem dL_sea_35 : decode cL_sea 35 = .ok (.bipush 74, 2) := by decide +kernel
theorem dL_sea_37 : decode cL_sea 37 = .ok (.irem, 1) := by decide +kernel
theorem dL_sea_38 : decode cL_sea 38 = .ok (.istore_n 3, 1) := by decide +kernel
theorem dL_sea_39 : decode cL_sea 39 = .ok (.iload_n 3, 1) := by decide +kernel
theorem dL_sea_40 : decode cL_sea 40 = .ok (.bipush 37, 2) := by decide +kernel
theorem dL_sea_42 : decode cL_sea 42 = .ok (.if_icmp .ge 16, 3) := by decide +kernel
theorem dL_sea_45 : decode cL_sea 45 = .ok (.iconst 2, 1) := by decide +kernel
theorem dL_sea_46 : decode cL_sea 46 = .ok (.iload_n 2, 1) := by decide +kernel
theorem dL_sea_47 : decode cL_sea 47 = .ok (.imul, 1) := by decide +kernel
theorem dL_sea_48 : decode cL_sea 48 = .ok (.iload_n 3, 1) := by decide +kernel
theorem dL_sea_49 : decode cL_sea 49 = .ok (.imul, 1) := by decide +kernel
theorem dL_sea_50 : decode cL_sea 50 = .ok (.bipush 37, 2) := by decide +kernel
theorem dL_sea_52 : decode cL_sea 52 = .ok (.idiv, 1) := by decide +kernel
theorem dL_sea_53 : decode cL_sea 53 = .ok (.iload_n 2, 1) := by decide +kernel
theorem dL_sea_54 : decode cL_sea 54 = .ok (.isub, 1) := by decide +kernel
theorem dL_sea_55 : decode cL_sea 55 = .ok (.goto 16, 3) := by decide +kernel
theorem dL_sea_58 : decode cL_sea 58 = .ok (.iload_n 2, 1) := by decide +kernel
theorem dL_sea_59 : decode cL_sea 59 = .ok (.iconst 2, 1) := by decide +kernel
theorem dL_sea_60 : decode cL_sea 60 = .ok (.iload_n 2, 1) := by decide +kernel
theorem dL_sea_61 : decode cL_sea 61 = .ok (.imul, 1) := by decide +kernel
theorem dL_sea_62 : decode cL_sea 62 = .ok (.iload_n 3, 1) := by decide +kernel
theorem dL_sea_63 : decode cL_sea 63 = .ok (.bipush 37, 2) := by decide +kernel
theorem dL_sea_65 : decode cL_sea 65 = .ok (.isub, 1) := by decide +kernel
theorem dL_sea_66 : decode cL_sea 66 = .ok (.imul, 1) := by decide +kernel
theorem dL_sea_67 : decode cL_sea 67 = .ok (.bipush 37, 2) := by decide +kernel
theorem dL_sea_69 : decode cL_sea 69 = .ok (.idiv, 1) := by decide +kernel
theorem dL_sea_70 : decode cL_sea 70 = .ok (.isub, 1) := by decide +kernel
theorem dL_sea_71 : decode cL_sea 71 = .ok (.ireturn, 1) := by decide +kernel
theorem dL_level_0 : decode cL_level 0 = .ok (.aload_n 0, 1) := by decide +kernel
theorem dL_level_1 : decode cL_level 1 = .ok (.iconst 1, 1) := by decide +kernel
theorem dL_level_2 : decode cL_level 2 = .ok (.iaload, 1) := by decide +kernel
theorem dL_level_3 : decode cL_level 3 = .ok (.aload_n 0, 1) := by decide +kernel
theorem dL_level_4 : decode cL_level 4 = .ok (.iconst 2, 1) := by decide +kernel
theorem dL_level_5 : decode cL_level 5 = .ok (.iaload, 1) := by decide +kernel
theorem dL_level_6 : decode cL_level 6 = .ok (.iadd, 1) := by decide +kernel
theorem dL_level_7 : decode cL_level 7 = .ok (.bipush 100, 2) := by decide +kernel
theorem dL_level_9 : decode cL_level 9 = .ok (.idiv, 1) := by decide +kernel
theorem dL_level_10 : decode cL_level 10 = .ok (.sipush 400, 3) := by decide +kernel
theorem dL_level_13 : decode cL_level 13 = .ok (.isub, 1) := by decide +kernel
theorem dL_level_14 : decode cL_level 14 = .ok (.ireturn, 1) := by decide +kernel
theorem dL_size_0 : decode cL_size 0 = .ok (.iload_n 0, 1) := by decide +kernel
theorem dL_size_1 : decode cL_size 1 = .ok (.ifCond .le 7, 3) := by decide +kernel
theorem dL_size_4 : decode cL_size 4 = .ok (.iload_n 0, 1) := by decide +kernel
theorem dL_size_5 : decode cL_size 5 = .ok (.goto 5, 3) := by decide +kernel
theorem dL_size_8 : decode cL_size 8 = .ok (.iload_n 0, 1) := by decide +kernel
theorem dL_size_9 : decode cL_size 9 = .ok (.ineg, 1) := by decide +kernel
theorem dL_size_10 : decode cL_size 10 = .ok (.ireturn, 1) := by decide +kernel
theorem dL_birds_0 : decode cL_birds 0 = .ok (.aload_n 0, 1) := by decide +kernel
theorem dL_birds_1 : decode cL_birds 1 = .ok (.iconst 0, 1) := by decide +kernel
theorem dL_birds_2 : decode cL_birds 2 = .ok (.iaload, 1) := by decide +kernel
theorem dL_birds_3 : decode cL_birds 3 = .ok (.sipush 144, 3) := by decide +kernel
theorem dL_birds_6 : decode cL_birds 6 = .ok (.irem, 1) := by decide +kernel
theorem dL_birds_7 : decode cL_birds 7 = .ok (.aload_n 0, 1) := by decide +kernel
theorem dL_birds_8 : decode cL_birds 8 = .ok (.bipush 6, 2) := by decide +kernel
theorem dL_birds_10 : decode cL_birds 10 = .ok (.iaload, 1) := by decide +kernel
theorem dL_birds_11 : decode cL_birds 11 = .ok (.if_icmp .lt 21, 3) := by decide +kernel
theorem dL_birds_14 : decode cL_birds 14 = .ok (.aload_n 0, 1) := by decide +kernel
theorem dL_birds_15 : decode cL_birds 15 = .ok (.iconst 0, 1) := by decide +kernel
theorem dL_birds_16 : decode cL_birds 16 = .ok (.iaload, 1) := by decide +kernel
theorem dL_birds_17 : decode cL_birds 17 = .ok (.sipush 144, 3) := by decide +kernel
theorem dL_birds_20 : decode cL_birds 20 = .ok (.irem, 1) := by decide +kernel
theorem dL_birds_21 : decode cL_birds 21 = .ok (.aload_n 0, 1) := by decide +kernel
theorem dL_birds_22 : decode cL_birds 22 = .ok (.bipush 7, 2) := by decide +kernel
theorem dL_birds_24 : decode cL_birds 24 = .ok (.iaload, 1) := by decide +kernel
theorem dL_birds_25 : decode cL_birds 25 = .ok (.if_icmp .ge 7, 3) := by decide +kernel
theorem dL_birds_28 : decode cL_birds 28 = .ok (.iconst 1, 1) := by decide +kernel
theorem dL_birds_29 : decode cL_birds 29 = .ok (.goto 4, 3) := by decide +kernel
theorem dL_birds_32 : decode cL_birds 32 = .ok (.iconst 0, 1) := by decide +kernel
theorem dL_birds_33 : decode cL_birds 33 = .ok (.ireturn, 1) := by decide +kernel
theorem dL_weigh_0 : decode cL_weigh 0 = .ok (.aload_n 0, 1) := by decide +kernel
theorem dL_weigh_1 : decode cL_weigh 1 = .ok (.iconst 0, 1) := by decide +kernel
theorem dL_weigh_2 : decode cL_weigh 2 = .ok (.iaload, 1) := by decide +kernel
theorem dL_weigh_3 : decode cL_weigh 3 = .ok (.invokestatic 9, 3) := by decide +kernel
theorem dL_weigh_6 : decode cL_weigh 6 = .ok (.aload_n 0, 1) := by decide +kernel
theorem dL_weigh_7 : decode cL_weigh 7 = .ok (.invokestatic 15, 3) := by decide +kernel
theorem dL_weigh_10 : decode cL_weigh 10 = .ok (.isub, 1) := by decide +kernel
theorem dL_weigh_11 : decode cL_weigh 11 = .ok (.istore_n 2, 1) := by decide +kernel
theorem dL_weigh_12 : decode cL_weigh 12 = .ok (.aload_n 1, 1) := by decide +kernel
theorem dL_weigh_13 : decode cL_weigh 13 = .ok (.iconst 0, 1) := by decide +kernel
theorem dL_weigh_14 : decode cL_weigh 14 = .ok (.aload_n 0, 1) := by decide +kernel
theorem dL_weigh_15 : decode cL_weigh 15 = .ok (.invokestatic 19, 3) := by decide +kernel
theorem dL_weigh_18 : decode cL_weigh 18 = .ok (.ifCond .eq 7, 3) := by decide +kernel
theorem dL_weigh_21 : decode cL_weigh 21 = .ok (.iconst 0, 1) := by decide +kernel
theorem dL_weigh_22 : decode cL_weigh 22 = .ok (.goto 10, 3) := by decide +kernel
theorem dL_weigh_25 : decode cL_weigh 25 = .ok (.iconst 2, 1) := by decide +kernel
theorem dL_weigh_26 : decode cL_weigh 26 = .ok (.aload_n 0, 1) := by decide +kernel
theorem dL_weigh_27 : decode cL_weigh 27 = .ok (.iconst 3, 1) := by decide +kernel
theorem dL_weigh_28 : decode cL_weigh 28 = .ok (.iaload, 1) := by decide +kernel
theorem dL_weigh_29 : decode cL_weigh 29 = .ok (.imul, 1) := by decide +kernel
theorem dL_weigh_30 : decode cL_weigh 30 = .ok (.iload_n 2, 1) := by decide +kernel
theorem dL_weigh_31 : decode cL_weigh 31 = .ok (.imul, 1) := by decide +kernel
theorem dL_weigh_32 : decode cL_weigh 32 = .ok (.iastore, 1) := by decide +kernel
theorem dL_weigh_33 : decode cL_weigh 33 = .ok (.aload_n 1, 1) := by decide +kernel
theorem dL_weigh_34 : decode cL_weigh 34 = .ok (.iconst 1, 1) := by decide +kernel
theorem dL_weigh_35 : decode cL_weigh 35 = .ok (.iload_n 2, 1) := by decide +kernel
theorem dL_weigh_36 : decode cL_weigh 36 = .ok (.invokestatic 23, 3) := by decide +kernel
theorem dL_weigh_39 : decode cL_weigh 39 = .ok (.aload_n 0, 1) := by decide +kernel
theorem dL_weigh_40 : decode cL_weigh 40 = .ok (.bipush 8, 2) := by decide +kernel
theorem dL_weigh_42 : decode cL_weigh 42 = .ok (.iaload, 1) := by decide +kernel
theorem dL_weigh_43 : decode cL_weigh 43 = .ok (.if_icmp .ge 7, 3) := by decide +kernel
theorem dL_weigh_46 : decode cL_weigh 46 = .ok (.iconst 0, 1) := by decide +kernel
theorem dL_weigh_47 : decode cL_weigh 47 = .ok (.goto 8, 3) := by decide +kernel
theorem dL_weigh_50 : decode cL_weigh 50 = .ok (.aload_n 0, 1) := by decide +kernel
theorem dL_weigh_51 : decode cL_weigh 51 = .ok (.iconst 4, 1) := by decide +kernel
theorem dL_weigh_52 : decode cL_weigh 52 = .ok (.iaload, 1) := by decide +kernel
theorem dL_weigh_53 : decode cL_weigh 53 = .ok (.iload_n 2, 1) := by decide +kernel
theorem dL_weigh_54 : decode cL_weigh 54 = .ok (.imul, 1) := by decide +kernel
theorem dL_weigh_55 : decode cL_weigh 55 = .ok (.iastore, 1) := by decide +kernel
theorem dL_weigh_56 : decode cL_weigh 56 = .ok (.aload_n 1, 1) := by decide +kernel
theorem dL_weigh_57 : decode cL_weigh 57 = .ok (.iconst 2, 1) := by decide +kernel
theorem dL_weigh_58 : decode cL_weigh 58 = .ok (.aload_n 0, 1) := by decide +kernel
theorem dL_weigh_59 : decode cL_weigh 59 = .ok (.invokestatic 19, 3) := by decide +kernel
theorem dL_weigh_62 : decode cL_weigh 62 = .ok (.ifCond .ne 14, 3) := by decide +kernel
theorem dL_weigh_65 : decode cL_weigh 65 = .ok (.iload_n 2, 1) := by decide +kernel
theorem dL_weigh_66 : decode cL_weigh 66 = .ok (.invokestatic 23, 3) := by decide +kernel
theorem dL_weigh_69 : decode cL_weigh 69 = .ok (.aload_n 0, 1) := by decide +kernel
theorem dL_weigh_70 : decode cL_weigh 70 = .ok (.bipush 9, 2) := by decide +kernel
theorem dL_weigh_72 : decode cL_weigh 72 = .ok (.iaload, 1) := by decide +kernel
theorem dL_weigh_73 : decode cL_weigh 73 = .ok (.if_icmp .le 7, 3) := by decide +kernel
theorem dL_weigh_76 : decode cL_weigh 76 = .ok (.iconst 0, 1) := by decide +kernel
theorem dL_weigh_77 : decode cL_weigh 77 = .ok (.goto 6, 3) := by decide +kernel
theorem dL_weigh_80 : decode cL_weigh 80 = .ok (.aload_n 0, 1) := by decide +kernel
theorem dL_weigh_81 : decode cL_weigh 81 = .ok (.iconst 5, 1) := by decide +kernel
theorem dL_weigh_82 : decode cL_weigh 82 = .ok (.iaload, 1) := by decide +kernel
theorem dL_weigh_83 : decode cL_weigh 83 = .ok (.iastore, 1) := by decide +kernel
theorem dL_weigh_84 : decode cL_weigh 84 = .ok (.aload_n 1, 1) := by decide +kernel
theorem dL_weigh_85 : decode cL_weigh 85 = .ok (.iconst 4, 1) := by decide +kernel
theorem dL_weigh_86 : decode cL_weigh 86 = .ok (.aload_n 1, 1) := by decide +kernel
theorem dL_weigh_87 : decode cL_weigh 87 = .ok (.iconst 1, 1) := by decide +kernel
theorem dL_weigh_88 : decode cL_weigh 88 = .ok (.iaload, 1) := by decide +kernel
theorem dL_weigh_89 : decode cL_weigh 89 = .ok (.invokestatic 23, 3) := by decide +kernel
theorem dL_weigh_92 : decode cL_weigh 92 = .ok (.iload_n 2, 1) := by decide +kernel
theorem dL_weigh_93 : decode cL_weigh 93 = .ok (.invokestatic 23, 3) := by decide +kernel
theorem dL_weigh_96 : decode cL_weigh 96 = .ok (.imul, 1) := by decide +kernel
theorem dL_weigh_97 : decode cL_weigh 97 = .ok (.bipush 100, 2) := by decide +kernel
theorem dL_weigh_99 : decode cL_weigh 99 = .ok (.idiv, 1) := by decide +kernel
theorem dL_weigh_100 : decode cL_weigh 100 = .ok (.iastore, 1) := by decide +kernel
theorem dL_weigh_101 : decode cL_weigh 101 = .ok (.aload_n 1, 1) := by decide +kernel
theorem dL_weigh_102 : decode cL_weigh 102 = .ok (.iconst 5, 1) := by decide +kernel
theorem dL_weigh_103 : decode cL_weigh 103 = .ok (.aload_n 1, 1) := by decide +kernel
theorem dL_weigh_104 : decode cL_weigh 104 = .ok (.iconst 2, 1) := by decide +kernel
theorem dL_weigh_105 : decode cL_weigh 105 = .ok (.iaload, 1) := by decide +kernel
theorem dL_weigh_106 : decode cL_weigh 106 = .ok (.invokestatic 23, 3) := by decide +kernel
theorem dL_weigh_109 : decode cL_weigh 109 = .ok (.bipush 20, 2) := by decide +kernel
theorem dL_weigh_111 : decode cL_weigh 111 = .ok (.iload_n 2, 1) := by decide +kernel
theorem dL_weigh_112 : decode cL_weigh 112 = .ok (.invokestatic 23, 3) := by decide +kernel
theorem dL_weigh_115 : decode cL_weigh 115 = .ok (.iadd, 1) := by decide +kernel
theorem dL_weigh_116 : decode cL_weigh 116 = .ok (.imul, 1) := by decide +kernel
theorem dL_weigh_117 : decode cL_weigh 117 = .ok (.bipush 100, 2) := by decide +kernel
theorem dL_weigh_119 : decode cL_weigh 119 = .ok (.idiv, 1) := by decide +kernel
theorem dL_weigh_120 : decode cL_weigh 120 = .ok (.iastore, 1) := by decide +kernel
theorem dL_weigh_121 : decode cL_weigh 121 = .ok (.aload_n 0, 1) := by decide +kernel
theorem dL_weigh_122 : decode cL_weigh 122 = .ok (.iconst 1, 1) := by decide +kernel
theorem dL_weigh_123 : decode cL_weigh 123 = .ok (.iaload, 1) := by decide +kernel
theorem dL_weigh_124 : decode cL_weigh 124 = .ok (.aload_n 1, 1) := by decide +kernel
theorem dL_weigh_125 : decode cL_weigh 125 = .ok (.iconst 0, 1) := by decide +kernel
theorem dL_weigh_126 : decode cL_weigh 126 = .ok (.iaload, 1) := by decide +kernel
theorem dL_weigh_127 : decode cL_weigh 127 = .ok (.iadd, 1) := by decide +kernel
theorem dL_weigh_128 : decode cL_weigh 128 = .ok (.aload_n 1, 1) := by decide +kernel
theorem dL_weigh_129 : decode cL_weigh 129 = .ok (.iconst 1, 1) := by decide +kernel
theorem dL_weigh_130 : decode cL_weigh 130 = .ok (.iaload, 1) := by decide +kernel
theorem dL_weigh_131 : decode cL_weigh 131 = .ok (.iadd, 1) := by decide +kernel
theorem dL_weigh_132 : decode cL_weigh 132 = .ok (.aload_n 1, 1) := by decide +kernel
theorem dL_weigh_133 : decode cL_weigh 133 = .ok (.iconst 2, 1) := by decide +kernel
theorem dL_weigh_134 : decode cL_weigh 134 = .ok (.iaload, 1) := by decide +kernel
theorem dL_weigh_135 : decode cL_weigh 135 = .ok (.iadd, 1) := by decide +kernel
theorem dL_weigh_136 : decode cL_weigh 136 = .ok (.istore_n 3, 1) := by decide +kernel
theorem dL_weigh_137 : decode cL_weigh 137 = .ok (.aload_n 1, 1) := by decide +kernel
theorem dL_weigh_138 : decode cL_weigh 138 = .ok (.iconst 3, 1) := by decide +kernel
theorem dL_weigh_139 : decode cL_weigh 139 = .ok (.iload_n 3, 1) := by decide +kernel
theorem dL_weigh_140 : decode cL_weigh 140 = .ok (.ldc 26, 2) := by decide +kernel
theorem dL_weigh_142 : decode cL_weigh 142 = .ok (.if_icmp .le 8, 3) := by decide +kernel
theorem dL_weigh_145 : decode cL_weigh 145 = .ok (.ldc 26, 2) := by decide +kernel
theorem dL_weigh_147 : decode cL_weigh 147 = .ok (.goto 12, 3) := by decide +kernel
theorem dL_weigh_150 : decode cL_weigh 150 = .ok (.iload_n 3, 1) := by decide +kernel
theorem dL_weigh_151 : decode cL_weigh 151 = .ok (.ifCond .ge 7, 3) := by decide +kernel
theorem dL_weigh_154 : decode cL_weigh 154 = .ok (.iconst 0, 1) := by decide +kernel
theorem dL_weigh_155 : decode cL_weigh 155 = .ok (.goto 4, 3) := by decide +kernel
theorem dL_weigh_158 : decode cL_weigh 158 = .ok (.iload_n 3, 1) := by decide +kernel
theorem dL_weigh_159 : decode cL_weigh 159 = .ok (.aload_n 0, 1) := by decide +kernel
theorem dL_weigh_160 : decode cL_weigh 160 = .ok (.iconst 1, 1) := by decide +kernel
theorem dL_weigh_161 : decode cL_weigh 161 = .ok (.iaload, 1) := by decide +kernel
theorem dL_weigh_162 : decode cL_weigh 162 = .ok (.isub, 1) := by decide +kernel
theorem dL_weigh_163 : decode cL_weigh 163 = .ok (.iastore, 1) := by decide +kernel
theorem dL_weigh_164 : decode cL_weigh 164 = .ok (.aload_n 1, 1) := by decide +kernel
theorem dL_weigh_165 : decode cL_weigh 165 = .ok (.iconst 3, 1) := by decide +kernel
theorem dL_weigh_166 : decode cL_weigh 166 = .ok (.iaload, 1) := by decide +kernel
theorem dL_weigh_167 : decode cL_weigh 167 = .ok (.bipush 50, 2) := by decide +kernel
theorem dL_weigh_169 : decode cL_weigh 169 = .ok (.idiv, 1) := by decide +kernel
theorem dL_weigh_170 : decode cL_weigh 170 = .ok (.istore 4, 2) := by decide +kernel
theorem dL_weigh_172 : decode cL_weigh 172 = .ok (.aload_n 1, 1) := by decide +kernel
theorem dL_weigh_173 : decode cL_weigh 173 = .ok (.iconst 3, 1) := by decide +kernel
theorem dL_weigh_174 : decode cL_weigh 174 = .ok (.iaload, 1) := by decide +kernel
theorem dL_weigh_175 : decode cL_weigh 175 = .ok (.invokestatic 23, 3) := by decide +kernel
theorem dL_weigh_178 : decode cL_weigh 178 = .ok (.bipush 20, 2) := by decide +kernel
theorem dL_weigh_180 : decode cL_weigh 180 = .ok (.idiv, 1) := by decide +kernel
theorem dL_weigh_181 : decode cL_weigh 181 = .ok (.istore 5, 2) := by decide +kernel
theorem dL_weigh_183 : decode cL_weigh 183 = .ok (.aload_n 1, 1) := by decide +kernel
theorem dL_weigh_184 : decode cL_weigh 184 = .ok (.bipush 6, 2) := by decide +kernel
theorem dL_weigh_186 : decode cL_weigh 186 = .ok (.aload_n 1, 1) := by decide +kernel
theorem dL_weigh_187 : decode cL_weigh 187 = .ok (.iconst 3, 1) := by decide +kernel
theorem dL_weigh_188 : decode cL_weigh 188 = .ok (.iaload, 1) := by decide +kernel
theorem dL_weigh_189 : decode cL_weigh 189 = .ok (.ifCond .le 30, 3) := by decide +kernel
theorem dL_weigh_192 : decode cL_weigh 192 = .ok (.aload_n 0, 1) := by decide +kernel
theorem dL_weigh_193 : decode cL_weigh 193 = .ok (.iconst 2, 1) := by decide +kernel
theorem dL_weigh_194 : decode cL_weigh 194 = .ok (.iaload, 1) := by decide +kernel
theorem dL_weigh_195 : decode cL_weigh 195 = .ok (.iload 4, 2) := by decide +kernel
theorem dL_weigh_197 : decode cL_weigh 197 = .ok (.iadd, 1) := by decide +kernel
theorem dL_weigh_198 : decode cL_weigh 198 = .ok (.sipush 20000, 3) := by decide +kernel
theorem dL_weigh_201 : decode cL_weigh 201 = .ok (.if_icmp .le 13, 3) := by decide +kernel
theorem dL_weigh_204 : decode cL_weigh 204 = .ok (.sipush 20000, 3) := by decide +kernel
theorem dL_weigh_207 : decode cL_weigh 207 = .ok (.aload_n 0, 1) := by decide +kernel
theorem dL_weigh_208 : decode cL_weigh 208 = .ok (.iconst 2, 1) := by decide +kernel
theorem dL_weigh_209 : decode cL_weigh 209 = .ok (.iaload, 1) := by decide +kernel
theorem dL_weigh_210 : decode cL_weigh 210 = .ok (.isub, 1) := by decide +kernel
theorem dL_weigh_211 : decode cL_weigh 211 = .ok (.goto 40, 3) := by decide +kernel
theorem dL_weigh_214 : decode cL_weigh 214 = .ok (.iload 4, 2) := by decide +kernel
theorem dL_weigh_216 : decode cL_weigh 216 = .ok (.goto 35, 3) := by decide +kernel
theorem dL_weigh_219 : decode cL_weigh 219 = .ok (.aload_n 1, 1) := by decide +kernel
theorem dL_weigh_220 : decode cL_weigh 220 = .ok (.iconst 3, 1) := by decide +kernel
theorem dL_weigh_221 : decode cL_weigh 221 = .ok (.iaload, 1) := by decide +kernel
theorem dL_weigh_222 : decode cL_weigh 222 = .ok (.aload_n 0, 1) := by decide +kernel
theorem dL_weigh_223 : decode cL_weigh 223 = .ok (.bipush 10, 2) := by decide +kernel
theorem dL_weigh_225 : decode cL_weigh 225 = .ok (.iaload, 1) := by decide +kernel
theorem dL_weigh_226 : decode cL_weigh 226 = .ok (.ineg, 1) := by decide +kernel
theorem dL_weigh_227 : decode cL_weigh 227 = .ok (.if_icmp .le 7, 3) := by decide +kernel
theorem dL_weigh_230 : decode cL_weigh 230 = .ok (.iconst 0, 1) := by decide +kernel
theorem dL_weigh_231 : decode cL_weigh 231 = .ok (.goto 20, 3) := by decide +kernel
theorem dL_weigh_234 : decode cL_weigh 234 = .ok (.iload 5, 2) := by decide +kernel
theorem dL_weigh_236 : decode cL_weigh 236 = .ok (.aload_n 0, 1) := by decide +kernel
theorem dL_weigh_237 : decode cL_weigh 237 = .ok (.iconst 2, 1) := by decide +kernel
theorem dL_weigh_238 : decode cL_weigh 238 = .ok (.iaload, 1) := by decide +kernel
theorem dL_weigh_239 : decode cL_weigh 239 = .ok (.if_icmp .le 9, 3) := by decide +kernel
theorem dL_weigh_242 : decode cL_weigh 242 = .ok (.aload_n 0, 1) := by decide +kernel
theorem dL_weigh_243 : decode cL_weigh 243 = .ok (.iconst 2, 1) := by decide +kernel
theorem dL_weigh_244 : decode cL_weigh 244 = .ok (.iaload, 1) := by decide +kernel
theorem dL_weigh_245 : decode cL_weigh 245 = .ok (.goto 5, 3) := by decide +kernel
theorem dL_weigh_248 : decode cL_weigh 248 = .ok (.iload 5, 2) := by decide +kernel
theorem dL_weigh_250 : decode cL_weigh 250 = .ok (.ineg, 1) := by decide +kernel
theorem dL_weigh_251 : decode cL_weigh 251 = .ok (.iastore, 1) := by decide +kernel
theorem dL_weigh_252 : decode cL_weigh 252 = .ok (.return_, 1) := by decide +kernel
theorem dL_run_0 : decode cL_run 0 = .ok (.bipush 7, 2) := by decide +kernel
theorem dL_run_2 : decode cL_run 2 = .ok (.newarray .int, 2) := by decide +kernel
theorem dL_run_4 : decode cL_run 4 = .ok (.astore 4, 2) := by decide +kernel
theorem dL_run_6 : decode cL_run 6 = .ok (.iconst 0, 1) := by decide +kernel
theorem dL_run_7 : decode cL_run 7 = .ok (.istore 5, 2) := by decide +kernel
theorem dL_run_9 : decode cL_run 9 = .ok (.iload 5, 2) := by decide +kernel
theorem dL_run_11 : decode cL_run 11 = .ok (.iload_n 3, 1) := by decide +kernel
theorem dL_run_12 : decode cL_run 12 = .ok (.if_icmp .ge 363, 3) := by decide +kernel
theorem dL_run_15 : decode cL_run 15 = .ok (.aload_n 0, 1) := by decide +kernel
theorem dL_run_16 : decode cL_run 16 = .ok (.aload 4, 2) := by decide +kernel
theorem dL_run_18 : decode cL_run 18 = .ok (.invokestatic 27, 3) := by decide +kernel
theorem dL_run_21 : decode cL_run 21 = .ok (.aload_n 0, 1) := by decide +kernel
theorem dL_run_22 : decode cL_run 22 = .ok (.iconst 0, 1) := by decide +kernel
theorem dL_run_23 : decode cL_run 23 = .ok (.iaload, 1) := by decide +kernel
theorem dL_run_24 : decode cL_run 24 = .ok (.sipush 144, 3) := by decide +kernel
theorem dL_run_27 : decode cL_run 27 = .ok (.idiv, 1) := by decide +kernel
theorem dL_run_28 : decode cL_run 28 = .ok (.istore 6, 2) := by decide +kernel
theorem dL_run_30 : decode cL_run 30 = .ok (.iload 6, 2) := by decide +kernel
theorem dL_run_32 : decode cL_run 32 = .ok (.bipush 10, 2) := by decide +kernel
theorem dL_run_34 : decode cL_run 34 = .ok (.irem, 1) := by decide +kernel
theorem dL_run_35 : decode cL_run 35 = .ok (.bipush 6, 2) := by decide +kernel
theorem dL_run_37 : decode cL_run 37 = .ok (.imul, 1) := by decide +kernel
theorem dL_run_38 : decode cL_run 38 = .ok (.istore 7, 2) := by decide +kernel
theorem dL_run_40 : decode cL_run 40 = .ok (.aload_n 0, 1) := by decide +kernel
theorem dL_run_41 : decode cL_run 41 = .ok (.iconst 0, 1) := by decide +kernel
theorem dL_run_42 : decode cL_run 42 = .ok (.dup2, 1) := by decide +kernel
theorem dL_run_43 : decode cL_run 43 = .ok (.iaload, 1) := by decide +kernel
theorem dL_run_44 : decode cL_run 44 = .ok (.iconst 1, 1) := by decide +kernel
theorem dL_run_45 : decode cL_run 45 = .ok (.iadd, 1) := by decide +kernel
theorem dL_run_46 : decode cL_run 46 = .ok (.iastore, 1) := by decide +kernel
theorem dL_run_47 : decode cL_run 47 = .ok (.aload_n 0, 1) := by decide +kernel
theorem dL_run_48 : decode cL_run 48 = .ok (.iconst 1, 1) := by decide +kernel
theorem dL_run_49 : decode cL_run 49 = .ok (.dup2, 1) := by decide +kernel
theorem dL_run_50 : decode cL_run 50 = .ok (.iaload, 1) := by decide +kernel
theorem dL_run_51 : decode cL_run 51 = .ok (.aload 4, 2) := by decide +kernel
theorem dL_run_53 : decode cL_run 53 = .ok (.iconst 3, 1) := by decide +kernel
theorem dL_run_54 : decode cL_run 54 = .ok (.iaload, 1) := by decide +kernel
theorem dL_run_55 : decode cL_run 55 = .ok (.iadd, 1) := by decide +kernel
theorem dL_run_56 : decode cL_run 56 = .ok (.iastore, 1) := by decide +kernel
theorem dL_run_57 : decode cL_run 57 = .ok (.aload_n 0, 1) := by decide +kernel
theorem dL_run_58 : decode cL_run 58 = .ok (.iconst 2, 1) := by decide +kernel
theorem dL_run_59 : decode cL_run 59 = .ok (.dup2, 1) := by decide +kernel
theorem dL_run_60 : decode cL_run 60 = .ok (.iaload, 1) := by decide +kernel
theorem dL_run_61 : decode cL_run 61 = .ok (.aload 4, 2) := by decide +kernel
theorem dL_run_63 : decode cL_run 63 = .ok (.bipush 6, 2) := by decide +kernel
theorem dL_run_65 : decode cL_run 65 = .ok (.iaload, 1) := by decide +kernel
theorem dL_run_66 : decode cL_run 66 = .ok (.iadd, 1) := by decide +kernel
theorem dL_run_67 : decode cL_run 67 = .ok (.iastore, 1) := by decide +kernel
theorem dL_run_68 : decode cL_run 68 = .ok (.aload_n 0, 1) := by decide +kernel
theorem dL_run_69 : decode cL_run 69 = .ok (.bipush 11, 2) := by decide +kernel
theorem dL_run_71 : decode cL_run 71 = .ok (.dup2, 1) := by decide +kernel
theorem dL_run_72 : decode cL_run 72 = .ok (.iaload, 1) := by decide +kernel
theorem dL_run_73 : decode cL_run 73 = .ok (.aload 4, 2) := by decide +kernel
theorem dL_run_75 : decode cL_run 75 = .ok (.iconst 4, 1) := by decide +kernel
theorem dL_run_76 : decode cL_run 76 = .ok (.iaload, 1) := by decide +kernel
theorem dL_run_77 : decode cL_run 77 = .ok (.iadd, 1) := by decide +kernel
theorem dL_run_78 : decode cL_run 78 = .ok (.iastore, 1) := by decide +kernel
theorem dL_run_79 : decode cL_run 79 = .ok (.aload_n 0, 1) := by decide +kernel
theorem dL_run_80 : decode cL_run 80 = .ok (.bipush 12, 2) := by decide +kernel
theorem dL_run_82 : decode cL_run 82 = .ok (.dup2, 1) := by decide +kernel
theorem dL_run_83 : decode cL_run 83 = .ok (.iaload, 1) := by decide +kernel
theorem dL_run_84 : decode cL_run 84 = .ok (.aload 4, 2) := by decide +kernel
theorem dL_run_86 : decode cL_run 86 = .ok (.iconst 5, 1) := by decide +kernel
theorem dL_run_87 : decode cL_run 87 = .ok (.iaload, 1) := by decide +kernel
theorem dL_run_88 : decode cL_run 88 = .ok (.iadd, 1) := by decide +kernel
theorem dL_run_89 : decode cL_run 89 = .ok (.iastore, 1) := by decide +kernel
theorem dL_run_90 : decode cL_run 90 = .ok (.aload_n 0, 1) := by decide +kernel
theorem dL_run_91 : decode cL_run 91 = .ok (.aload 4, 2) := by decide +kernel
theorem dL_run_93 : decode cL_run 93 = .ok (.iconst 3, 1) := by decide +kernel
theorem dL_run_94 : decode cL_run 94 = .ok (.iaload, 1) := by decide +kernel
theorem dL_run_95 : decode cL_run 95 = .ok (.ifCond .le 8, 3) := by decide +kernel
theorem dL_run_98 : decode cL_run 98 = .ok (.bipush 13, 2) := by decide +kernel
theorem dL_run_100 : decode cL_run 100 = .ok (.goto 5, 3) := by decide +kernel
theorem dL_run_103 : decode cL_run 103 = .ok (.bipush 14, 2) := by decide +kernel
theorem dL_run_105 : decode cL_run 105 = .ok (.dup2, 1) := by decide +kernel
theorem dL_run_106 : decode cL_run 106 = .ok (.iaload, 1) := by decide +kernel
theorem dL_run_107 : decode cL_run 107 = .ok (.aload 4, 2) := by decide +kernel
theorem dL_run_109 : decode cL_run 109 = .ok (.iconst 3, 1) := by decide +kernel
theorem dL_run_110 : decode cL_run 110 = .ok (.iaload, 1) := by decide +kernel
theorem dL_run_111 : decode cL_run 111 = .ok (.invokestatic 23, 3) := by decide +kernel
theorem dL_run_114 : decode cL_run 114 = .ok (.iadd, 1) := by decide +kernel
theorem dL_run_115 : decode cL_run 115 = .ok (.iastore, 1) := by decide +kernel
theorem dL_run_116 : decode cL_run 116 = .ok (.aload_n 0, 1) := by decide +kernel
theorem dL_run_117 : decode cL_run 117 = .ok (.aload 4, 2) := by decide +kernel
theorem dL_run_119 : decode cL_run 119 = .ok (.bipush 6, 2) := by decide +kernel
theorem dL_run_121 : decode cL_run 121 = .ok (.iaload, 1) := by decide +kernel
theorem dL_run_122 : decode cL_run 122 = .ok (.ifCond .le 8, 3) := by decide +kernel
theorem dL_run_125 : decode cL_run 125 = .ok (.bipush 16, 2) := by decide +kernel
theorem dL_run_127 : decode cL_run 127 = .ok (.goto 5, 3) := by decide +kernel
theorem dL_run_130 : decode cL_run 130 = .ok (.bipush 17, 2) := by decide +kernel
theorem dL_run_132 : decode cL_run 132 = .ok (.dup2, 1) := by decide +kernel
theorem dL_run_133 : decode cL_run 133 = .ok (.iaload, 1) := by decide +kernel
theorem dL_run_134 : decode cL_run 134 = .ok (.aload 4, 2) := by decide +kernel
theorem dL_run_136 : decode cL_run 136 = .ok (.bipush 6, 2) := by decide +kernel
theorem dL_run_138 : decode cL_run 138 = .ok (.iaload, 1) := by decide +kernel
theorem dL_run_139 : decode cL_run 139 = .ok (.invokestatic 23, 3) := by decide +kernel
theorem dL_run_142 : decode cL_run 142 = .ok (.iadd, 1) := by decide +kernel
theorem dL_run_143 : decode cL_run 143 = .ok (.iastore, 1) := by decide +kernel
theorem dL_run_144 : decode cL_run 144 = .ok (.aload_n 2, 1) := by decide +kernel
theorem dL_run_145 : decode cL_run 145 = .ok (.iload 6, 2) := by decide +kernel
theorem dL_run_147 : decode cL_run 147 = .ok (.bipush 10, 2) := by decide +kernel
theorem dL_run_149 : decode cL_run 149 = .ok (.irem, 1) := by decide +kernel
theorem dL_run_150 : decode cL_run 150 = .ok (.iaload, 1) := by decide +kernel
theorem dL_run_151 : decode cL_run 151 = .ok (.iload 6, 2) := by decide +kernel
theorem dL_run_153 : decode cL_run 153 = .ok (.if_icmp .eq 7, 3) := by decide +kernel
theorem dL_run_156 : decode cL_run 156 = .ok (.iconst 1, 1) := by decide +kernel
theorem dL_run_157 : decode cL_run 157 = .ok (.goto 4, 3) := by decide +kernel
theorem dL_run_160 : decode cL_run 160 = .ok (.iconst 0, 1) := by decide +kernel
theorem dL_run_161 : decode cL_run 161 = .ok (.istore 8, 2) := by decide +kernel
theorem dL_run_163 : decode cL_run 163 = .ok (.aload_n 2, 1) := by decide +kernel
theorem dL_run_164 : decode cL_run 164 = .ok (.iload 6, 2) := by decide +kernel
theorem dL_run_166 : decode cL_run 166 = .ok (.bipush 10, 2) := by decide +kernel
theorem dL_run_168 : decode cL_run 168 = .ok (.irem, 1) := by decide +kernel
theorem dL_run_169 : decode cL_run 169 = .ok (.iload 6, 2) := by decide +kernel
theorem dL_run_171 : decode cL_run 171 = .ok (.iastore, 1) := by decide +kernel
theorem dL_run_172 : decode cL_run 172 = .ok (.aload_n 1, 1) := by decide +kernel
theorem dL_run_173 : decode cL_run 173 = .ok (.iload 7, 2) := by decide +kernel
theorem dL_run_175 : decode cL_run 175 = .ok (.aload 4, 2) := by decide +kernel
theorem dL_run_177 : decode cL_run 177 = .ok (.iconst 4, 1) := by decide +kernel
theorem dL_run_178 : decode cL_run 178 = .ok (.iaload, 1) := by decide +kernel
theorem dL_run_179 : decode cL_run 179 = .ok (.iload 8, 2) := by decide +kernel
theorem dL_run_181 : decode cL_run 181 = .ok (.ifCond .eq 7, 3) := by decide +kernel
theorem dL_run_184 : decode cL_run 184 = .ok (.iconst 0, 1) := by decide +kernel
theorem dL_run_185 : decode cL_run 185 = .ok (.goto 7, 3) := by decide +kernel
theorem dL_run_188 : decode cL_run 188 = .ok (.aload_n 1, 1) := by decide +kernel
theorem dL_run_189 : decode cL_run 189 = .ok (.iload 7, 2) := by decide +kernel
theorem dL_run_191 : decode cL_run 191 = .ok (.iaload, 1) := by decide +kernel
theorem dL_run_192 : decode cL_run 192 = .ok (.iadd, 1) := by decide +kernel
theorem dL_run_193 : decode cL_run 193 = .ok (.iastore, 1) := by decide +kernel
theorem dL_run_194 : decode cL_run 194 = .ok (.aload_n 1, 1) := by decide +kernel
theorem dL_run_195 : decode cL_run 195 = .ok (.iload 7, 2) := by decide +kernel
theorem dL_run_197 : decode cL_run 197 = .ok (.iconst 1, 1) := by decide +kernel
theorem dL_run_198 : decode cL_run 198 = .ok (.iadd, 1) := by decide +kernel
theorem dL_run_199 : decode cL_run 199 = .ok (.aload 4, 2) := by decide +kernel
theorem dL_run_201 : decode cL_run 201 = .ok (.iconst 5, 1) := by decide +kernel
theorem dL_run_202 : decode cL_run 202 = .ok (.iaload, 1) := by decide +kernel
theorem dL_run_203 : decode cL_run 203 = .ok (.iload 8, 2) := by decide +kernel
theorem dL_run_205 : decode cL_run 205 = .ok (.ifCond .eq 7, 3) := by decide +kernel
theorem dL_run_208 : decode cL_run 208 = .ok (.iconst 0, 1) := by decide +kernel
theorem dL_run_209 : decode cL_run 209 = .ok (.goto 9, 3) := by decide +kernel
theorem dL_run_212 : decode cL_run 212 = .ok (.aload_n 1, 1) := by decide +kernel
theorem dL_run_213 : decode cL_run 213 = .ok (.iload 7, 2) := by decide +kernel
theorem dL_run_215 : decode cL_run 215 = .ok (.iconst 1, 1) := by decide +kernel
theorem dL_run_216 : decode cL_run 216 = .ok (.iadd, 1) := by decide +kernel
theorem dL_run_217 : decode cL_run 217 = .ok (.iaload, 1) := by decide +kernel
theorem dL_run_218 : decode cL_run 218 = .ok (.iadd, 1) := by decide +kernel
theorem dL_run_219 : decode cL_run 219 = .ok (.iastore, 1) := by decide +kernel
theorem dL_run_220 : decode cL_run 220 = .ok (.aload_n 1, 1) := by decide +kernel
theorem dL_run_221 : decode cL_run 221 = .ok (.iload 7, 2) := by decide +kernel
theorem dL_run_223 : decode cL_run 223 = .ok (.iconst 2, 1) := by decide +kernel
theorem dL_run_224 : decode cL_run 224 = .ok (.iadd, 1) := by decide +kernel
theorem dL_run_225 : decode cL_run 225 = .ok (.iload 8, 2) := by decide +kernel
theorem dL_run_227 : decode cL_run 227 = .ok (.ifCond .ne 16, 3) := by decide +kernel
theorem dL_run_230 : decode cL_run 230 = .ok (.aload_n 0, 1) := by decide +kernel
theorem dL_run_231 : decode cL_run 231 = .ok (.invokestatic 15, 3) := by decide +kernel
theorem dL_run_234 : decode cL_run 234 = .ok (.aload_n 1, 1) := by decide +kernel
theorem dL_run_235 : decode cL_run 235 = .ok (.iload 7, 2) := by decide +kernel
theorem dL_run_237 : decode cL_run 237 = .ok (.iconst 2, 1) := by decide +kernel
theorem dL_run_238 : decode cL_run 238 = .ok (.iadd, 1) := by decide +kernel
theorem dL_run_239 : decode cL_run 239 = .ok (.iaload, 1) := by decide +kernel
theorem dL_run_240 : decode cL_run 240 = .ok (.if_icmp .le 10, 3) := by decide +kernel
theorem dL_run_243 : decode cL_run 243 = .ok (.aload_n 0, 1) := by decide +kernel
theorem dL_run_244 : decode cL_run 244 = .ok (.invokestatic 15, 3) := by decide +kernel
theorem dL_run_247 : decode cL_run 247 = .ok (.goto 9, 3) := by decide +kernel
theorem dL_run_250 : decode cL_run 250 = .ok (.aload_n 1, 1) := by decide +kernel
theorem dL_run_251 : decode cL_run 251 = .ok (.iload 7, 2) := by decide +kernel
theorem dL_run_253 : decode cL_run 253 = .ok (.iconst 2, 1) := by decide +kernel
theorem dL_run_254 : decode cL_run 254 = .ok (.iadd, 1) := by decide +kernel
theorem dL_run_255 : decode cL_run 255 = .ok (.iaload, 1) := by decide +kernel
theorem dL_run_256 : decode cL_run 256 = .ok (.iastore, 1) := by decide +kernel
theorem dL_run_257 : decode cL_run 257 = .ok (.aload_n 1, 1) := by decide +kernel
theorem dL_run_258 : decode cL_run 258 = .ok (.iload 7, 2) := by decide +kernel
theorem dL_run_260 : decode cL_run 260 = .ok (.iconst 3, 1) := by decide +kernel
theorem dL_run_261 : decode cL_run 261 = .ok (.iadd, 1) := by decide +kernel
theorem dL_run_262 : decode cL_run 262 = .ok (.iload 8, 2) := by decide +kernel
theorem dL_run_264 : decode cL_run 264 = .ok (.ifCond .ne 16, 3) := by decide +kernel
theorem dL_run_267 : decode cL_run 267 = .ok (.aload_n 0, 1) := by decide +kernel
theorem dL_run_268 : decode cL_run 268 = .ok (.invokestatic 15, 3) := by decide +kernel
theorem dL_run_271 : decode cL_run 271 = .ok (.aload_n 1, 1) := by decide +kernel
theorem dL_run_272 : decode cL_run 272 = .ok (.iload 7, 2) := by decide +kernel
theorem dL_run_274 : decode cL_run 274 = .ok (.iconst 3, 1) := by decide +kernel
theorem dL_run_275 : decode cL_run 275 = .ok (.iadd, 1) := by decide +kernel
theorem dL_run_276 : decode cL_run 276 = .ok (.iaload, 1) := by decide +kernel
theorem dL_run_277 : decode cL_run 277 = .ok (.if_icmp .ge 10, 3) := by decide +kernel
theorem dL_run_280 : decode cL_run 280 = .ok (.aload_n 0, 1) := by decide +kernel
theorem dL_run_281 : decode cL_run 281 = .ok (.invokestatic 15, 3) := by decide +kernel
theorem dL_run_284 : decode cL_run 284 = .ok (.goto 9, 3) := by decide +kernel
theorem dL_run_287 : decode cL_run 287 = .ok (.aload_n 1, 1) := by decide +kernel
theorem dL_run_288 : decode cL_run 288 = .ok (.iload 7, 2) := by decide +kernel
theorem dL_run_290 : decode cL_run 290 = .ok (.iconst 3, 1) := by decide +kernel
theorem dL_run_291 : decode cL_run 291 = .ok (.iadd, 1) := by decide +kernel
theorem dL_run_292 : decode cL_run 292 = .ok (.iaload, 1) := by decide +kernel
theorem dL_run_293 : decode cL_run 293 = .ok (.iastore, 1) := by decide +kernel
theorem dL_run_294 : decode cL_run 294 = .ok (.aload_n 1, 1) := by decide +kernel
theorem dL_run_295 : decode cL_run 295 = .ok (.iload 7, 2) := by decide +kernel
theorem dL_run_297 : decode cL_run 297 = .ok (.iconst 4, 1) := by decide +kernel
theorem dL_run_298 : decode cL_run 298 = .ok (.iadd, 1) := by decide +kernel
theorem dL_run_299 : decode cL_run 299 = .ok (.aload 4, 2) := by decide +kernel
theorem dL_run_301 : decode cL_run 301 = .ok (.iconst 3, 1) := by decide +kernel
theorem dL_run_302 : decode cL_run 302 = .ok (.iaload, 1) := by decide +kernel
theorem dL_run_303 : decode cL_run 303 = .ok (.ifCond .le 10, 3) := by decide +kernel
theorem dL_run_306 : decode cL_run 306 = .ok (.aload 4, 2) := by decide +kernel
theorem dL_run_308 : decode cL_run 308 = .ok (.iconst 3, 1) := by decide +kernel
theorem dL_run_309 : decode cL_run 309 = .ok (.iaload, 1) := by decide +kernel
theorem dL_run_310 : decode cL_run 310 = .ok (.goto 4, 3) := by decide +kernel
theorem dL_run_313 : decode cL_run 313 = .ok (.iconst 0, 1) := by decide +kernel
theorem dL_run_314 : decode cL_run 314 = .ok (.iload 8, 2) := by decide +kernel
theorem dL_run_316 : decode cL_run 316 = .ok (.ifCond .eq 7, 3) := by decide +kernel
theorem dL_run_319 : decode cL_run 319 = .ok (.iconst 0, 1) := by decide +kernel
theorem dL_run_320 : decode cL_run 320 = .ok (.goto 9, 3) := by decide +kernel
theorem dL_run_323 : decode cL_run 323 = .ok (.aload_n 1, 1) := by decide +kernel
theorem dL_run_324 : decode cL_run 324 = .ok (.iload 7, 2) := by decide +kernel
theorem dL_run_326 : decode cL_run 326 = .ok (.iconst 4, 1) := by decide +kernel
theorem dL_run_327 : decode cL_run 327 = .ok (.iadd, 1) := by decide +kernel
theorem dL_run_328 : decode cL_run 328 = .ok (.iaload, 1) := by decide +kernel
theorem dL_run_329 : decode cL_run 329 = .ok (.iadd, 1) := by decide +kernel
theorem dL_run_330 : decode cL_run 330 = .ok (.iastore, 1) := by decide +kernel
theorem dL_run_331 : decode cL_run 331 = .ok (.aload_n 1, 1) := by decide +kernel
theorem dL_run_332 : decode cL_run 332 = .ok (.iload 7, 2) := by decide +kernel
theorem dL_run_334 : decode cL_run 334 = .ok (.iconst 5, 1) := by decide +kernel
theorem dL_run_335 : decode cL_run 335 = .ok (.iadd, 1) := by decide +kernel
theorem dL_run_336 : decode cL_run 336 = .ok (.aload 4, 2) := by decide +kernel
theorem dL_run_338 : decode cL_run 338 = .ok (.iconst 3, 1) := by decide +kernel
theorem dL_run_339 : decode cL_run 339 = .ok (.iaload, 1) := by decide +kernel
theorem dL_run_340 : decode cL_run 340 = .ok (.ifCond .ge 11, 3) := by decide +kernel
theorem dL_run_343 : decode cL_run 343 = .ok (.aload 4, 2) := by decide +kernel
theorem dL_run_345 : decode cL_run 345 = .ok (.iconst 3, 1) := by decide +kernel
theorem dL_run_346 : decode cL_run 346 = .ok (.iaload, 1) := by decide +kernel
theorem dL_run_347 : decode cL_run 347 = .ok (.ineg, 1) := by decide +kernel
theorem dL_run_348 : decode cL_run 348 = .ok (.goto 4, 3) := by decide +kernel
theorem dL_run_351 : decode cL_run 351 = .ok (.iconst 0, 1) := by decide +kernel
theorem dL_run_352 : decode cL_run 352 = .ok (.iload 8, 2) := by decide +kernel
theorem dL_run_354 : decode cL_run 354 = .ok (.ifCond .eq 7, 3) := by decide +kernel
theorem dL_run_357 : decode cL_run 357 = .ok (.iconst 0, 1) := by decide +kernel
theorem dL_run_358 : decode cL_run 358 = .ok (.goto 9, 3) := by decide +kernel
theorem dL_run_361 : decode cL_run 361 = .ok (.aload_n 1, 1) := by decide +kernel
theorem dL_run_362 : decode cL_run 362 = .ok (.iload 7, 2) := by decide +kernel
theorem dL_run_364 : decode cL_run 364 = .ok (.iconst 5, 1) := by decide +kernel
theorem dL_run_365 : decode cL_run 365 = .ok (.iadd, 1) := by decide +kernel
theorem dL_run_366 : decode cL_run 366 = .ok (.iaload, 1) := by decide +kernel
theorem dL_run_367 : decode cL_run 367 = .ok (.iadd, 1) := by decide +kernel
theorem dL_run_368 : decode cL_run 368 = .ok (.iastore, 1) := by decide +kernel
theorem dL_run_369 : decode cL_run 369 = .ok (.iinc 5 1, 3) := by decide +kernel
theorem dL_run_372 : decode cL_run 372 = .ok (.goto (-363), 3) := by decide +kernel
theorem dL_run_375 : decode cL_run 375 = .ok (.return_, 1) := by decide +kernel
theorem dL_acts_0 : decode cL_acts 0 = .ok (.iload 4, 2) := by decide +kernel
theorem dL_acts_2 : decode cL_acts 2 = .ok (.iconst 5, 1) := by decide +kernel
theorem dL_acts_3 : decode cL_acts 3 = .ok (.ishr, 1) := by decide +kernel
theorem dL_acts_4 : decode cL_acts 4 = .ok (.ldc 31, 2) := by decide +kernel
theorem dL_acts_6 : decode cL_acts 6 = .ok (.invokestatic 32, 3) := by decide +kernel
theorem dL_acts_9 : decode cL_acts 9 = .ok (.istore 5, 2) := by decide +kernel
theorem dL_acts_11 : decode cL_acts 11 = .ok (.iload 4, 2) := by decide +kernel
theorem dL_acts_13 : decode cL_acts 13 = .ok (.bipush 32, 2) := by decide +kernel
theorem dL_acts_15 : decode cL_acts 15 = .ok (.invokestatic 32, 3) := by decide +kernel
theorem dL_acts_18 : decode cL_acts 18 = .ok (.istore 6, 2) := by decide +kernel
theorem dL_acts_20 : decode cL_acts 20 = .ok (.iload 6, 2) := by decide +kernel
theorem dL_acts_22 : decode cL_acts 22 = .ok (.iconst 5, 1) := by decide +kernel
theorem dL_acts_23 : decode cL_acts 23 = .ok (.if_icmp .ge 34, 3) := by decide +kernel
theorem dL_acts_26 : decode cL_acts 26 = .ok (.aload_n 1, 1) := by decide +kernel
theorem dL_acts_27 : decode cL_acts 27 = .ok (.iconst 3, 1) := by decide +kernel
theorem dL_acts_28 : decode cL_acts 28 = .ok (.iaload, 1) := by decide +kernel
theorem dL_acts_29 : decode cL_acts 29 = .ok (.istore 7, 2) := by decide +kernel
theorem dL_acts_31 : decode cL_acts 31 = .ok (.aload_n 1, 1) := by decide +kernel
theorem dL_acts_32 : decode cL_acts 32 = .ok (.iconst 3, 1) := by decide +kernel
theorem dL_acts_33 : decode cL_acts 33 = .ok (.iload 5, 2) := by decide +kernel
theorem dL_acts_35 : decode cL_acts 35 = .ok (.bipush 9, 2) := by decide +kernel
theorem dL_acts_37 : decode cL_acts 37 = .ok (.irem, 1) := by decide +kernel
theorem dL_acts_38 : decode cL_acts 38 = .ok (.iastore, 1) := by decide +kernel
theorem dL_acts_39 : decode cL_acts 39 = .ok (.aload_n 0, 1) := by decide +kernel
theorem dL_acts_40 : decode cL_acts 40 = .ok (.aload_n 1, 1) := by decide +kernel
theorem dL_acts_41 : decode cL_acts 41 = .ok (.iconst 3, 1) := by decide +kernel
theorem dL_acts_42 : decode cL_acts 42 = .ok (.iaload, 1) := by decide +kernel
theorem dL_acts_43 : decode cL_acts 43 = .ok (.invokevirtual 36, 3) := by decide +kernel
theorem dL_acts_46 : decode cL_acts 46 = .ok (.iload 7, 2) := by decide +kernel
theorem dL_acts_48 : decode cL_acts 48 = .ok (.if_icmp .ne 7, 3) := by decide +kernel
theorem dL_acts_51 : decode cL_acts 51 = .ok (.iconst 1, 1) := by decide +kernel
theorem dL_acts_52 : decode cL_acts 52 = .ok (.goto 4, 3) := by decide +kernel
theorem dL_acts_55 : decode cL_acts 55 = .ok (.iconst 0, 1) := by decide +kernel
theorem dL_acts_56 : decode cL_acts 56 = .ok (.ireturn, 1) := by decide +kernel
theorem dL_acts_57 : decode cL_acts 57 = .ok (.iload 6, 2) := by decide +kernel
theorem dL_acts_59 : decode cL_acts 59 = .ok (.bipush 9, 2) := by decide +kernel
theorem dL_acts_61 : decode cL_acts 61 = .ok (.if_icmp .ge 34, 3) := by decide +kernel
theorem dL_acts_64 : decode cL_acts 64 = .ok (.aload_n 1, 1) := by decide +kernel
theorem dL_acts_65 : decode cL_acts 65 = .ok (.iconst 4, 1) := by decide +kernel
theorem dL_acts_66 : decode cL_acts 66 = .ok (.iaload, 1) := by decide +kernel
theorem dL_acts_67 : decode cL_acts 67 = .ok (.istore 7, 2) := by decide +kernel
theorem dL_acts_69 : decode cL_acts 69 = .ok (.aload_n 1, 1) := by decide +kernel
theorem dL_acts_70 : decode cL_acts 70 = .ok (.iconst 4, 1) := by decide +kernel
theorem dL_acts_71 : decode cL_acts 71 = .ok (.iload 5, 2) := by decide +kernel
theorem dL_acts_73 : decode cL_acts 73 = .ok (.bipush 7, 2) := by decide +kernel
theorem dL_acts_75 : decode cL_acts 75 = .ok (.irem, 1) := by decide +kernel
theorem dL_acts_76 : decode cL_acts 76 = .ok (.iastore, 1) := by decide +kernel
theorem dL_acts_77 : decode cL_acts 77 = .ok (.aload_n 0, 1) := by decide +kernel
theorem dL_acts_78 : decode cL_acts 78 = .ok (.aload_n 1, 1) := by decide +kernel
theorem dL_acts_79 : decode cL_acts 79 = .ok (.iconst 4, 1) := by decide +kernel
theorem dL_acts_80 : decode cL_acts 80 = .ok (.iaload, 1) := by decide +kernel
theorem dL_acts_81 : decode cL_acts 81 = .ok (.invokevirtual 41, 3) := by decide +kernel
theorem dL_acts_84 : decode cL_acts 84 = .ok (.iload 7, 2) := by decide +kernel
theorem dL_acts_86 : decode cL_acts 86 = .ok (.if_icmp .ne 7, 3) := by decide +kernel
theorem dL_acts_89 : decode cL_acts 89 = .ok (.iconst 1, 1) := by decide +kernel
theorem dL_acts_90 : decode cL_acts 90 = .ok (.goto 4, 3) := by decide +kernel
theorem dL_acts_93 : decode cL_acts 93 = .ok (.iconst 0, 1) := by decide +kernel
theorem dL_acts_94 : decode cL_acts 94 = .ok (.ireturn, 1) := by decide +kernel
theorem dL_acts_95 : decode cL_acts 95 = .ok (.iload 6, 2) := by decide +kernel
theorem dL_acts_97 : decode cL_acts 97 = .ok (.bipush 13, 2) := by decide +kernel
theorem dL_acts_99 : decode cL_acts 99 = .ok (.if_icmp .ge 39, 3) := by decide +kernel
theorem dL_acts_102 : decode cL_acts 102 = .ok (.aload_n 1, 1) := by decide +kernel
theorem dL_acts_103 : decode cL_acts 103 = .ok (.iconst 5, 1) := by decide +kernel
theorem dL_acts_104 : decode cL_acts 104 = .ok (.iaload, 1) := by decide +kernel
theorem dL_acts_105 : decode cL_acts 105 = .ok (.istore 7, 2) := by decide +kernel
theorem dL_acts_107 : decode cL_acts 107 = .ok (.aload_n 1, 1) := by decide +kernel
theorem dL_acts_108 : decode cL_acts 108 = .ok (.iconst 5, 1) := by decide +kernel
theorem dL_acts_109 : decode cL_acts 109 = .ok (.iload 5, 2) := by decide +kernel
theorem dL_acts_111 : decode cL_acts 111 = .ok (.sipush 1001, 3) := by decide +kernel
theorem dL_acts_114 : decode cL_acts 114 = .ok (.irem, 1) := by decide +kernel
theorem dL_acts_115 : decode cL_acts 115 = .ok (.sipush 500, 3) := by decide +kernel
theorem dL_acts_118 : decode cL_acts 118 = .ok (.isub, 1) := by decide +kernel
theorem dL_acts_119 : decode cL_acts 119 = .ok (.iastore, 1) := by decide +kernel
theorem dL_acts_120 : decode cL_acts 120 = .ok (.aload_n 0, 1) := by decide +kernel
theorem dL_acts_121 : decode cL_acts 121 = .ok (.aload_n 1, 1) := by decide +kernel
theorem dL_acts_122 : decode cL_acts 122 = .ok (.iconst 5, 1) := by decide +kernel
theorem dL_acts_123 : decode cL_acts 123 = .ok (.iaload, 1) := by decide +kernel
theorem dL_acts_124 : decode cL_acts 124 = .ok (.invokevirtual 44, 3) := by decide +kernel
theorem dL_acts_127 : decode cL_acts 127 = .ok (.iload 7, 2) := by decide +kernel
theorem dL_acts_129 : decode cL_acts 129 = .ok (.if_icmp .ne 7, 3) := by decide +kernel
theorem dL_acts_132 : decode cL_acts 132 = .ok (.iconst 1, 1) := by decide +kernel
theorem dL_acts_133 : decode cL_acts 133 = .ok (.goto 4, 3) := by decide +kernel
theorem dL_acts_136 : decode cL_acts 136 = .ok (.iconst 0, 1) := by decide +kernel
theorem dL_acts_137 : decode cL_acts 137 = .ok (.ireturn, 1) := by decide +kernel
theorem dL_acts_138 : decode cL_acts 138 = .ok (.iload 6, 2) := by decide +kernel
theorem dL_acts_140 : decode cL_acts 140 = .ok (.bipush 16, 2) := by decide +kernel
theorem dL_acts_142 : decode cL_acts 142 = .ok (.if_icmp .ge 72, 3) := by decide +kernel
theorem dL_acts_145 : decode cL_acts 145 = .ok (.aload_n 1, 1) := by decide +kernel
theorem dL_acts_146 : decode cL_acts 146 = .ok (.bipush 6, 2) := by decide +kernel
theorem dL_acts_148 : decode cL_acts 148 = .ok (.iload 5, 2) := by decide +kernel
theorem dL_acts_150 : decode cL_acts 150 = .ok (.sipush 144, 3) := by decide +kernel
theorem dL_acts_153 : decode cL_acts 153 = .ok (.irem, 1) := by decide +kernel
theorem dL_acts_154 : decode cL_acts 154 = .ok (.iastore, 1) := by decide +kernel
theorem dL_acts_155 : decode cL_acts 155 = .ok (.aload_n 1, 1) := by decide +kernel
theorem dL_acts_156 : decode cL_acts 156 = .ok (.bipush 7, 2) := by decide +kernel
theorem dL_acts_158 : decode cL_acts 158 = .ok (.iload 5, 2) := by decide +kernel
theorem dL_acts_160 : decode cL_acts 160 = .ok (.sipush 144, 3) := by decide +kernel
theorem dL_acts_163 : decode cL_acts 163 = .ok (.idiv, 1) := by decide +kernel
theorem dL_acts_164 : decode cL_acts 164 = .ok (.sipush 145, 3) := by decide +kernel
theorem dL_acts_167 : decode cL_acts 167 = .ok (.irem, 1) := by decide +kernel
theorem dL_acts_168 : decode cL_acts 168 = .ok (.iastore, 1) := by decide +kernel
theorem dL_acts_169 : decode cL_acts 169 = .ok (.aload_n 0, 1) := by decide +kernel
theorem dL_acts_170 : decode cL_acts 170 = .ok (.aload_n 1, 1) := by decide +kernel
theorem dL_acts_171 : decode cL_acts 171 = .ok (.bipush 6, 2) := by decide +kernel
theorem dL_acts_173 : decode cL_acts 173 = .ok (.iaload, 1) := by decide +kernel
theorem dL_acts_174 : decode cL_acts 174 = .ok (.aload_n 1, 1) := by decide +kernel
theorem dL_acts_175 : decode cL_acts 175 = .ok (.bipush 7, 2) := by decide +kernel
theorem dL_acts_177 : decode cL_acts 177 = .ok (.iaload, 1) := by decide +kernel
theorem dL_acts_178 : decode cL_acts 178 = .ok (.invokevirtual 47, 3) := by decide +kernel
theorem dL_acts_181 : decode cL_acts 181 = .ok (.aload_n 1, 1) := by decide +kernel
theorem dL_acts_182 : decode cL_acts 182 = .ok (.bipush 6, 2) := by decide +kernel
theorem dL_acts_184 : decode cL_acts 184 = .ok (.iaload, 1) := by decide +kernel
theorem dL_acts_185 : decode cL_acts 185 = .ok (.aload_n 1, 1) := by decide +kernel
theorem dL_acts_186 : decode cL_acts 186 = .ok (.bipush 7, 2) := by decide +kernel
theorem dL_acts_188 : decode cL_acts 188 = .ok (.iaload, 1) := by decide +kernel
theorem dL_acts_189 : decode cL_acts 189 = .ok (.if_icmp .ge 15, 3) := by decide +kernel
theorem dL_acts_192 : decode cL_acts 192 = .ok (.aload_n 1, 1) := by decide +kernel
theorem dL_acts_193 : decode cL_acts 193 = .ok (.bipush 7, 2) := by decide +kernel
theorem dL_acts_195 : decode cL_acts 195 = .ok (.iaload, 1) := by decide +kernel
theorem dL_acts_196 : decode cL_acts 196 = .ok (.aload_n 1, 1) := by decide +kernel
theorem dL_acts_197 : decode cL_acts 197 = .ok (.bipush 6, 2) := by decide +kernel
theorem dL_acts_199 : decode cL_acts 199 = .ok (.iaload, 1) := by decide +kernel
theorem dL_acts_200 : decode cL_acts 200 = .ok (.isub, 1) := by decide +kernel
theorem dL_acts_201 : decode cL_acts 201 = .ok (.goto 4, 3) := by decide +kernel
theorem dL_acts_204 : decode cL_acts 204 = .ok (.iconst 0, 1) := by decide +kernel
theorem dL_acts_205 : decode cL_acts 205 = .ok (.if_icmp .ne 7, 3) := by decide +kernel
theorem dL_acts_208 : decode cL_acts 208 = .ok (.iconst 1, 1) := by decide +kernel
theorem dL_acts_209 : decode cL_acts 209 = .ok (.goto 4, 3) := by decide +kernel
theorem dL_acts_212 : decode cL_acts 212 = .ok (.iconst 0, 1) := by decide +kernel
theorem dL_acts_213 : decode cL_acts 213 = .ok (.ireturn, 1) := by decide +kernel
theorem dL_acts_214 : decode cL_acts 214 = .ok (.iload 6, 2) := by decide +kernel
theorem dL_acts_216 : decode cL_acts 216 = .ok (.bipush 18, 2) := by decide +kernel
theorem dL_acts_218 : decode cL_acts 218 = .ok (.if_icmp .ge 86, 3) := by decide +kernel
theorem dL_acts_221 : decode cL_acts 221 = .ok (.iconst 1, 1) := by decide +kernel
theorem dL_acts_222 : decode cL_acts 222 = .ok (.iload 5, 2) := by decide +kernel
theorem dL_acts_224 : decode cL_acts 224 = .ok (.iload 5, 2) := by decide +kernel
theorem dL_acts_226 : decode cL_acts 226 = .ok (.iconst 3, 1) := by decide +kernel
theorem dL_acts_227 : decode cL_acts 227 = .ok (.irem, 1) := by decide +kernel
theorem dL_acts_228 : decode cL_acts 228 = .ok (.ifCond .ne 9, 3) := by decide +kernel
theorem dL_acts_231 : decode cL_acts 231 = .ok (.sipush 20000, 3) := by decide +kernel
theorem dL_acts_234 : decode cL_acts 234 = .ok (.goto 6, 3) := by decide +kernel
theorem dL_acts_237 : decode cL_acts 237 = .ok (.sipush 300, 3) := by decide +kernel
theorem dL_acts_240 : decode cL_acts 240 = .ok (.irem, 1) := by decide +kernel
theorem dL_acts_241 : decode cL_acts 241 = .ok (.iadd, 1) := by decide +kernel
theorem dL_acts_242 : decode cL_acts 242 = .ok (.istore 7, 2) := by decide +kernel
theorem dL_acts_244 : decode cL_acts 244 = .ok (.iload 7, 2) := by decide +kernel
theorem dL_acts_246 : decode cL_acts 246 = .ok (.aload_n 1, 1) := by decide +kernel
theorem dL_acts_247 : decode cL_acts 247 = .ok (.iconst 2, 1) := by decide +kernel
theorem dL_acts_248 : decode cL_acts 248 = .ok (.iaload, 1) := by decide +kernel
theorem dL_acts_249 : decode cL_acts 249 = .ok (.if_icmp .le 20, 3) := by decide +kernel
theorem dL_acts_252 : decode cL_acts 252 = .ok (.aload_n 0, 1) := by decide +kernel
theorem dL_acts_253 : decode cL_acts 253 = .ok (.iload 7, 2) := by decide +kernel
theorem dL_acts_255 : decode cL_acts 255 = .ok (.invokevirtual 49, 3) := by decide +kernel
theorem dL_acts_258 : decode cL_acts 258 = .ok (.ldc 52, 2) := by decide +kernel
theorem dL_acts_260 : decode cL_acts 260 = .ok (.if_icmp .ne 7, 3) := by decide +kernel
theorem dL_acts_263 : decode cL_acts 263 = .ok (.iconst 1, 1) := by decide +kernel
theorem dL_acts_264 : decode cL_acts 264 = .ok (.goto 4, 3) := by decide +kernel
theorem dL_acts_267 : decode cL_acts 267 = .ok (.iconst 0, 1) := by decide +kernel
theorem dL_acts_268 : decode cL_acts 268 = .ok (.ireturn, 1) := by decide +kernel
theorem dL_acts_269 : decode cL_acts 269 = .ok (.aload_n 1, 1) := by decide +kernel
theorem dL_acts_270 : decode cL_acts 270 = .ok (.iconst 2, 1) := by decide +kernel
theorem dL_acts_271 : decode cL_acts 271 = .ok (.dup2, 1) := by decide +kernel
theorem dL_acts_272 : decode cL_acts 272 = .ok (.iaload, 1) := by decide +kernel
theorem dL_acts_273 : decode cL_acts 273 = .ok (.iload 7, 2) := by decide +kernel
theorem dL_acts_275 : decode cL_acts 275 = .ok (.isub, 1) := by decide +kernel
theorem dL_acts_276 : decode cL_acts 276 = .ok (.iastore, 1) := by decide +kernel
theorem dL_acts_277 : decode cL_acts 277 = .ok (.aload_n 1, 1) := by decide +kernel
theorem dL_acts_278 : decode cL_acts 278 = .ok (.bipush 15, 2) := by decide +kernel
theorem dL_acts_280 : decode cL_acts 280 = .ok (.dup2, 1) := by decide +kernel
theorem dL_acts_281 : decode cL_acts 281 = .ok (.iaload, 1) := by decide +kernel
theorem dL_acts_282 : decode cL_acts 282 = .ok (.iload 7, 2) := by decide +kernel
theorem dL_acts_284 : decode cL_acts 284 = .ok (.iadd, 1) := by decide +kernel
theorem dL_acts_285 : decode cL_acts 285 = .ok (.iastore, 1) := by decide +kernel
theorem dL_acts_286 : decode cL_acts 286 = .ok (.aload_n 0, 1) := by decide +kernel
theorem dL_acts_287 : decode cL_acts 287 = .ok (.iload 7, 2) := by decide +kernel
theorem dL_acts_289 : decode cL_acts 289 = .ok (.invokevirtual 49, 3) := by decide +kernel
theorem dL_acts_292 : decode cL_acts 292 = .ok (.aload_n 1, 1) := by decide +kernel
theorem dL_acts_293 : decode cL_acts 293 = .ok (.iconst 2, 1) := by decide +kernel
theorem dL_acts_294 : decode cL_acts 294 = .ok (.iaload, 1) := by decide +kernel
theorem dL_acts_295 : decode cL_acts 295 = .ok (.if_icmp .ne 7, 3) := by decide +kernel
theorem dL_acts_298 : decode cL_acts 298 = .ok (.iconst 1, 1) := by decide +kernel
theorem dL_acts_299 : decode cL_acts 299 = .ok (.goto 4, 3) := by decide +kernel
theorem dL_acts_302 : decode cL_acts 302 = .ok (.iconst 0, 1) := by decide +kernel
theorem dL_acts_303 : decode cL_acts 303 = .ok (.ireturn, 1) := by decide +kernel
theorem dL_acts_304 : decode cL_acts 304 = .ok (.iload 6, 2) := by decide +kernel
theorem dL_acts_306 : decode cL_acts 306 = .ok (.bipush 21, 2) := by decide +kernel
theorem dL_acts_308 : decode cL_acts 308 = .ok (.if_icmp .ge 107, 3) := by decide +kernel
theorem dL_acts_311 : decode cL_acts 311 = .ok (.iload 5, 2) := by decide +kernel
theorem dL_acts_313 : decode cL_acts 313 = .ok (.iconst 3, 1) := by decide +kernel
theorem dL_acts_314 : decode cL_acts 314 = .ok (.irem, 1) := by decide +kernel
theorem dL_acts_315 : decode cL_acts 315 = .ok (.istore 7, 2) := by decide +kernel
theorem dL_acts_317 : decode cL_acts 317 = .ok (.aload_n 1, 1) := by decide +kernel
theorem dL_acts_318 : decode cL_acts 318 = .ok (.bipush 8, 2) := by decide +kernel
theorem dL_acts_320 : decode cL_acts 320 = .ok (.iload 7, 2) := by decide +kernel
theorem dL_acts_322 : decode cL_acts 322 = .ok (.iadd, 1) := by decide +kernel
theorem dL_acts_323 : decode cL_acts 323 = .ok (.iaload, 1) := by decide +kernel
theorem dL_acts_324 : decode cL_acts 324 = .ok (.istore 8, 2) := by decide +kernel
theorem dL_acts_326 : decode cL_acts 326 = .ok (.aload_n 1, 1) := by decide +kernel
theorem dL_acts_327 : decode cL_acts 327 = .ok (.bipush 8, 2) := by decide +kernel
theorem dL_acts_329 : decode cL_acts 329 = .ok (.iload 7, 2) := by decide +kernel
theorem dL_acts_331 : decode cL_acts 331 = .ok (.iadd, 1) := by decide +kernel
theorem dL_acts_332 : decode cL_acts 332 = .ok (.iload 7, 2) := by decide +kernel
theorem dL_acts_334 : decode cL_acts 334 = .ok (.ifCond .ne 16, 3) := by decide +kernel
theorem dL_acts_337 : decode cL_acts 337 = .ok (.iconst 1, 1) := by decide +kernel
theorem dL_acts_338 : decode cL_acts 338 = .ok (.iload 5, 2) := by decide +kernel
theorem dL_acts_340 : decode cL_acts 340 = .ok (.iconst 3, 1) := by decide +kernel
theorem dL_acts_341 : decode cL_acts 341 = .ok (.idiv, 1) := by decide +kernel
theorem dL_acts_342 : decode cL_acts 342 = .ok (.sipush 400, 3) := by decide +kernel
theorem dL_acts_345 : decode cL_acts 345 = .ok (.irem, 1) := by decide +kernel
theorem dL_acts_346 : decode cL_acts 346 = .ok (.iadd, 1) := by decide +kernel
theorem dL_acts_347 : decode cL_acts 347 = .ok (.goto 43, 3) := by decide +kernel
theorem dL_acts_350 : decode cL_acts 350 = .ok (.iload 7, 2) := by decide +kernel
theorem dL_acts_352 : decode cL_acts 352 = .ok (.iconst 1, 1) := by decide +kernel
theorem dL_acts_353 : decode cL_acts 353 = .ok (.if_icmp .ne 14, 3) := by decide +kernel
theorem dL_acts_356 : decode cL_acts 356 = .ok (.iload 5, 2) := by decide +kernel
theorem dL_acts_358 : decode cL_acts 358 = .ok (.iconst 3, 1) := by decide +kernel
theorem dL_acts_359 : decode cL_acts 359 = .ok (.idiv, 1) := by decide +kernel
theorem dL_acts_360 : decode cL_acts 360 = .ok (.sipush 401, 3) := by decide +kernel
theorem dL_acts_363 : decode cL_acts 363 = .ok (.irem, 1) := by decide +kernel
theorem dL_acts_364 : decode cL_acts 364 = .ok (.goto 26, 3) := by decide +kernel
theorem dL_acts_367 : decode cL_acts 367 = .ok (.iconst 1, 1) := by decide +kernel
theorem dL_acts_368 : decode cL_acts 368 = .ok (.iload 5, 2) := by decide +kernel
theorem dL_acts_370 : decode cL_acts 370 = .ok (.iconst 3, 1) := by decide +kernel
theorem dL_acts_371 : decode cL_acts 371 = .ok (.idiv, 1) := by decide +kernel
theorem dL_acts_372 : decode cL_acts 372 = .ok (.iload 5, 2) := by decide +kernel
theorem dL_acts_374 : decode cL_acts 374 = .ok (.iconst 2, 1) := by decide +kernel
theorem dL_acts_375 : decode cL_acts 375 = .ok (.irem, 1) := by decide +kernel
theorem dL_acts_376 : decode cL_acts 376 = .ok (.ifCond .ne 9, 3) := by decide +kernel
theorem dL_acts_379 : decode cL_acts 379 = .ok (.sipush 9999, 3) := by decide +kernel
theorem dL_acts_382 : decode cL_acts 382 = .ok (.goto 6, 3) := by decide +kernel
theorem dL_acts_385 : decode cL_acts 385 = .ok (.sipush 900, 3) := by decide +kernel
theorem dL_acts_388 : decode cL_acts 388 = .ok (.irem, 1) := by decide +kernel
theorem dL_acts_389 : decode cL_acts 389 = .ok (.iadd, 1) := by decide +kernel
theorem dL_acts_390 : decode cL_acts 390 = .ok (.iastore, 1) := by decide +kernel
theorem dL_acts_391 : decode cL_acts 391 = .ok (.aload_n 0, 1) := by decide +kernel
theorem dL_acts_392 : decode cL_acts 392 = .ok (.iload 7, 2) := by decide +kernel
theorem dL_acts_394 : decode cL_acts 394 = .ok (.aload_n 1, 1) := by decide +kernel
theorem dL_acts_395 : decode cL_acts 395 = .ok (.bipush 8, 2) := by decide +kernel
theorem dL_acts_397 : decode cL_acts 397 = .ok (.iload 7, 2) := by decide +kernel
theorem dL_acts_399 : decode cL_acts 399 = .ok (.iadd, 1) := by decide +kernel
theorem dL_acts_400 : decode cL_acts 400 = .ok (.iaload, 1) := by decide +kernel
theorem dL_acts_401 : decode cL_acts 401 = .ok (.invokevirtual 53, 3) := by decide +kernel
theorem dL_acts_404 : decode cL_acts 404 = .ok (.iload 8, 2) := by decide +kernel
theorem dL_acts_406 : decode cL_acts 406 = .ok (.if_icmp .ne 7, 3) := by decide +kernel
theorem dL_acts_409 : decode cL_acts 409 = .ok (.iconst 1, 1) := by decide +kernel
theorem dL_acts_410 : decode cL_acts 410 = .ok (.goto 4, 3) := by decide +kernel
theorem dL_acts_413 : decode cL_acts 413 = .ok (.iconst 0, 1) := by decide +kernel
theorem dL_acts_414 : decode cL_acts 414 = .ok (.ireturn, 1) := by decide +kernel
theorem dL_acts_415 : decode cL_acts 415 = .ok (.iconst 1, 1) := by decide +kernel
theorem dL_acts_416 : decode cL_acts 416 = .ok (.iload 5, 2) := by decide +kernel
theorem dL_acts_418 : decode cL_acts 418 = .ok (.iload 5, 2) := by decide +kernel
theorem dL_acts_420 : decode cL_acts 420 = .ok (.iconst 4, 1) := by decide +kernel
theorem dL_acts_421 : decode cL_acts 421 = .ok (.irem, 1) := by decide +kernel
theorem dL_acts_422 : decode cL_acts 422 = .ok (.ifCond .ne 9, 3) := by decide +kernel
theorem dL_acts_425 : decode cL_acts 425 = .ok (.sipush 300, 3) := by decide +kernel
theorem dL_acts_428 : decode cL_acts 428 = .ok (.goto 5, 3) := by decide +kernel
theorem dL_acts_431 : decode cL_acts 431 = .ok (.bipush 40, 2) := by decide +kernel
theorem dL_acts_433 : decode cL_acts 433 = .ok (.irem, 1) := by decide +kernel
theorem dL_acts_434 : decode cL_acts 434 = .ok (.iadd, 1) := by decide +kernel
theorem dL_acts_435 : decode cL_acts 435 = .ok (.istore 7, 2) := by decide +kernel
theorem dL_acts_437 : decode cL_acts 437 = .ok (.aload_n 1, 1) := by decide +kernel
theorem dL_acts_438 : decode cL_acts 438 = .ok (.iconst 0, 1) := by decide +kernel
theorem dL_acts_439 : decode cL_acts 439 = .ok (.iaload, 1) := by decide +kernel
theorem dL_acts_440 : decode cL_acts 440 = .ok (.iload 7, 2) := by decide +kernel
theorem dL_acts_442 : decode cL_acts 442 = .ok (.iadd, 1) := by decide +kernel
theorem dL_acts_443 : decode cL_acts 443 = .ok (.sipush 9999, 3) := by decide +kernel
theorem dL_acts_446 : decode cL_acts 446 = .ok (.if_icmp .le 20, 3) := by decide +kernel
theorem dL_acts_449 : decode cL_acts 449 = .ok (.aload_n 0, 1) := by decide +kernel
theorem dL_acts_450 : decode cL_acts 450 = .ok (.iload 7, 2) := by decide +kernel
theorem dL_acts_452 : decode cL_acts 452 = .ok (.invokevirtual 56, 3) := by decide +kernel
theorem dL_acts_455 : decode cL_acts 455 = .ok (.ldc 59, 2) := by decide +kernel
theorem dL_acts_457 : decode cL_acts 457 = .ok (.if_icmp .ne 7, 3) := by decide +kernel
theorem dL_acts_460 : decode cL_acts 460 = .ok (.iconst 1, 1) := by decide +kernel
theorem dL_acts_461 : decode cL_acts 461 = .ok (.goto 4, 3) := by decide +kernel
theorem dL_acts_464 : decode cL_acts 464 = .ok (.iconst 0, 1) := by decide +kernel
theorem dL_acts_465 : decode cL_acts 465 = .ok (.ireturn, 1) := by decide +kernel
theorem dL_acts_466 : decode cL_acts 466 = .ok (.aload_n 1, 1) := by decide +kernel
theorem dL_acts_467 : decode cL_acts 467 = .ok (.aload_n 2, 1) := by decide +kernel
theorem dL_acts_468 : decode cL_acts 468 = .ok (.aload_n 3, 1) := by decide +kernel
theorem dL_acts_469 : decode cL_acts 469 = .ok (.iload 7, 2) := by decide +kernel
theorem dL_acts_471 : decode cL_acts 471 = .ok (.invokestatic 60, 3) := by decide +kernel
theorem dL_acts_474 : decode cL_acts 474 = .ok (.aload_n 0, 1) := by decide +kernel
theorem dL_acts_475 : decode cL_acts 475 = .ok (.iload 7, 2) := by decide +kernel
theorem dL_acts_477 : decode cL_acts 477 = .ok (.invokevirtual 56, 3) := by decide +kernel
theorem dL_acts_480 : decode cL_acts 480 = .ok (.aload_n 1, 1) := by decide +kernel
theorem dL_acts_481 : decode cL_acts 481 = .ok (.invokestatic 15, 3) := by decide +kernel
theorem dL_acts_484 : decode cL_acts 484 = .ok (.if_icmp .ne 7, 3) := by decide +kernel
theorem dL_acts_487 : decode cL_acts 487 = .ok (.iconst 1, 1) := by decide +kernel
theorem dL_acts_488 : decode cL_acts 488 = .ok (.goto 4, 3) := by decide +kernel
theorem dL_acts_491 : decode cL_acts 491 = .ok (.iconst 0, 1) := by decide +kernel
theorem dL_acts_492 : decode cL_acts 492 = .ok (.ireturn, 1) := by decide +kernel
theorem dL_areRecords_0 : decode cL_areRecords 0 = .ok (.aload_n 1, 1) := by decide +kernel
theorem dL_areRecords_1 : decode cL_areRecords 1 = .ok (.iconst 0, 1) := by decide +kernel
theorem dL_areRecords_2 : decode cL_areRecords 2 = .ok (.iaload, 1) := by decide +kernel
theorem dL_areRecords_3 : decode cL_areRecords 3 = .ok (.sipush 144, 3) := by decide +kernel
theorem dL_areRecords_6 : decode cL_areRecords 6 = .ok (.idiv, 1) := by decide +kernel
theorem dL_areRecords_7 : decode cL_areRecords 7 = .ok (.istore 4, 2) := by decide +kernel
theorem dL_areRecords_9 : decode cL_areRecords 9 = .ok (.iconst 0, 1) := by decide +kernel
theorem dL_areRecords_10 : decode cL_areRecords 10 = .ok (.istore 5, 2) := by decide +kernel
theorem dL_areRecords_12 : decode cL_areRecords 12 = .ok (.ldc 63, 2) := by decide +kernel
theorem dL_areRecords_14 : decode cL_areRecords 14 = .ok (.istore 6, 2) := by decide +kernel
theorem dL_areRecords_16 : decode cL_areRecords 16 = .ok (.iconst (-1), 1) := by decide +kernel
theorem dL_areRecords_17 : decode cL_areRecords 17 = .ok (.istore 7, 2) := by decide +kernel
theorem dL_areRecords_19 : decode cL_areRecords 19 = .ok (.aload_n 0, 1) := by decide +kernel
theorem dL_areRecords_20 : decode cL_areRecords 20 = .ok (.iconst (-1), 1) := by decide +kernel
theorem dL_areRecords_21 : decode cL_areRecords 21 = .ok (.iconst 0, 1) := by decide +kernel
theorem dL_areRecords_22 : decode cL_areRecords 22 = .ok (.invokevirtual 64, 3) := by decide +kernel
theorem dL_areRecords_25 : decode cL_areRecords 25 = .ok (.ldc 67, 2) := by decide +kernel
theorem dL_areRecords_27 : decode cL_areRecords 27 = .ok (.if_icmp .ne 19, 3) := by decide +kernel
theorem dL_areRecords_30 : decode cL_areRecords 30 = .ok (.aload_n 0, 1) := by decide +kernel
theorem dL_areRecords_31 : decode cL_areRecords 31 = .ok (.iconst 0, 1) := by decide +kernel
theorem dL_areRecords_32 : decode cL_areRecords 32 = .ok (.bipush 6, 2) := by decide +kernel
theorem dL_areRecords_34 : decode cL_areRecords 34 = .ok (.invokevirtual 64, 3) := by decide +kernel
theorem dL_areRecords_37 : decode cL_areRecords 37 = .ok (.ldc 67, 2) := by decide +kernel
theorem dL_areRecords_39 : decode cL_areRecords 39 = .ok (.if_icmp .ne 7, 3) := by decide +kernel
theorem dL_areRecords_42 : decode cL_areRecords 42 = .ok (.iconst 1, 1) := by decide +kernel
theorem dL_areRecords_43 : decode cL_areRecords 43 = .ok (.goto 4, 3) := by decide +kernel
theorem dL_areRecords_46 : decode cL_areRecords 46 = .ok (.iconst 0, 1) := by decide +kernel
theorem dL_areRecords_47 : decode cL_areRecords 47 = .ok (.istore 8, 2) := by decide +kernel
theorem dL_areRecords_49 : decode cL_areRecords 49 = .ok (.iload 4, 2) := by decide +kernel
theorem dL_areRecords_51 : decode cL_areRecords 51 = .ok (.bipush 11, 2) := by decide +kernel
theorem dL_areRecords_53 : decode cL_areRecords 53 = .ok (.if_icmp .le 11, 3) := by decide +kernel
theorem dL_areRecords_56 : decode cL_areRecords 56 = .ok (.iload 4, 2) := by decide +kernel
theorem dL_areRecords_58 : decode cL_areRecords 58 = .ok (.bipush 11, 2) := by decide +kernel
theorem dL_areRecords_60 : decode cL_areRecords 60 = .ok (.isub, 1) := by decide +kernel
theorem dL_areRecords_61 : decode cL_areRecords 61 = .ok (.goto 4, 3) := by decide +kernel
theorem dL_areRecords_64 : decode cL_areRecords 64 = .ok (.iconst 0, 1) := by decide +kernel
theorem dL_areRecords_65 : decode cL_areRecords 65 = .ok (.istore 9, 2) := by decide +kernel
theorem dL_areRecords_67 : decode cL_areRecords 67 = .ok (.iload 9, 2) := by decide +kernel
theorem dL_areRecords_69 : decode cL_areRecords 69 = .ok (.iload 4, 2) := by decide +kernel
theorem dL_areRecords_71 : decode cL_areRecords 71 = .ok (.iconst 2, 1) := by decide +kernel
theorem dL_areRecords_72 : decode cL_areRecords 72 = .ok (.iadd, 1) := by decide +kernel
theorem dL_areRecords_73 : decode cL_areRecords 73 = .ok (.if_icmp .ge 210, 3) := by decide +kernel
theorem dL_areRecords_76 : decode cL_areRecords 76 = .ok (.iload 8, 2) := by decide +kernel
theorem dL_areRecords_78 : decode cL_areRecords 78 = .ok (.ifCond .eq 205, 3) := by decide +kernel
theorem dL_areRecords_81 : decode cL_areRecords 81 = .ok (.aload_n 3, 1) := by decide +kernel
theorem dL_areRecords_82 : decode cL_areRecords 82 = .ok (.iload 9, 2) := by decide +kernel
theorem dL_areRecords_84 : decode cL_areRecords 84 = .ok (.bipush 10, 2) := by decide +kernel
theorem dL_areRecords_86 : decode cL_areRecords 86 = .ok (.irem, 1) := by decide +kernel
theorem dL_areRecords_87 : decode cL_areRecords 87 = .ok (.iaload, 1) := by decide +kernel
theorem dL_areRecords_88 : decode cL_areRecords 88 = .ok (.iload 9, 2) := by decide +kernel
theorem dL_areRecords_90 : decode cL_areRecords 90 = .ok (.if_icmp .ne 7, 3) := by decide +kernel
theorem dL_areRecords_93 : decode cL_areRecords 93 = .ok (.iconst 1, 1) := by decide +kernel
theorem dL_areRecords_94 : decode cL_areRecords 94 = .ok (.goto 4, 3) := by decide +kernel
theorem dL_areRecords_97 : decode cL_areRecords 97 = .ok (.iconst 0, 1) := by decide +kernel
theorem dL_areRecords_98 : decode cL_areRecords 98 = .ok (.istore 10, 2) := by decide +kernel
theorem dL_areRecords_100 : decode cL_areRecords 100 = .ok (.iload 5, 2) := by decide +kernel
theorem dL_areRecords_102 : decode cL_areRecords 102 = .ok (.iload 10, 2) := by decide +kernel
theorem dL_areRecords_104 : decode cL_areRecords 104 = .ok (.ifCond .eq 7, 3) := by decide +kernel
theorem dL_areRecords_107 : decode cL_areRecords 107 = .ok (.iconst 1, 1) := by decide +kernel
theorem dL_areRecords_108 : decode cL_areRecords 108 = .ok (.goto 4, 3) := by decide +kernel
theorem dL_areRecords_111 : decode cL_areRecords 111 = .ok (.iconst 0, 1) := by decide +kernel
theorem dL_areRecords_112 : decode cL_areRecords 112 = .ok (.iadd, 1) := by decide +kernel
theorem dL_areRecords_113 : decode cL_areRecords 113 = .ok (.istore 5, 2) := by decide +kernel
theorem dL_areRecords_115 : decode cL_areRecords 115 = .ok (.iload 10, 2) := by decide +kernel
theorem dL_areRecords_117 : decode cL_areRecords 117 = .ok (.ifCond .eq 23, 3) := by decide +kernel
theorem dL_areRecords_120 : decode cL_areRecords 120 = .ok (.aload_n 2, 1) := by decide +kernel
theorem dL_areRecords_121 : decode cL_areRecords 121 = .ok (.iload 9, 2) := by decide +kernel
theorem dL_areRecords_123 : decode cL_areRecords 123 = .ok (.bipush 10, 2) := by decide +kernel
theorem dL_areRecords_125 : decode cL_areRecords 125 = .ok (.irem, 1) := by decide +kernel
theorem dL_areRecords_126 : decode cL_areRecords 126 = .ok (.bipush 6, 2) := by decide +kernel
theorem dL_areRecords_128 : decode cL_areRecords 128 = .ok (.imul, 1) := by decide +kernel
theorem dL_areRecords_129 : decode cL_areRecords 129 = .ok (.iaload, 1) := by decide +kernel
theorem dL_areRecords_130 : decode cL_areRecords 130 = .ok (.iload 7, 2) := by decide +kernel
theorem dL_areRecords_132 : decode cL_areRecords 132 = .ok (.if_icmp .le 8, 3) := by decide +kernel
theorem dL_areRecords_135 : decode cL_areRecords 135 = .ok (.iload 9, 2) := by decide +kernel
theorem dL_areRecords_137 : decode cL_areRecords 137 = .ok (.goto 5, 3) := by decide +kernel
theorem dL_areRecords_140 : decode cL_areRecords 140 = .ok (.iload 6, 2) := by decide +kernel
theorem dL_areRecords_142 : decode cL_areRecords 142 = .ok (.istore 6, 2) := by decide +kernel
theorem dL_areRecords_144 : decode cL_areRecords 144 = .ok (.iload 10, 2) := by decide +kernel
theorem dL_areRecords_146 : decode cL_areRecords 146 = .ok (.ifCond .eq 31, 3) := by decide +kernel
theorem dL_areRecords_149 : decode cL_areRecords 149 = .ok (.aload_n 2, 1) := by decide +kernel
theorem dL_areRecords_150 : decode cL_areRecords 150 = .ok (.iload 9, 2) := by decide +kernel
theorem dL_areRecords_152 : decode cL_areRecords 152 = .ok (.bipush 10, 2) := by decide +kernel
theorem dL_areRecords_154 : decode cL_areRecords 154 = .ok (.irem, 1) := by decide +kernel
theorem dL_areRecords_155 : decode cL_areRecords 155 = .ok (.bipush 6, 2) := by decide +kernel
theorem dL_areRecords_157 : decode cL_areRecords 157 = .ok (.imul, 1) := by decide +kernel
theorem dL_areRecords_158 : decode cL_areRecords 158 = .ok (.iaload, 1) := by decide +kernel
theorem dL_areRecords_159 : decode cL_areRecords 159 = .ok (.iload 7, 2) := by decide +kernel
theorem dL_areRecords_161 : decode cL_areRecords 161 = .ok (.if_icmp .le 16, 3) := by decide +kernel
theorem dL_areRecords_164 : decode cL_areRecords 164 = .ok (.aload_n 2, 1) := by decide +kernel
theorem dL_areRecords_165 : decode cL_areRecords 165 = .ok (.iload 9, 2) := by decide +kernel
theorem dL_areRecords_167 : decode cL_areRecords 167 = .ok (.bipush 10, 2) := by decide +kernel
theorem dL_areRecords_169 : decode cL_areRecords 169 = .ok (.irem, 1) := by decide +kernel
theorem dL_areRecords_170 : decode cL_areRecords 170 = .ok (.bipush 6, 2) := by decide +kernel
theorem dL_areRecords_172 : decode cL_areRecords 172 = .ok (.imul, 1) := by decide +kernel
theorem dL_areRecords_173 : decode cL_areRecords 173 = .ok (.iaload, 1) := by decide +kernel
theorem dL_areRecords_174 : decode cL_areRecords 174 = .ok (.goto 5, 3) := by decide +kernel
theorem dL_areRecords_177 : decode cL_areRecords 177 = .ok (.iload 7, 2) := by decide +kernel
theorem dL_areRecords_179 : decode cL_areRecords 179 = .ok (.istore 7, 2) := by decide +kernel
theorem dL_areRecords_181 : decode cL_areRecords 181 = .ok (.iconst 0, 1) := by decide +kernel
theorem dL_areRecords_182 : decode cL_areRecords 182 = .ok (.istore 11, 2) := by decide +kernel
theorem dL_areRecords_184 : decode cL_areRecords 184 = .ok (.iload 11, 2) := by decide +kernel
theorem dL_areRecords_186 : decode cL_areRecords 186 = .ok (.bipush 6, 2) := by decide +kernel
theorem dL_areRecords_188 : decode cL_areRecords 188 = .ok (.if_icmp .ge 55, 3) := by decide +kernel
theorem dL_areRecords_191 : decode cL_areRecords 191 = .ok (.iload 8, 2) := by decide +kernel
theorem dL_areRecords_193 : decode cL_areRecords 193 = .ok (.ifCond .eq 50, 3) := by decide +kernel
theorem dL_areRecords_196 : decode cL_areRecords 196 = .ok (.aload_n 0, 1) := by decide +kernel
theorem dL_areRecords_197 : decode cL_areRecords 197 = .ok (.iload 9, 2) := by decide +kernel
theorem dL_areRecords_199 : decode cL_areRecords 199 = .ok (.iload 11, 2) := by decide +kernel
theorem dL_areRecords_201 : decode cL_areRecords 201 = .ok (.invokevirtual 64, 3) := by decide +kernel
theorem dL_areRecords_204 : decode cL_areRecords 204 = .ok (.iload 10, 2) := by decide +kernel
theorem dL_areRecords_206 : decode cL_areRecords 206 = .ok (.ifCond .eq 19, 3) := by decide +kernel
theorem dL_areRecords_209 : decode cL_areRecords 209 = .ok (.aload_n 2, 1) := by decide +kernel
theorem dL_areRecords_210 : decode cL_areRecords 210 = .ok (.iload 9, 2) := by decide +kernel
theorem dL_areRecords_212 : decode cL_areRecords 212 = .ok (.bipush 10, 2) := by decide +kernel
theorem dL_areRecords_214 : decode cL_areRecords 214 = .ok (.irem, 1) := by decide +kernel
theorem dL_areRecords_215 : decode cL_areRecords 215 = .ok (.bipush 6, 2) := by decide +kernel
theorem dL_areRecords_217 : decode cL_areRecords 217 = .ok (.imul, 1) := by decide +kernel
theorem dL_areRecords_218 : decode cL_areRecords 218 = .ok (.iload 11, 2) := by decide +kernel
theorem dL_areRecords_220 : decode cL_areRecords 220 = .ok (.iadd, 1) := by decide +kernel
theorem dL_areRecords_221 : decode cL_areRecords 221 = .ok (.iaload, 1) := by decide +kernel
theorem dL_areRecords_222 : decode cL_areRecords 222 = .ok (.goto 5, 3) := by decide +kernel
theorem dL_areRecords_225 : decode cL_areRecords 225 = .ok (.ldc 63, 2) := by decide +kernel
theorem dL_areRecords_227 : decode cL_areRecords 227 = .ok (.if_icmp .ne 7, 3) := by decide +kernel
theorem dL_areRecords_230 : decode cL_areRecords 230 = .ok (.iconst 1, 1) := by decide +kernel
theorem dL_areRecords_231 : decode cL_areRecords 231 = .ok (.goto 4, 3) := by decide +kernel
theorem dL_areRecords_234 : decode cL_areRecords 234 = .ok (.iconst 0, 1) := by decide +kernel
theorem dL_areRecords_235 : decode cL_areRecords 235 = .ok (.istore 8, 2) := by decide +kernel
theorem dL_areRecords_237 : decode cL_areRecords 237 = .ok (.iinc 11 1, 3) := by decide +kernel
theorem dL_areRecords_240 : decode cL_areRecords 240 = .ok (.goto (-56), 3) := by decide +kernel
theorem dL_areRecords_243 : decode cL_areRecords 243 = .ok (.iload 8, 2) := by decide +kernel
theorem dL_areRecords_245 : decode cL_areRecords 245 = .ok (.ifCond .eq 29, 3) := by decide +kernel
theorem dL_areRecords_248 : decode cL_areRecords 248 = .ok (.iload 10, 2) := by decide +kernel
theorem dL_areRecords_250 : decode cL_areRecords 250 = .ok (.ifCond .eq 20, 3) := by decide +kernel
theorem dL_areRecords_253 : decode cL_areRecords 253 = .ok (.aload_n 0, 1) := by decide +kernel
theorem dL_areRecords_254 : decode cL_areRecords 254 = .ok (.iload 9, 2) := by decide +kernel
theorem dL_areRecords_256 : decode cL_areRecords 256 = .ok (.iconst 2, 1) := by decide +kernel
theorem dL_areRecords_257 : decode cL_areRecords 257 = .ok (.invokevirtual 64, 3) := by decide +kernel
theorem dL_areRecords_260 : decode cL_areRecords 260 = .ok (.aload_n 0, 1) := by decide +kernel
theorem dL_areRecords_261 : decode cL_areRecords 261 = .ok (.iload 9, 2) := by decide +kernel
theorem dL_areRecords_263 : decode cL_areRecords 263 = .ok (.iconst 3, 1) := by decide +kernel
theorem dL_areRecords_264 : decode cL_areRecords 264 = .ok (.invokevirtual 64, 3) := by decide +kernel
theorem dL_areRecords_267 : decode cL_areRecords 267 = .ok (.if_icmp .lt 7, 3) := by decide +kernel
theorem dL_areRecords_270 : decode cL_areRecords 270 = .ok (.iconst 1, 1) := by decide +kernel
theorem dL_areRecords_271 : decode cL_areRecords 271 = .ok (.goto 4, 3) := by decide +kernel
theorem dL_areRecords_274 : decode cL_areRecords 274 = .ok (.iconst 0, 1) := by decide +kernel
theorem dL_areRecords_275 : decode cL_areRecords 275 = .ok (.istore 8, 2) := by decide +kernel
theorem dL_areRecords_277 : decode cL_areRecords 277 = .ok (.iinc 9 1, 3) := by decide +kernel
theorem dL_areRecords_280 : decode cL_areRecords 280 = .ok (.goto (-213), 3) := by decide +kernel
theorem dL_areRecords_283 : decode cL_areRecords 283 = .ok (.iload 8, 2) := by decide +kernel
theorem dL_areRecords_285 : decode cL_areRecords 285 = .ok (.ifCond .eq 27, 3) := by decide +kernel
theorem dL_areRecords_288 : decode cL_areRecords 288 = .ok (.aload_n 0, 1) := by decide +kernel
theorem dL_areRecords_289 : decode cL_areRecords 289 = .ok (.bipush 7, 2) := by decide +kernel
theorem dL_areRecords_291 : decode cL_areRecords 291 = .ok (.invokevirtual 68, 3) := by decide +kernel
theorem dL_areRecords_294 : decode cL_areRecords 294 = .ok (.iload 5, 2) := by decide +kernel
theorem dL_areRecords_296 : decode cL_areRecords 296 = .ok (.if_icmp .ne 16, 3) := by decide +kernel
theorem dL_areRecords_299 : decode cL_areRecords 299 = .ok (.aload_n 0, 1) := by decide +kernel
theorem dL_areRecords_300 : decode cL_areRecords 300 = .ok (.invokevirtual 71, 3) := by decide +kernel
theorem dL_areRecords_303 : decode cL_areRecords 303 = .ok (.iload 6, 2) := by decide +kernel
theorem dL_areRecords_305 : decode cL_areRecords 305 = .ok (.if_icmp .ne 7, 3) := by decide +kernel
theorem dL_areRecords_308 : decode cL_areRecords 308 = .ok (.iconst 1, 1) := by decide +kernel
theorem dL_areRecords_309 : decode cL_areRecords 309 = .ok (.goto 4, 3) := by decide +kernel
theorem dL_areRecords_312 : decode cL_areRecords 312 = .ok (.iconst 0, 1) := by decide +kernel
theorem dL_areRecords_313 : decode cL_areRecords 313 = .ok (.ireturn, 1) := by decide +kernel
theorem dL_isSo_0 : decode cL_isSo 0 = .ok (.bipush 7, 2) := by decide +kernel
theorem dL_isSo_2 : decode cL_isSo 2 = .ok (.newarray .int, 2) := by decide +kernel
theorem dL_isSo_4 : decode cL_isSo 4 = .ok (.astore 4, 2) := by decide +kernel
theorem dL_isSo_6 : decode cL_isSo 6 = .ok (.aload_n 1, 1) := by decide +kernel
theorem dL_isSo_7 : decode cL_isSo 7 = .ok (.aload 4, 2) := by decide +kernel
theorem dL_isSo_9 : decode cL_isSo 9 = .ok (.invokestatic 27, 3) := by decide +kernel
theorem dL_isSo_12 : decode cL_isSo 12 = .ok (.aload_n 0, 1) := by decide +kernel
theorem dL_isSo_13 : decode cL_isSo 13 = .ok (.aload_n 1, 1) := by decide +kernel
theorem dL_isSo_14 : decode cL_isSo 14 = .ok (.aload_n 2, 1) := by decide +kernel
theorem dL_isSo_15 : decode cL_isSo 15 = .ok (.aload_n 3, 1) := by decide +kernel
theorem dL_isSo_16 : decode cL_isSo 16 = .ok (.invokestatic 75, 3) := by decide +kernel
theorem dL_isSo_19 : decode cL_isSo 19 = .ok (.ifCond .eq 98, 3) := by decide +kernel
theorem dL_isSo_22 : decode cL_isSo 22 = .ok (.aload_n 0, 1) := by decide +kernel
theorem dL_isSo_23 : decode cL_isSo 23 = .ok (.bipush 6, 2) := by decide +kernel
theorem dL_isSo_25 : decode cL_isSo 25 = .ok (.invokevirtual 79, 3) := by decide +kernel
theorem dL_isSo_28 : decode cL_isSo 28 = .ok (.ldc 82, 2) := by decide +kernel
theorem dL_isSo_30 : decode cL_isSo 30 = .ok (.aload_n 0, 1) := by decide +kernel
theorem dL_isSo_31 : decode cL_isSo 31 = .ok (.iconst 2, 1) := by decide +kernel
theorem dL_isSo_32 : decode cL_isSo 32 = .ok (.invokevirtual 68, 3) := by decide +kernel
theorem dL_isSo_35 : decode cL_isSo 35 = .ok (.iadd, 1) := by decide +kernel
theorem dL_isSo_36 : decode cL_isSo 36 = .ok (.aload_n 0, 1) := by decide +kernel
theorem dL_isSo_37 : decode cL_isSo 37 = .ok (.iconst 3, 1) := by decide +kernel
theorem dL_isSo_38 : decode cL_isSo 38 = .ok (.invokevirtual 68, 3) := by decide +kernel
theorem dL_isSo_41 : decode cL_isSo 41 = .ok (.isub, 1) := by decide +kernel
theorem dL_isSo_42 : decode cL_isSo 42 = .ok (.if_icmp .ne 75, 3) := by decide +kernel
theorem dL_isSo_45 : decode cL_isSo 45 = .ok (.aload_n 0, 1) := by decide +kernel
theorem dL_isSo_46 : decode cL_isSo 46 = .ok (.bipush 7, 2) := by decide +kernel
theorem dL_isSo_48 : decode cL_isSo 48 = .ok (.invokevirtual 79, 3) := by decide +kernel
theorem dL_isSo_51 : decode cL_isSo 51 = .ok (.aload_n 0, 1) := by decide +kernel
theorem dL_isSo_52 : decode cL_isSo 52 = .ok (.iconst 5, 1) := by decide +kernel
theorem dL_isSo_53 : decode cL_isSo 53 = .ok (.invokevirtual 68, 3) := by decide +kernel
theorem dL_isSo_56 : decode cL_isSo 56 = .ok (.aload_n 0, 1) := by decide +kernel
theorem dL_isSo_57 : decode cL_isSo 57 = .ok (.bipush 6, 2) := by decide +kernel
theorem dL_isSo_59 : decode cL_isSo 59 = .ok (.invokevirtual 68, 3) := by decide +kernel
theorem dL_isSo_62 : decode cL_isSo 62 = .ok (.isub, 1) := by decide +kernel
theorem dL_isSo_63 : decode cL_isSo 63 = .ok (.aload_n 0, 1) := by decide +kernel
theorem dL_isSo_64 : decode cL_isSo 64 = .ok (.iconst 4, 1) := by decide +kernel
theorem dL_isSo_65 : decode cL_isSo 65 = .ok (.invokevirtual 68, 3) := by decide +kernel
theorem dL_isSo_68 : decode cL_isSo 68 = .ok (.isub, 1) := by decide +kernel
theorem dL_isSo_69 : decode cL_isSo 69 = .ok (.if_icmp .ne 48, 3) := by decide +kernel
theorem dL_isSo_72 : decode cL_isSo 72 = .ok (.aload_n 0, 1) := by decide +kernel
theorem dL_isSo_73 : decode cL_isSo 73 = .ok (.bipush 6, 2) := by decide +kernel
theorem dL_isSo_75 : decode cL_isSo 75 = .ok (.invokevirtual 79, 3) := by decide +kernel
theorem dL_isSo_78 : decode cL_isSo 78 = .ok (.ifCond .lt 39, 3) := by decide +kernel
theorem dL_isSo_81 : decode cL_isSo 81 = .ok (.aload_n 0, 1) := by decide +kernel
theorem dL_isSo_82 : decode cL_isSo 82 = .ok (.bipush 6, 2) := by decide +kernel
theorem dL_isSo_84 : decode cL_isSo 84 = .ok (.invokevirtual 79, 3) := by decide +kernel
theorem dL_isSo_87 : decode cL_isSo 87 = .ok (.ldc 26, 2) := by decide +kernel
theorem dL_isSo_89 : decode cL_isSo 89 = .ok (.if_icmp .gt 28, 3) := by decide +kernel
theorem dL_isSo_92 : decode cL_isSo 92 = .ok (.aload_n 0, 1) := by decide +kernel
theorem dL_isSo_93 : decode cL_isSo 93 = .ok (.bipush 7, 2) := by decide +kernel
theorem dL_isSo_95 : decode cL_isSo 95 = .ok (.invokevirtual 79, 3) := by decide +kernel
theorem dL_isSo_98 : decode cL_isSo 98 = .ok (.ifCond .lt 19, 3) := by decide +kernel
theorem dL_isSo_101 : decode cL_isSo 101 = .ok (.aload_n 0, 1) := by decide +kernel
theorem dL_isSo_102 : decode cL_isSo 102 = .ok (.bipush 7, 2) := by decide +kernel
theorem dL_isSo_104 : decode cL_isSo 104 = .ok (.invokevirtual 79, 3) := by decide +kernel
theorem dL_isSo_107 : decode cL_isSo 107 = .ok (.sipush 20000, 3) := by decide +kernel
theorem dL_isSo_110 : decode cL_isSo 110 = .ok (.if_icmp .gt 7, 3) := by decide +kernel
theorem dL_isSo_113 : decode cL_isSo 113 = .ok (.iconst 1, 1) := by decide +kernel
theorem dL_isSo_114 : decode cL_isSo 114 = .ok (.goto 4, 3) := by decide +kernel
theorem dL_isSo_117 : decode cL_isSo 117 = .ok (.iconst 0, 1) := by decide +kernel
theorem dL_isSo_118 : decode cL_isSo 118 = .ok (.istore 5, 2) := by decide +kernel
theorem dL_isSo_120 : decode cL_isSo 120 = .ok (.iconst 0, 1) := by decide +kernel
theorem dL_isSo_121 : decode cL_isSo 121 = .ok (.istore 6, 2) := by decide +kernel
theorem dL_isSo_123 : decode cL_isSo 123 = .ok (.iload 6, 2) := by decide +kernel
theorem dL_isSo_125 : decode cL_isSo 125 = .ok (.bipush 7, 2) := by decide +kernel
theorem dL_isSo_127 : decode cL_isSo 127 = .ok (.if_icmp .ge 100, 3) := by decide +kernel
theorem dL_isSo_130 : decode cL_isSo 130 = .ok (.iload 5, 2) := by decide +kernel
theorem dL_isSo_132 : decode cL_isSo 132 = .ok (.ifCond .eq 95, 3) := by decide +kernel
theorem dL_isSo_135 : decode cL_isSo 135 = .ok (.aload_n 0, 1) := by decide +kernel
theorem dL_isSo_136 : decode cL_isSo 136 = .ok (.iload 6, 2) := by decide +kernel
theorem dL_isSo_138 : decode cL_isSo 138 = .ok (.invokevirtual 83, 3) := by decide +kernel
theorem dL_isSo_141 : decode cL_isSo 141 = .ok (.aload 4, 2) := by decide +kernel
theorem dL_isSo_143 : decode cL_isSo 143 = .ok (.iload 6, 2) := by decide +kernel
theorem dL_isSo_145 : decode cL_isSo 145 = .ok (.iaload, 1) := by decide +kernel
theorem dL_isSo_146 : decode cL_isSo 146 = .ok (.if_icmp .ne 72, 3) := by decide +kernel
theorem dL_isSo_149 : decode cL_isSo 149 = .ok (.aload_n 0, 1) := by decide +kernel
theorem dL_isSo_150 : decode cL_isSo 150 = .ok (.iload 6, 2) := by decide +kernel
theorem dL_isSo_152 : decode cL_isSo 152 = .ok (.invokevirtual 68, 3) := by decide +kernel
theorem dL_isSo_155 : decode cL_isSo 155 = .ok (.aload_n 1, 1) := by decide +kernel
theorem dL_isSo_156 : decode cL_isSo 156 = .ok (.bipush 11, 2) := by decide +kernel
theorem dL_isSo_158 : decode cL_isSo 158 = .ok (.iload 6, 2) := by decide +kernel
theorem dL_isSo_160 : decode cL_isSo 160 = .ok (.iadd, 1) := by decide +kernel
theorem dL_isSo_161 : decode cL_isSo 161 = .ok (.iaload, 1) := by decide +kernel
theorem dL_isSo_162 : decode cL_isSo 162 = .ok (.if_icmp .ne 56, 3) := by decide +kernel
theorem dL_isSo_165 : decode cL_isSo 165 = .ok (.iload 6, 2) := by decide +kernel
theorem dL_isSo_167 : decode cL_isSo 167 = .ok (.iconst 2, 1) := by decide +kernel
theorem dL_isSo_168 : decode cL_isSo 168 = .ok (.if_icmp .gt 22, 3) := by decide +kernel
theorem dL_isSo_171 : decode cL_isSo 171 = .ok (.aload_n 0, 1) := by decide +kernel
theorem dL_isSo_172 : decode cL_isSo 172 = .ok (.bipush 20, 2) := by decide +kernel
theorem dL_isSo_174 : decode cL_isSo 174 = .ok (.iload 6, 2) := by decide +kernel
theorem dL_isSo_176 : decode cL_isSo 176 = .ok (.iadd, 1) := by decide +kernel
theorem dL_isSo_177 : decode cL_isSo 177 = .ok (.invokevirtual 68, 3) := by decide +kernel
theorem dL_isSo_180 : decode cL_isSo 180 = .ok (.aload_n 1, 1) := by decide +kernel
theorem dL_isSo_181 : decode cL_isSo 181 = .ok (.bipush 8, 2) := by decide +kernel
theorem dL_isSo_183 : decode cL_isSo 183 = .ok (.iload 6, 2) := by decide +kernel
theorem dL_isSo_185 : decode cL_isSo 185 = .ok (.iadd, 1) := by decide +kernel
theorem dL_isSo_186 : decode cL_isSo 186 = .ok (.iaload, 1) := by decide +kernel
theorem dL_isSo_187 : decode cL_isSo 187 = .ok (.if_icmp .ne 31, 3) := by decide +kernel
theorem dL_isSo_190 : decode cL_isSo 190 = .ok (.iload 6, 2) := by decide +kernel
theorem dL_isSo_192 : decode cL_isSo 192 = .ok (.iconst 4, 1) := by decide +kernel
theorem dL_isSo_193 : decode cL_isSo 193 = .ok (.if_icmp .gt 21, 3) := by decide +kernel
theorem dL_isSo_196 : decode cL_isSo 196 = .ok (.aload_n 0, 1) := by decide +kernel
theorem dL_isSo_197 : decode cL_isSo 197 = .ok (.bipush 6, 2) := by decide +kernel
theorem dL_isSo_199 : decode cL_isSo 199 = .ok (.iload 6, 2) := by decide +kernel
theorem dL_isSo_201 : decode cL_isSo 201 = .ok (.iadd, 1) := by decide +kernel
theorem dL_isSo_202 : decode cL_isSo 202 = .ok (.invokevirtual 79, 3) := by decide +kernel
theorem dL_isSo_205 : decode cL_isSo 205 = .ok (.aload_n 1, 1) := by decide +kernel
theorem dL_isSo_206 : decode cL_isSo 206 = .ok (.iconst 1, 1) := by decide +kernel
theorem dL_isSo_207 : decode cL_isSo 207 = .ok (.iload 6, 2) := by decide +kernel
theorem dL_isSo_209 : decode cL_isSo 209 = .ok (.iadd, 1) := by decide +kernel
theorem dL_isSo_210 : decode cL_isSo 210 = .ok (.iaload, 1) := by decide +kernel
theorem dL_isSo_211 : decode cL_isSo 211 = .ok (.if_icmp .ne 7, 3) := by decide +kernel
theorem dL_isSo_214 : decode cL_isSo 214 = .ok (.iconst 1, 1) := by decide +kernel
theorem dL_isSo_215 : decode cL_isSo 215 = .ok (.goto 4, 3) := by decide +kernel
theorem dL_isSo_218 : decode cL_isSo 218 = .ok (.iconst 0, 1) := by decide +kernel
theorem dL_isSo_219 : decode cL_isSo 219 = .ok (.istore 5, 2) := by decide +kernel
theorem dL_isSo_221 : decode cL_isSo 221 = .ok (.iinc 6 1, 3) := by decide +kernel
theorem dL_isSo_224 : decode cL_isSo 224 = .ok (.goto (-101), 3) := by decide +kernel
theorem dL_isSo_227 : decode cL_isSo 227 = .ok (.iload 5, 2) := by decide +kernel
theorem dL_isSo_229 : decode cL_isSo 229 = .ok (.ifCond .eq 177, 3) := by decide +kernel
theorem dL_isSo_232 : decode cL_isSo 232 = .ok (.aload_n 0, 1) := by decide +kernel
theorem dL_isSo_233 : decode cL_isSo 233 = .ok (.iconst 0, 1) := by decide +kernel
theorem dL_isSo_234 : decode cL_isSo 234 = .ok (.invokevirtual 79, 3) := by decide +kernel
theorem dL_isSo_237 : decode cL_isSo 237 = .ok (.aload_n 1, 1) := by decide +kernel
theorem dL_isSo_238 : decode cL_isSo 238 = .ok (.iconst 0, 1) := by decide +kernel
theorem dL_isSo_239 : decode cL_isSo 239 = .ok (.iaload, 1) := by decide +kernel
theorem dL_isSo_240 : decode cL_isSo 240 = .ok (.if_icmp .ne 166, 3) := by decide +kernel
theorem dL_isSo_243 : decode cL_isSo 243 = .ok (.aload_n 0, 1) := by decide +kernel
theorem dL_isSo_244 : decode cL_isSo 244 = .ok (.iconst 1, 1) := by decide +kernel
theorem dL_isSo_245 : decode cL_isSo 245 = .ok (.invokevirtual 79, 3) := by decide +kernel
theorem dL_isSo_248 : decode cL_isSo 248 = .ok (.aload_n 1, 1) := by decide +kernel
theorem dL_isSo_249 : decode cL_isSo 249 = .ok (.iconst 0, 1) := by decide +kernel
theorem dL_isSo_250 : decode cL_isSo 250 = .ok (.iaload, 1) := by decide +kernel
theorem dL_isSo_251 : decode cL_isSo 251 = .ok (.sipush 144, 3) := by decide +kernel
theorem dL_isSo_254 : decode cL_isSo 254 = .ok (.idiv, 1) := by decide +kernel
theorem dL_isSo_255 : decode cL_isSo 255 = .ok (.if_icmp .ne 151, 3) := by decide +kernel
theorem dL_isSo_258 : decode cL_isSo 258 = .ok (.aload_n 0, 1) := by decide +kernel
theorem dL_isSo_259 : decode cL_isSo 259 = .ok (.iconst 2, 1) := by decide +kernel
theorem dL_isSo_260 : decode cL_isSo 260 = .ok (.invokevirtual 79, 3) := by decide +kernel
theorem dL_isSo_263 : decode cL_isSo 263 = .ok (.aload_n 1, 1) := by decide +kernel
theorem dL_isSo_264 : decode cL_isSo 264 = .ok (.iconst 0, 1) := by decide +kernel
theorem dL_isSo_265 : decode cL_isSo 265 = .ok (.iaload, 1) := by decide +kernel
theorem dL_isSo_266 : decode cL_isSo 266 = .ok (.sipush 144, 3) := by decide +kernel
theorem dL_isSo_269 : decode cL_isSo 269 = .ok (.irem, 1) := by decide +kernel
theorem dL_isSo_270 : decode cL_isSo 270 = .ok (.if_icmp .ne 136, 3) := by decide +kernel
theorem dL_isSo_273 : decode cL_isSo 273 = .ok (.aload_n 0, 1) := by decide +kernel
theorem dL_isSo_274 : decode cL_isSo 274 = .ok (.iconst 3, 1) := by decide +kernel
theorem dL_isSo_275 : decode cL_isSo 275 = .ok (.invokevirtual 79, 3) := by decide +kernel
theorem dL_isSo_278 : decode cL_isSo 278 = .ok (.aload_n 1, 1) := by decide +kernel
theorem dL_isSo_279 : decode cL_isSo 279 = .ok (.iconst 0, 1) := by decide +kernel
theorem dL_isSo_280 : decode cL_isSo 280 = .ok (.iaload, 1) := by decide +kernel
theorem dL_isSo_281 : decode cL_isSo 281 = .ok (.invokestatic 9, 3) := by decide +kernel
theorem dL_isSo_284 : decode cL_isSo 284 = .ok (.if_icmp .ne 122, 3) := by decide +kernel
theorem dL_isSo_287 : decode cL_isSo 287 = .ok (.aload_n 0, 1) := by decide +kernel
theorem dL_isSo_288 : decode cL_isSo 288 = .ok (.iconst 4, 1) := by decide +kernel
theorem dL_isSo_289 : decode cL_isSo 289 = .ok (.invokevirtual 79, 3) := by decide +kernel
theorem dL_isSo_292 : decode cL_isSo 292 = .ok (.aload_n 1, 1) := by decide +kernel
theorem dL_isSo_293 : decode cL_isSo 293 = .ok (.invokestatic 15, 3) := by decide +kernel
theorem dL_isSo_296 : decode cL_isSo 296 = .ok (.if_icmp .ne 110, 3) := by decide +kernel
theorem dL_isSo_299 : decode cL_isSo 299 = .ok (.aload_n 0, 1) := by decide +kernel
theorem dL_isSo_300 : decode cL_isSo 300 = .ok (.iconst 5, 1) := by decide +kernel
theorem dL_isSo_301 : decode cL_isSo 301 = .ok (.invokevirtual 79, 3) := by decide +kernel
theorem dL_isSo_304 : decode cL_isSo 304 = .ok (.aload_n 1, 1) := by decide +kernel
theorem dL_isSo_305 : decode cL_isSo 305 = .ok (.iconst 0, 1) := by decide +kernel
theorem dL_isSo_306 : decode cL_isSo 306 = .ok (.iaload, 1) := by decide +kernel
theorem dL_isSo_307 : decode cL_isSo 307 = .ok (.invokestatic 9, 3) := by decide +kernel
theorem dL_isSo_310 : decode cL_isSo 310 = .ok (.aload_n 1, 1) := by decide +kernel
theorem dL_isSo_311 : decode cL_isSo 311 = .ok (.invokestatic 15, 3) := by decide +kernel
theorem dL_isSo_314 : decode cL_isSo 314 = .ok (.isub, 1) := by decide +kernel
theorem dL_isSo_315 : decode cL_isSo 315 = .ok (.if_icmp .ne 91, 3) := by decide +kernel
theorem dL_isSo_318 : decode cL_isSo 318 = .ok (.aload_n 0, 1) := by decide +kernel
theorem dL_isSo_319 : decode cL_isSo 319 = .ok (.bipush 11, 2) := by decide +kernel
theorem dL_isSo_321 : decode cL_isSo 321 = .ok (.invokevirtual 79, 3) := by decide +kernel
theorem dL_isSo_324 : decode cL_isSo 324 = .ok (.aload_n 1, 1) := by decide +kernel
theorem dL_isSo_325 : decode cL_isSo 325 = .ok (.invokestatic 19, 3) := by decide +kernel
theorem dL_isSo_328 : decode cL_isSo 328 = .ok (.ifCond .eq 7, 3) := by decide +kernel
theorem dL_isSo_331 : decode cL_isSo 331 = .ok (.iconst 1, 1) := by decide +kernel
theorem dL_isSo_332 : decode cL_isSo 332 = .ok (.goto 4, 3) := by decide +kernel
theorem dL_isSo_335 : decode cL_isSo 335 = .ok (.iconst 0, 1) := by decide +kernel
theorem dL_isSo_336 : decode cL_isSo 336 = .ok (.if_icmp .ne 70, 3) := by decide +kernel
theorem dL_isSo_339 : decode cL_isSo 339 = .ok (.aload_n 0, 1) := by decide +kernel
theorem dL_isSo_340 : decode cL_isSo 340 = .ok (.bipush 12, 2) := by decide +kernel
theorem dL_isSo_342 : decode cL_isSo 342 = .ok (.invokevirtual 79, 3) := by decide +kernel
theorem dL_isSo_345 : decode cL_isSo 345 = .ok (.sipush 200, 3) := by decide +kernel
theorem dL_isSo_348 : decode cL_isSo 348 = .ok (.bipush 20, 2) := by decide +kernel
theorem dL_isSo_350 : decode cL_isSo 350 = .ok (.aload_n 1, 1) := by decide +kernel
theorem dL_isSo_351 : decode cL_isSo 351 = .ok (.iconst 0, 1) := by decide +kernel
theorem dL_isSo_352 : decode cL_isSo 352 = .ok (.iaload, 1) := by decide +kernel
theorem dL_isSo_353 : decode cL_isSo 353 = .ok (.sipush 144, 3) := by decide +kernel
theorem dL_isSo_356 : decode cL_isSo 356 = .ok (.idiv, 1) := by decide +kernel
theorem dL_isSo_357 : decode cL_isSo 357 = .ok (.bipush 14, 2) := by decide +kernel
theorem dL_isSo_359 : decode cL_isSo 359 = .ok (.irem, 1) := by decide +kernel
theorem dL_isSo_360 : decode cL_isSo 360 = .ok (.bipush 7, 2) := by decide +kernel
theorem dL_isSo_362 : decode cL_isSo 362 = .ok (.isub, 1) := by decide +kernel
theorem dL_isSo_363 : decode cL_isSo 363 = .ok (.invokestatic 23, 3) := by decide +kernel
theorem dL_isSo_366 : decode cL_isSo 366 = .ok (.imul, 1) := by decide +kernel
theorem dL_isSo_367 : decode cL_isSo 367 = .ok (.iadd, 1) := by decide +kernel
theorem dL_isSo_368 : decode cL_isSo 368 = .ok (.if_icmp .ne 38, 3) := by decide +kernel
theorem dL_isSo_371 : decode cL_isSo 371 = .ok (.aload_n 0, 1) := by decide +kernel
theorem dL_isSo_372 : decode cL_isSo 372 = .ok (.bipush 13, 2) := by decide +kernel
theorem dL_isSo_374 : decode cL_isSo 374 = .ok (.invokevirtual 79, 3) := by decide +kernel
theorem dL_isSo_377 : decode cL_isSo 377 = .ok (.ldc 67, 2) := by decide +kernel
theorem dL_isSo_379 : decode cL_isSo 379 = .ok (.if_icmp .ne 27, 3) := by decide +kernel
theorem dL_isSo_382 : decode cL_isSo 382 = .ok (.aload_n 0, 1) := by decide +kernel
theorem dL_isSo_383 : decode cL_isSo 383 = .ok (.bipush 7, 2) := by decide +kernel
theorem dL_isSo_385 : decode cL_isSo 385 = .ok (.invokevirtual 83, 3) := by decide +kernel
theorem dL_isSo_388 : decode cL_isSo 388 = .ok (.ldc 67, 2) := by decide +kernel
theorem dL_isSo_390 : decode cL_isSo 390 = .ok (.if_icmp .ne 16, 3) := by decide +kernel
theorem dL_isSo_393 : decode cL_isSo 393 = .ok (.aload_n 0, 1) := by decide +kernel
theorem dL_isSo_394 : decode cL_isSo 394 = .ok (.bipush 9, 2) := by decide +kernel
theorem dL_isSo_396 : decode cL_isSo 396 = .ok (.invokevirtual 68, 3) := by decide +kernel
theorem dL_isSo_399 : decode cL_isSo 399 = .ok (.ifCond .ne 7, 3) := by decide +kernel
theorem dL_isSo_402 : decode cL_isSo 402 = .ok (.iconst 1, 1) := by decide +kernel
theorem dL_isSo_403 : decode cL_isSo 403 = .ok (.goto 4, 3) := by decide +kernel
theorem dL_isSo_406 : decode cL_isSo 406 = .ok (.iconst 0, 1) := by decide +kernel
theorem dL_isSo_407 : decode cL_isSo 407 = .ok (.ireturn, 1) := by decide +kernel
theorem dL_law_0 : decode cL_law 0 = .ok (.new 37, 3) := by decide +kernel
theorem dL_law_3 : decode cL_law 3 = .ok (.dup, 1) := by decide +kernel
theorem dL_law_4 : decode cL_law 4 = .ok (.invokespecial 86, 3) := by decide +kernel
theorem dL_law_7 : decode cL_law 7 = .ok (.astore_n 1, 1) := by decide +kernel
theorem dL_law_8 : decode cL_law 8 = .ok (.bipush 18, 2) := by decide +kernel
theorem dL_law_10 : decode cL_law 10 = .ok (.newarray .int, 2) := by decide +kernel
theorem dL_law_12 : decode cL_law 12 = .ok (.astore_n 2, 1) := by decide +kernel
theorem dL_law_13 : decode cL_law 13 = .ok (.bipush 60, 2) := by decide +kernel
theorem dL_law_15 : decode cL_law 15 = .ok (.newarray .int, 2) := by decide +kernel
theorem dL_law_17 : decode cL_law 17 = .ok (.astore_n 3, 1) := by decide +kernel
theorem dL_law_18 : decode cL_law 18 = .ok (.bipush 10, 2) := by decide +kernel
theorem dL_law_20 : decode cL_law 20 = .ok (.newarray .int, 2) := by decide +kernel
theorem dL_law_22 : decode cL_law 22 = .ok (.astore 4, 2) := by decide +kernel
theorem dL_law_24 : decode cL_law 24 = .ok (.aload_n 2, 1) := by decide +kernel
theorem dL_law_25 : decode cL_law 25 = .ok (.iconst 1, 1) := by decide +kernel
theorem dL_law_26 : decode cL_law 26 = .ok (.ldc 82, 2) := by decide +kernel
theorem dL_law_28 : decode cL_law 28 = .ok (.iastore, 1) := by decide +kernel
theorem dL_law_29 : decode cL_law 29 = .ok (.aload_n 2, 1) := by decide +kernel
theorem dL_law_30 : decode cL_law 30 = .ok (.bipush 8, 2) := by decide +kernel
theorem dL_law_32 : decode cL_law 32 = .ok (.bipush 120, 2) := by decide +kernel
theorem dL_law_34 : decode cL_law 34 = .ok (.iastore, 1) := by decide +kernel
theorem dL_law_35 : decode cL_law 35 = .ok (.aload_n 2, 1) := by decide +kernel
theorem dL_law_36 : decode cL_law 36 = .ok (.bipush 9, 2) := by decide +kernel
theorem dL_law_38 : decode cL_law 38 = .ok (.bipush 40, 2) := by decide +kernel
theorem dL_law_40 : decode cL_law 40 = .ok (.iastore, 1) := by decide +kernel
theorem dL_law_41 : decode cL_law 41 = .ok (.aload_n 2, 1) := by decide +kernel
theorem dL_law_42 : decode cL_law 42 = .ok (.bipush 10, 2) := by decide +kernel
theorem dL_law_44 : decode cL_law 44 = .ok (.sipush 1500, 3) := by decide +kernel
theorem dL_law_47 : decode cL_law 47 = .ok (.iastore, 1) := by decide +kernel
theorem dL_law_48 : decode cL_law 48 = .ok (.iconst 0, 1) := by decide +kernel
theorem dL_law_49 : decode cL_law 49 = .ok (.istore 5, 2) := by decide +kernel
theorem dL_law_51 : decode cL_law 51 = .ok (.iload 5, 2) := by decide +kernel
theorem dL_law_53 : decode cL_law 53 = .ok (.bipush 10, 2) := by decide +kernel
theorem dL_law_55 : decode cL_law 55 = .ok (.if_icmp .ge 15, 3) := by decide +kernel
theorem dL_law_58 : decode cL_law 58 = .ok (.aload 4, 2) := by decide +kernel
theorem dL_law_60 : decode cL_law 60 = .ok (.iload 5, 2) := by decide +kernel
theorem dL_law_62 : decode cL_law 62 = .ok (.iconst (-1), 1) := by decide +kernel
theorem dL_law_63 : decode cL_law 63 = .ok (.iastore, 1) := by decide +kernel
theorem dL_law_64 : decode cL_law 64 = .ok (.iinc 5 1, 3) := by decide +kernel
theorem dL_law_67 : decode cL_law 67 = .ok (.goto (-16), 3) := by decide +kernel
theorem dL_law_70 : decode cL_law 70 = .ok (.aload_n 1, 1) := by decide +kernel
theorem dL_law_71 : decode cL_law 71 = .ok (.iconst 0, 1) := by decide +kernel
theorem dL_law_72 : decode cL_law 72 = .ok (.invokevirtual 79, 3) := by decide +kernel
theorem dL_law_75 : decode cL_law 75 = .ok (.ifCond .ne 7, 3) := by decide +kernel
theorem dL_law_78 : decode cL_law 78 = .ok (.iconst 1, 1) := by decide +kernel
theorem dL_law_79 : decode cL_law 79 = .ok (.goto 4, 3) := by decide +kernel
theorem dL_law_82 : decode cL_law 82 = .ok (.iconst 0, 1) := by decide +kernel
theorem dL_law_83 : decode cL_law 83 = .ok (.istore 5, 2) := by decide +kernel
theorem dL_law_85 : decode cL_law 85 = .ok (.iconst 0, 1) := by decide +kernel
theorem dL_law_86 : decode cL_law 86 = .ok (.istore 6, 2) := by decide +kernel
theorem dL_law_88 : decode cL_law 88 = .ok (.iload 6, 2) := by decide +kernel
theorem dL_law_90 : decode cL_law 90 = .ok (.iconst 3, 1) := by decide +kernel
theorem dL_law_91 : decode cL_law 91 = .ok (.if_icmp .ge 66, 3) := by decide +kernel
theorem dL_law_94 : decode cL_law 94 = .ok (.iload 5, 2) := by decide +kernel
theorem dL_law_96 : decode cL_law 96 = .ok (.ifCond .eq 61, 3) := by decide +kernel
theorem dL_law_99 : decode cL_law 99 = .ok (.aload_n 1, 1) := by decide +kernel
theorem dL_law_100 : decode cL_law 100 = .ok (.aload_n 2, 1) := by decide +kernel
theorem dL_law_101 : decode cL_law 101 = .ok (.aload_n 3, 1) := by decide +kernel
theorem dL_law_102 : decode cL_law 102 = .ok (.aload 4, 2) := by decide +kernel
theorem dL_law_104 : decode cL_law 104 = .ok (.aload_n 0, 1) := by decide +kernel
theorem dL_law_105 : decode cL_law 105 = .ok (.iconst 1, 1) := by decide +kernel
theorem dL_law_106 : decode cL_law 106 = .ok (.iload 6, 2) := by decide +kernel
theorem dL_law_108 : decode cL_law 108 = .ok (.iadd, 1) := by decide +kernel
theorem dL_law_109 : decode cL_law 109 = .ok (.invokestatic 87, 3) := by decide +kernel
theorem dL_law_112 : decode cL_law 112 = .ok (.ldc 8, 2) := by decide +kernel
theorem dL_law_114 : decode cL_law 114 = .ok (.iand, 1) := by decide +kernel
theorem dL_law_115 : decode cL_law 115 = .ok (.sipush 192, 3) := by decide +kernel
theorem dL_law_118 : decode cL_law 118 = .ok (.idiv, 1) := by decide +kernel
theorem dL_law_119 : decode cL_law 119 = .ok (.sipush 192, 3) := by decide +kernel
theorem dL_law_122 : decode cL_law 122 = .ok (.imul, 1) := by decide +kernel
theorem dL_law_123 : decode cL_law 123 = .ok (.iload 6, 2) := by decide +kernel
theorem dL_law_125 : decode cL_law 125 = .ok (.ifCond .ne 7, 3) := by decide +kernel
theorem dL_law_128 : decode cL_law 128 = .ok (.iconst 0, 1) := by decide +kernel
theorem dL_law_129 : decode cL_law 129 = .ok (.goto 16, 3) := by decide +kernel
theorem dL_law_132 : decode cL_law 132 = .ok (.iload 6, 2) := by decide +kernel
theorem dL_law_134 : decode cL_law 134 = .ok (.iconst 1, 1) := by decide +kernel
theorem dL_law_135 : decode cL_law 135 = .ok (.if_icmp .ne 8, 3) := by decide +kernel
theorem dL_law_138 : decode cL_law 138 = .ok (.bipush 6, 2) := by decide +kernel
theorem dL_law_140 : decode cL_law 140 = .ok (.goto 5, 3) := by decide +kernel
theorem dL_law_143 : decode cL_law 143 = .ok (.bipush 10, 2) := by decide +kernel
theorem dL_law_145 : decode cL_law 145 = .ok (.iadd, 1) := by decide +kernel
theorem dL_law_146 : decode cL_law 146 = .ok (.invokestatic 91, 3) := by decide +kernel
theorem dL_law_149 : decode cL_law 149 = .ok (.istore 5, 2) := by decide +kernel
theorem dL_law_151 : decode cL_law 151 = .ok (.iinc 6 1, 3) := by decide +kernel
theorem dL_law_154 : decode cL_law 154 = .ok (.goto (-66), 3) := by decide +kernel
theorem dL_law_157 : decode cL_law 157 = .ok (.iload 5, 2) := by decide +kernel
theorem dL_law_159 : decode cL_law 159 = .ok (.ifCond .eq 18, 3) := by decide +kernel
theorem dL_law_162 : decode cL_law 162 = .ok (.aload_n 1, 1) := by decide +kernel
theorem dL_law_163 : decode cL_law 163 = .ok (.aload_n 2, 1) := by decide +kernel
theorem dL_law_164 : decode cL_law 164 = .ok (.aload_n 3, 1) := by decide +kernel
theorem dL_law_165 : decode cL_law 165 = .ok (.aload 4, 2) := by decide +kernel
theorem dL_law_167 : decode cL_law 167 = .ok (.invokestatic 95, 3) := by decide +kernel
theorem dL_law_170 : decode cL_law 170 = .ok (.ifCond .eq 7, 3) := by decide +kernel
theorem dL_law_173 : decode cL_law 173 = .ok (.iconst 1, 1) := by decide +kernel
theorem dL_law_174 : decode cL_law 174 = .ok (.goto 4, 3) := by decide +kernel
theorem dL_law_177 : decode cL_law 177 = .ok (.iconst 0, 1) := by decide +kernel
theorem dL_law_178 : decode cL_law 178 = .ok (.istore 5, 2) := by decide +kernel
theorem dL_law_180 : decode cL_law 180 = .ok (.bipush 12, 2) := by decide +kernel
theorem dL_law_182 : decode cL_law 182 = .ok (.aload_n 0, 1) := by decide +kernel
theorem dL_law_183 : decode cL_law 183 = .ok (.iconst 0, 1) := by decide +kernel
theorem dL_law_184 : decode cL_law 184 = .ok (.invokestatic 87, 3) := by decide +kernel
theorem dL_law_187 : decode cL_law 187 = .ok (.bipush 56, 2) := by decide +kernel
theorem dL_law_189 : decode cL_law 189 = .ok (.invokestatic 32, 3) := by decide +kernel
theorem dL_law_192 : decode cL_law 192 = .ok (.iadd, 1) := by decide +kernel
theorem dL_law_193 : decode cL_law 193 = .ok (.istore 6, 2) := by decide +kernel
theorem dL_law_195 : decode cL_law 195 = .ok (.iconst 0, 1) := by decide +kernel
theorem dL_law_196 : decode cL_law 196 = .ok (.istore 7, 2) := by decide +kernel
theorem dL_law_198 : decode cL_law 198 = .ok (.iload 7, 2) := by decide +kernel
theorem dL_law_200 : decode cL_law 200 = .ok (.iload 6, 2) := by decide +kernel
theorem dL_law_202 : decode cL_law 202 = .ok (.if_icmp .ge 58, 3) := by decide +kernel
theorem dL_law_205 : decode cL_law 205 = .ok (.iload 5, 2) := by decide +kernel
theorem dL_law_207 : decode cL_law 207 = .ok (.ifCond .eq 53, 3) := by decide +kernel
theorem dL_law_210 : decode cL_law 210 = .ok (.aload_n 1, 1) := by decide +kernel
theorem dL_law_211 : decode cL_law 211 = .ok (.aload_n 2, 1) := by decide +kernel
theorem dL_law_212 : decode cL_law 212 = .ok (.aload_n 3, 1) := by decide +kernel
theorem dL_law_213 : decode cL_law 213 = .ok (.aload 4, 2) := by decide +kernel
theorem dL_law_215 : decode cL_law 215 = .ok (.aload_n 0, 1) := by decide +kernel
theorem dL_law_216 : decode cL_law 216 = .ok (.iconst 4, 1) := by decide +kernel
theorem dL_law_217 : decode cL_law 217 = .ok (.iload 7, 2) := by decide +kernel
theorem dL_law_219 : decode cL_law 219 = .ok (.iadd, 1) := by decide +kernel
theorem dL_law_220 : decode cL_law 220 = .ok (.invokestatic 87, 3) := by decide +kernel
theorem dL_law_223 : decode cL_law 223 = .ok (.sipush 7919, 3) := by decide +kernel
theorem dL_law_226 : decode cL_law 226 = .ok (.iload 7, 2) := by decide +kernel
theorem dL_law_228 : decode cL_law 228 = .ok (.imul, 1) := by decide +kernel
theorem dL_law_229 : decode cL_law 229 = .ok (.ixor, 1) := by decide +kernel
theorem dL_law_230 : decode cL_law 230 = .ok (.invokestatic 91, 3) := by decide +kernel
theorem dL_law_233 : decode cL_law 233 = .ok (.ifCond .eq 18, 3) := by decide +kernel
theorem dL_law_236 : decode cL_law 236 = .ok (.aload_n 1, 1) := by decide +kernel
theorem dL_law_237 : decode cL_law 237 = .ok (.aload_n 2, 1) := by decide +kernel
theorem dL_law_238 : decode cL_law 238 = .ok (.aload_n 3, 1) := by decide +kernel
theorem dL_law_239 : decode cL_law 239 = .ok (.aload 4, 2) := by decide +kernel
theorem dL_law_241 : decode cL_law 241 = .ok (.invokestatic 95, 3) := by decide +kernel
theorem dL_law_244 : decode cL_law 244 = .ok (.ifCond .eq 7, 3) := by decide +kernel
theorem dL_law_247 : decode cL_law 247 = .ok (.iconst 1, 1) := by decide +kernel
theorem dL_law_248 : decode cL_law 248 = .ok (.goto 4, 3) := by decide +kernel
theorem dL_law_251 : decode cL_law 251 = .ok (.iconst 0, 1) := by decide +kernel
theorem dL_law_252 : decode cL_law 252 = .ok (.istore 5, 2) := by decide +kernel
theorem dL_law_254 : decode cL_law 254 = .ok (.iinc 7 1, 3) := by decide +kernel
theorem dL_law_257 : decode cL_law 257 = .ok (.goto (-59), 3) := by decide +kernel
theorem dL_law_260 : decode cL_law 260 = .ok (.iload 5, 2) := by decide +kernel
theorem dL_law_262 : decode cL_law 262 = .ok (.ifCond .eq 40, 3) := by decide +kernel
theorem dL_law_265 : decode cL_law 265 = .ok (.aload_n 1, 1) := by decide +kernel
theorem dL_law_266 : decode cL_law 266 = .ok (.bipush 10, 2) := by decide +kernel
theorem dL_law_268 : decode cL_law 268 = .ok (.invokevirtual 68, 3) := by decide +kernel
theorem dL_law_271 : decode cL_law 271 = .ok (.ldc 67, 2) := by decide +kernel
theorem dL_law_273 : decode cL_law 273 = .ok (.if_icmp .ne 29, 3) := by decide +kernel
theorem dL_law_276 : decode cL_law 276 = .ok (.aload_n 1, 1) := by decide +kernel
theorem dL_law_277 : decode cL_law 277 = .ok (.bipush 19, 2) := by decide +kernel
theorem dL_law_279 : decode cL_law 279 = .ok (.invokevirtual 68, 3) := by decide +kernel
theorem dL_law_282 : decode cL_law 282 = .ok (.ldc 67, 2) := by decide +kernel
theorem dL_law_284 : decode cL_law 284 = .ok (.if_icmp .ne 18, 3) := by decide +kernel
theorem dL_law_287 : decode cL_law 287 = .ok (.aload_n 1, 1) := by decide +kernel
theorem dL_law_288 : decode cL_law 288 = .ok (.bipush 23, 2) := by decide +kernel
theorem dL_law_290 : decode cL_law 290 = .ok (.invokevirtual 68, 3) := by decide +kernel
theorem dL_law_293 : decode cL_law 293 = .ok (.ldc 67, 2) := by decide +kernel
theorem dL_law_295 : decode cL_law 295 = .ok (.if_icmp .ne 7, 3) := by decide +kernel
theorem dL_law_298 : decode cL_law 298 = .ok (.iconst 1, 1) := by decide +kernel
theorem dL_law_299 : decode cL_law 299 = .ok (.goto 4, 3) := by decide +kernel
theorem dL_law_302 : decode cL_law 302 = .ok (.iconst 0, 1) := by decide +kernel
theorem dL_law_303 : decode cL_law 303 = .ok (.ireturn, 1) := by decide +kernel
end
section
/-! THE GROUND: words by place, a world's calls, contracts of the shape that this claim uses -/
abbrev ag_T (cI cC cL : ClassId) : List (ClassId × FieldType) := [(cI, .int), (cC, .char), (cL, .object RX1)]
/-- the links among nest mates that the class uses -/
def ag_N (U : State) : Prop :=
  va_Nw (.methodLinkNest RX5 9 yX1_init RX5) U ∧ va_Nw (.methodLinkNest RX5 21 yX4_init RX5) U ∧ va_Nw (.methodLinkNest RX5 28 yX0_init RX5) U ∧ va_Nw (.methodLinkNest RX0 11 yX1_init RX5) U ∧
  va_Nw (.methodLinkNest RX5 35 yX3_init RX5) U ∧ va_Nw (.methodLinkNest RX5 42 yX2_init RX5) U ∧ va_Nw (.methodLinkNest RX1 53 yX5_seaLevel RX5) U ∧ va_Nw (.methodLinkNest RX1 114 yX5_recordStart RX5) U ∧
  va_Nw (.fieldLinkNest RX1 80 RX5 "LEAST_SETTING" "[I" RX5) U ∧ va_Nw (.fieldLinkNest RX1 83 RX5 "MOST_SETTING" "[I" RX5) U
theorem ag_N.warm {s U : State} (hW : s.WarmedH U.vm) (h : ag_N s) : ag_N U := by
  obtain ⟨h1, h2, h3, h4, h5, h6, h7, h8, h10, h11⟩ := h
  exact ⟨va_Nw.warmM hW h1, va_Nw.warmM hW h2, va_Nw.warmM hW h3, va_Nw.warmM hW h4, va_Nw.warmM hW h5, va_Nw.warmM hW h6, va_Nw.warmM hW h7, va_Nw.warmM hW h8, va_Nw.warmF hW h10, va_Nw.warmF hW h11⟩
theorem ag_N.same {u U : State} (e : u.vm = U.vm) (h : ag_N u) : ag_N U := by
  obtain ⟨h1, h2, h3, h4, h5, h6, h7, h8, h10, h11⟩ := h
  exact ⟨va_Nw.same rfl e h1, va_Nw.same rfl e h2, va_Nw.same rfl e h3, va_Nw.same rfl e h4, va_Nw.same rfl e h5, va_Nw.same rfl e h6, va_Nw.same rfl e h7, va_Nw.same rfl e h8, va_Nw.same rfl e h10, va_Nw.same rfl e h11⟩
/-- the two static rows, out of reach of what may be changed -/
def ag_fL (j : Nat) : Value := .int (if j = 1 then 0 else 1)
def ag_fM (j : Nat) : Value := .int (if j = 2 then 9999 else 400)
def ag_ZZ (A : Nat → Prop) (U : State) (H : Heap) : Prop := ∃ tL tM : Nat, va_Z RX5 "LEAST_SETTING" "[I" (.ref tL) A U H ∧ va_T .int tL 3 ag_fL A U H ∧ va_Z RX5 "MOST_SETTING" "[I" (.ref tM) A U H ∧ va_T .int tM 3 ag_fM A U H
theorem ag_ZZ.moved {A : Nat → Prop} {u U : State} {H : Heap} (hvm : u.vm.Alike U.vm) (h : ag_ZZ A u H) : ag_ZZ A U H := by
  obtain ⟨tL, tM, h1, h2, h3, h4⟩ := h
  exact ⟨tL, tM, h1.moved hvm, h2.moved hvm, h3.moved hvm, h4.moved hvm⟩
theorem ag_ZZ.kept {A : Nat → Prop} {U : State} {H H1 : Heap} (h : ag_ZZ A U H) (hq : ∀ a : Nat, a < H.size → ¬ A a → H1[a]? = H[a]?) : ag_ZZ A U H1 := by
  obtain ⟨tL, tM, h1, h2, h3, h4⟩ := h
  exact ⟨tL, tM, h1.kept hq, h2.kept hq, h3.kept hq, h4.kept hq⟩
theorem ag_ZZ.narrow {A B : Nat → Prop} {U : State} {H : Heap} (h : ag_ZZ A U H) (hAB : ∀ q, B q → A q) : ag_ZZ B U H := by
  obtain ⟨tL, tM, h1, h2, h3, h4⟩ := h
  exact ⟨tL, tM, h1.narrow hAB, h2.narrow hAB, h3.narrow hAB, h4.narrow hAB⟩
def ag_NZ (A : Nat → Prop) (s : State) : Prop := ag_N s ∧ ag_ZZ A s s.heap
/-- the start of a method over the cells w; the cells are w' behind it, at the same addresses -/
def ag_In (D : va_G) (cI cC cL : ClassId) (w : va_W) (sz : Nat) : State → Prop := fun U => U.heap.size = sz ∧ va_P D vwCl w U.heap ∧ va_K D vwCl (ag_T cI cC cL) U ∧ va_D (fun _ => True) w ∧ ag_N U ∧ ag_ZZ (va_A w sz) U U.heap
def ag_Out (D : va_G) (w w' : va_W) (t : State) : Prop := va_P D vwCl w' t.heap ∧ w'.map Prod.fst = w.map Prod.fst
abbrev ag_rm (fr lo : Nat) : Room := { frames := fr, cells := 0, slots := 0, locals := lo }
def ag_MI (l : Launch) (y : MethodName) (code : ByteArray) (maxL : Nat) (ret : FieldType) (fr lo : Nat) (D : va_G) (cI cC cL : ClassId) (av : List Value) (w : va_W) (post : Int32 → va_W → Prop) : Prop :=
  ∀ sz : Nat, Met l y (.code y code maxL (some ret) :: gW) (ag_rm fr lo) (va_Pc av (ag_In D cI cC cL w sz)) (va_Qi post (ag_Out D w) (va_A w sz)) 0 0 (va_A w sz)
def ag_MV (l : Launch) (y : MethodName) (code : ByteArray) (maxL : Nat) (fr lo : Nat) (D : va_G) (cI cC cL : ClassId) (av : List Value) (w : va_W) (post : va_W → Prop) : Prop :=
  ∀ sz : Nat, Met l y (.code y code maxL none :: gW) (ag_rm fr lo) (va_Pc av (ag_In D cI cC cL w sz)) (va_Qv post (ag_Out D w) (va_A w sz)) 0 0 (va_A w sz)
theorem ag_In_blind {av : List Value} {D : va_G} {cI cC cL : ClassId} {w : va_W} {sz : Nat} : FrameBlind (va_Pc av (ag_In D cI cC cL w sz)) :=
  fun a U g mk q => ⟨q.1, q.2.1, q.2.2.1, va_K.moved (u := U) (U := U.calling g mk a) (Vm.Alike.refl U.vm) q.2.2.2.1, q.2.2.2.2.1, ag_N.same (u := U) rfl q.2.2.2.2.2.1, ag_ZZ.moved (u := U) (U := U.calling g mk a) (Vm.Alike.refl U.vm) q.2.2.2.2.2.2⟩
/-! putting the cells of a callee back among the caller's -/
def ag_put (w : va_W) : List Nat → va_W → va_W
  | i :: is, q :: qs => ag_put (w.set i q) is qs
  | _, _ => w
theorem ag_put_len : ∀ (is : List Nat) (w qs : va_W), (ag_put w is qs).length = w.length
  | [], w, qs => by cases qs <;> rfl
  | i :: is, w, [] => rfl
  | i :: is, w, q :: qs => by
    show (ag_put (w.set i q) is qs).length = w.length
    rw [ag_put_len is, List.length_set]
theorem ag_put_at : ∀ (is : List Nat) (w qs : va_W), is.length = qs.length → ∀ (k : Nat) (z : Nat × va_E), (ag_put w is qs)[k]? = some z → (∃ j : Nat, is[j]? = some k ∧ qs[j]? = some z) ∨ (k ∉ is ∧ w[k]? = some z)
  | [], w, [], _, k, z, h => Or.inr ⟨List.not_mem_nil, h⟩
  | [], w, _ :: _, e, _, _, _ => by cases e
  | _ :: _, w, [], e, _, _, _ => by cases e
  | i :: is, w, q :: qs, e, k, z, h => by
    rcases ag_put_at is (w.set i q) qs (Nat.succ.inj e) k z h with ⟨j, h1, h2⟩ | ⟨h1, h2⟩
    · exact Or.inl ⟨j + 1, h1, h2⟩
    · by_cases hk : k = i
      · subst hk
        have hl : k < w.length := by
          have := (List.getElem?_eq_some_iff.mp h2).1
          rwa [List.length_set] at this
        rw [List.getElem?_set_self hl] at h2
        exact Or.inl ⟨0, rfl, h2⟩
      · rw [List.getElem?_set_ne (Ne.symm hk)] at h2
        exact Or.inr ⟨fun hm => (List.mem_cons.mp hm).elim hk h1, h2⟩
theorem ag_at {is : List Nat} {w wc : va_W} (hC : is.map (fun i => w[i]?) = wc.map some) {j : Nat} {q : Nat × va_E} (hq : wc[j]? = some q) : ∃ i, is[j]? = some i ∧ w[i]? = some q := by
  have h1 : (is.map (fun i => w[i]?))[j]? = some (some q) := by rw [hC, List.getElem?_map, hq]; rfl
  rw [List.getElem?_map] at h1
  cases hi : is[j]? with
  | none => rw [hi] at h1; cases h1
  | some i => rw [hi] at h1; exact ⟨i, rfl, Option.some.inj h1⟩
theorem ag_fst {w1 wc : va_W} (h : w1.map Prod.fst = wc.map Prod.fst) {j : Nat} {q : Nat × va_E} (hq : w1[j]? = some q) : ∃ q2, wc[j]? = some q2 ∧ q2.1 = q.1 := by
  have h1 : (wc.map Prod.fst)[j]? = some q.1 := by rw [← h, List.getElem?_map, hq]; rfl
  rw [List.getElem?_map] at h1
  cases hi : wc[j]? with
  | none => rw [hi] at h1; cases h1
  | some q2 => rw [hi] at h1; exact ⟨q2, rfl, Option.some.inj h1⟩
theorem ag_same_len {w1 wc : va_W} (h : w1.map Prod.fst = wc.map Prod.fst) : w1.length = wc.length := by
  have := congrArg List.length h
  simpa using this
theorem ag_join {A0 : Nat → Prop} {D : va_G} {cl : List vw_C} {w wc w1 : va_W} {H H1 : Heap} (hP : va_P D cl w H) (hD : va_D A0 w) (is : List Nat) (hC : is.map (fun i => w[i]?) = wc.map some)
    (hk : ∀ q : Nat, q < H.size → ¬ va_A wc H.size q → H1[q]? = H[q]?) (hP1 : va_P D cl w1 H1) (ha : w1.map Prod.fst = wc.map Prod.fst) : va_P D cl (ag_put w is w1) H1 ∧ va_D A0 (ag_put w is w1) := by
  have hlen : is.length = w1.length := by
    rw [ag_same_len ha]
    have := congrArg List.length hC
    simpa using this
  have addr : ∀ (k : Nat) (z : Nat × va_E), (ag_put w is w1)[k]? = some z → ∃ z2, w[k]? = some z2 ∧ z2.1 = z.1 := by
    intro k z hz
    rcases ag_put_at is w w1 hlen k z hz with ⟨j, h1, h2⟩ | ⟨h1, h2⟩
    · obtain ⟨q2, h3, h4⟩ := ag_fst ha h2
      obtain ⟨i, h5, h6⟩ := ag_at hC h3
      rw [h1] at h5
      cases h5
      exact ⟨q2, h6, h4⟩
    · exact ⟨z, h2, rfl⟩
  refine ⟨fun k z hz => ?_, fun i j x y hx hy hxy => ?_, fun k z hz => ?_⟩
  · rcases ag_put_at is w w1 hlen k z hz with ⟨j, h1, h2⟩ | ⟨h1, h2⟩
    · exact hP1 j z h2
    · have hl := (hP k z h2).lt
      refine (hP k z h2).kept (hk z.1 hl ?_)
      rintro (⟨k2, e, h⟩ | h)
      · obtain ⟨i, h3, h4⟩ := ag_at hC h
        have hij := hD.1 k i z (z.1, e) h2 h4 rfl
        exact h1 (by rw [hij]; exact List.mem_of_getElem? h3)
      · omega
  · obtain ⟨x2, hx2, ex⟩ := addr i x hx
    obtain ⟨y2, hy2, ey⟩ := addr j y hy
    exact hD.1 i j x2 y2 hx2 hy2 (by rw [ex, ey]; exact hxy)
  · obtain ⟨z2, hz2, ez⟩ := addr k z hz
    rw [← ez]
    exact hD.2 k z2 hz2
theorem ag_Pm {D : va_G} {cl : List vw_C} {w : va_W} {H : Heap} : va_P D cl w H ↔ ∀ q ∈ w, va_at D cl q H :=
  ⟨fun h q hq => by obtain ⟨k, hk⟩ := List.getElem?_of_mem hq; exact h k q hk, fun h k q hk => h q (List.mem_of_getElem? hk)⟩
theorem ag_Dm {A : Nat → Prop} {w : va_W} : va_D A w ↔ (w.map Prod.fst).Nodup ∧ ∀ q ∈ w, A q.1 := by
  constructor
  · rintro ⟨h1, h2⟩
    refine ⟨List.pairwise_iff_getElem.mpr fun i j hi hj hij e => ?_, fun q hq => by obtain ⟨k, hk⟩ := List.getElem?_of_mem hq; exact h2 k q hk⟩
    rw [List.length_map] at hi hj
    rw [List.getElem_map, List.getElem_map] at e
    have := h1 i j _ _ (List.getElem?_eq_getElem hi) (List.getElem?_eq_getElem hj) e
    omega
  · rintro ⟨h1, h2⟩
    refine ⟨fun i j x y hx hy hxy => ?_, fun k q hk => h2 q (List.mem_of_getElem? hk)⟩
    have h3 := List.pairwise_iff_getElem.mp h1
    obtain ⟨li, ei⟩ := List.getElem?_eq_some_iff.mp hx
    obtain ⟨lj, ej⟩ := List.getElem?_eq_some_iff.mp hy
    have key : ∀ a b : Nat, (ha : a < w.length) → (hb : b < w.length) → a < b → (w[a]).1 ≠ (w[b]).1 := fun a b ha hb hab => by
      have := h3 a b (by rw [List.length_map]; exact ha) (by rw [List.length_map]; exact hb) hab
      rwa [List.getElem_map, List.getElem_map] at this
    rcases Nat.lt_trichotomy i j with h | h | h
    · exact absurd (by rw [ei, ej, hxy]) (key i j li lj h)
    · exact h
    · exact absurd (by rw [ei, ej, hxy]) (key j i lj li h)
/-- the callee's cells wc are cut out of w; what comes back for them is put in their place -/
def ag_cut (w wc : va_W) (put : va_W → va_W) : Prop :=
  ∀ (D : va_G) (cl : List vw_C) (A0 : Nat → Prop) (H : Heap), va_P D cl w H → va_D A0 w → va_P D cl wc H ∧ va_D A0 wc ∧
    ∀ (H1 : Heap) (w1 : va_W), (∀ q : Nat, q < H.size → ¬ va_A wc H.size q → H1[q]? = H[q]?) → va_P D cl w1 H1 → w1.map Prod.fst = wc.map Prod.fst → va_P D cl (put w1) H1 ∧ va_D A0 (put w1)
theorem ag_cut_is {w wc : va_W} (is : List Nat) (hC : is.map (fun i => w[i]?) = wc.map some) (hn : va_nd is = true) : ag_cut w wc (ag_put w is) := fun D cl A0 H hP hD =>
  ⟨fun k q hq => by
    obtain ⟨i, -, h⟩ := ag_at hC hq
    exact hP i q h, hD.sub is hn hC, fun H1 w1 hk hP1 ha => ag_join hP hD is hC hk hP1 ha⟩
theorem ag_cut_0 {w : va_W} : ag_cut w [] (fun _ => w) := fun D cl A0 H hP hD =>
  ⟨fun k q hq => by simp at hq, ⟨fun i j x y hx => by simp at hx, fun k q hq => by simp at hq⟩, fun H1 w1 hk hP1 ha => ⟨hP.kept (fun k q hq => hk q.1 (hP k q hq).lt (by rintro (⟨k2, e, h⟩ | h); · simp at h
                                                                                                                                                                         · have := (hP k q hq).lt; omega)), hD⟩⟩
theorem ag_cut_all {w : va_W} : ag_cut w w (fun w1 => w1) := fun D cl A0 H hP hD =>
  ⟨hP, hD, fun H1 w1 hk hP1 ha => ⟨hP1, by
    rw [ag_Dm] at hD ⊢
    refine ⟨by rw [ha]; exact hD.1, fun q hq => ?_⟩
    have h1 : q.1 ∈ w.map Prod.fst := by rw [← ha]; exact List.mem_map_of_mem hq
    obtain ⟨q2, h2, h3⟩ := List.mem_map.mp h1
    rw [← h3]
    exact hD.2 q2 h2⟩⟩
/-- the same cells in another order, cut and put -/
theorem ag_cut_perm {w wc wr : va_W} {put : va_W → va_W} (hw : ∀ q, q ∈ w ↔ q ∈ wc ∨ q ∈ wr) (hnd : (w.map Prod.fst).Nodup → (wc.map Prod.fst).Nodup ∧ ∀ x ∈ wc, ∀ y ∈ wr, x.1 ≠ y.1)
    (hput : ∀ w1 : va_W, w1.map Prod.fst = wc.map Prod.fst → (∀ q, q ∈ put w1 ↔ q ∈ w1 ∨ q ∈ wr) ∧ (put w1).map Prod.fst = w.map Prod.fst) : ag_cut w wc put := fun D cl A0 H hP hD => by
  rw [ag_Pm] at hP
  rw [ag_Dm] at hD
  obtain ⟨n1, n2⟩ := hnd hD.1
  refine ⟨ag_Pm.mpr fun q hq => hP q ((hw q).mpr (Or.inl hq)), ag_Dm.mpr ⟨n1, fun q hq => hD.2 q ((hw q).mpr (Or.inl hq))⟩, fun H1 w1 hk hP1 ha => ?_⟩
  obtain ⟨p1, p2⟩ := hput w1 ha
  refine ⟨ag_Pm.mpr fun q hq => ?_, ag_Dm.mpr ⟨by rw [p2]; exact hD.1, fun q hq => ?_⟩⟩
  · rcases (p1 q).mp hq with h | h
    · exact (ag_Pm.mp hP1) q h
    · have h0 := hP q ((hw q).mpr (Or.inr h))
      refine h0.kept (hk q.1 h0.lt ?_)
      rintro (⟨k2, e, h2⟩ | h2)
      · exact n2 (q.1, e) (List.mem_of_getElem? h2) q h rfl
      · have := h0.lt
        omega
  · have h1 : q.1 ∈ w.map Prod.fst := by rw [← p2]; exact List.mem_map_of_mem hq
    obtain ⟨q2, h2, h3⟩ := List.mem_map.mp h1
    rw [← h3]
    exact hD.2 q2 h2
theorem ag_cut_P {w wc wr : va_W} {put : va_W → va_W} (hw : w.Perm (wc ++ wr)) (hput : ∀ w1 : va_W, w1.map Prod.fst = wc.map Prod.fst → (put w1).Perm (w1 ++ wr) ∧ (put w1).map Prod.fst = w.map Prod.fst) : ag_cut w wc put := by
  refine ag_cut_perm (wr := wr) (fun q => by rw [hw.mem_iff, List.mem_append]) (fun hn => ?_) (fun w1 ha => ⟨fun q => by rw [(hput w1 ha).1.mem_iff, List.mem_append], (hput w1 ha).2⟩)
  have h := (hw.map Prod.fst).nodup_iff.mp hn
  rw [List.map_append, List.nodup_append] at h
  exact ⟨h.1, fun x hx y hy e => h.2.2 _ (List.mem_map_of_mem hx) _ (List.mem_map_of_mem hy) e⟩
theorem ag_cut_1 {w wc : va_W} (wa wb : va_W) (h : w = wa ++ (wc ++ wb)) : ag_cut w wc (fun w1 => wa ++ (w1 ++ wb)) := by
  subst h
  exact ag_cut_P (wr := wa ++ wb) (List.perm_append_comm_assoc wa wc wb) (fun w1 ha => ⟨List.perm_append_comm_assoc wa w1 wb, by simp [ha]⟩)
theorem ag_p2 (wa c1 wb c2 wd : va_W) : (wa ++ (c1 ++ (wb ++ (c2 ++ wd)))).Perm ((c1 ++ c2) ++ (wa ++ (wb ++ wd))) := by
  refine (List.perm_append_comm_assoc wa c1 _).trans ?_
  rw [List.append_assoc c1 c2]
  refine List.Perm.append_left c1 ?_
  refine (List.Perm.append_left wa (List.perm_append_comm_assoc wb c2 wd)).trans ?_
  exact List.perm_append_comm_assoc wa c2 _
theorem ag_cut_2 {w wc : va_W} (n : Nat) (wa c1 wb c2 wd : va_W) (hc : wc = c1 ++ c2) (hn : c1.length = n) (h : w = wa ++ (c1 ++ (wb ++ (c2 ++ wd)))) : ag_cut w wc (fun w1 => wa ++ (w1.take n ++ (wb ++ (w1.drop n ++ wd)))) := by
  subst h hc hn
  refine ag_cut_P (wr := wa ++ (wb ++ wd)) (ag_p2 wa c1 wb c2 wd) (fun w1 ha => ⟨?_, ?_⟩)
  · have := ag_p2 wa (w1.take c1.length) wb (w1.drop c1.length) wd
    rwa [List.take_append_drop] at this
  · have e1 : (w1.take c1.length).map Prod.fst = c1.map Prod.fst := by rw [List.map_take, ha, List.map_append, List.take_left' (by simp)]
    have e2 : (w1.drop c1.length).map Prod.fst = c2.map Prod.fst := by rw [List.map_drop, ha, List.map_append, List.drop_left' (by simp)]
    simp only [List.map_append, e1, e2]
theorem ag_cut_2s {w wc : va_W} (n : Nat) (wa c1 wb c2 wd : va_W) (hc : wc = c1 ++ c2) (hn : c1.length = n) (h : w = wa ++ (c2 ++ (wb ++ (c1 ++ wd)))) : ag_cut w wc (fun w1 => wa ++ (w1.drop n ++ (wb ++ (w1.take n ++ wd)))) := by
  subst h hc hn
  have hp : ∀ d1 d2 : va_W, (wa ++ (d2 ++ (wb ++ (d1 ++ wd)))).Perm ((d1 ++ d2) ++ (wa ++ (wb ++ wd))) := fun d1 d2 => (ag_p2 wa d2 wb d1 wd).trans (List.Perm.append_right _ List.perm_append_comm)
  refine ag_cut_P (wr := wa ++ (wb ++ wd)) (hp c1 c2) (fun w1 ha => ⟨?_, ?_⟩)
  · have := hp (w1.take c1.length) (w1.drop c1.length)
    rwa [List.take_append_drop] at this
  · have e1 : (w1.take c1.length).map Prod.fst = c1.map Prod.fst := by rw [List.map_take, ha, List.map_append, List.take_left' (by simp)]
    have e2 : (w1.drop c1.length).map Prod.fst = c2.map Prod.fst := by rw [List.map_drop, ha, List.map_append, List.drop_left' (by simp)]
    simp only [List.map_append, e1, e2]
theorem ag_Dsub {A : Nat → Prop} {w wc : va_W} (hD : va_D A w) (is : List Nat) (hn : va_nd is = true) (hC : is.map (fun i => w[i]?) = wc.map some) : va_D A wc := hD.sub is hn hC
theorem ag_Psub {D : va_G} {cl : List vw_C} {w wc : va_W} {H : Heap} (hP : va_P D cl w H) (is : List Nat) (hC : is.map (fun i => w[i]?) = wc.map some) : va_P D cl wc H := fun k q hq => by
  obtain ⟨i, -, h⟩ := ag_at hC hq
  exact hP i q h
theorem arrV_congr {cA : ClassId} {n : Nat} {f g : Nat → Value} (h : ∀ j, j < n → f j = g j) : arrV cA n f = arrV cA n g := by
  have e : (Array.ofFn (n := n) fun i => f i.val) = Array.ofFn (n := n) fun i => g i.val := by
    congr 1
    funext i
    exact h i.val i.isLt
  unfold arrV
  first | rw [e] | (simp only [e])
/-- an array's cell read at other contents, the same ones as far as it goes -/
theorem ag_arr {D : va_G} {cl : List vw_C} {w : va_W} {H : Heap} (hP : va_P D cl w H) (k : Nat) {a n : Nat} {cA : ClassId} {f : Nat → Int32} (g : Nat → Int32) (hk : w[k]? = some (a, .inl (cA, n, .inl f))) (h : ∀ j, j < n → f j = g j) : va_P D cl (w.set k (a, .inl (cA, n, .inl g))) H := by
  intro i q hq
  by_cases hi : i = k
  · subst hi
    have hl : i < w.length := (List.getElem?_eq_some_iff.mp hk).1
    rw [List.getElem?_set_self hl] at hq
    cases hq
    have h0 := hP i _ hk
    show H[a]? = some (vp_cell cA (n, .inl g))
    have e : vp_cell cA (n, .inl g) = vp_cell cA (n, .inl f) := by
      rw [vp_cell_i, vp_cell_i]
      exact arrV_congr (fun j hj => by rw [h j hj])
    rw [e]
    exact h0
  · rw [List.getElem?_set_ne (Ne.symm hi)] at hq
    exact hP i q hq
theorem ag_arrD {A : Nat → Prop} {w : va_W} (hD : va_D A w) (k : Nat) {a : Nat} {e0 e : va_E} (hk : w[k]? = some (a, e0)) : va_D A (w.set k (a, e)) := hD.set hk
section AGW
variable {p : Program} {l : Launch} {e : Env} {R : Room} {s : State} {m : MethodId} {args : Array Value} {below : List Frame} {meth : Method} {c : Code} {H : Heap} {locs : List Loc} {cells slots : Nat} {Q : State → Prop}
variable {cc : ByteArray} {pc : Nat} {ls : Array Slot} {rest : List Value} {D : va_G} {A : Nat → Prop} {a : Nat} {cI cC cL : ClassId} {w : va_W} {H0 : Heap}
theorem ag_preS {D : va_G} {av : List Value} {wc : va_W} (hK : va_K D vwCl (ag_T cI cC cL) s) (hN : ag_NZ A s) (hS : va_S A s.heap H locs) (hF : ∀ q, va_A wc H.size q → A q) (hPc : va_P D vwCl wc H) (hDc : va_D A wc) : PreS s H (va_Pc av (ag_In D cI cC cL wc H.size)) av :=
  ⟨ag_In_blind, fun U hU hW => ⟨rfl, by rw [hU], by rw [hU]; exact hPc, va_K.moved hW.alike hK, hDc.weaken (fun _ _ _ _ => trivial), hN.1.warm hW, by rw [hU]; exact ((hN.2.kept (fun a h1 h2 => hS.2.1 a h1 h2)).narrow hF).moved hW.alike⟩⟩
theorem ag_callVi {own : String} {index maxL fr lo nL : Nat} {y : MethodName} {code : ByteArray} {ret : FieldType} {post : Int32 → va_W → Prop} {wc : va_W} {b : Nat} {As : List Value} {q0 ci : Nat} {fs : List Value} {cq : vw_C} {st0 : List Value} {lv : List (Nat × Value)}
    (hx : p.tables.exec = Jvm.exec) (hb : c.code = cc) (hml : c.maxLocals = nL) (hown : s.vm.findClass own = some m.cls) (hG : ∀ w ∈ gW, w.before args s = true) (hK : va_K D vwCl (ag_T cI cC cL) s) (hN : ag_NZ A s) (hA : ∀ q, s.heap.size ≤ q → A q) (hP : va_P D vwCl w H) (hD : va_D A w) (hS : va_S A s.heap H locs) (hl : lv_has ls nL lv)
    (hM : ag_MI l y code maxL ret fr lo D cI cC cL (.ref b :: As) wc post) (hf : ag_fV y code maxL (some ret) As.length) (hlk : Cond.methodLink own index y ∈ gW) {put : va_W → va_W} (hcut : ag_cut w wc put)
    (he : w[q0]? = some (b, .inr (ci, fs))) (hcl : vwCl[ci]? = some cq) (hcq : cq.1 = y.cls) (hst : st0 = As.reverse ++ .ref b :: rest) (hcat : (rest.map fun v => v.category).sum ≤ 8) (hR : fr + 1 ≤ R.frames ∧ 8 + (maxL + 11) + lo ≤ R.locals) (hz : cells ≤ R.cells ∧ slots ≤ R.slots)
    (hdg : decode cc pc = .ok (.invokevirtual index, 3))
    (kk : ∀ (r : Int32) (w1 : va_W) (H1 : Heap) (locs1 : List Loc), post r w1 → va_P D vwCl (put w1) H1 → va_D A (put w1) → va_S A s.heap H1 locs1 → W p l e R s m args below meth c H1 locs1 cells slots Q (F0 m (pc + 3) ls (.int r :: rest))) :
    W p l e R s m args below meth c H locs cells slots Q (F0 m pc ls st0) := by
  subst hst
  obtain ⟨f1, f2, f3, f4, f5, f6, f7⟩ := hf
  obtain ⟨hPc, hDc, hjoin⟩ := hcut D vwCl A H hP hD
  have hFc : ∀ q, va_A wc H.size q → A q := by
    rintro q (⟨k, e, h⟩ | h)
    · exact hDc.2 k _ h
    · exact hA q (Nat.le_trans hS.1 h)
  have hp := ag_preS (av := .ref b :: As) hK hN hS hFc hPc hDc
  refine va_calli (va_runV (As := As) (rest := rest) (C := y.cls) ⟨hx, hb, hml, hown, hG⟩ (hM H.size) ⟨callB_of As.length hG (gW_good f1) rfl rfl rfl (hG _ f4) (hG _ hlk) ⟨f5, f6, f7⟩ hR, hG _ f2, hG _ f3⟩ ⟨hp.1, ?_, hp.2⟩ rfl rfl hl.1 rfl (lv_room hcat) hdg hz) hS (fun q _ h => hFc q h) hFc (fun r u t H1 locs1 ht hvm hw hB hz1 hk1 hS1 => ?_)
  · rw [← hcq]
    exact va_recv hK hP hcl he
  · obtain ⟨hP1, ha⟩ := hB
    rw [ht] at hP1
    obtain ⟨g1, g2⟩ := hjoin H1 u hk1 hP1 ha
    exact kk r u H1 locs1 hw g1 g2 hS1
theorem ag_callVv {own : String} {index maxL fr lo nL : Nat} {y : MethodName} {code : ByteArray} {post : va_W → Prop} {wc : va_W} {b : Nat} {As : List Value} {q0 ci : Nat} {fs : List Value} {cq : vw_C} {st0 : List Value} {lv : List (Nat × Value)}
    (hx : p.tables.exec = Jvm.exec) (hb : c.code = cc) (hml : c.maxLocals = nL) (hown : s.vm.findClass own = some m.cls) (hG : ∀ w ∈ gW, w.before args s = true) (hK : va_K D vwCl (ag_T cI cC cL) s) (hN : ag_NZ A s) (hA : ∀ q, s.heap.size ≤ q → A q) (hP : va_P D vwCl w H) (hD : va_D A w) (hS : va_S A s.heap H locs) (hl : lv_has ls nL lv)
    (hM : ag_MV l y code maxL fr lo D cI cC cL (.ref b :: As) wc post) (hf : ag_fV y code maxL none As.length) (hlk : Cond.methodLink own index y ∈ gW) {put : va_W → va_W} (hcut : ag_cut w wc put)
    (he : w[q0]? = some (b, .inr (ci, fs))) (hcl : vwCl[ci]? = some cq) (hcq : cq.1 = y.cls) (hst : st0 = As.reverse ++ .ref b :: rest) (hcat : (rest.map fun v => v.category).sum ≤ 8) (hR : fr + 1 ≤ R.frames ∧ 8 + (maxL + 11) + lo ≤ R.locals) (hz : cells ≤ R.cells ∧ slots ≤ R.slots)
    (hdg : decode cc pc = .ok (.invokevirtual index, 3))
    (kk : ∀ (w1 : va_W) (H1 : Heap) (locs1 : List Loc), post w1 → va_P D vwCl (put w1) H1 → va_D A (put w1) → va_S A s.heap H1 locs1 → W p l e R s m args below meth c H1 locs1 cells slots Q (F0 m (pc + 3) ls rest)) :
    W p l e R s m args below meth c H locs cells slots Q (F0 m pc ls st0) := by
  subst hst
  obtain ⟨f1, f2, f3, f4, f5, f6, f7⟩ := hf
  obtain ⟨hPc, hDc, hjoin⟩ := hcut D vwCl A H hP hD
  have hFc : ∀ q, va_A wc H.size q → A q := by
    rintro q (⟨k, e, h⟩ | h)
    · exact hDc.2 k _ h
    · exact hA q (Nat.le_trans hS.1 h)
  have hp := ag_preS (av := .ref b :: As) hK hN hS hFc hPc hDc
  refine va_callv (va_runV (As := As) (rest := rest) (C := y.cls) ⟨hx, hb, hml, hown, hG⟩ (hM H.size) ⟨callB_of As.length hG (gW_good f1) rfl rfl rfl (hG _ f4) (hG _ hlk) ⟨f5, f6, f7⟩ hR, hG _ f2, hG _ f3⟩ ⟨hp.1, ?_, hp.2⟩ rfl rfl hl.1 rfl (lv_room hcat) hdg hz) hS (fun q _ h => hFc q h) hFc (fun u t H1 locs1 ht hvm hw hB hz1 hk1 hS1 => ?_)
  · rw [← hcq]
    exact va_recv hK hP hcl he
  · obtain ⟨hP1, ha⟩ := hB
    rw [ht] at hP1
    obtain ⟨g1, g2⟩ := hjoin H1 u hk1 hP1 ha
    exact kk u H1 locs1 hw g1 g2 hS1
theorem ag_callSi {own : String} {index maxL fr lo nL : Nat} {y : MethodName} {code : ByteArray} {ret : FieldType} {post : Int32 → va_W → Prop} {wc : va_W} {As : List Value} {st0 : List Value} {lv : List (Nat × Value)}
    (hx : p.tables.exec = Jvm.exec) (hb : c.code = cc) (hml : c.maxLocals = nL) (hown : s.vm.findClass own = some m.cls) (hG : ∀ w ∈ gW, w.before args s = true) (hK : va_K D vwCl (ag_T cI cC cL) s) (hN : ag_NZ A s) (hA : ∀ q, s.heap.size ≤ q → A q) (hP : va_P D vwCl w H) (hD : va_D A w) (hS : va_S A s.heap H locs) (hl : lv_has ls nL lv)
    (hM : ag_MI l y code maxL ret fr lo D cI cC cL As wc post) (hf : ag_fS y code maxL (some ret) As.length) (hlk : Cond.methodLink own index y ∈ gW) {put : va_W → va_W} (hcut : ag_cut w wc put)
    (hst : st0 = As.reverse ++ rest) (hcat : (rest.map fun v => v.category).sum ≤ 8) (hR : fr + 1 ≤ R.frames ∧ 8 + (maxL + 11) + lo ≤ R.locals) (hz : cells ≤ R.cells ∧ slots ≤ R.slots)
    (hdg : decode cc pc = .ok (.invokestatic index, 3))
    (kk : ∀ (r : Int32) (w1 : va_W) (H1 : Heap) (locs1 : List Loc), post r w1 → va_P D vwCl (put w1) H1 → va_D A (put w1) → va_S A s.heap H1 locs1 → W p l e R s m args below meth c H1 locs1 cells slots Q (F0 m (pc + 3) ls (.int r :: rest))) :
    W p l e R s m args below meth c H locs cells slots Q (F0 m pc ls st0) := by
  subst hst
  obtain ⟨f1, f2, f4, f5, f6, f7⟩ := hf
  obtain ⟨hPc, hDc, hjoin⟩ := hcut D vwCl A H hP hD
  have hFc : ∀ q, va_A wc H.size q → A q := by
    rintro q (⟨k, e, h⟩ | h)
    · exact hDc.2 k _ h
    · exact hA q (Nat.le_trans hS.1 h)
  have hp := ag_preS (av := As) hK hN hS hFc hPc hDc
  refine va_calli (va_runS (As := As) (rest := rest) ⟨hx, hb, hml, hown, hG⟩ (hM H.size) ⟨callB_of As.length hG (gW_good f1) rfl rfl rfl (hG _ f4) (hG _ hlk) ⟨f5, f6, f7⟩ hR, hG _ f2⟩ hp rfl rfl hl.1 rfl (lv_room hcat) hdg hz) hS (fun q _ h => hFc q h) hFc (fun r u t H1 locs1 ht hvm hw hB hz1 hk1 hS1 => ?_)
  obtain ⟨hP1, ha⟩ := hB
  rw [ht] at hP1
  obtain ⟨g1, g2⟩ := hjoin H1 u hk1 hP1 ha
  exact kk r u H1 locs1 hw g1 g2 hS1
theorem ag_callSv {own : String} {index maxL fr lo nL : Nat} {y : MethodName} {code : ByteArray} {post : va_W → Prop} {wc : va_W} {As : List Value} {st0 : List Value} {lv : List (Nat × Value)}
    (hx : p.tables.exec = Jvm.exec) (hb : c.code = cc) (hml : c.maxLocals = nL) (hown : s.vm.findClass own = some m.cls) (hG : ∀ w ∈ gW, w.before args s = true) (hK : va_K D vwCl (ag_T cI cC cL) s) (hN : ag_NZ A s) (hA : ∀ q, s.heap.size ≤ q → A q) (hP : va_P D vwCl w H) (hD : va_D A w) (hS : va_S A s.heap H locs) (hl : lv_has ls nL lv)
    (hM : ag_MV l y code maxL fr lo D cI cC cL As wc post) (hf : ag_fS y code maxL none As.length) (hlk : Cond.methodLink own index y ∈ gW) {put : va_W → va_W} (hcut : ag_cut w wc put)
    (hst : st0 = As.reverse ++ rest) (hcat : (rest.map fun v => v.category).sum ≤ 8) (hR : fr + 1 ≤ R.frames ∧ 8 + (maxL + 11) + lo ≤ R.locals) (hz : cells ≤ R.cells ∧ slots ≤ R.slots)
    (hdg : decode cc pc = .ok (.invokestatic index, 3))
    (kk : ∀ (w1 : va_W) (H1 : Heap) (locs1 : List Loc), post w1 → va_P D vwCl (put w1) H1 → va_D A (put w1) → va_S A s.heap H1 locs1 → W p l e R s m args below meth c H1 locs1 cells slots Q (F0 m (pc + 3) ls rest)) :
    W p l e R s m args below meth c H locs cells slots Q (F0 m pc ls st0) := by
  subst hst
  obtain ⟨f1, f2, f4, f5, f6, f7⟩ := hf
  obtain ⟨hPc, hDc, hjoin⟩ := hcut D vwCl A H hP hD
  have hFc : ∀ q, va_A wc H.size q → A q := by
    rintro q (⟨k, e, h⟩ | h)
    · exact hDc.2 k _ h
    · exact hA q (Nat.le_trans hS.1 h)
  have hp := ag_preS (av := As) hK hN hS hFc hPc hDc
  refine va_callv (va_runS (As := As) (rest := rest) ⟨hx, hb, hml, hown, hG⟩ (hM H.size) ⟨callB_of As.length hG (gW_good f1) rfl rfl rfl (hG _ f4) (hG _ hlk) ⟨f5, f6, f7⟩ hR, hG _ f2⟩ hp rfl rfl hl.1 rfl (lv_room hcat) hdg hz) hS (fun q _ h => hFc q h) hFc (fun u t H1 locs1 ht hvm hw hB hz1 hk1 hS1 => ?_)
  obtain ⟨hP1, ha⟩ := hB
  rw [ht] at hP1
  obtain ⟨g1, g2⟩ := hjoin H1 u hk1 hP1 ha
  exact kk u H1 locs1 hw g1 g2 hS1
/-- a static method of a nest mate -/
theorem ag_callNi {own host : String} {index maxL fr lo nL : Nat} {y : MethodName} {code : ByteArray} {ret : FieldType} {post : Int32 → va_W → Prop} {wc : va_W} {As : List Value} {st0 : List Value} {lv : List (Nat × Value)}
    (hx : p.tables.exec = Jvm.exec) (hb : c.code = cc) (hml : c.maxLocals = nL) (hown : s.vm.findClass own = some m.cls) (hG : ∀ w ∈ gW, w.before args s = true) (hK : va_K D vwCl (ag_T cI cC cL) s) (hN : ag_NZ A s) (hA : ∀ q, s.heap.size ≤ q → A q) (hP : va_P D vwCl w H) (hD : va_D A w) (hS : va_S A s.heap H locs) (hl : lv_has ls nL lv)
    (hM : ag_MI l y code maxL ret fr lo D cI cC cL As wc post) (hf : ag_fS y code maxL (some ret) As.length) (hlk : va_Nw (.methodLinkNest own index y host) s) {put : va_W → va_W} (hcut : ag_cut w wc put)
    (hst : st0 = As.reverse ++ rest) (hcat : (rest.map fun v => v.category).sum ≤ 8) (hR : fr + 1 ≤ R.frames ∧ 8 + (maxL + 11) + lo ≤ R.locals) (hz : cells ≤ R.cells ∧ slots ≤ R.slots)
    (hdg : decode cc pc = .ok (.invokestatic index, 3))
    (kk : ∀ (r : Int32) (w1 : va_W) (H1 : Heap) (locs1 : List Loc), post r w1 → va_P D vwCl (put w1) H1 → va_D A (put w1) → va_S A s.heap H1 locs1 → W p l e R s m args below meth c H1 locs1 cells slots Q (F0 m (pc + 3) ls (.int r :: rest))) :
    W p l e R s m args below meth c H locs cells slots Q (F0 m pc ls st0) := by
  subst hst
  obtain ⟨f1, f2, f4, f5, f6, f7⟩ := hf
  obtain ⟨hPc, hDc, hjoin⟩ := hcut D vwCl A H hP hD
  have hFc : ∀ q, va_A wc H.size q → A q := by
    rintro q (⟨k, e, h⟩ | h)
    · exact hDc.2 k _ h
    · exact hA q (Nat.le_trans hS.1 h)
  have hp := ag_preS (av := As) hK hN hS hFc hPc hDc
  refine va_calli (va_runSN (As := As) (rest := rest) ⟨hx, hb, hml, hown, hG⟩ (hM H.size) ⟨va_cnB As.length hG (gW_good f1) rfl rfl rfl hlk (hG _ f4) ⟨f5, f6, f7⟩ hR, hG _ f2, trivial⟩ hp rfl rfl hl.1 rfl (lv_room hcat) hdg hz) hS (fun q _ h => hFc q h) hFc (fun r u t H1 locs1 ht hvm hw hB hz1 hk1 hS1 => ?_)
  obtain ⟨hP1, ha⟩ := hB
  rw [ht] at hP1
  obtain ⟨g1, g2⟩ := hjoin H1 u hk1 hP1 ha
  exact kk r u H1 locs1 hw g1 g2 hS1
/-- a method's end -/
theorem ag_iret {w0 w' : va_W} (as : List Nat) {post : Int32 → va_W → Prop} {r : Int32} {ty : FieldType} (hx : p.tables.exec = Jvm.exec) (hb : c.code = cc) (hr : meth.sig.returnType = some ty) (hn : narrow ty (.int r) = .int r) (hlocks : meth.locks = false) (hP : va_P D vwCl w' H) (hS : va_S A s.heap H locs) (ha : w'.map Prod.fst = as) (ha2 : w0.map Prod.fst = as) (hpost : post r w') (hdg : decode cc pc = .ok (.ireturn, 1)) :
    W p l e R s m args below meth c H locs 0 0 (MQ below (va_Qi post (ag_Out D w0) A) args s 0 0 A) (F0 m pc ls [.int r]) :=
  W.zret hx hb hr hn (fun t ht hW => ⟨⟨r, w', rfl, hpost, by rw [ht]; exact hP, ha.trans ha2.symm⟩, hS.F ht⟩) hS.2.2 hdg hlocks
theorem ag_vret {w0 w' : va_W} (as : List Nat) {post : va_W → Prop} (hx : p.tables.exec = Jvm.exec) (hb : c.code = cc) (hr : meth.sig.returnType = none) (hlocks : meth.locks = false) (hP : va_P D vwCl w' H) (hS : va_S A s.heap H locs) (ha : w'.map Prod.fst = as) (ha2 : w0.map Prod.fst = as) (hpost : post w') (hdg : decode cc pc = .ok (.return_, 1)) :
    W p l e R s m args below meth c H locs 0 0 (MQ below (va_Qv post (ag_Out D w0) A) args s 0 0 A) (F0 m pc ls []) :=
  W.vret hx hb hr (fun t ht hW => ⟨⟨w', rfl, hpost, by rw [ht]; exact hP, ha.trans ha2.symm⟩, hS.F ht⟩) hS.2.2 hdg hlocks
end AGW
/-- a method's beginning: its body, from its entry, over what its start gives -/
def ag_Body (l : Launch) (own : String) (cc : ByteArray) (maxL : Nat) (ret : Option FieldType) (nm : String) (R : Room) (D : va_G) (cI cC cL : ClassId) (av : List Value) (w : va_W) (Qx : (Nat → Prop) → Array Value → State → Outcome → State → Prop) (mc ms : Nat) : Prop :=
  ∀ (p : Program) (e : Env) (s : State) (m : MethodId) (below : List Frame) (meth : Method) (c : Code), p.tables.exec = Jvm.exec → c.code = cc → meth.sig.returnType = ret → meth.locks = false → c.maxLocals = maxL → s.vm.findClass own = some m.cls → meth.name = nm →
    (∀ w ∈ gW, w.before av.toArray s = true) → va_K D vwCl (ag_T cI cC cL) s →
    ∀ A : Nat → Prop, ag_NZ A s → (∀ q, s.heap.size ≤ q → A q) → ∀ (H : Heap) (locs : List Loc), va_P D vwCl w H → va_D A w → va_S A s.heap H locs →
    ∀ ls : Array Slot, lv_has ls maxL (lv_args 0 av) → W p l e R s m av.toArray below meth c H locs 0 0 (MQ below (Qx A) av.toArray s mc ms A) (F0 m 0 ls [])
theorem ag_ofW {l : Launch} {y : MethodName} {ws ws' : List Cond} {rm : Room} {Pc : Array Value → State → Prop} {Qc : Array Value → State → Outcome → State → Prop} {mc ms : Nat} {free : Addr → Prop} {cc : ByteArray} {maxL : Nat} {ret : Option FieldType}
    (hy : plainFor y = true) (hw : ws = Cond.code y cc maxL ret :: ws')
    (body : ∀ p e s m args below meth c s₁, BodyLoose p l y (headSpec ws rm) cc maxL ret e s m args below meth c s₁ → c.maxLocals = maxL → Pc args s →
      W p l e (headSpec ws rm).room s m args below meth c s.heap [] 0 0 (MQ below Qc args s mc ms free) (entryFrame m args maxL)) : Met l y ws rm Pc Qc mc ms free := by
  refine MetFree.of_bodySF (code := cc) (maxLocals := maxL) (ret := ret) hy ?_ ?_
  · intro args s m h hn
    obtain ⟨meth, c, h1, h2, h3, h4, h5, h6, -, -⟩ := Cond.code_spec hn (atoms_spec (ws := ws) h _ (by rw [hw]; exact List.mem_cons_self))
    exact ⟨meth, c, h1, h2, h3, h4, h5, h6⟩
  · intro p e s m args below meth c s₁ B hml hP _
    have hh0 : s₁.heap = s.heap := by rw [B.state]; rfl
    obtain ⟨t, a1, o, b1, b2, b3⟩ := body p e s m args below meth c s₁ B hml hP s₁ hh0 (Stand.of_body B)
    exact ⟨t, o, a1, b1, b2, ⟨b3.1, b3.2⟩⟩
theorem ag_body {l : Launch} {y : MethodName} {cc : ByteArray} {maxL : Nat} {ret : Option FieldType} {rm : Room} {D : va_G} {cI cC cL : ClassId} {av : List Value} {w : va_W} {Qx : (Nat → Prop) → Array Value → State → Outcome → State → Prop} {mc ms sz : Nat} (hy : plainFor y = true) (hav : (lg_sl av).length ≤ maxL)
    (h : ag_Body l y.cls cc maxL ret y.name rm D cI cC cL av w Qx mc ms) : Met l y (.code y cc maxL ret :: gW) rm (va_Pc av (ag_In D cI cC cL w sz)) (Qx (va_A w sz)) mc ms (va_A w sz) := by
  refine ag_ofW (cc := cc) (maxL := maxL) (ret := ret) hy rfl ?_
  intro p e s m args below meth c s₁ B hml hv
  obtain ⟨rfl, hsz, hP, hK, hD0, hN, hZ⟩ := hv
  have hts := atoms_spec (ws := .code y cc maxL ret :: gW) B.pre
  subst hsz
  have hl := lv_entry av (n := maxL) hav
  rw [lg_entry_eq]
  exact h p e s m below meth c B.exec B.bytes B.returns B.notSynchronized hml (findClass_of_methodNamed B.named) (name_of_methodNamed B.named B.method).1 (fun w hw => hts w (List.mem_cons_of_mem _ hw)) hK _ ⟨hN, hZ⟩ (fun q hq => Or.inr hq) _ _ hP hD0.self va_S.rf _ hl
theorem ag_MI.of {l : Launch} {y : MethodName} {cc : ByteArray} {maxL : Nat} {ret : FieldType} {fr lo : Nat} {D : va_G} {cI cC cL : ClassId} {av : List Value} {w : va_W} {post : Int32 → va_W → Prop} (hy : plainFor y = true) (hav : (lg_sl av).length ≤ maxL)
    (h : ag_Body l y.cls cc maxL (some ret) y.name (ag_rm fr lo) D cI cC cL av w (fun A => va_Qi post (ag_Out D w) A) 0 0) : ag_MI l y cc maxL ret fr lo D cI cC cL av w post := fun _ => ag_body hy hav h
theorem ag_MV.of {l : Launch} {y : MethodName} {cc : ByteArray} {maxL : Nat} {fr lo : Nat} {D : va_G} {cI cC cL : ClassId} {av : List Value} {w : va_W} {post : va_W → Prop} (hy : plainFor y = true) (hav : (lg_sl av).length ≤ maxL)
    (h : ag_Body l y.cls cc maxL none y.name (ag_rm fr lo) D cI cC cL av w (fun A => va_Qv post (ag_Out D w) A) 0 0) : ag_MV l y cc maxL fr lo D cI cC cL av w post := fun _ => ag_body hy hav h
end
section
/-! the cells, by functions of their numbers; the rows of fields and arrays -/
abbrev oL (h a b c : Nat) (f : Nat → Int32) : Nat × va_E := (h, .inr (1, [.int (f 0), .int (f 1), .int (f 2), .int (f 3), .int (f 4), .int (f 5), .int (f 6), .int (f 7), .ref a, .ref b, .ref c]))
abbrev oK (h : Nat) (f : Nat → Int32) : Nat × va_E := (h, .inr (4, [.int (f 0), .int (f 1), .int (f 2), .int (f 3), .int (f 4), .int (f 5), .int (f 6)]))
abbrev oH (h a : Nat) (f : Nat → Int32) : Nat × va_E := (h, .inr (0, [.ref a, .int (f 0), .int (f 1)]))
abbrev oT (h a : Nat) (f : Nat → Int32) : Nat × va_E := (h, .inr (3, [.ref a, .int (f 0), .int (f 1), .int (f 2), .int (f 3), .int (f 4)]))
abbrev oP (h : Nat) (f : Nat → Int32) : Nat × va_E := (h, .inr (2, [.int (f 0), .int (f 1), .int (f 2), .int (f 3)]))
abbrev oX (h a b c d e g : Nat) : Nat × va_E := (h, .inr (5, [.ref a, .ref b, .ref c, .ref d, .ref e, .ref g]))
abbrev aI (cI : ClassId) (a n : Nat) (f : Nat → Int32) : Nat × va_E := (a, .inl (cI, n, .inl f))
abbrev aC (cC : ClassId) (a n : Nat) (f : Nat → Int32) : Nat × va_E := (a, .inl (cC, n, .inl f))
abbrev aL (cL : ClassId) (a : Nat) (g : Nat → Option Nat) : Nat × va_E := (a, .inl (cL, 4, .inr (.inr (.inr (.inr g)))))
def ag_abs (x : Int32) : Int32 := if 0 ≤ x then x else 0 - x
def ag_max (x y : Int32) : Int32 := if x < y then y else x
def ag_min (x y : Int32) : Int32 := if y < x then y else x
theorem ownX0 : ∀ k, k < 3 → (TX0 k).1 = RX0 := by decide +kernel
theorem ownX1 : ∀ k, k < 11 → (TX1 k).1 = RX1 := by decide +kernel
theorem ownX2 : ∀ k, k < 4 → (TX2 k).1 = RX2 := by decide +kernel
theorem ownX3 : ∀ k, k < 6 → (TX3 k).1 = RX3 := by decide +kernel
theorem ownX4 : ∀ k, k < 7 → (TX4 k).1 = RX4 := by decide +kernel
theorem ownX5 : ∀ k, k < 6 → (TX5 k).1 = RX5 := by decide +kernel
section AGF
variable {p : Program} {l : Launch} {e : Env} {R : Room} {s : State} {m : MethodId} {args : Array Value} {below : List Frame} {meth : Method} {c : Code} {H : Heap} {locs : List Loc} {cells slots : Nat} {Q : State → Prop}
variable {cc : ByteArray} {pc : Nat} {ls : Array Slot} {rest : List Value} {D : va_G} {A : Nat → Prop} {a : Nat} {cI cC cL : ClassId} {w : va_W} {H0 : Heap}
theorem ag_getX0 (hx : p.tables.exec = Jvm.exec) (hb : c.code = cc) (hG : ∀ w ∈ gW, w.before args s = true) {own : String} {index : Nat} {fs : List Value} {v : Value} (hown : s.vm.findClass own = some m.cls) (hK : va_K D vwCl (ag_T cI cC cL) s) (hP : va_P D vwCl w H) (q0 k : Nat) (he : w[q0]? = some (a, .inr (0, fs))) (hk : k < 3) (hlk : Cond.fieldLink own index RX0 (TX0 k).2.1 (TX0 k).2.2.1 ∈ gW) (hv : fs[k]? = some v) (hdg : decode cc pc = .ok (.getfield index, 3))
    (kk : W p l e R s m args below meth c H locs cells slots Q (F0 m (pc + 3) ls (v :: rest))) : W p l e R s m args below meth c H locs cells slots Q (F0 m pc ls (.ref a :: rest)) :=
  va_get (T := TX0) (N := 3) hx hb hG inX0 hown hK hP q0 he rfl k hk (hG _ hlk) (fun x h => (ownX0 k hk) ▸ h) hv hdg kk
theorem ag_putX0 (hx : p.tables.exec = Jvm.exec) (hb : c.code = cc) (hG : ∀ w ∈ gW, w.before args s = true) {own : String} {index : Nat} {fs : List Value} {v : Value} (hown : s.vm.findClass own = some m.cls) (hK : va_K D vwCl (ag_T cI cC cL) s) (hP : va_P D vwCl w H) (hD : va_D A w) (hS : va_S A H0 H locs) (q0 k : Nat) (he : w[q0]? = some (a, .inr (0, fs))) (hk : k < 3) (hlk : Cond.fieldLink own index RX0 (TX0 k).2.1 (TX0 k).2.2.1 ∈ gW) (hfin : (TX0 k).2.2.2 = false) (hn : narrow (tyX0 k) v = v) (hfit : fits (tyX0 k) v = true) (hl : k < fs.length) (hdg : decode cc pc = .ok (.putfield index, 3))
    (kk : ∀ (H1 : Heap) (locs1 : List Loc), va_P D vwCl (w.set q0 (a, .inr (0, fs.set k v))) H1 → va_D A (w.set q0 (a, .inr (0, fs.set k v))) → va_S A H0 H1 locs1 → W p l e R s m args below meth c H1 locs1 cells slots Q (F0 m (pc + 3) ls rest)) : W p l e R s m args below meth c H locs cells slots Q (F0 m pc ls (v :: .ref a :: rest)) :=
  va_put (T := TX0) (N := 3) hx hb hG inX0 tyX0 tyX0_ok nmX0 hown hK hP hD hS q0 he rfl k hk (hG _ hlk) (fun x h => (ownX0 k hk) ▸ h) hfin (tyX0_ok k hk) hn hfit hl hdg kk
theorem ag_getX1 (hx : p.tables.exec = Jvm.exec) (hb : c.code = cc) (hG : ∀ w ∈ gW, w.before args s = true) {own : String} {index : Nat} {fs : List Value} {v : Value} (hown : s.vm.findClass own = some m.cls) (hK : va_K D vwCl (ag_T cI cC cL) s) (hP : va_P D vwCl w H) (q0 k : Nat) (he : w[q0]? = some (a, .inr (1, fs))) (hk : k < 11) (hlk : Cond.fieldLink own index RX1 (TX1 k).2.1 (TX1 k).2.2.1 ∈ gW) (hv : fs[k]? = some v) (hdg : decode cc pc = .ok (.getfield index, 3))
    (kk : W p l e R s m args below meth c H locs cells slots Q (F0 m (pc + 3) ls (v :: rest))) : W p l e R s m args below meth c H locs cells slots Q (F0 m pc ls (.ref a :: rest)) :=
  va_get (T := TX1) (N := 11) hx hb hG inX1 hown hK hP q0 he rfl k hk (hG _ hlk) (fun x h => (ownX1 k hk) ▸ h) hv hdg kk
theorem ag_putX1 (hx : p.tables.exec = Jvm.exec) (hb : c.code = cc) (hG : ∀ w ∈ gW, w.before args s = true) {own : String} {index : Nat} {fs : List Value} {v : Value} (hown : s.vm.findClass own = some m.cls) (hK : va_K D vwCl (ag_T cI cC cL) s) (hP : va_P D vwCl w H) (hD : va_D A w) (hS : va_S A H0 H locs) (q0 k : Nat) (he : w[q0]? = some (a, .inr (1, fs))) (hk : k < 11) (hlk : Cond.fieldLink own index RX1 (TX1 k).2.1 (TX1 k).2.2.1 ∈ gW) (hfin : (TX1 k).2.2.2 = false) (hn : narrow (tyX1 k) v = v) (hfit : fits (tyX1 k) v = true) (hl : k < fs.length) (hdg : decode cc pc = .ok (.putfield index, 3))
    (kk : ∀ (H1 : Heap) (locs1 : List Loc), va_P D vwCl (w.set q0 (a, .inr (1, fs.set k v))) H1 → va_D A (w.set q0 (a, .inr (1, fs.set k v))) → va_S A H0 H1 locs1 → W p l e R s m args below meth c H1 locs1 cells slots Q (F0 m (pc + 3) ls rest)) : W p l e R s m args below meth c H locs cells slots Q (F0 m pc ls (v :: .ref a :: rest)) :=
  va_put (T := TX1) (N := 11) hx hb hG inX1 tyX1 tyX1_ok nmX1 hown hK hP hD hS q0 he rfl k hk (hG _ hlk) (fun x h => (ownX1 k hk) ▸ h) hfin (tyX1_ok k hk) hn hfit hl hdg kk
theorem ag_getX2 (hx : p.tables.exec = Jvm.exec) (hb : c.code = cc) (hG : ∀ w ∈ gW, w.before args s = true) {own : String} {index : Nat} {fs : List Value} {v : Value} (hown : s.vm.findClass own = some m.cls) (hK : va_K D vwCl (ag_T cI cC cL) s) (hP : va_P D vwCl w H) (q0 k : Nat) (he : w[q0]? = some (a, .inr (2, fs))) (hk : k < 4) (hlk : Cond.fieldLink own index RX2 (TX2 k).2.1 (TX2 k).2.2.1 ∈ gW) (hv : fs[k]? = some v) (hdg : decode cc pc = .ok (.getfield index, 3))
    (kk : W p l e R s m args below meth c H locs cells slots Q (F0 m (pc + 3) ls (v :: rest))) : W p l e R s m args below meth c H locs cells slots Q (F0 m pc ls (.ref a :: rest)) :=
  va_get (T := TX2) (N := 4) hx hb hG inX2 hown hK hP q0 he rfl k hk (hG _ hlk) (fun x h => (ownX2 k hk) ▸ h) hv hdg kk
theorem ag_putX2 (hx : p.tables.exec = Jvm.exec) (hb : c.code = cc) (hG : ∀ w ∈ gW, w.before args s = true) {own : String} {index : Nat} {fs : List Value} {v : Value} (hown : s.vm.findClass own = some m.cls) (hK : va_K D vwCl (ag_T cI cC cL) s) (hP : va_P D vwCl w H) (hD : va_D A w) (hS : va_S A H0 H locs) (q0 k : Nat) (he : w[q0]? = some (a, .inr (2, fs))) (hk : k < 4) (hlk : Cond.fieldLink own index RX2 (TX2 k).2.1 (TX2 k).2.2.1 ∈ gW) (hfin : (TX2 k).2.2.2 = false) (hn : narrow (tyX2 k) v = v) (hfit : fits (tyX2 k) v = true) (hl : k < fs.length) (hdg : decode cc pc = .ok (.putfield index, 3))
    (kk : ∀ (H1 : Heap) (locs1 : List Loc), va_P D vwCl (w.set q0 (a, .inr (2, fs.set k v))) H1 → va_D A (w.set q0 (a, .inr (2, fs.set k v))) → va_S A H0 H1 locs1 → W p l e R s m args below meth c H1 locs1 cells slots Q (F0 m (pc + 3) ls rest)) : W p l e R s m args below meth c H locs cells slots Q (F0 m pc ls (v :: .ref a :: rest)) :=
  va_put (T := TX2) (N := 4) hx hb hG inX2 tyX2 tyX2_ok nmX2 hown hK hP hD hS q0 he rfl k hk (hG _ hlk) (fun x h => (ownX2 k hk) ▸ h) hfin (tyX2_ok k hk) hn hfit hl hdg kk
theorem ag_getX3 (hx : p.tables.exec = Jvm.exec) (hb : c.code = cc) (hG : ∀ w ∈ gW, w.before args s = true) {own : String} {index : Nat} {fs : List Value} {v : Value} (hown : s.vm.findClass own = some m.cls) (hK : va_K D vwCl (ag_T cI cC cL) s) (hP : va_P D vwCl w H) (q0 k : Nat) (he : w[q0]? = some (a, .inr (3, fs))) (hk : k < 6) (hlk : Cond.fieldLink own index RX3 (TX3 k).2.1 (TX3 k).2.2.1 ∈ gW) (hv : fs[k]? = some v) (hdg : decode cc pc = .ok (.getfield index, 3))
    (kk : W p l e R s m args below meth c H locs cells slots Q (F0 m (pc + 3) ls (v :: rest))) : W p l e R s m args below meth c H locs cells slots Q (F0 m pc ls (.ref a :: rest)) :=
  va_get (T := TX3) (N := 6) hx hb hG inX3 hown hK hP q0 he rfl k hk (hG _ hlk) (fun x h => (ownX3 k hk) ▸ h) hv hdg kk
theorem ag_putX3 (hx : p.tables.exec = Jvm.exec) (hb : c.code = cc) (hG : ∀ w ∈ gW, w.before args s = true) {own : String} {index : Nat} {fs : List Value} {v : Value} (hown : s.vm.findClass own = some m.cls) (hK : va_K D vwCl (ag_T cI cC cL) s) (hP : va_P D vwCl w H) (hD : va_D A w) (hS : va_S A H0 H locs) (q0 k : Nat) (he : w[q0]? = some (a, .inr (3, fs))) (hk : k < 6) (hlk : Cond.fieldLink own index RX3 (TX3 k).2.1 (TX3 k).2.2.1 ∈ gW) (hfin : (TX3 k).2.2.2 = false) (hn : narrow (tyX3 k) v = v) (hfit : fits (tyX3 k) v = true) (hl : k < fs.length) (hdg : decode cc pc = .ok (.putfield index, 3))
    (kk : ∀ (H1 : Heap) (locs1 : List Loc), va_P D vwCl (w.set q0 (a, .inr (3, fs.set k v))) H1 → va_D A (w.set q0 (a, .inr (3, fs.set k v))) → va_S A H0 H1 locs1 → W p l e R s m args below meth c H1 locs1 cells slots Q (F0 m (pc + 3) ls rest)) : W p l e R s m args below meth c H locs cells slots Q (F0 m pc ls (v :: .ref a :: rest)) :=
  va_put (T := TX3) (N := 6) hx hb hG inX3 tyX3 tyX3_ok nmX3 hown hK hP hD hS q0 he rfl k hk (hG _ hlk) (fun x h => (ownX3 k hk) ▸ h) hfin (tyX3_ok k hk) hn hfit hl hdg kk
theorem ag_getX4 (hx : p.tables.exec = Jvm.exec) (hb : c.code = cc) (hG : ∀ w ∈ gW, w.before args s = true) {own : String} {index : Nat} {fs : List Value} {v : Value} (hown : s.vm.findClass own = some m.cls) (hK : va_K D vwCl (ag_T cI cC cL) s) (hP : va_P D vwCl w H) (q0 k : Nat) (he : w[q0]? = some (a, .inr (4, fs))) (hk : k < 7) (hlk : Cond.fieldLink own index RX4 (TX4 k).2.1 (TX4 k).2.2.1 ∈ gW) (hv : fs[k]? = some v) (hdg : decode cc pc = .ok (.getfield index, 3))
    (kk : W p l e R s m args below meth c H locs cells slots Q (F0 m (pc + 3) ls (v :: rest))) : W p l e R s m args below meth c H locs cells slots Q (F0 m pc ls (.ref a :: rest)) :=
  va_get (T := TX4) (N := 7) hx hb hG inX4 hown hK hP q0 he rfl k hk (hG _ hlk) (fun x h => (ownX4 k hk) ▸ h) hv hdg kk
theorem ag_putX4 (hx : p.tables.exec = Jvm.exec) (hb : c.code = cc) (hG : ∀ w ∈ gW, w.before args s = true) {own : String} {index : Nat} {fs : List Value} {v : Value} (hown : s.vm.findClass own = some m.cls) (hK : va_K D vwCl (ag_T cI cC cL) s) (hP : va_P D vwCl w H) (hD : va_D A w) (hS : va_S A H0 H locs) (q0 k : Nat) (he : w[q0]? = some (a, .inr (4, fs))) (hk : k < 7) (hlk : Cond.fieldLink own index RX4 (TX4 k).2.1 (TX4 k).2.2.1 ∈ gW) (hfin : (TX4 k).2.2.2 = false) (hn : narrow (tyX4 k) v = v) (hfit : fits (tyX4 k) v = true) (hl : k < fs.length) (hdg : decode cc pc = .ok (.putfield index, 3))
    (kk : ∀ (H1 : Heap) (locs1 : List Loc), va_P D vwCl (w.set q0 (a, .inr (4, fs.set k v))) H1 → va_D A (w.set q0 (a, .inr (4, fs.set k v))) → va_S A H0 H1 locs1 → W p l e R s m args below meth c H1 locs1 cells slots Q (F0 m (pc + 3) ls rest)) : W p l e R s m args below meth c H locs cells slots Q (F0 m pc ls (v :: .ref a :: rest)) :=
  va_put (T := TX4) (N := 7) hx hb hG inX4 tyX4 tyX4_ok nmX4 hown hK hP hD hS q0 he rfl k hk (hG _ hlk) (fun x h => (ownX4 k hk) ▸ h) hfin (tyX4_ok k hk) hn hfit hl hdg kk
theorem ag_getX5 (hx : p.tables.exec = Jvm.exec) (hb : c.code = cc) (hG : ∀ w ∈ gW, w.before args s = true) {own : String} {index : Nat} {fs : List Value} {v : Value} (hown : s.vm.findClass own = some m.cls) (hK : va_K D vwCl (ag_T cI cC cL) s) (hP : va_P D vwCl w H) (q0 k : Nat) (he : w[q0]? = some (a, .inr (5, fs))) (hk : k < 6) (hlk : Cond.fieldLink own index RX5 (TX5 k).2.1 (TX5 k).2.2.1 ∈ gW) (hv : fs[k]? = some v) (hdg : decode cc pc = .ok (.getfield index, 3))
    (kk : W p l e R s m args below meth c H locs cells slots Q (F0 m (pc + 3) ls (v :: rest))) : W p l e R s m args below meth c H locs cells slots Q (F0 m pc ls (.ref a :: rest)) :=
  va_get (T := TX5) (N := 6) hx hb hG inX5 hown hK hP q0 he rfl k hk (hG _ hlk) (fun x h => (ownX5 k hk) ▸ h) hv hdg kk
theorem ag_putX5 (hx : p.tables.exec = Jvm.exec) (hb : c.code = cc) (hG : ∀ w ∈ gW, w.before args s = true) {own : String} {index : Nat} {fs : List Value} {v : Value} (hown : s.vm.findClass own = some m.cls) (hK : va_K D vwCl (ag_T cI cC cL) s) (hP : va_P D vwCl w H) (hD : va_D A w) (hS : va_S A H0 H locs) (q0 k : Nat) (he : w[q0]? = some (a, .inr (5, fs))) (hk : k < 6) (hlk : Cond.fieldLink own index RX5 (TX5 k).2.1 (TX5 k).2.2.1 ∈ gW) (hfin : (TX5 k).2.2.2 = false) (hn : narrow (tyX5 k) v = v) (hfit : fits (tyX5 k) v = true) (hl : k < fs.length) (hdg : decode cc pc = .ok (.putfield index, 3))
    (kk : ∀ (H1 : Heap) (locs1 : List Loc), va_P D vwCl (w.set q0 (a, .inr (5, fs.set k v))) H1 → va_D A (w.set q0 (a, .inr (5, fs.set k v))) → va_S A H0 H1 locs1 → W p l e R s m args below meth c H1 locs1 cells slots Q (F0 m (pc + 3) ls rest)) : W p l e R s m args below meth c H locs cells slots Q (F0 m pc ls (v :: .ref a :: rest)) :=
  va_put (T := TX5) (N := 6) hx hb hG inX5 tyX5 tyX5_ok nmX5 hown hK hP hD hS q0 he rfl k hk (hG _ hlk) (fun x h => (ownX5 k hk) ▸ h) hfin (tyX5_ok k hk) hn hfit hl hdg kk
theorem ag_ild (hx : p.tables.exec = Jvm.exec) (hb : c.code = cc) (hK : va_K D vwCl (ag_T cI cC cL) s) (hP : va_P D vwCl w H) {k n : Nat} {f : Nat → Int32} {v i : Int32} (q0 : Nat) (ha : w[q0]? = some (a, .inl (cI, n, .inl f))) (hi : i = nI k) (hk : k < n) (hn : n < 2 ^ 31) (hv : f k = v) (hdg : decode cc pc = .ok (.iaload, 1))
    (kk : W p l e R s m args below meth c H locs cells slots Q (F0 m (pc + 1) ls (.int v :: rest))) : W p l e R s m args below meth c H locs cells slots Q (F0 m pc ls (.int i :: .ref a :: rest)) := by
  subst hi
  have hc : (nI k).toNatClampNeg = k := nI_clamp (Nat.lt_trans hk hn)
  refine va_iald hx hb hK hP q0 0 ha rfl (vp_in_nI hk hn) hdg ?_
  rw [hc, hv]
  exact kk
theorem ag_cld (hx : p.tables.exec = Jvm.exec) (hb : c.code = cc) (hK : va_K D vwCl (ag_T cI cC cL) s) (hP : va_P D vwCl w H) {k n : Nat} {f : Nat → Int32} {v i : Int32} (q0 : Nat) (ha : w[q0]? = some (a, .inl (cC, n, .inl f))) (hi : i = nI k) (hk : k < n) (hn : n < 2 ^ 31) (hv : f k = v) (hdg : decode cc pc = .ok (.caload, 1))
    (kk : W p l e R s m args below meth c H locs cells slots Q (F0 m (pc + 1) ls (.int v :: rest))) : W p l e R s m args below meth c H locs cells slots Q (F0 m pc ls (.int i :: .ref a :: rest)) := by
  subst hi
  have hc : (nI k).toNatClampNeg = k := nI_clamp (Nat.lt_trans hk hn)
  refine va_cald hx hb hK hP q0 1 ha rfl (vp_in_nI hk hn) hdg ?_
  rw [hc, hv]
  exact kk
theorem ag_ist (hx : p.tables.exec = Jvm.exec) (hb : c.code = cc) (hK : va_K D vwCl (ag_T cI cC cL) s) (hP : va_P D vwCl w H) (hD : va_D A w) (hS : va_S A H0 H locs) {k n : Nat} {f : Nat → Int32} {i x : Int32} (q0 : Nat) (ha : w[q0]? = some (a, .inl (cI, n, .inl f))) (hi : i = nI k) (hk : k < n) (hn : n < 2 ^ 31) (hdg : decode cc pc = .ok (.iastore, 1))
    (kk : ∀ (H1 : Heap) (locs1 : List Loc), va_P D vwCl (w.set q0 (a, .inl (cI, n, .inl (upd f k x)))) H1 → va_D A (w.set q0 (a, .inl (cI, n, .inl (upd f k x)))) → va_S A H0 H1 locs1 → W p l e R s m args below meth c H1 locs1 cells slots Q (F0 m (pc + 1) ls rest)) : W p l e R s m args below meth c H locs cells slots Q (F0 m pc ls (.int x :: .int i :: .ref a :: rest)) := by
  subst hi
  have hc : (nI k).toNatClampNeg = k := nI_clamp (Nat.lt_trans hk hn)
  refine va_iast hx hb hK hP hD hS q0 0 ha rfl (vp_in_nI hk hn) hdg ?_
  rw [hc]
  exact kk
theorem ag_cst (hx : p.tables.exec = Jvm.exec) (hb : c.code = cc) (hK : va_K D vwCl (ag_T cI cC cL) s) (hP : va_P D vwCl w H) (hD : va_D A w) (hS : va_S A H0 H locs) {k n : Nat} {f : Nat → Int32} {i x : Int32} (q0 : Nat) (ha : w[q0]? = some (a, .inl (cC, n, .inl f))) (hi : i = nI k) (hk : k < n) (hn : n < 2 ^ 31) (hx2 : vp_nar .char x = x) (hdg : decode cc pc = .ok (.castore, 1))
    (kk : ∀ (H1 : Heap) (locs1 : List Loc), va_P D vwCl (w.set q0 (a, .inl (cC, n, .inl (upd f k x)))) H1 → va_D A (w.set q0 (a, .inl (cC, n, .inl (upd f k x)))) → va_S A H0 H1 locs1 → W p l e R s m args below meth c H1 locs1 cells slots Q (F0 m (pc + 1) ls rest)) : W p l e R s m args below meth c H locs cells slots Q (F0 m pc ls (.int x :: .int i :: .ref a :: rest)) := by
  subst hi
  have hc : (nI k).toNatClampNeg = k := nI_clamp (Nat.lt_trans hk hn)
  refine va_cast hx hb hK hP hD hS q0 1 ha rfl (vp_in_nI hk hn) hdg ?_
  rw [hc, hx2]
  exact kk
theorem ag_copy (hx : p.tables.exec = Jvm.exec) (hb : c.code = cc) (hml : c.maxLocals = ls.size) {own : String} {index : Nat} (hown : s.vm.findClass own = some m.cls) (hlink : (Cond.methodLink own index arraycopyName).before args s = true) (hG : ∀ w ∈ gW, w.before args s = true)
    (hK : va_K D vwCl (ag_T cI cC cL) s) (hP : va_P D vwCl w H) (hD : va_D A w) (hS : va_S A H0 H locs) {n : Nat} {a0 : Nat} {f g : Nat → Int32} {z z1 z2 : Int32} (q0 q1 : Nat) (ha0 : w[q0]? = some (a0, .inl (cI, n, .inl f))) (ha1 : w[q1]? = some (a, .inl (cI, n, .inl g))) (hz : z = nI n) (hz1 : z1 = 0 ∧ z2 = 0) (hn : n < 2 ^ 31) (hfr : 1 ≤ R.frames) (hlo : (rest.map fun v => v.category).sum + 30 ≤ R.locals) (hdg : decode cc pc = .ok (.invokestatic index, 3))
    (kk : ∀ (H1 : Heap) (locs1 : List Loc), va_P D vwCl (w.set q1 (a, .inl (cI, n, .inl f))) H1 → va_D A (w.set q1 (a, .inl (cI, n, .inl f))) → va_S A H0 H1 locs1 → W p l e R s m args below meth c H1 locs1 cells slots Q (F0 m (pc + 3) ls rest)) : W p l e R s m args below meth c H locs cells slots Q (F0 m pc ls (.int z :: .int z2 :: .ref a :: .int z1 :: .ref a0 :: rest)) := by
  subst hz
  obtain ⟨rfl, rfl⟩ := hz1
  have hc : (nI n).toNatClampNeg = n := nI_clamp hn
  have hw : nativeFrameWords "java/lang/System" "arraycopy" 5 ≤ 19 := by decide
  have h0 : (0 : Int32).toNatClampNeg = 0 := by decide
  refine va_copyi hx hb hml hown hlink (hG _ k_261) (hG _ k_260) (hG _ k_13) hK hP hD hS q0 q1 0 0 ha0 ha1 rfl rfl rfl (by decide) (by decide) (nI_pos hn) (by rw [hc, h0]; omega) (by rw [hc, h0]; omega) (fun _ _ => rfl) hfr (by omega) hdg (fun H1 locs1 hP1 hD1 hS1 => ?_)
  rw [hc, h0] at hP1 hD1
  have hl : q1 < w.length := (List.getElem?_eq_some_iff.mp ha1).1
  have hP2 := ag_arr hP1 q1 f (List.getElem?_set_self hl) (fun j hj => by show va_cpy f g 0 0 n j = f j; unfold va_cpy; rw [if_pos ⟨Nat.zero_le _, by omega⟩]; congr 1; omega)
  rw [List.set_set] at hP2
  have hD2 : va_D A (w.set q1 (a, .inl (cI, n, .inl f))) := hD.set ha1
  exact kk H1 locs1 hP2 hD2 hS1
theorem ag_topi {x : Int32} (k : ∀ y : Int32, x = y → W p l e R s m args below meth c H locs cells slots Q (F0 m pc ls (.int y :: rest))) : W p l e R s m args below meth c H locs cells slots Q (F0 m pc ls (.int x :: rest)) := k x rfl
theorem ag_topn {x v : Int32} (h : x = v) (k : ∀ y : Int32, v = y → W p l e R s m args below meth c H locs cells slots Q (F0 m pc ls (.int y :: rest))) : W p l e R s m args below meth c H locs cells slots Q (F0 m pc ls (.int x :: rest)) := k x h.symm
end AGF
end
section
/-! numbers -/
theorem ag_ixr {x : Int32} {n : Nat} (hn : n < 2 ^ 31) (h0 : ¬ x < 0) (h1 : x < nI n) : x = nI x.toNatClampNeg ∧ x.toNatClampNeg < n := by
  obtain ⟨j, hj, rfl⟩ := nI_of h0
  rw [nI_clamp hj]
  exact ⟨rfl, (nI_ltI hj hn).mp h1⟩
theorem ag_xor_sign (x : Int32) {d : Nat} (hd : d < 2 ^ 31) : 0 ≤ x ^^^ nI d ↔ 0 ≤ x := by
  rw [Int32.le_iff_toInt_le, Int32.le_iff_toInt_le, Int32.toInt_zero]
  have h1 : (nI d).toBitVec.msb = false := by
    rw [BitVec.msb_eq_toInt]
    have := nI_toInt hd
    have h2 : (nI d).toBitVec.toInt = (d : Int) := this
    rw [h2]
    simp
  have h3 : (x ^^^ nI d).toBitVec.msb = x.toBitVec.msb := by
    rw [Int32.toBitVec_xor, BitVec.msb_xor, h1, Bool.xor_false]
  rw [BitVec.msb_eq_toInt, BitVec.msb_eq_toInt] at h3
  have h4 : ((x ^^^ nI d).toBitVec.toInt < 0) ↔ (x.toBitVec.toInt < 0) := by
    constructor
    · intro h
      have := h3.symm.trans (decide_eq_true h)
      exact of_decide_eq_true this
    · intro h
      have := h3.trans (decide_eq_true h)
      exact of_decide_eq_true this
  have e1 : (x ^^^ nI d).toInt = (x ^^^ nI d).toBitVec.toInt := rfl
  have e2 : x.toInt = x.toBitVec.toInt := rfl
  omega
theorem ag_bm {z : Int} (h1 : -2147483648 ≤ z) (h2 : z < 2147483648) : z.bmod (2 ^ 32) = z := by
  rw [Int.bmod_eq_of_le] <;> omega
theorem ag_rg (x : Int32) : -2147483648 ≤ x.toInt ∧ x.toInt < 2147483648 := by
  have h1 := Int32.le_toInt x
  have h2 := Int32.toInt_lt x
  omega
theorem ag_rem_int (x : Int32) {d : Nat} (h0 : 0 < d) (hd : d < 2 ^ 31) : (x - x / nI d * nI d).toInt = x.toInt.tmod d := by
  have hr := ag_rg x
  have e1 := Int.mul_tdiv_add_tmod x.toInt d
  have b1 := Int.natAbs_tdiv_le_natAbs x.toInt d
  have b2 := @tmod_bounds x.toInt d (by omega)
  have hs : (x.toInt.tmod d).natAbs ≤ x.toInt.natAbs := by
    rw [Int.natAbs_tmod]
    exact Nat.mod_le _ _
  have hsg : 0 ≤ x.toInt → 0 ≤ x.toInt.tmod d := fun h => Int.tmod_nonneg _ h
  have hsg2 : x.toInt ≤ 0 → x.toInt.tmod d ≤ 0 := fun h => by
    have := Int.tmod_nonneg (d : Int) (a := -x.toInt) (by omega)
    rw [Int.neg_tmod] at this
    omega
  rw [Int32.toInt_sub, Int32.toInt_mul, Int32.toInt_div, nI_toInt hd]
  have e2 : x.toInt.tdiv d * d = x.toInt - x.toInt.tmod d := by
    rw [Int.mul_comm]; omega
  have g1 : (x.toInt.tdiv d).bmod (2 ^ 32) = x.toInt.tdiv d ∨ x.toInt.tdiv d = 2147483648 := by
    by_cases h : x.toInt.tdiv d = 2147483648
    · exact Or.inr h
    · exact Or.inl (ag_bm (by omega) (by omega))
  rcases g1 with g1 | g1
  · rw [g1, e2, ag_bm (z := x.toInt - x.toInt.tmod d) (by omega) (by omega), ag_bm (by omega) (by omega)]
    omega
  · exfalso
    rw [g1] at e2
    omega
end
section
/-! methods of the class: first -/
def sr_J9_floorMod_7cf53 (p1 : Int32) (p2 : Int32) : Int32 := if 0 ≤ (p1 ^^^ p2) then p1 - p1 / p2 * p2 else if (p1 - p1 / p2 * p2) = 0 then p1 - p1 / p2 * p2 else (p1 - p1 / p2 * p2) + p2
abbrev po_J9_floorMod_7cf53 (cI cC cL : ClassId) (p1 : Int32) (p2 : Int32) (hz : ¬ p2 = 0) : Int32 → va_W → Prop := fun r w' => sr_J9_floorMod_7cf53 p1 p2 = r ∧ [] = w'
set_option maxHeartbeats 4000000 in
set_option maxRecDepth 100000 in
theorem ct_J9_floorMod_7cf53 (l : Launch) (D : va_G) (cI cC cL : ClassId) (p1 : Int32) (p2 : Int32) (hz : ¬ p2 = 0) : ag_MI l yJ9_floorMod_7cf53 cJ9_floorMod_7cf53 3 .int 0 0 D cI cC cL [.int p1, .int p2] [] (po_J9_floorMod_7cf53 cI cC cL p1 p2 hz) := by
  refine ag_MI.of (by decide +kernel) (Nat.le_of_ble_eq_true rfl) ?_
  intro p e s m below meth c hx hb hr hlocks hml hown hmn hG hK A hN hA H locs hP hD hS ls hl
  have hl : lv_has ls 3 [(0, .int p1), (1, .int p2)] := hl
  refine lv_iload_n hx hb dJ9_floorMod_7cf53_0 rfl (lv_at hl 0 rfl) ?_
  refine lv_iload_n hx hb dJ9_floorMod_7cf53_1 rfl (lv_at hl 1 rfl) ?_
  refine lv_irem hx hb dJ9_floorMod_7cf53_2 hz ?_
  refine lv_istore_n (lv' := [(2, .int (p1 - p1 / p2 * p2)), (0, .int p1), (1, .int p2)]) hx hb dJ9_floorMod_7cf53_3 rfl hl (by decide) rfl (fun ls hl => ?_)
  refine lv_iload_n hx hb dJ9_floorMod_7cf53_4 rfl (lv_at hl 1 rfl) ?_
  refine lv_iload_n hx hb dJ9_floorMod_7cf53_5 rfl (lv_at hl 2 rfl) ?_
  refine lv_ixor hx hb dJ9_floorMod_7cf53_6 ?_
  refine lv_if_ge (tgt := 18) hx hb dJ9_floorMod_7cf53_7 (by decide) (fun c_7 => ?_) (fun c_7 => ?_)
  · refine lv_iload_n hx hb dJ9_floorMod_7cf53_18 rfl (lv_at hl 0 rfl) ?_
    exact ag_iret [] hx hb hr rfl hlocks hP hS rfl rfl ⟨(by unfold sr_J9_floorMod_7cf53; rw [if_pos c_7]), rfl⟩ dJ9_floorMod_7cf53_19
  · refine lv_iload_n hx hb dJ9_floorMod_7cf53_10 rfl (lv_at hl 0 rfl) ?_
    refine lv_if_eq (tgt := 18) hx hb dJ9_floorMod_7cf53_11 (by decide) (fun c_11 => ?_) (fun c_11 => ?_)
    · refine lv_iload_n hx hb dJ9_floorMod_7cf53_18 rfl (lv_at hl 0 rfl) ?_
      exact ag_iret [] hx hb hr rfl hlocks hP hS rfl rfl ⟨(by unfold sr_J9_floorMod_7cf53; rw [if_neg c_7, if_pos c_11]), rfl⟩ dJ9_floorMod_7cf53_19
    · refine lv_iload_n hx hb dJ9_floorMod_7cf53_14 rfl (lv_at hl 0 rfl) ?_
      refine lv_iload_n hx hb dJ9_floorMod_7cf53_15 rfl (lv_at hl 2 rfl) ?_
      refine lv_iadd hx hb dJ9_floorMod_7cf53_16 ?_
      exact ag_iret [] hx hb hr rfl hlocks hP hS rfl rfl ⟨(by unfold sr_J9_floorMod_7cf53; rw [if_neg c_7, if_neg c_11]), rfl⟩ dJ9_floorMod_7cf53_17
def sr_J9_floorDiv_7cf53 (p1 : Int32) (p2 : Int32) : Int32 := if 0 ≤ (p1 ^^^ p2) then p1 / p2 else if ((p1 / p2) * p2) = p1 then p1 / p2 else (p1 / p2) - 1
abbrev po_J9_floorDiv_7cf53 (cI cC cL : ClassId) (p1 : Int32) (p2 : Int32) (hz : ¬ p2 = 0) : Int32 → va_W → Prop := fun r w' => sr_J9_floorDiv_7cf53 p1 p2 = r ∧ [] = w'
set_option maxHeartbeats 4000000 in
set_option maxRecDepth 100000 in
theorem ct_J9_floorDiv_7cf53 (l : Launch) (D : va_G) (cI cC cL : ClassId) (p1 : Int32) (p2 : Int32) (hz : ¬ p2 = 0) : ag_MI l yJ9_floorDiv_7cf53 cJ9_floorDiv_7cf53 3 .int 0 0 D cI cC cL [.int p1, .int p2] [] (po_J9_floorDiv_7cf53 cI cC cL p1 p2 hz) := by
  refine ag_MI.of (by decide +kernel) (Nat.le_of_ble_eq_true rfl) ?_
  intro p e s m below meth c hx hb hr hlocks hml hown hmn hG hK A hN hA H locs hP hD hS ls hl
  have hl : lv_has ls 3 [(0, .int p1), (1, .int p2)] := hl
  refine lv_iload_n hx hb dJ9_floorDiv_7cf53_0 rfl (lv_at hl 0 rfl) ?_
  refine lv_iload_n hx hb dJ9_floorDiv_7cf53_1 rfl (lv_at hl 1 rfl) ?_
  refine lv_idiv hx hb dJ9_floorDiv_7cf53_2 hz ?_
  refine lv_istore_n (lv' := [(2, .int (p1 / p2)), (0, .int p1), (1, .int p2)]) hx hb dJ9_floorDiv_7cf53_3 rfl hl (by decide) rfl (fun ls hl => ?_)
  refine lv_iload_n hx hb dJ9_floorDiv_7cf53_4 rfl (lv_at hl 1 rfl) ?_
  refine lv_iload_n hx hb dJ9_floorDiv_7cf53_5 rfl (lv_at hl 2 rfl) ?_
  refine lv_ixor hx hb dJ9_floorDiv_7cf53_6 ?_
  refine lv_if_ge (tgt := 21) hx hb dJ9_floorDiv_7cf53_7 (by decide) (fun c_7 => ?_) (fun c_7 => ?_)
  · refine lv_iload_n hx hb dJ9_floorDiv_7cf53_21 rfl (lv_at hl 0 rfl) ?_
    exact ag_iret [] hx hb hr rfl hlocks hP hS rfl rfl ⟨(by unfold sr_J9_floorDiv_7cf53; rw [if_pos c_7]), rfl⟩ dJ9_floorDiv_7cf53_22
  · refine lv_iload_n hx hb dJ9_floorDiv_7cf53_10 rfl (lv_at hl 0 rfl) ?_
    refine lv_iload_n hx hb dJ9_floorDiv_7cf53_11 rfl (lv_at hl 2 rfl) ?_
    refine lv_imul hx hb dJ9_floorDiv_7cf53_12 ?_
    refine lv_iload_n hx hb dJ9_floorDiv_7cf53_13 rfl (lv_at hl 1 rfl) ?_
    refine lv_icmp_eq (tgt := 21) hx hb dJ9_floorDiv_7cf53_14 (by decide) (fun c_14 => ?_) (fun c_14 => ?_)
    · refine lv_iload_n hx hb dJ9_floorDiv_7cf53_21 rfl (lv_at hl 0 rfl) ?_
      exact ag_iret [] hx hb hr rfl hlocks hP hS rfl rfl ⟨(by unfold sr_J9_floorDiv_7cf53; rw [if_neg c_7, if_pos c_14]), rfl⟩ dJ9_floorDiv_7cf53_22
    · refine lv_iload_n hx hb dJ9_floorDiv_7cf53_17 rfl (lv_at hl 0 rfl) ?_
      refine lv_iconst (v := 1) hx hb dJ9_floorDiv_7cf53_18 (by decide) ?_
      refine lv_isub hx hb dJ9_floorDiv_7cf53_19 ?_
      exact ag_iret [] hx hb hr rfl hlocks hP hS rfl rfl ⟨(by unfold sr_J9_floorDiv_7cf53; rw [if_neg c_7, if_neg c_14]), rfl⟩ dJ9_floorDiv_7cf53_20
def j23_0_X5_tideHeight (p1 : Int32) : Int32 := if 0 ≤ ((p1 - p1 / 14 * 14) - 7) then (p1 - p1 / 14 * 14) - 7 else -((p1 - p1 / 14 * 14) - 7)
def sr_X5_tideHeight (p1 : Int32) : Int32 := 200 + (20 * (j23_0_X5_tideHeight p1))
abbrev po_X5_tideHeight (cI cC cL : ClassId) (p1 : Int32) : Int32 → va_W → Prop := fun r w' => sr_X5_tideHeight p1 = r ∧ [] = w'
set_option maxHeartbeats 4000000 in
set_option maxRecDepth 100000 in
theorem ct_X5_tideHeight (l : Launch) (D : va_G) (cI cC cL : ClassId) (p1 : Int32) : ag_MI l yX5_tideHeight cX5_tideHeight 2 .int 0 0 D cI cC cL [.int p1] [] (po_X5_tideHeight cI cC cL p1) := by
  refine ag_MI.of (plainFor_of_name (by decide)) (Nat.le_of_ble_eq_true rfl) ?_
  intro p e s m below meth c hx hb hr hlocks hml hown hmn hG hK A hN hA H locs hP hD hS ls hl
  have hl : lv_has ls 2 [(0, .int p1)] := hl
  refine lv_iload_n hx hb dX5_tideHeight_0 rfl (lv_at hl 0 rfl) ?_
  refine lv_bipush (v := 14) hx hb dX5_tideHeight_1 (by decide) ?_
  refine lv_irem hx hb dX5_tideHeight_3 (by decide) ?_
  refine lv_bipush (v := 7) hx hb dX5_tideHeight_4 (by decide) ?_
  refine lv_isub hx hb dX5_tideHeight_6 ?_
  refine lv_istore_n (lv' := [(1, .int ((p1 - p1 / 14 * 14) - 7)), (0, .int p1)]) hx hb dX5_tideHeight_7 rfl hl (by decide) rfl (fun ls hl => ?_)
  refine lv_sipush (v := 200) hx hb dX5_tideHeight_8 (by decide) ?_
  refine lv_bipush (v := 20) hx hb dX5_tideHeight_11 (by decide) ?_
  refine lv_iload_n hx hb dX5_tideHeight_13 rfl (lv_at hl 0 rfl) ?_
  have J23 : ∀ (ls : Array Slot), lv_has ls 2 [(0, .int p1), (1, .int ((p1 - p1 / 14 * 14) - 7))] → W p l e (ag_rm 0 0) s m ([.int p1] : List Value).toArray below meth c H locs 0 0 (MQ below (va_Qi (po_X5_tideHeight cI cC cL p1) (ag_Out D []) A) ([.int p1] : List Value).toArray s 0 0 A) (F0 m 23 ls [.int (j23_0_X5_tideHeight p1), .int 20, .int 200]) := by
    intro ls hl
    refine lv_imul hx hb dX5_tideHeight_23 ?_
    refine lv_iadd hx hb dX5_tideHeight_24 ?_
    exact ag_iret [] hx hb hr rfl hlocks hP hS rfl rfl ⟨rfl, rfl⟩ dX5_tideHeight_25
  refine lv_if_ge (tgt := 22) hx hb dX5_tideHeight_14 (by decide) (fun c_14 => ?_) (fun c_14 => ?_)
  · refine lv_iload_n hx hb dX5_tideHeight_22 rfl (lv_at hl 0 rfl) ?_
    simp only [j23_0_X5_tideHeight, if_pos c_14] at J23
    exact J23 _ (lv_sub hl [1, 0] rfl)
  · refine lv_iload_n hx hb dX5_tideHeight_17 rfl (lv_at hl 0 rfl) ?_
    refine lv_ineg hx hb dX5_tideHeight_18 ?_
    refine lv_goto (tgt := 23) hx hb dX5_tideHeight_19 (by decide) ?_
    simp only [j23_0_X5_tideHeight, if_neg c_14] at J23
    exact J23 _ (lv_sub hl [1, 0] rfl)
def sr_X5_seaLevel (p1 : Int32) : Int32 := if 37 ≤ (p1 - p1 / 74 * 74) then (sr_X5_tideHeight (p1 / 144)) - (((2 * (sr_X5_tideHeight (p1 / 144))) * ((p1 - p1 / 74 * 74) - 37)) / 37) else (((2 * (sr_X5_tideHeight (p1 / 144))) * (p1 - p1 / 74 * 74)) / 37) - (sr_X5_tideHeight (p1 / 144))
abbrev po_X5_seaLevel (cI cC cL : ClassId) (p1 : Int32) : Int32 → va_W → Prop := fun r w' => sr_X5_seaLevel p1 = r ∧ [] = w'
set_option maxHeartbeats 4000000 in
set_option maxRecDepth 100000 in
theorem ct_X5_seaLevel (l : Launch) (D : va_G) (cI cC cL : ClassId) (p1 : Int32) : ag_MI l yX5_seaLevel cX5_seaLevel 3 .int 1 21 D cI cC cL [.int p1] [] (po_X5_seaLevel cI cC cL p1) := by
  refine ag_MI.of (plainFor_of_name (by decide)) (Nat.le_of_ble_eq_true rfl) ?_
  intro p e s m below meth c hx hb hr hlocks hml hown hmn hG hK A hN hA H locs hP hD hS ls hl
  have hl : lv_has ls 3 [(0, .int p1)] := hl
  refine lv_iload_n hx hb dX5_seaLevel_0 rfl (lv_at hl 0 rfl) ?_
  refine lv_sipush (v := 144) hx hb dX5_seaLevel_1 (by decide) ?_
  refine lv_idiv hx hb dX5_seaLevel_4 (by decide) ?_
  refine ag_callSi (As := [.int (p1 / 144)]) (rest := []) hx hb hml hown hG hK hN hA hP hD hS hl (ct_X5_tideHeight l D cI cC cL (p1 / 144)) fX5_tideHeight k_202 ag_cut_0 rfl (Nat.le_of_ble_eq_true rfl) ⟨Nat.le_of_ble_eq_true rfl, Nat.le_of_ble_eq_true rfl⟩ ⟨Nat.zero_le _, Nat.zero_le _⟩ dX5_seaLevel_5 (fun r w1 H locs hw hP hD hS => ?_)
  obtain ⟨rfl, hw⟩ := hw
  subst hw
  have hP : va_P D vwCl [] H := hP
  have hD : va_D A [] := hD
  refine lv_istore_n (lv' := [(1, .int (sr_X5_tideHeight (p1 / 144))), (0, .int p1)]) hx hb dX5_seaLevel_8 rfl hl (by decide) rfl (fun ls hl => ?_)
  refine lv_iload_n hx hb dX5_seaLevel_9 rfl (lv_at hl 1 rfl) ?_
  refine lv_bipush (v := 74) hx hb dX5_seaLevel_10 (by decide) ?_
  refine lv_irem hx hb dX5_seaLevel_12 (by decide) ?_
  refine lv_istore_n (lv' := [(2, .int (p1 - p1 / 74 * 74)), (1, .int (sr_X5_tideHeight (p1 / 144))), (0, .int p1)]) hx hb dX5_seaLevel_13 rfl hl (by decide) rfl (fun ls hl => ?_)
  refine lv_iload_n hx hb dX5_seaLevel_14 rfl (lv_at hl 0 rfl) ?_
  refine lv_bipush (v := 37) hx hb dX5_seaLevel_15 (by decide) ?_
  refine lv_icmp_ge (tgt := 31) hx hb dX5_seaLevel_17 (by decide) (fun c_17 => ?_) (fun c_17 => ?_)
  · refine lv_iload_n hx hb dX5_seaLevel_31 rfl (lv_at hl 1 rfl) ?_
    refine lv_iconst (v := 2) hx hb dX5_seaLevel_32 (by decide) ?_
    refine lv_iload_n hx hb dX5_seaLevel_33 rfl (lv_at hl 1 rfl) ?_
    refine lv_imul hx hb dX5_seaLevel_34 ?_
    refine lv_iload_n hx hb dX5_seaLevel_35 rfl (lv_at hl 0 rfl) ?_
    refine lv_bipush (v := 37) hx hb dX5_seaLevel_36 (by decide) ?_
    refine lv_isub hx hb dX5_seaLevel_38 ?_
    refine lv_imul hx hb dX5_seaLevel_39 ?_
    refine lv_bipush (v := 37) hx hb dX5_seaLevel_40 (by decide) ?_
    refine lv_idiv hx hb dX5_seaLevel_42 (by decide) ?_
    refine lv_isub hx hb dX5_seaLevel_43 ?_
    exact ag_iret [] hx hb hr rfl hlocks hP hS rfl rfl ⟨(by unfold sr_X5_seaLevel; rw [if_pos c_17]), rfl⟩ dX5_seaLevel_44
  · refine lv_iconst (v := 2) hx hb dX5_seaLevel_20 (by decide) ?_
    refine lv_iload_n hx hb dX5_seaLevel_21 rfl (lv_at hl 1 rfl) ?_
    refine lv_imul hx hb dX5_seaLevel_22 ?_
    refine lv_iload_n hx hb dX5_seaLevel_23 rfl (lv_at hl 0 rfl) ?_
    refine lv_imul hx hb dX5_seaLevel_24 ?_
    refine lv_bipush (v := 37) hx hb dX5_seaLevel_25 (by decide) ?_
    refine lv_idiv hx hb dX5_seaLevel_27 (by decide) ?_
    refine lv_iload_n hx hb dX5_seaLevel_28 rfl (lv_at hl 1 rfl) ?_
    refine lv_isub hx hb dX5_seaLevel_29 ?_
    exact ag_iret [] hx hb hr rfl hlocks hP hS rfl rfl ⟨(by unfold sr_X5_seaLevel; rw [if_neg c_17]), rfl⟩ dX5_seaLevel_30
def sr_X5_isError (p1 : Int32) : Int32 := if (-1000000001) < p1 then 0 else 1
abbrev po_X5_isError (cI cC cL : ClassId) (p1 : Int32) : Int32 → va_W → Prop := fun r w' => sr_X5_isError p1 = r ∧ [] = w'
set_option maxHeartbeats 4000000 in
set_option maxRecDepth 100000 in
theorem ct_X5_isError (l : Launch) (D : va_G) (cI cC cL : ClassId) (p1 : Int32) : ag_MI l yX5_isError cX5_isError 1 .boolean 0 0 D cI cC cL [.int p1] [] (po_X5_isError cI cC cL p1) := by
  refine ag_MI.of (plainFor_of_name (by decide)) (Nat.le_of_ble_eq_true rfl) ?_
  intro p e s m below meth c hx hb hr hlocks hml hown hmn hG hK A hN hA H locs hP hD hS ls hl
  have hl : lv_has ls 1 [(0, .int p1)] := hl
  refine lv_iload_n hx hb dX5_isError_0 rfl (lv_at hl 0 rfl) ?_
  refine lv_ldc (v := (-1000000001)) hx hb hown (hG _ k_219) dX5_isError_1 ?_
  refine lv_icmp_gt (tgt := 10) hx hb dX5_isError_3 (by decide) (fun c_3 => ?_) (fun c_3 => ?_)
  · refine lv_iconst (v := 0) hx hb dX5_isError_10 (by decide) ?_
    exact ag_iret [] hx hb hr (by decide) hlocks hP hS rfl rfl ⟨(by unfold sr_X5_isError; rw [if_pos c_3]), rfl⟩ dX5_isError_11
  · refine lv_iconst (v := 1) hx hb dX5_isError_6 (by decide) ?_
    refine lv_goto (tgt := 11) hx hb dX5_isError_7 (by decide) ?_
    exact ag_iret [] hx hb hr (by decide) hlocks hP hS rfl rfl ⟨(by unfold sr_X5_isError; rw [if_neg c_3]), rfl⟩ dX5_isError_11
def sr_X5_recordStart (p1 : Int32) : Int32 := (sr_J9_floorMod_7cf53 p1 10) * 6
abbrev po_X5_recordStart (cI cC cL : ClassId) (p1 : Int32) : Int32 → va_W → Prop := fun r w' => sr_X5_recordStart p1 = r ∧ [] = w'
set_option maxHeartbeats 4000000 in
set_option maxRecDepth 100000 in
theorem ct_X5_recordStart (l : Launch) (D : va_G) (cI cC cL : ClassId) (p1 : Int32) : ag_MI l yX5_recordStart cX5_recordStart 1 .int 1 22 D cI cC cL [.int p1] [] (po_X5_recordStart cI cC cL p1) := by
  refine ag_MI.of (plainFor_of_name (by decide)) (Nat.le_of_ble_eq_true rfl) ?_
  intro p e s m below meth c hx hb hr hlocks hml hown hmn hG hK A hN hA H locs hP hD hS ls hl
  have hl : lv_has ls 1 [(0, .int p1)] := hl
  refine lv_iload_n hx hb dX5_recordStart_0 rfl (lv_at hl 0 rfl) ?_
  refine lv_bipush (v := 10) hx hb dX5_recordStart_1 (by decide) ?_
  refine ag_callSi (As := [.int p1, .int 10]) (rest := []) hx hb hml hown hG hK hN hA hP hD hS hl (ct_J9_floorMod_7cf53 l D cI cC cL p1 10 (by decide)) fJ9_floorMod_7cf53 k_374 ag_cut_0 rfl (Nat.le_of_ble_eq_true rfl) ⟨Nat.le_of_ble_eq_true rfl, Nat.le_of_ble_eq_true rfl⟩ ⟨Nat.zero_le _, Nat.zero_le _⟩ dX5_recordStart_3 (fun r w1 H locs hw hP hD hS => ?_)
  obtain ⟨rfl, hw⟩ := hw
  subst hw
  have hP : va_P D vwCl [] H := hP
  have hD : va_D A [] := hD
  refine lv_bipush (v := 6) hx hb dX5_recordStart_6 (by decide) ?_
  refine lv_imul hx hb dX5_recordStart_8 ?_
  exact ag_iret [] hx hb hr rfl hlocks hP hS rfl rfl ⟨rfl, rfl⟩ dX5_recordStart_9
def sr_X1_level (f : Nat → Int32) : Int32 := (((f 1) + (f 2)) / 100) - 400
abbrev po_X1_level (cI cC cL : ClassId) (h h1 h2 h3 : Nat) (f se to re : Nat → Int32) : Int32 → va_W → Prop := fun r w' => sr_X1_level f = r ∧ [oL h h1 h2 h3 f, aI cI h1 3 se, aI cI h2 7 to, aI cI h3 60 re] = w'
set_option maxHeartbeats 4000000 in
set_option maxRecDepth 100000 in
theorem ct_X1_level (l : Launch) (D : va_G) (cI cC cL : ClassId) (h h1 h2 h3 : Nat) (f se to re : Nat → Int32) : ag_MI l yX1_level cX1_level 1 .int 0 0 D cI cC cL [.ref h] [oL h h1 h2 h3 f, aI cI h1 3 se, aI cI h2 7 to, aI cI h3 60 re] (po_X1_level cI cC cL h h1 h2 h3 f se to re) := by
  refine ag_MI.of (plainFor_of_name (by decide)) (Nat.le_of_ble_eq_true rfl) ?_
  intro p e s m below meth c hx hb hr hlocks hml hown hmn hG hK A hN hA H locs hP hD hS ls hl
  have hl : lv_has ls 1 [(0, .ref h)] := hl
  refine lv_aload_n hx hb dX1_level_0 rfl (lv_at hl 0 rfl) ?_
  refine ag_getX1 (v := .int (f 1)) hx hb hG hown hK hP 0 1 rfl (by decide) k_32 rfl dX1_level_1 ?_
  refine lv_aload_n hx hb dX1_level_4 rfl (lv_at hl 0 rfl) ?_
  refine ag_getX1 (v := .int (f 2)) hx hb hG hown hK hP 0 2 rfl (by decide) k_35 rfl dX1_level_5 ?_
  refine lv_iadd hx hb dX1_level_8 ?_
  refine lv_bipush (v := 100) hx hb dX1_level_9 (by decide) ?_
  refine lv_idiv hx hb dX1_level_11 (by decide) ?_
  refine lv_sipush (v := 400) hx hb dX1_level_12 (by decide) ?_
  refine lv_isub hx hb dX1_level_15 ?_
  exact ag_iret [h, h1, h2, h3] hx hb hr rfl hlocks hP hS rfl rfl ⟨rfl, rfl⟩ dX1_level_16
def sr_X1_head (f : Nat → Int32) : Int32 := (sr_X5_seaLevel (f 0)) - (sr_X1_level f)
abbrev po_X1_head (cI cC cL : ClassId) (h h1 h2 h3 : Nat) (f se to re : Nat → Int32) : Int32 → va_W → Prop := fun r w' => sr_X1_head f = r ∧ [oL h h1 h2 h3 f, aI cI h1 3 se, aI cI h2 7 to, aI cI h3 60 re] = w'
set_option maxHeartbeats 4000000 in
set_option maxRecDepth 100000 in
theorem ct_X1_head (l : Launch) (D : va_G) (cI cC cL : ClassId) (h h1 h2 h3 : Nat) (f se to re : Nat → Int32) : ag_MI l yX1_head cX1_head 1 .int 2 43 D cI cC cL [.ref h] [oL h h1 h2 h3 f, aI cI h1 3 se, aI cI h2 7 to, aI cI h3 60 re] (po_X1_head cI cC cL h h1 h2 h3 f se to re) := by
  refine ag_MI.of (plainFor_of_name (by decide)) (Nat.le_of_ble_eq_true rfl) ?_
  intro p e s m below meth c hx hb hr hlocks hml hown hmn hG hK A hN hA H locs hP hD hS ls hl
  have hl : lv_has ls 1 [(0, .ref h)] := hl
  refine lv_aload_n hx hb dX1_head_0 rfl (lv_at hl 0 rfl) ?_
  refine ag_getX1 (v := .int (f 0)) hx hb hG hown hK hP 0 0 rfl (by decide) k_30 rfl dX1_head_1 ?_
  refine ag_callNi (As := [.int (f 0)]) (rest := []) hx hb hml hown hG hK hN hA hP hD hS hl (ct_X5_seaLevel l D cI cC cL (f 0)) fX5_seaLevel hN.1.2.2.2.2.2.2.1 ag_cut_0 rfl (Nat.le_of_ble_eq_true rfl) ⟨Nat.le_of_ble_eq_true rfl, Nat.le_of_ble_eq_true rfl⟩ ⟨Nat.zero_le _, Nat.zero_le _⟩ dX1_head_4 (fun r w1 H locs hw hP hD hS => ?_)
  obtain ⟨rfl, hw⟩ := hw
  subst hw
  have hP : va_P D vwCl [oL h h1 h2 h3 f, aI cI h1 3 se, aI cI h2 7 to, aI cI h3 60 re] H := hP
  have hD : va_D A [oL h h1 h2 h3 f, aI cI h1 3 se, aI cI h2 7 to, aI cI h3 60 re] := hD
  refine lv_aload_n hx hb dX1_head_7 rfl (lv_at hl 0 rfl) ?_
  refine ag_callVi (As := []) (rest := [.int (sr_X5_seaLevel (f 0))]) hx hb hml hown hG hK hN hA hP hD hS hl (ct_X1_level l D cI cC cL h h1 h2 h3 f se to re) fX1_level k_214 ag_cut_all (q0 := 0) rfl rfl rfl rfl (Nat.le_of_ble_eq_true rfl) ⟨Nat.le_of_ble_eq_true rfl, Nat.le_of_ble_eq_true rfl⟩ ⟨Nat.zero_le _, Nat.zero_le _⟩ dX1_head_8 (fun r w1 H locs hw hP hD hS => ?_)
  obtain ⟨rfl, hw⟩ := hw
  subst hw
  have hP : va_P D vwCl [oL h h1 h2 h3 f, aI cI h1 3 se, aI cI h2 7 to, aI cI h3 60 re] H := hP
  have hD : va_D A [oL h h1 h2 h3 f, aI cI h1 3 se, aI cI h2 7 to, aI cI h3 60 re] := hD
  refine lv_isub hx hb dX1_head_11 ?_
  exact ag_iret [h, h1, h2, h3] hx hb hr rfl hlocks hP hS rfl rfl ⟨rfl, rfl⟩ dX1_head_12
def sr_X1_isBirdHour (f : Nat → Int32) : Int32 := if ((f 0) - (f 0) / 144 * 144) < (f 6) then 0 else if (f 7) ≤ ((f 0) - (f 0) / 144 * 144) then 0 else 1
abbrev po_X1_isBirdHour (cI cC cL : ClassId) (h h1 h2 h3 : Nat) (f se to re : Nat → Int32) : Int32 → va_W → Prop := fun r w' => sr_X1_isBirdHour f = r ∧ [oL h h1 h2 h3 f, aI cI h1 3 se, aI cI h2 7 to, aI cI h3 60 re] = w'
set_option maxHeartbeats 4000000 in
set_option maxRecDepth 100000 in
theorem ct_X1_isBirdHour (l : Launch) (D : va_G) (cI cC cL : ClassId) (h h1 h2 h3 : Nat) (f se to re : Nat → Int32) : ag_MI l yX1_isBirdHour cX1_isBirdHour 2 .boolean 0 0 D cI cC cL [.ref h] [oL h h1 h2 h3 f, aI cI h1 3 se, aI cI h2 7 to, aI cI h3 60 re] (po_X1_isBirdHour cI cC cL h h1 h2 h3 f se to re) := by
  refine ag_MI.of (plainFor_of_name (by decide)) (Nat.le_of_ble_eq_true rfl) ?_
  intro p e s m below meth c hx hb hr hlocks hml hown hmn hG hK A hN hA H locs hP hD hS ls hl
  have hl : lv_has ls 2 [(0, .ref h)] := hl
  refine lv_aload_n hx hb dX1_isBirdHour_0 rfl (lv_at hl 0 rfl) ?_
  refine ag_getX1 (v := .int (f 0)) hx hb hG hown hK hP 0 0 rfl (by decide) k_30 rfl dX1_isBirdHour_1 ?_
  refine lv_sipush (v := 144) hx hb dX1_isBirdHour_4 (by decide) ?_
  refine lv_irem hx hb dX1_isBirdHour_7 (by decide) ?_
  refine lv_istore_n (lv' := [(1, .int ((f 0) - (f 0) / 144 * 144)), (0, .ref h)]) hx hb dX1_isBirdHour_8 rfl hl (by decide) rfl (fun ls hl => ?_)
  refine lv_aload_n hx hb dX1_isBirdHour_9 rfl (lv_at hl 1 rfl) ?_
  refine ag_getX1 (v := .int (f 6)) hx hb hG hown hK hP 0 6 rfl (by decide) k_47 rfl dX1_isBirdHour_10 ?_
  refine lv_iload_n hx hb dX1_isBirdHour_13 rfl (lv_at hl 0 rfl) ?_
  refine lv_icmp_gt (tgt := 29) hx hb dX1_isBirdHour_14 (by decide) (fun c_14 => ?_) (fun c_14 => ?_)
  · refine lv_iconst (v := 0) hx hb dX1_isBirdHour_29 (by decide) ?_
    exact ag_iret [h, h1, h2, h3] hx hb hr (by decide) hlocks hP hS rfl rfl ⟨(by unfold sr_X1_isBirdHour; rw [if_pos c_14]), rfl⟩ dX1_isBirdHour_30
  · refine lv_iload_n hx hb dX1_isBirdHour_17 rfl (lv_at hl 0 rfl) ?_
    refine lv_aload_n hx hb dX1_isBirdHour_18 rfl (lv_at hl 1 rfl) ?_
    refine ag_getX1 (v := .int (f 7)) hx hb hG hown hK hP 0 7 rfl (by decide) k_48 rfl dX1_isBirdHour_19 ?_
    refine lv_icmp_ge (tgt := 29) hx hb dX1_isBirdHour_22 (by decide) (fun c_22 => ?_) (fun c_22 => ?_)
    · refine lv_iconst (v := 0) hx hb dX1_isBirdHour_29 (by decide) ?_
      exact ag_iret [h, h1, h2, h3] hx hb hr (by decide) hlocks hP hS rfl rfl ⟨(by unfold sr_X1_isBirdHour; rw [if_neg c_14, if_pos c_22]), rfl⟩ dX1_isBirdHour_30
    · refine lv_iconst (v := 1) hx hb dX1_isBirdHour_25 (by decide) ?_
      refine lv_goto (tgt := 30) hx hb dX1_isBirdHour_26 (by decide) ?_
      exact ag_iret [h, h1, h2, h3] hx hb hr (by decide) hlocks hP hS rfl rfl ⟨(by unfold sr_X1_isBirdHour; rw [if_neg c_14, if_neg c_22]), rfl⟩ dX1_isBirdHour_30
def sr_X1_openGates (f : Nat → Int32) (p1 : Int32) : Int32 := if p1 < 0 then (-1000000001) else if p1 ≤ 8 then f 3 else (-1000000001)
def sw0_X1_openGates (f : Nat → Int32) (p1 : Int32) : Nat → Int32 := if p1 < 0 then f else if p1 ≤ 8 then upd f 3 p1 else f
abbrev po_X1_openGates (cI cC cL : ClassId) (h h1 h2 h3 : Nat) (f se to re : Nat → Int32) (p1 : Int32) : Int32 → va_W → Prop := fun r w' => sr_X1_openGates f p1 = r ∧ [oL h h1 h2 h3 (sw0_X1_openGates f p1), aI cI h1 3 se, aI cI h2 7 to, aI cI h3 60 re] = w'
set_option maxHeartbeats 4000000 in
set_option maxRecDepth 100000 in
theorem ct_X1_openGates (l : Launch) (D : va_G) (cI cC cL : ClassId) (h h1 h2 h3 : Nat) (f se to re : Nat → Int32) (p1 : Int32) : ag_MI l yX1_openGates cX1_openGates 3 .int 0 0 D cI cC cL [.ref h, .int p1] [oL h h1 h2 h3 f, aI cI h1 3 se, aI cI h2 7 to, aI cI h3 60 re] (po_X1_openGates cI cC cL h h1 h2 h3 f se to re p1) := by
  refine ag_MI.of (plainFor_of_name (by decide)) (Nat.le_of_ble_eq_true rfl) ?_
  intro p e s m below meth c hx hb hr hlocks hml hown hmn hG hK A hN hA H locs hP hD hS ls hl
  have hl : lv_has ls 3 [(0, .ref h), (1, .int p1)] := hl
  refine lv_iload_n hx hb dX1_openGates_0 rfl (lv_at hl 1 rfl) ?_
  refine lv_if_lt (tgt := 10) hx hb dX1_openGates_1 (by decide) (fun c_1 => ?_) (fun c_1 => ?_)
  · refine lv_ldc (v := (-1000000001)) hx hb hown (hG _ k_266) dX1_openGates_10 ?_
    exact ag_iret [h, h1, h2, h3] hx hb hr rfl hlocks hP hS rfl rfl ⟨(by unfold sr_X1_openGates; rw [if_pos c_1]), (by show _ = _; rw [show sw0_X1_openGates f p1 = f from (by unfold sw0_X1_openGates; rw [if_pos c_1])])⟩ dX1_openGates_12
  · refine lv_iload_n hx hb dX1_openGates_4 rfl (lv_at hl 1 rfl) ?_
    refine lv_bipush (v := 8) hx hb dX1_openGates_5 (by decide) ?_
    refine lv_icmp_le (tgt := 13) hx hb dX1_openGates_7 (by decide) (fun c_7 => ?_) (fun c_7 => ?_)
    · refine lv_aload_n hx hb dX1_openGates_13 rfl (lv_at hl 0 rfl) ?_
      refine ag_getX1 (v := .int (f 3)) hx hb hG hown hK hP 0 3 rfl (by decide) k_39 rfl dX1_openGates_14 ?_
      refine lv_istore_n (lv' := [(2, .int (f 3)), (0, .ref h), (1, .int p1)]) hx hb dX1_openGates_17 rfl hl (by decide) rfl (fun ls hl => ?_)
      refine lv_aload_n hx hb dX1_openGates_18 rfl (lv_at hl 1 rfl) ?_
      refine lv_iload_n hx hb dX1_openGates_19 rfl (lv_at hl 2 rfl) ?_
      refine ag_putX1 hx hb hG hown hK hP hD hS 0 3 rfl (by decide) k_39 (by decide) rfl rfl (Nat.le_of_ble_eq_true rfl) dX1_openGates_20 (fun H locs hP hD hS => ?_)
      have hP : va_P D vwCl [oL h h1 h2 h3 (upd f 3 p1), aI cI h1 3 se, aI cI h2 7 to, aI cI h3 60 re] H := hP
      have hD : va_D A [oL h h1 h2 h3 (upd f 3 p1), aI cI h1 3 se, aI cI h2 7 to, aI cI h3 60 re] := hD
      refine lv_iload_n hx hb dX1_openGates_23 rfl (lv_at hl 0 rfl) ?_
      exact ag_iret [h, h1, h2, h3] hx hb hr rfl hlocks hP hS rfl rfl ⟨(by unfold sr_X1_openGates; rw [if_neg c_1, if_pos c_7]), (by show _ = _; rw [show sw0_X1_openGates f p1 = upd f 3 p1 from (by unfold sw0_X1_openGates; rw [if_neg c_1, if_pos c_7])])⟩ dX1_openGates_24
    · refine lv_ldc (v := (-1000000001)) hx hb hown (hG _ k_266) dX1_openGates_10 ?_
      exact ag_iret [h, h1, h2, h3] hx hb hr rfl hlocks hP hS rfl rfl ⟨(by unfold sr_X1_openGates; rw [if_neg c_1, if_neg c_7]), (by show _ = _; rw [show sw0_X1_openGates f p1 = f from (by unfold sw0_X1_openGates; rw [if_neg c_1, if_neg c_7])])⟩ dX1_openGates_12
end
section
/-! remainders that are never below 0: where a record begins, a row of the history -/
theorem ag_ofT {x : Int32} {k : Nat} (h : x.toInt = k) (hk : k < 2 ^ 31) : x = nI k := Int32.toInt_inj.mp (by rw [h, nI_toInt hk])
theorem ag_ge0 (x : Int32) : 0 ≤ x ↔ 0 ≤ x.toInt := by rw [Int32.le_iff_toInt_le, Int32.toInt_zero]
theorem ag_lt0 (x : Int32) : x < 0 ↔ x.toInt < 0 := by rw [Int32.lt_iff_toInt_lt, Int32.toInt_zero]
theorem fm_in (x : Int32) {d : Nat} (h0 : 0 < d) (hd : d < 2 ^ 30) : ∃ k, k < d ∧ sr_J9_floorMod_7cf53 x (nI d) = nI k := by
  have hr := ag_rem_int x h0 (Nat.lt_trans hd (by decide))
  have b2 := @tmod_bounds x.toInt d (by omega)
  have hsg : 0 ≤ x.toInt → 0 ≤ x.toInt.tmod d := fun h => Int.tmod_nonneg _ h
  have hsg2 : x.toInt ≤ 0 → x.toInt.tmod d ≤ 0 := fun h => by
    have := Int.tmod_nonneg (d : Int) (a := -x.toInt) (by omega)
    rw [Int.neg_tmod] at this
    omega
  unfold sr_J9_floorMod_7cf53
  generalize hz : x - x / nI d * nI d = z at hr ⊢
  by_cases hx : 0 ≤ x ^^^ nI d
  · rw [if_pos hx]
    have h1 := (ag_ge0 x).mp ((ag_xor_sign x (Nat.lt_trans hd (by decide))).mp hx)
    have h2 := hsg h1
    exact ⟨z.toInt.toNat, by omega, ag_ofT (by omega) (by omega)⟩
  · rw [if_neg hx]
    have h1 : x.toInt < 0 := by
      have := mt (ag_xor_sign x (Nat.lt_trans hd (by decide))).mpr hx
      rw [ag_ge0] at this
      omega
    have h2 := hsg2 (by omega)
    by_cases hz0 : z = 0
    · rw [if_pos hz0, hz0]
      exact ⟨0, h0, rfl⟩
    · rw [if_neg hz0]
      have h3 : z.toInt ≠ 0 := fun h => hz0 (Int32.toInt_inj.mp (by rw [h]; rfl))
      have hd2 := nI_toInt (n := d) (by omega)
      have h4 : (z + nI d).toInt = z.toInt + d := by
        rw [Int32.toInt_add, hd2, ag_bm (by omega) (by omega)]
      exact ⟨(z.toInt + d).toNat, by omega, ag_ofT (by rw [h4]; omega) (by omega)⟩
def rs (x : Int32) : Nat := (sr_X5_recordStart x).toNatClampNeg
theorem rs_at (x : Int32) : ∃ k, k < 10 ∧ sr_X5_recordStart x = nI (k * 6) := by
  obtain ⟨k, h1, h2⟩ := fm_in x (d := 10) (by decide) (by decide)
  refine ⟨k, h1, ?_⟩
  unfold sr_X5_recordStart
  have e : (10 : Int32) = nI 10 := rfl
  rw [e, h2]
  exact pk_mul k 6
theorem rs_eq (x : Int32) : sr_X5_recordStart x = nI (rs x) := by
  obtain ⟨k, h1, h2⟩ := rs_at x
  unfold rs
  rw [h2, nI_clamp (by omega)]
theorem rs_le (x : Int32) : rs x ≤ 54 := by
  obtain ⟨k, h1, h2⟩ := rs_at x
  unfold rs
  rw [h2, nI_clamp (by omega)]
  omega
end
section
/-! methods of the class: second -/
def sr_X1_openTurbines (f : Nat → Int32) (p1 : Int32) : Int32 := if p1 < 0 then (-1000000001) else if p1 ≤ 6 then f 4 else (-1000000001)
def sw0_X1_openTurbines (f : Nat → Int32) (p1 : Int32) : Nat → Int32 := if p1 < 0 then f else if p1 ≤ 6 then upd f 4 p1 else f
abbrev po_X1_openTurbines (cI cC cL : ClassId) (h h1 h2 h3 : Nat) (f se to re : Nat → Int32) (p1 : Int32) : Int32 → va_W → Prop := fun r w' => sr_X1_openTurbines f p1 = r ∧ [oL h h1 h2 h3 (sw0_X1_openTurbines f p1), aI cI h1 3 se, aI cI h2 7 to, aI cI h3 60 re] = w'
set_option maxHeartbeats 4000000 in
set_option maxRecDepth 100000 in
theorem ct_X1_openTurbines (l : Launch) (D : va_G) (cI cC cL : ClassId) (h h1 h2 h3 : Nat) (f se to re : Nat → Int32) (p1 : Int32) : ag_MI l yX1_openTurbines cX1_openTurbines 3 .int 0 0 D cI cC cL [.ref h, .int p1] [oL h h1 h2 h3 f, aI cI h1 3 se, aI cI h2 7 to, aI cI h3 60 re] (po_X1_openTurbines cI cC cL h h1 h2 h3 f se to re p1) := by
  refine ag_MI.of (plainFor_of_name (by decide)) (Nat.le_of_ble_eq_true rfl) ?_
  intro p e s m below meth c hx hb hr hlocks hml hown hmn hG hK A hN hA H locs hP hD hS ls hl
  have hl : lv_has ls 3 [(0, .ref h), (1, .int p1)] := hl
  refine lv_iload_n hx hb dX1_openTurbines_0 rfl (lv_at hl 1 rfl) ?_
  refine lv_if_lt (tgt := 10) hx hb dX1_openTurbines_1 (by decide) (fun c_1 => ?_) (fun c_1 => ?_)
  · refine lv_ldc (v := (-1000000001)) hx hb hown (hG _ k_266) dX1_openTurbines_10 ?_
    exact ag_iret [h, h1, h2, h3] hx hb hr rfl hlocks hP hS rfl rfl ⟨(by unfold sr_X1_openTurbines; rw [if_pos c_1]), (by show _ = _; rw [show sw0_X1_openTurbines f p1 = f from (by unfold sw0_X1_openTurbines; rw [if_pos c_1])])⟩ dX1_openTurbines_12
  · refine lv_iload_n hx hb dX1_openTurbines_4 rfl (lv_at hl 1 rfl) ?_
    refine lv_bipush (v := 6) hx hb dX1_openTurbines_5 (by decide) ?_
    refine lv_icmp_le (tgt := 13) hx hb dX1_openTurbines_7 (by decide) (fun c_7 => ?_) (fun c_7 => ?_)
    · refine lv_aload_n hx hb dX1_openTurbines_13 rfl (lv_at hl 0 rfl) ?_
      refine ag_getX1 (v := .int (f 4)) hx hb hG hown hK hP 0 4 rfl (by decide) k_41 rfl dX1_openTurbines_14 ?_
      refine lv_istore_n (lv' := [(2, .int (f 4)), (0, .ref h), (1, .int p1)]) hx hb dX1_openTurbines_17 rfl hl (by decide) rfl (fun ls hl => ?_)
      refine lv_aload_n hx hb dX1_openTurbines_18 rfl (lv_at hl 1 rfl) ?_
      refine lv_iload_n hx hb dX1_openTurbines_19 rfl (lv_at hl 2 rfl) ?_
      refine ag_putX1 hx hb hG hown hK hP hD hS 0 4 rfl (by decide) k_41 (by decide) rfl rfl (Nat.le_of_ble_eq_true rfl) dX1_openTurbines_20 (fun H locs hP hD hS => ?_)
      have hP : va_P D vwCl [oL h h1 h2 h3 (upd f 4 p1), aI cI h1 3 se, aI cI h2 7 to, aI cI h3 60 re] H := hP
      have hD : va_D A [oL h h1 h2 h3 (upd f 4 p1), aI cI h1 3 se, aI cI h2 7 to, aI cI h3 60 re] := hD
      refine lv_iload_n hx hb dX1_openTurbines_23 rfl (lv_at hl 0 rfl) ?_
      exact ag_iret [h, h1, h2, h3] hx hb hr rfl hlocks hP hS rfl rfl ⟨(by unfold sr_X1_openTurbines; rw [if_neg c_1, if_pos c_7]), (by show _ = _; rw [show sw0_X1_openTurbines f p1 = upd f 4 p1 from (by unfold sw0_X1_openTurbines; rw [if_neg c_1, if_pos c_7])])⟩ dX1_openTurbines_24
    · refine lv_ldc (v := (-1000000001)) hx hb hown (hG _ k_266) dX1_openTurbines_10 ?_
      exact ag_iret [h, h1, h2, h3] hx hb hr rfl hlocks hP hS rfl rfl ⟨(by unfold sr_X1_openTurbines; rw [if_neg c_1, if_neg c_7]), (by show _ = _; rw [show sw0_X1_openTurbines f p1 = f from (by unfold sw0_X1_openTurbines; rw [if_neg c_1, if_neg c_7])])⟩ dX1_openTurbines_12
def sr_X1_setPump (f : Nat → Int32) (p1 : Int32) : Int32 := if p1 < (-500) then (-1000000001) else if p1 ≤ 500 then f 5 else (-1000000001)
def sw0_X1_setPump (f : Nat → Int32) (p1 : Int32) : Nat → Int32 := if p1 < (-500) then f else if p1 ≤ 500 then upd f 5 p1 else f
abbrev po_X1_setPump (cI cC cL : ClassId) (h h1 h2 h3 : Nat) (f se to re : Nat → Int32) (p1 : Int32) : Int32 → va_W → Prop := fun r w' => sr_X1_setPump f p1 = r ∧ [oL h h1 h2 h3 (sw0_X1_setPump f p1), aI cI h1 3 se, aI cI h2 7 to, aI cI h3 60 re] = w'
set_option maxHeartbeats 4000000 in
set_option maxRecDepth 100000 in
theorem ct_X1_setPump (l : Launch) (D : va_G) (cI cC cL : ClassId) (h h1 h2 h3 : Nat) (f se to re : Nat → Int32) (p1 : Int32) : ag_MI l yX1_setPump cX1_setPump 3 .int 0 0 D cI cC cL [.ref h, .int p1] [oL h h1 h2 h3 f, aI cI h1 3 se, aI cI h2 7 to, aI cI h3 60 re] (po_X1_setPump cI cC cL h h1 h2 h3 f se to re p1) := by
  refine ag_MI.of (plainFor_of_name (by decide)) (Nat.le_of_ble_eq_true rfl) ?_
  intro p e s m below meth c hx hb hr hlocks hml hown hmn hG hK A hN hA H locs hP hD hS ls hl
  have hl : lv_has ls 3 [(0, .ref h), (1, .int p1)] := hl
  refine lv_iload_n hx hb dX1_setPump_0 rfl (lv_at hl 1 rfl) ?_
  refine lv_sipush (v := (-500)) hx hb dX1_setPump_1 (by decide) ?_
  refine lv_icmp_lt (tgt := 14) hx hb dX1_setPump_4 (by decide) (fun c_4 => ?_) (fun c_4 => ?_)
  · refine lv_ldc (v := (-1000000001)) hx hb hown (hG _ k_266) dX1_setPump_14 ?_
    exact ag_iret [h, h1, h2, h3] hx hb hr rfl hlocks hP hS rfl rfl ⟨(by unfold sr_X1_setPump; rw [if_pos c_4]), (by show _ = _; rw [show sw0_X1_setPump f p1 = f from (by unfold sw0_X1_setPump; rw [if_pos c_4])])⟩ dX1_setPump_16
  · refine lv_iload_n hx hb dX1_setPump_7 rfl (lv_at hl 1 rfl) ?_
    refine lv_sipush (v := 500) hx hb dX1_setPump_8 (by decide) ?_
    refine lv_icmp_le (tgt := 17) hx hb dX1_setPump_11 (by decide) (fun c_11 => ?_) (fun c_11 => ?_)
    · refine lv_aload_n hx hb dX1_setPump_17 rfl (lv_at hl 0 rfl) ?_
      refine ag_getX1 (v := .int (f 5)) hx hb hG hown hK hP 0 5 rfl (by decide) k_44 rfl dX1_setPump_18 ?_
      refine lv_istore_n (lv' := [(2, .int (f 5)), (0, .ref h), (1, .int p1)]) hx hb dX1_setPump_21 rfl hl (by decide) rfl (fun ls hl => ?_)
      refine lv_aload_n hx hb dX1_setPump_22 rfl (lv_at hl 1 rfl) ?_
      refine lv_iload_n hx hb dX1_setPump_23 rfl (lv_at hl 2 rfl) ?_
      refine ag_putX1 hx hb hG hown hK hP hD hS 0 5 rfl (by decide) k_44 (by decide) rfl rfl (Nat.le_of_ble_eq_true rfl) dX1_setPump_24 (fun H locs hP hD hS => ?_)
      have hP : va_P D vwCl [oL h h1 h2 h3 (upd f 5 p1), aI cI h1 3 se, aI cI h2 7 to, aI cI h3 60 re] H := hP
      have hD : va_D A [oL h h1 h2 h3 (upd f 5 p1), aI cI h1 3 se, aI cI h2 7 to, aI cI h3 60 re] := hD
      refine lv_iload_n hx hb dX1_setPump_27 rfl (lv_at hl 0 rfl) ?_
      exact ag_iret [h, h1, h2, h3] hx hb hr rfl hlocks hP hS rfl rfl ⟨(by unfold sr_X1_setPump; rw [if_neg c_4, if_pos c_11]), (by show _ = _; rw [show sw0_X1_setPump f p1 = upd f 5 p1 from (by unfold sw0_X1_setPump; rw [if_neg c_4, if_pos c_11])])⟩ dX1_setPump_28
    · refine lv_ldc (v := (-1000000001)) hx hb hown (hG _ k_266) dX1_setPump_14 ?_
      exact ag_iret [h, h1, h2, h3] hx hb hr rfl hlocks hP hS rfl rfl ⟨(by unfold sr_X1_setPump; rw [if_neg c_4, if_neg c_11]), (by show _ = _; rw [show sw0_X1_setPump f p1 = f from (by unfold sw0_X1_setPump; rw [if_neg c_4, if_neg c_11])])⟩ dX1_setPump_16
def sr_X1_setBirds (p1 : Int32) (p2 : Int32) : Int32 := if p1 < 0 then (-1000000001) else if 144 ≤ p1 then (-1000000001) else if p2 < 0 then (-1000000001) else if p2 ≤ 144 then ag_max 0 (p2 - p1) else (-1000000001)
def sw0_X1_setBirds (f : Nat → Int32) (p1 : Int32) (p2 : Int32) : Nat → Int32 := if p1 < 0 then f else if 144 ≤ p1 then f else if p2 < 0 then f else if p2 ≤ 144 then upd (upd f 6 p1) 7 p2 else f
abbrev po_X1_setBirds (cI cC cL : ClassId) (h h1 h2 h3 : Nat) (f se to re : Nat → Int32) (p1 : Int32) (p2 : Int32) : Int32 → va_W → Prop := fun r w' => sr_X1_setBirds p1 p2 = r ∧ [oL h h1 h2 h3 (sw0_X1_setBirds f p1 p2), aI cI h1 3 se, aI cI h2 7 to, aI cI h3 60 re] = w'
set_option maxHeartbeats 4000000 in
set_option maxRecDepth 100000 in
theorem ct_X1_setBirds (l : Launch) (D : va_G) (cI cC cL : ClassId) (h h1 h2 h3 : Nat) (f se to re : Nat → Int32) (p1 : Int32) (p2 : Int32) : ag_MI l yX1_setBirds cX1_setBirds 3 .int 1 13 D cI cC cL [.ref h, .int p1, .int p2] [oL h h1 h2 h3 f, aI cI h1 3 se, aI cI h2 7 to, aI cI h3 60 re] (po_X1_setBirds cI cC cL h h1 h2 h3 f se to re p1 p2) := by
  refine ag_MI.of (plainFor_of_name (by decide)) (Nat.le_of_ble_eq_true rfl) ?_
  intro p e s m below meth c hx hb hr hlocks hml hown hmn hG hK A hN hA H locs hP hD hS ls hl
  have hl : lv_has ls 3 [(0, .ref h), (1, .int p1), (2, .int p2)] := hl
  refine lv_iload_n hx hb dX1_setBirds_0 rfl (lv_at hl 1 rfl) ?_
  refine lv_if_lt (tgt := 22) hx hb dX1_setBirds_1 (by decide) (fun c_1 => ?_) (fun c_1 => ?_)
  · refine lv_ldc (v := (-1000000001)) hx hb hown (hG _ k_266) dX1_setBirds_22 ?_
    exact ag_iret [h, h1, h2, h3] hx hb hr rfl hlocks hP hS rfl rfl ⟨(by unfold sr_X1_setBirds; rw [if_pos c_1]), (by show _ = _; rw [show sw0_X1_setBirds f p1 p2 = f from (by unfold sw0_X1_setBirds; rw [if_pos c_1])])⟩ dX1_setBirds_24
  · refine lv_iload_n hx hb dX1_setBirds_4 rfl (lv_at hl 1 rfl) ?_
    refine lv_sipush (v := 144) hx hb dX1_setBirds_5 (by decide) ?_
    refine lv_icmp_ge (tgt := 22) hx hb dX1_setBirds_8 (by decide) (fun c_8 => ?_) (fun c_8 => ?_)
    · refine lv_ldc (v := (-1000000001)) hx hb hown (hG _ k_266) dX1_setBirds_22 ?_
      exact ag_iret [h, h1, h2, h3] hx hb hr rfl hlocks hP hS rfl rfl ⟨(by unfold sr_X1_setBirds; rw [if_neg c_1, if_pos c_8]), (by show _ = _; rw [show sw0_X1_setBirds f p1 p2 = f from (by unfold sw0_X1_setBirds; rw [if_neg c_1, if_pos c_8])])⟩ dX1_setBirds_24
    · refine lv_iload_n hx hb dX1_setBirds_11 rfl (lv_at hl 2 rfl) ?_
      refine lv_if_lt (tgt := 22) hx hb dX1_setBirds_12 (by decide) (fun c_12 => ?_) (fun c_12 => ?_)
      · refine lv_ldc (v := (-1000000001)) hx hb hown (hG _ k_266) dX1_setBirds_22 ?_
        exact ag_iret [h, h1, h2, h3] hx hb hr rfl hlocks hP hS rfl rfl ⟨(by unfold sr_X1_setBirds; rw [if_neg c_1, if_neg c_8, if_pos c_12]), (by show _ = _; rw [show sw0_X1_setBirds f p1 p2 = f from (by unfold sw0_X1_setBirds; rw [if_neg c_1, if_neg c_8, if_pos c_12])])⟩ dX1_setBirds_24
      · refine lv_iload_n hx hb dX1_setBirds_15 rfl (lv_at hl 2 rfl) ?_
        refine lv_sipush (v := 144) hx hb dX1_setBirds_16 (by decide) ?_
        refine lv_icmp_le (tgt := 25) hx hb dX1_setBirds_19 (by decide) (fun c_19 => ?_) (fun c_19 => ?_)
        · refine lv_aload_n hx hb dX1_setBirds_25 rfl (lv_at hl 0 rfl) ?_
          refine lv_iload_n hx hb dX1_setBirds_26 rfl (lv_at hl 1 rfl) ?_
          refine ag_putX1 hx hb hG hown hK hP hD hS 0 6 rfl (by decide) k_47 (by decide) rfl rfl (Nat.le_of_ble_eq_true rfl) dX1_setBirds_27 (fun H locs hP hD hS => ?_)
          have hP : va_P D vwCl [oL h h1 h2 h3 (upd f 6 p1), aI cI h1 3 se, aI cI h2 7 to, aI cI h3 60 re] H := hP
          have hD : va_D A [oL h h1 h2 h3 (upd f 6 p1), aI cI h1 3 se, aI cI h2 7 to, aI cI h3 60 re] := hD
          refine lv_aload_n hx hb dX1_setBirds_30 rfl (lv_at hl 0 rfl) ?_
          refine lv_iload_n hx hb dX1_setBirds_31 rfl (lv_at hl 2 rfl) ?_
          refine ag_putX1 hx hb hG hown hK hP hD hS 0 7 rfl (by decide) k_48 (by decide) rfl rfl (Nat.le_of_ble_eq_true rfl) dX1_setBirds_32 (fun H locs hP hD hS => ?_)
          have hP : va_P D vwCl [oL h h1 h2 h3 (upd (upd f 6 p1) 7 p2), aI cI h1 3 se, aI cI h2 7 to, aI cI h3 60 re] H := hP
          have hD : va_D A [oL h h1 h2 h3 (upd (upd f 6 p1) 7 p2), aI cI h1 3 se, aI cI h2 7 to, aI cI h3 60 re] := hD
          refine lv_iconst (v := 0) hx hb dX1_setBirds_35 (by decide) ?_
          refine lv_iload_n hx hb dX1_setBirds_36 rfl (lv_at hl 2 rfl) ?_
          refine lv_iload_n hx hb dX1_setBirds_37 rfl (lv_at hl 1 rfl) ?_
          refine lv_isub hx hb dX1_setBirds_38 ?_
          refine va_mmax hx hb (hml.trans hl.1.symm) hown (hG _ k_236) (hG _ k_237) (hG _ k_14) (hG _ k_238) (Nat.le_of_ble_eq_true rfl) (Nat.le_of_ble_eq_true rfl) (Nat.zero_le _) (Nat.zero_le _) dX1_setBirds_39 ?_
          refine W.eq (g2 := F0 m 42 ls [.int (ag_max 0 (p2 - p1))]) rfl ?_
          exact ag_iret [h, h1, h2, h3] hx hb hr rfl hlocks hP hS rfl rfl ⟨(by unfold sr_X1_setBirds; rw [if_neg c_1, if_neg c_8, if_neg c_12, if_pos c_19]), (by show _ = _; rw [show sw0_X1_setBirds f p1 p2 = upd (upd f 6 p1) 7 p2 from (by unfold sw0_X1_setBirds; rw [if_neg c_1, if_neg c_8, if_neg c_12, if_pos c_19])])⟩ dX1_setBirds_42
        · refine lv_ldc (v := (-1000000001)) hx hb hown (hG _ k_266) dX1_setBirds_22 ?_
          exact ag_iret [h, h1, h2, h3] hx hb hr rfl hlocks hP hS rfl rfl ⟨(by unfold sr_X1_setBirds; rw [if_neg c_1, if_neg c_8, if_neg c_12, if_neg c_19]), (by show _ = _; rw [show sw0_X1_setBirds f p1 p2 = f from (by unfold sw0_X1_setBirds; rw [if_neg c_1, if_neg c_8, if_neg c_12, if_neg c_19])])⟩ dX1_setBirds_24
def xv33_1_X1_dredgeSilt (f : Nat → Int32) (p1 : Int32) : Int32 := (f 2) - p1
def xv45_2_X1_dredgeSilt (to : Nat → Int32) (p1 : Int32) : Int32 := (to 4) + p1
def sr_X1_dredgeSilt (f : Nat → Int32) (p1 : Int32) : Int32 := if p1 < 1 then (-1000000001) else if p1 ≤ 20000 then if p1 ≤ (f 2) then (xv33_1_X1_dredgeSilt f p1) else (-1000000002) else (-1000000001)
def sw0_X1_dredgeSilt (f : Nat → Int32) (p1 : Int32) : Nat → Int32 := if p1 < 1 then f else if p1 ≤ 20000 then if p1 ≤ (f 2) then upd f 2 (xv33_1_X1_dredgeSilt f p1) else f else f
def sw2_X1_dredgeSilt (f : Nat → Int32) (to : Nat → Int32) (p1 : Int32) : Nat → Int32 := if p1 < 1 then to else if p1 ≤ 20000 then if p1 ≤ (f 2) then upd to 4 (xv45_2_X1_dredgeSilt to p1) else to else to
abbrev po_X1_dredgeSilt (cI cC cL : ClassId) (h h1 h2 h3 : Nat) (f se to re : Nat → Int32) (p1 : Int32) : Int32 → va_W → Prop := fun r w' => sr_X1_dredgeSilt f p1 = r ∧ [oL h h1 h2 h3 (sw0_X1_dredgeSilt f p1), aI cI h1 3 se, aI cI h2 7 (sw2_X1_dredgeSilt f to p1), aI cI h3 60 re] = w'
set_option maxHeartbeats 4000000 in
set_option maxRecDepth 100000 in
theorem ct_X1_dredgeSilt (l : Launch) (D : va_G) (cI cC cL : ClassId) (h h1 h2 h3 : Nat) (f se to re : Nat → Int32) (p1 : Int32) : ag_MI l yX1_dredgeSilt cX1_dredgeSilt 2 .int 0 0 D cI cC cL [.ref h, .int p1] [oL h h1 h2 h3 f, aI cI h1 3 se, aI cI h2 7 to, aI cI h3 60 re] (po_X1_dredgeSilt cI cC cL h h1 h2 h3 f se to re p1) := by
  refine ag_MI.of (plainFor_of_name (by decide)) (Nat.le_of_ble_eq_true rfl) ?_
  intro p e s m below meth c hx hb hr hlocks hml hown hmn hG hK A hN hA H locs hP hD hS ls hl
  have hl : lv_has ls 2 [(0, .ref h), (1, .int p1)] := hl
  refine lv_iload_n hx hb dX1_dredgeSilt_0 rfl (lv_at hl 1 rfl) ?_
  refine lv_iconst (v := 1) hx hb dX1_dredgeSilt_1 (by decide) ?_
  refine lv_icmp_lt (tgt := 12) hx hb dX1_dredgeSilt_2 (by decide) (fun c_2 => ?_) (fun c_2 => ?_)
  · refine lv_ldc (v := (-1000000001)) hx hb hown (hG _ k_266) dX1_dredgeSilt_12 ?_
    exact ag_iret [h, h1, h2, h3] hx hb hr rfl hlocks hP hS rfl rfl ⟨(by unfold sr_X1_dredgeSilt; rw [if_pos c_2]), (by show _ = _; rw [show sw0_X1_dredgeSilt f p1 = f from (by unfold sw0_X1_dredgeSilt; rw [if_pos c_2]), show sw2_X1_dredgeSilt f to p1 = to from (by unfold sw2_X1_dredgeSilt; rw [if_pos c_2])])⟩ dX1_dredgeSilt_14
  · refine lv_iload_n hx hb dX1_dredgeSilt_5 rfl (lv_at hl 1 rfl) ?_
    refine lv_sipush (v := 20000) hx hb dX1_dredgeSilt_6 (by decide) ?_
    refine lv_icmp_le (tgt := 15) hx hb dX1_dredgeSilt_9 (by decide) (fun c_9 => ?_) (fun c_9 => ?_)
    · refine lv_iload_n hx hb dX1_dredgeSilt_15 rfl (lv_at hl 1 rfl) ?_
      refine lv_aload_n hx hb dX1_dredgeSilt_16 rfl (lv_at hl 0 rfl) ?_
      refine ag_getX1 (v := .int (f 2)) hx hb hG hown hK hP 0 2 rfl (by decide) k_35 rfl dX1_dredgeSilt_17 ?_
      refine lv_icmp_le (tgt := 26) hx hb dX1_dredgeSilt_20 (by decide) (fun c_20 => ?_) (fun c_20 => ?_)
      · refine lv_aload_n hx hb dX1_dredgeSilt_26 rfl (lv_at hl 0 rfl) ?_
        refine lv_dup hx hb dX1_dredgeSilt_27 rfl ?_
        refine ag_getX1 (v := .int (f 2)) hx hb hG hown hK hP 0 2 rfl (by decide) k_35 rfl dX1_dredgeSilt_28 ?_
        refine lv_iload_n hx hb dX1_dredgeSilt_31 rfl (lv_at hl 1 rfl) ?_
        refine lv_isub hx hb dX1_dredgeSilt_32 ?_
        refine ag_topn (v := xv33_1_X1_dredgeSilt f p1) rfl (fun x33_1 ex33_1 => ?_)
        refine ag_putX1 hx hb hG hown hK hP hD hS 0 2 rfl (by decide) k_35 (by decide) rfl rfl (Nat.le_of_ble_eq_true rfl) dX1_dredgeSilt_33 (fun H locs hP hD hS => ?_)
        have hP : va_P D vwCl [oL h h1 h2 h3 (upd f 2 x33_1), aI cI h1 3 se, aI cI h2 7 to, aI cI h3 60 re] H := hP
        have hD : va_D A [oL h h1 h2 h3 (upd f 2 x33_1), aI cI h1 3 se, aI cI h2 7 to, aI cI h3 60 re] := hD
        refine lv_aload_n hx hb dX1_dredgeSilt_36 rfl (lv_at hl 0 rfl) ?_
        refine ag_getX1 (v := .ref h2) hx hb hG hown hK hP 0 9 rfl (by decide) k_52 rfl dX1_dredgeSilt_37 ?_
        refine lv_iconst (v := 4) hx hb dX1_dredgeSilt_40 (by decide) ?_
        refine lv_dup2_11 hx hb dX1_dredgeSilt_41 rfl rfl ?_
        refine ag_ild (k := 4) (v := to 4) hx hb hK hP 2 rfl rfl (Nat.le_of_ble_eq_true rfl) (Nat.le_of_ble_eq_true rfl) rfl dX1_dredgeSilt_42 ?_
        refine lv_iload_n hx hb dX1_dredgeSilt_43 rfl (lv_at hl 1 rfl) ?_
        refine lv_iadd hx hb dX1_dredgeSilt_44 ?_
        refine ag_topn (v := xv45_2_X1_dredgeSilt to p1) rfl (fun x45_2 ex45_2 => ?_)
        refine ag_ist (k := 4) hx hb hK hP hD hS 2 rfl rfl (Nat.le_of_ble_eq_true rfl) (Nat.le_of_ble_eq_true rfl) dX1_dredgeSilt_45 (fun H locs hP hD hS => ?_)
        have hP : va_P D vwCl [oL h h1 h2 h3 (upd f 2 x33_1), aI cI h1 3 se, aI cI h2 7 (upd to 4 x45_2), aI cI h3 60 re] H := hP
        have hD : va_D A [oL h h1 h2 h3 (upd f 2 x33_1), aI cI h1 3 se, aI cI h2 7 (upd to 4 x45_2), aI cI h3 60 re] := hD
        refine lv_aload_n hx hb dX1_dredgeSilt_46 rfl (lv_at hl 0 rfl) ?_
        refine ag_getX1 (v := .int x33_1) hx hb hG hown hK hP 0 2 rfl (by decide) k_35 rfl dX1_dredgeSilt_47 ?_
        revert hP; revert hD; revert hS; revert hl
        subst ex45_2
        subst ex33_1
        intro hl hS hD hP
        exact ag_iret [h, h1, h2, h3] hx hb hr rfl hlocks hP hS rfl rfl ⟨(by unfold sr_X1_dredgeSilt; rw [if_neg c_2, if_pos c_9, if_pos c_20]), (by show _ = _; rw [show sw0_X1_dredgeSilt f p1 = upd f 2 (xv33_1_X1_dredgeSilt f p1) from (by unfold sw0_X1_dredgeSilt; rw [if_neg c_2, if_pos c_9, if_pos c_20]), show sw2_X1_dredgeSilt f to p1 = upd to 4 (xv45_2_X1_dredgeSilt to p1) from (by unfold sw2_X1_dredgeSilt; rw [if_neg c_2, if_pos c_9, if_pos c_20])])⟩ dX1_dredgeSilt_50
      · refine lv_ldc (v := (-1000000002)) hx hb hown (hG _ k_318) dX1_dredgeSilt_23 ?_
        exact ag_iret [h, h1, h2, h3] hx hb hr rfl hlocks hP hS rfl rfl ⟨(by unfold sr_X1_dredgeSilt; rw [if_neg c_2, if_pos c_9, if_neg c_20]), (by show _ = _; rw [show sw0_X1_dredgeSilt f p1 = f from (by unfold sw0_X1_dredgeSilt; rw [if_neg c_2, if_pos c_9, if_neg c_20]), show sw2_X1_dredgeSilt f to p1 = to from (by unfold sw2_X1_dredgeSilt; rw [if_neg c_2, if_pos c_9, if_neg c_20])])⟩ dX1_dredgeSilt_25
    · refine lv_ldc (v := (-1000000001)) hx hb hown (hG _ k_266) dX1_dredgeSilt_12 ?_
      exact ag_iret [h, h1, h2, h3] hx hb hr rfl hlocks hP hS rfl rfl ⟨(by unfold sr_X1_dredgeSilt; rw [if_neg c_2, if_neg c_9]), (by show _ = _; rw [show sw0_X1_dredgeSilt f p1 = f from (by unfold sw0_X1_dredgeSilt; rw [if_neg c_2, if_neg c_9]), show sw2_X1_dredgeSilt f to p1 = to from (by unfold sw2_X1_dredgeSilt; rw [if_neg c_2, if_neg c_9])])⟩ dX1_dredgeSilt_14
def sr_X1_changeSetting (se : Nat → Int32) (p1 : Int32) (p2 : Int32) : Int32 := if p1 < 0 then (-1000000001) else if p1 < 3 then if p2 < (if p1.toNatClampNeg = 1 then 0 else 1) then (-1000000001) else if p2 ≤ (if p1.toNatClampNeg = 2 then 9999 else 400) then se p1.toNatClampNeg else (-1000000001) else (-1000000001)
def sw1_X1_changeSetting (se : Nat → Int32) (p1 : Int32) (p2 : Int32) : Nat → Int32 := if p1 < 0 then se else if p1 < 3 then if p2 < (if p1.toNatClampNeg = 1 then 0 else 1) then se else if p2 ≤ (if p1.toNatClampNeg = 2 then 9999 else 400) then upd se p1.toNatClampNeg p2 else se else se
abbrev po_X1_changeSetting (cI cC cL : ClassId) (h h1 h2 h3 : Nat) (f se to re : Nat → Int32) (p1 : Int32) (p2 : Int32) : Int32 → va_W → Prop := fun r w' => sr_X1_changeSetting se p1 p2 = r ∧ [oL h h1 h2 h3 f, aI cI h1 3 (sw1_X1_changeSetting se p1 p2), aI cI h2 7 to, aI cI h3 60 re] = w'
set_option maxHeartbeats 4000000 in
set_option maxRecDepth 100000 in
theorem ct_X1_changeSetting (l : Launch) (D : va_G) (cI cC cL : ClassId) (h h1 h2 h3 : Nat) (f se to re : Nat → Int32) (p1 : Int32) (p2 : Int32) : ag_MI l yX1_changeSetting cX1_changeSetting 4 .int 0 0 D cI cC cL [.ref h, .int p1, .int p2] [oL h h1 h2 h3 f, aI cI h1 3 se, aI cI h2 7 to, aI cI h3 60 re] (po_X1_changeSetting cI cC cL h h1 h2 h3 f se to re p1 p2) := by
  refine ag_MI.of (plainFor_of_name (by decide)) (Nat.le_of_ble_eq_true rfl) ?_
  intro p e s m below meth c hx hb hr hlocks hml hown hmn hG hK A hN hA H locs hP hD hS ls hl
  have hl : lv_has ls 4 [(0, .ref h), (1, .int p1), (2, .int p2)] := hl
  obtain ⟨tL, tM, hzL, hyL, hzM, hyM⟩ := hN.2
  refine lv_iload_n hx hb dX1_changeSetting_0 rfl (lv_at hl 1 rfl) ?_
  refine lv_if_lt (tgt := 9) hx hb dX1_changeSetting_1 (by decide) (fun c_1 => ?_) (fun c_1 => ?_)
  · refine lv_ldc (v := (-1000000001)) hx hb hown (hG _ k_266) dX1_changeSetting_9 ?_
    exact ag_iret [h, h1, h2, h3] hx hb hr rfl hlocks hP hS rfl rfl ⟨(by unfold sr_X1_changeSetting; rw [if_pos c_1]), (by show _ = _; rw [show sw1_X1_changeSetting se p1 p2 = se from (by unfold sw1_X1_changeSetting; rw [if_pos c_1])])⟩ dX1_changeSetting_11
  · refine lv_iload_n hx hb dX1_changeSetting_4 rfl (lv_at hl 1 rfl) ?_
    refine lv_iconst (v := 3) hx hb dX1_changeSetting_5 (by decide) ?_
    refine lv_icmp_lt (tgt := 12) hx hb dX1_changeSetting_6 (by decide) (fun c_6 => ?_) (fun c_6 => ?_)
    · refine lv_iload_n hx hb dX1_changeSetting_12 rfl (lv_at hl 2 rfl) ?_
      refine va_getsN hx hb hzL hS hown (va_Nw.use rfl hN.1.2.2.2.2.2.2.2.2.1) (fun _ h9 => h9) dX1_changeSetting_13 ?_
      refine lv_iload_n hx hb dX1_changeSetting_16 rfl (lv_at hl 1 rfl) ?_
      refine va_ti hx hb hyL hS (N := 3) (v := .int (if p1.toNatClampNeg = 1 then 0 else 1)) (by rw [(ag_ixr (n := 3) (by decide) c_1 c_6).1]; exact vp_in_nI (ag_ixr (n := 3) (by decide) c_1 c_6).2 (by decide)) rfl dX1_changeSetting_17 ?_
      refine lv_icmp_lt (tgt := 30) hx hb dX1_changeSetting_18 (by decide) (fun c_18 => ?_) (fun c_18 => ?_)
      · refine lv_ldc (v := (-1000000001)) hx hb hown (hG _ k_266) dX1_changeSetting_30 ?_
        exact ag_iret [h, h1, h2, h3] hx hb hr rfl hlocks hP hS rfl rfl ⟨(by unfold sr_X1_changeSetting; rw [if_neg c_1, if_pos c_6, if_pos c_18]), (by show _ = _; rw [show sw1_X1_changeSetting se p1 p2 = se from (by unfold sw1_X1_changeSetting; rw [if_neg c_1, if_pos c_6, if_pos c_18])])⟩ dX1_changeSetting_32
      · refine lv_iload_n hx hb dX1_changeSetting_21 rfl (lv_at hl 2 rfl) ?_
        refine va_getsN hx hb hzM hS hown (va_Nw.use rfl hN.1.2.2.2.2.2.2.2.2.2) (fun _ h9 => h9) dX1_changeSetting_22 ?_
        refine lv_iload_n hx hb dX1_changeSetting_25 rfl (lv_at hl 1 rfl) ?_
        refine va_ti hx hb hyM hS (N := 3) (v := .int (if p1.toNatClampNeg = 2 then 9999 else 400)) (by rw [(ag_ixr (n := 3) (by decide) c_1 c_6).1]; exact vp_in_nI (ag_ixr (n := 3) (by decide) c_1 c_6).2 (by decide)) rfl dX1_changeSetting_26 ?_
        refine lv_icmp_le (tgt := 33) hx hb dX1_changeSetting_27 (by decide) (fun c_27 => ?_) (fun c_27 => ?_)
        · refine lv_aload_n hx hb dX1_changeSetting_33 rfl (lv_at hl 0 rfl) ?_
          refine ag_getX1 (v := .ref h1) hx hb hG hown hK hP 0 8 rfl (by decide) k_49 rfl dX1_changeSetting_34 ?_
          refine lv_iload_n hx hb dX1_changeSetting_37 rfl (lv_at hl 1 rfl) ?_
          refine ag_ild (k := p1.toNatClampNeg) (v := se p1.toNatClampNeg) hx hb hK hP 1 rfl (ag_ixr (n := 3) (by decide) c_1 c_6).1 (ag_ixr (n := 3) (by decide) c_1 c_6).2 (Nat.le_of_ble_eq_true rfl) rfl dX1_changeSetting_38 ?_
          refine lv_istore_n (lv' := [(3, .int (se p1.toNatClampNeg)), (0, .ref h), (1, .int p1), (2, .int p2)]) hx hb dX1_changeSetting_39 rfl hl (by decide) rfl (fun ls hl => ?_)
          refine lv_aload_n hx hb dX1_changeSetting_40 rfl (lv_at hl 1 rfl) ?_
          refine ag_getX1 (v := .ref h1) hx hb hG hown hK hP 0 8 rfl (by decide) k_49 rfl dX1_changeSetting_41 ?_
          refine lv_iload_n hx hb dX1_changeSetting_44 rfl (lv_at hl 2 rfl) ?_
          refine lv_iload_n hx hb dX1_changeSetting_45 rfl (lv_at hl 3 rfl) ?_
          refine ag_ist (k := p1.toNatClampNeg) hx hb hK hP hD hS 1 rfl (ag_ixr (n := 3) (by decide) c_1 c_6).1 (ag_ixr (n := 3) (by decide) c_1 c_6).2 (Nat.le_of_ble_eq_true rfl) dX1_changeSetting_46 (fun H locs hP hD hS => ?_)
          have hP : va_P D vwCl [oL h h1 h2 h3 f, aI cI h1 3 (upd se p1.toNatClampNeg p2), aI cI h2 7 to, aI cI h3 60 re] H := hP
          have hD : va_D A [oL h h1 h2 h3 f, aI cI h1 3 (upd se p1.toNatClampNeg p2), aI cI h2 7 to, aI cI h3 60 re] := hD
          refine lv_iload_n hx hb dX1_changeSetting_47 rfl (lv_at hl 0 rfl) ?_
          exact ag_iret [h, h1, h2, h3] hx hb hr rfl hlocks hP hS rfl rfl ⟨(by unfold sr_X1_changeSetting; rw [if_neg c_1, if_pos c_6, if_neg c_18, if_pos c_27]), (by show _ = _; rw [show sw1_X1_changeSetting se p1 p2 = upd se p1.toNatClampNeg p2 from (by unfold sw1_X1_changeSetting; rw [if_neg c_1, if_pos c_6, if_neg c_18, if_pos c_27])])⟩ dX1_changeSetting_48
        · refine lv_ldc (v := (-1000000001)) hx hb hown (hG _ k_266) dX1_changeSetting_30 ?_
          exact ag_iret [h, h1, h2, h3] hx hb hr rfl hlocks hP hS rfl rfl ⟨(by unfold sr_X1_changeSetting; rw [if_neg c_1, if_pos c_6, if_neg c_18, if_neg c_27]), (by show _ = _; rw [show sw1_X1_changeSetting se p1 p2 = se from (by unfold sw1_X1_changeSetting; rw [if_neg c_1, if_pos c_6, if_neg c_18, if_neg c_27])])⟩ dX1_changeSetting_32
    · refine lv_ldc (v := (-1000000001)) hx hb hown (hG _ k_266) dX1_changeSetting_9 ?_
      exact ag_iret [h, h1, h2, h3] hx hb hr rfl hlocks hP hS rfl rfl ⟨(by unfold sr_X1_changeSetting; rw [if_neg c_1, if_neg c_6]), (by show _ = _; rw [show sw1_X1_changeSetting se p1 p2 = se from (by unfold sw1_X1_changeSetting; rw [if_neg c_1, if_neg c_6])])⟩ dX1_changeSetting_11
abbrev po_X1_copyFrom (cI cC cL : ClassId) (h o h1 h2 h3 o1 o2 o3 : Nat) (f se to re of ose oto ore : Nat → Int32) : va_W → Prop := fun w' => [oL h h1 h2 h3 of, aI cI h1 3 ose, aI cI h2 7 oto, aI cI h3 60 ore, oL o o1 o2 o3 of, aI cI o1 3 ose, aI cI o2 7 oto, aI cI o3 60 ore] = w'
set_option maxHeartbeats 4000000 in
set_option maxRecDepth 100000 in
theorem ct_X1_copyFrom (l : Launch) (D : va_G) (cI cC cL : ClassId) (h o h1 h2 h3 o1 o2 o3 : Nat) (f se to re of ose oto ore : Nat → Int32) : ag_MV l yX1_copyFrom cX1_copyFrom 2 1 30 D cI cC cL [.ref h, .ref o] [oL h h1 h2 h3 f, aI cI h1 3 se, aI cI h2 7 to, aI cI h3 60 re, oL o o1 o2 o3 of, aI cI o1 3 ose, aI cI o2 7 oto, aI cI o3 60 ore] (po_X1_copyFrom cI cC cL h o h1 h2 h3 o1 o2 o3 f se to re of ose oto ore) := by
  refine ag_MV.of (plainFor_of_name (by decide)) (Nat.le_of_ble_eq_true rfl) ?_
  intro p e s m below meth c hx hb hr hlocks hml hown hmn hG hK A hN hA H locs hP hD hS ls hl
  have hl : lv_has ls 2 [(0, .ref h), (1, .ref o)] := hl
  refine lv_aload_n hx hb dX1_copyFrom_0 rfl (lv_at hl 0 rfl) ?_
  refine lv_aload_n hx hb dX1_copyFrom_1 rfl (lv_at hl 1 rfl) ?_
  refine ag_getX1 (v := .int (of 0)) hx hb hG hown hK hP 4 0 rfl (by decide) k_30 rfl dX1_copyFrom_2 ?_
  refine ag_putX1 hx hb hG hown hK hP hD hS 0 0 rfl (by decide) k_30 (by decide) rfl rfl (Nat.le_of_ble_eq_true rfl) dX1_copyFrom_5 (fun H locs hP hD hS => ?_)
  have hP : va_P D vwCl [oL h h1 h2 h3 (upd f 0 (of 0)), aI cI h1 3 se, aI cI h2 7 to, aI cI h3 60 re, oL o o1 o2 o3 of, aI cI o1 3 ose, aI cI o2 7 oto, aI cI o3 60 ore] H := hP
  have hD : va_D A [oL h h1 h2 h3 (upd f 0 (of 0)), aI cI h1 3 se, aI cI h2 7 to, aI cI h3 60 re, oL o o1 o2 o3 of, aI cI o1 3 ose, aI cI o2 7 oto, aI cI o3 60 ore] := hD
  refine lv_aload_n hx hb dX1_copyFrom_8 rfl (lv_at hl 0 rfl) ?_
  refine lv_aload_n hx hb dX1_copyFrom_9 rfl (lv_at hl 1 rfl) ?_
  refine ag_getX1 (v := .int (of 1)) hx hb hG hown hK hP 4 1 rfl (by decide) k_32 rfl dX1_copyFrom_10 ?_
  refine ag_putX1 hx hb hG hown hK hP hD hS 0 1 rfl (by decide) k_32 (by decide) rfl rfl (Nat.le_of_ble_eq_true rfl) dX1_copyFrom_13 (fun H locs hP hD hS => ?_)
  have hP : va_P D vwCl [oL h h1 h2 h3 (upd (upd f 0 (of 0)) 1 (of 1)), aI cI h1 3 se, aI cI h2 7 to, aI cI h3 60 re, oL o o1 o2 o3 of, aI cI o1 3 ose, aI cI o2 7 oto, aI cI o3 60 ore] H := hP
  have hD : va_D A [oL h h1 h2 h3 (upd (upd f 0 (of 0)) 1 (of 1)), aI cI h1 3 se, aI cI h2 7 to, aI cI h3 60 re, oL o o1 o2 o3 of, aI cI o1 3 ose, aI cI o2 7 oto, aI cI o3 60 ore] := hD
  refine lv_aload_n hx hb dX1_copyFrom_16 rfl (lv_at hl 0 rfl) ?_
  refine lv_aload_n hx hb dX1_copyFrom_17 rfl (lv_at hl 1 rfl) ?_
  refine ag_getX1 (v := .int (of 2)) hx hb hG hown hK hP 4 2 rfl (by decide) k_35 rfl dX1_copyFrom_18 ?_
  refine ag_putX1 hx hb hG hown hK hP hD hS 0 2 rfl (by decide) k_35 (by decide) rfl rfl (Nat.le_of_ble_eq_true rfl) dX1_copyFrom_21 (fun H locs hP hD hS => ?_)
  have hP : va_P D vwCl [oL h h1 h2 h3 (upd (upd (upd f 0 (of 0)) 1 (of 1)) 2 (of 2)), aI cI h1 3 se, aI cI h2 7 to, aI cI h3 60 re, oL o o1 o2 o3 of, aI cI o1 3 ose, aI cI o2 7 oto, aI cI o3 60 ore] H := hP
  have hD : va_D A [oL h h1 h2 h3 (upd (upd (upd f 0 (of 0)) 1 (of 1)) 2 (of 2)), aI cI h1 3 se, aI cI h2 7 to, aI cI h3 60 re, oL o o1 o2 o3 of, aI cI o1 3 ose, aI cI o2 7 oto, aI cI o3 60 ore] := hD
  refine lv_aload_n hx hb dX1_copyFrom_24 rfl (lv_at hl 0 rfl) ?_
  refine lv_aload_n hx hb dX1_copyFrom_25 rfl (lv_at hl 1 rfl) ?_
  refine ag_getX1 (v := .int (of 3)) hx hb hG hown hK hP 4 3 rfl (by decide) k_39 rfl dX1_copyFrom_26 ?_
  refine ag_putX1 hx hb hG hown hK hP hD hS 0 3 rfl (by decide) k_39 (by decide) rfl rfl (Nat.le_of_ble_eq_true rfl) dX1_copyFrom_29 (fun H locs hP hD hS => ?_)
  have hP : va_P D vwCl [oL h h1 h2 h3 (upd (upd (upd (upd f 0 (of 0)) 1 (of 1)) 2 (of 2)) 3 (of 3)), aI cI h1 3 se, aI cI h2 7 to, aI cI h3 60 re, oL o o1 o2 o3 of, aI cI o1 3 ose, aI cI o2 7 oto, aI cI o3 60 ore] H := hP
  have hD : va_D A [oL h h1 h2 h3 (upd (upd (upd (upd f 0 (of 0)) 1 (of 1)) 2 (of 2)) 3 (of 3)), aI cI h1 3 se, aI cI h2 7 to, aI cI h3 60 re, oL o o1 o2 o3 of, aI cI o1 3 ose, aI cI o2 7 oto, aI cI o3 60 ore] := hD
  refine lv_aload_n hx hb dX1_copyFrom_32 rfl (lv_at hl 0 rfl) ?_
  refine lv_aload_n hx hb dX1_copyFrom_33 rfl (lv_at hl 1 rfl) ?_
  refine ag_getX1 (v := .int (of 4)) hx hb hG hown hK hP 4 4 rfl (by decide) k_41 rfl dX1_copyFrom_34 ?_
  refine ag_putX1 hx hb hG hown hK hP hD hS 0 4 rfl (by decide) k_41 (by decide) rfl rfl (Nat.le_of_ble_eq_true rfl) dX1_copyFrom_37 (fun H locs hP hD hS => ?_)
  have hP : va_P D vwCl [oL h h1 h2 h3 (upd (upd (upd (upd (upd f 0 (of 0)) 1 (of 1)) 2 (of 2)) 3 (of 3)) 4 (of 4)), aI cI h1 3 se, aI cI h2 7 to, aI cI h3 60 re, oL o o1 o2 o3 of, aI cI o1 3 ose, aI cI o2 7 oto, aI cI o3 60 ore] H := hP
  have hD : va_D A [oL h h1 h2 h3 (upd (upd (upd (upd (upd f 0 (of 0)) 1 (of 1)) 2 (of 2)) 3 (of 3)) 4 (of 4)), aI cI h1 3 se, aI cI h2 7 to, aI cI h3 60 re, oL o o1 o2 o3 of, aI cI o1 3 ose, aI cI o2 7 oto, aI cI o3 60 ore] := hD
  refine lv_aload_n hx hb dX1_copyFrom_40 rfl (lv_at hl 0 rfl) ?_
  refine lv_aload_n hx hb dX1_copyFrom_41 rfl (lv_at hl 1 rfl) ?_
  refine ag_getX1 (v := .int (of 5)) hx hb hG hown hK hP 4 5 rfl (by decide) k_44 rfl dX1_copyFrom_42 ?_
  refine ag_putX1 hx hb hG hown hK hP hD hS 0 5 rfl (by decide) k_44 (by decide) rfl rfl (Nat.le_of_ble_eq_true rfl) dX1_copyFrom_45 (fun H locs hP hD hS => ?_)
  have hP : va_P D vwCl [oL h h1 h2 h3 (upd (upd (upd (upd (upd (upd f 0 (of 0)) 1 (of 1)) 2 (of 2)) 3 (of 3)) 4 (of 4)) 5 (of 5)), aI cI h1 3 se, aI cI h2 7 to, aI cI h3 60 re, oL o o1 o2 o3 of, aI cI o1 3 ose, aI cI o2 7 oto, aI cI o3 60 ore] H := hP
  have hD : va_D A [oL h h1 h2 h3 (upd (upd (upd (upd (upd (upd f 0 (of 0)) 1 (of 1)) 2 (of 2)) 3 (of 3)) 4 (of 4)) 5 (of 5)), aI cI h1 3 se, aI cI h2 7 to, aI cI h3 60 re, oL o o1 o2 o3 of, aI cI o1 3 ose, aI cI o2 7 oto, aI cI o3 60 ore] := hD
  refine lv_aload_n hx hb dX1_copyFrom_48 rfl (lv_at hl 0 rfl) ?_
  refine lv_aload_n hx hb dX1_copyFrom_49 rfl (lv_at hl 1 rfl) ?_
  refine ag_getX1 (v := .int (of 6)) hx hb hG hown hK hP 4 6 rfl (by decide) k_47 rfl dX1_copyFrom_50 ?_
  refine ag_putX1 hx hb hG hown hK hP hD hS 0 6 rfl (by decide) k_47 (by decide) rfl rfl (Nat.le_of_ble_eq_true rfl) dX1_copyFrom_53 (fun H locs hP hD hS => ?_)
  have hP : va_P D vwCl [oL h h1 h2 h3 (upd (upd (upd (upd (upd (upd (upd f 0 (of 0)) 1 (of 1)) 2 (of 2)) 3 (of 3)) 4 (of 4)) 5 (of 5)) 6 (of 6)), aI cI h1 3 se, aI cI h2 7 to, aI cI h3 60 re, oL o o1 o2 o3 of, aI cI o1 3 ose, aI cI o2 7 oto, aI cI o3 60 ore] H := hP
  have hD : va_D A [oL h h1 h2 h3 (upd (upd (upd (upd (upd (upd (upd f 0 (of 0)) 1 (of 1)) 2 (of 2)) 3 (of 3)) 4 (of 4)) 5 (of 5)) 6 (of 6)), aI cI h1 3 se, aI cI h2 7 to, aI cI h3 60 re, oL o o1 o2 o3 of, aI cI o1 3 ose, aI cI o2 7 oto, aI cI o3 60 ore] := hD
  refine lv_aload_n hx hb dX1_copyFrom_56 rfl (lv_at hl 0 rfl) ?_
  refine lv_aload_n hx hb dX1_copyFrom_57 rfl (lv_at hl 1 rfl) ?_
  refine ag_getX1 (v := .int (of 7)) hx hb hG hown hK hP 4 7 rfl (by decide) k_48 rfl dX1_copyFrom_58 ?_
  refine ag_putX1 hx hb hG hown hK hP hD hS 0 7 rfl (by decide) k_48 (by decide) rfl rfl (Nat.le_of_ble_eq_true rfl) dX1_copyFrom_61 (fun H locs hP hD hS => ?_)
  have hP : va_P D vwCl [oL h h1 h2 h3 (upd (upd (upd (upd (upd (upd (upd (upd f 0 (of 0)) 1 (of 1)) 2 (of 2)) 3 (of 3)) 4 (of 4)) 5 (of 5)) 6 (of 6)) 7 (of 7)), aI cI h1 3 se, aI cI h2 7 to, aI cI h3 60 re, oL o o1 o2 o3 of, aI cI o1 3 ose, aI cI o2 7 oto, aI cI o3 60 ore] H := hP
  have hD : va_D A [oL h h1 h2 h3 (upd (upd (upd (upd (upd (upd (upd (upd f 0 (of 0)) 1 (of 1)) 2 (of 2)) 3 (of 3)) 4 (of 4)) 5 (of 5)) 6 (of 6)) 7 (of 7)), aI cI h1 3 se, aI cI h2 7 to, aI cI h3 60 re, oL o o1 o2 o3 of, aI cI o1 3 ose, aI cI o2 7 oto, aI cI o3 60 ore] := hD
  refine lv_aload_n hx hb dX1_copyFrom_64 rfl (lv_at hl 1 rfl) ?_
  refine ag_getX1 (v := .ref o1) hx hb hG hown hK hP 4 8 rfl (by decide) k_49 rfl dX1_copyFrom_65 ?_
  refine lv_iconst (v := 0) hx hb dX1_copyFrom_68 (by decide) ?_
  refine lv_aload_n hx hb dX1_copyFrom_69 rfl (lv_at hl 0 rfl) ?_
  refine ag_getX1 (v := .ref h1) hx hb hG hown hK hP 0 8 rfl (by decide) k_49 rfl dX1_copyFrom_70 ?_
  refine lv_iconst (v := 0) hx hb dX1_copyFrom_73 (by decide) ?_
  refine lv_iconst (v := 3) hx hb dX1_copyFrom_74 (by decide) ?_
  refine ag_copy (n := 3) hx hb (hml.trans hl.1.symm) hown (hG _ k_259) hG hK hP hD hS 5 1 rfl rfl rfl ⟨rfl, rfl⟩ (Nat.le_of_ble_eq_true rfl) (Nat.le_of_ble_eq_true rfl) (Nat.le_of_ble_eq_true rfl) dX1_copyFrom_75 (fun H locs hP hD hS => ?_)
  have hP : va_P D vwCl [oL h h1 h2 h3 (upd (upd (upd (upd (upd (upd (upd (upd f 0 (of 0)) 1 (of 1)) 2 (of 2)) 3 (of 3)) 4 (of 4)) 5 (of 5)) 6 (of 6)) 7 (of 7)), aI cI h1 3 ose, aI cI h2 7 to, aI cI h3 60 re, oL o o1 o2 o3 of, aI cI o1 3 ose, aI cI o2 7 oto, aI cI o3 60 ore] H := hP
  have hD : va_D A [oL h h1 h2 h3 (upd (upd (upd (upd (upd (upd (upd (upd f 0 (of 0)) 1 (of 1)) 2 (of 2)) 3 (of 3)) 4 (of 4)) 5 (of 5)) 6 (of 6)) 7 (of 7)), aI cI h1 3 ose, aI cI h2 7 to, aI cI h3 60 re, oL o o1 o2 o3 of, aI cI o1 3 ose, aI cI o2 7 oto, aI cI o3 60 ore] := hD
  refine lv_aload_n hx hb dX1_copyFrom_78 rfl (lv_at hl 1 rfl) ?_
  refine ag_getX1 (v := .ref o2) hx hb hG hown hK hP 4 9 rfl (by decide) k_52 rfl dX1_copyFrom_79 ?_
  refine lv_iconst (v := 0) hx hb dX1_copyFrom_82 (by decide) ?_
  refine lv_aload_n hx hb dX1_copyFrom_83 rfl (lv_at hl 0 rfl) ?_
  refine ag_getX1 (v := .ref h2) hx hb hG hown hK hP 0 9 rfl (by decide) k_52 rfl dX1_copyFrom_84 ?_
  refine lv_iconst (v := 0) hx hb dX1_copyFrom_87 (by decide) ?_
  refine lv_bipush (v := 7) hx hb dX1_copyFrom_88 (by decide) ?_
  refine ag_copy (n := 7) hx hb (hml.trans hl.1.symm) hown (hG _ k_259) hG hK hP hD hS 6 2 rfl rfl rfl ⟨rfl, rfl⟩ (Nat.le_of_ble_eq_true rfl) (Nat.le_of_ble_eq_true rfl) (Nat.le_of_ble_eq_true rfl) dX1_copyFrom_90 (fun H locs hP hD hS => ?_)
  have hP : va_P D vwCl [oL h h1 h2 h3 (upd (upd (upd (upd (upd (upd (upd (upd f 0 (of 0)) 1 (of 1)) 2 (of 2)) 3 (of 3)) 4 (of 4)) 5 (of 5)) 6 (of 6)) 7 (of 7)), aI cI h1 3 ose, aI cI h2 7 oto, aI cI h3 60 re, oL o o1 o2 o3 of, aI cI o1 3 ose, aI cI o2 7 oto, aI cI o3 60 ore] H := hP
  have hD : va_D A [oL h h1 h2 h3 (upd (upd (upd (upd (upd (upd (upd (upd f 0 (of 0)) 1 (of 1)) 2 (of 2)) 3 (of 3)) 4 (of 4)) 5 (of 5)) 6 (of 6)) 7 (of 7)), aI cI h1 3 ose, aI cI h2 7 oto, aI cI h3 60 re, oL o o1 o2 o3 of, aI cI o1 3 ose, aI cI o2 7 oto, aI cI o3 60 ore] := hD
  refine lv_aload_n hx hb dX1_copyFrom_93 rfl (lv_at hl 1 rfl) ?_
  refine ag_getX1 (v := .ref o3) hx hb hG hown hK hP 4 10 rfl (by decide) k_54 rfl dX1_copyFrom_94 ?_
  refine lv_iconst (v := 0) hx hb dX1_copyFrom_97 (by decide) ?_
  refine lv_aload_n hx hb dX1_copyFrom_98 rfl (lv_at hl 0 rfl) ?_
  refine ag_getX1 (v := .ref h3) hx hb hG hown hK hP 0 10 rfl (by decide) k_54 rfl dX1_copyFrom_99 ?_
  refine lv_iconst (v := 0) hx hb dX1_copyFrom_102 (by decide) ?_
  refine lv_bipush (v := 60) hx hb dX1_copyFrom_103 (by decide) ?_
  refine ag_copy (n := 60) hx hb (hml.trans hl.1.symm) hown (hG _ k_259) hG hK hP hD hS 7 3 rfl rfl rfl ⟨rfl, rfl⟩ (Nat.le_of_ble_eq_true rfl) (Nat.le_of_ble_eq_true rfl) (Nat.le_of_ble_eq_true rfl) dX1_copyFrom_105 (fun H locs hP hD hS => ?_)
  have hP : va_P D vwCl [oL h h1 h2 h3 (upd (upd (upd (upd (upd (upd (upd (upd f 0 (of 0)) 1 (of 1)) 2 (of 2)) 3 (of 3)) 4 (of 4)) 5 (of 5)) 6 (of 6)) 7 (of 7)), aI cI h1 3 ose, aI cI h2 7 oto, aI cI h3 60 ore, oL o o1 o2 o3 of, aI cI o1 3 ose, aI cI o2 7 oto, aI cI o3 60 ore] H := hP
  have hD : va_D A [oL h h1 h2 h3 (upd (upd (upd (upd (upd (upd (upd (upd f 0 (of 0)) 1 (of 1)) 2 (of 2)) 3 (of 3)) 4 (of 4)) 5 (of 5)) 6 (of 6)) 7 (of 7)), aI cI h1 3 ose, aI cI h2 7 oto, aI cI h3 60 ore, oL o o1 o2 o3 of, aI cI o1 3 ose, aI cI o2 7 oto, aI cI o3 60 ore] := hD
  exact ag_vret [h, h1, h2, h3, o, o1, o2, o3] hx hb hr hlocks hP hS rfl rfl rfl dX1_copyFrom_108
def sr_X1_lastDay (f : Nat → Int32) : Int32 := sr_J9_floorDiv_7cf53 ((f 0) - 1) 144
abbrev po_X1_lastDay (cI cC cL : ClassId) (h h1 h2 h3 : Nat) (f se to re : Nat → Int32) : Int32 → va_W → Prop := fun r w' => sr_X1_lastDay f = r ∧ [oL h h1 h2 h3 f, aI cI h1 3 se, aI cI h2 7 to, aI cI h3 60 re] = w'
set_option maxHeartbeats 4000000 in
set_option maxRecDepth 100000 in
theorem ct_X1_lastDay (l : Launch) (D : va_G) (cI cC cL : ClassId) (h h1 h2 h3 : Nat) (f se to re : Nat → Int32) : ag_MI l yX1_lastDay cX1_lastDay 1 .int 1 22 D cI cC cL [.ref h] [oL h h1 h2 h3 f, aI cI h1 3 se, aI cI h2 7 to, aI cI h3 60 re] (po_X1_lastDay cI cC cL h h1 h2 h3 f se to re) := by
  refine ag_MI.of (plainFor_of_name (by decide)) (Nat.le_of_ble_eq_true rfl) ?_
  intro p e s m below meth c hx hb hr hlocks hml hown hmn hG hK A hN hA H locs hP hD hS ls hl
  have hl : lv_has ls 1 [(0, .ref h)] := hl
  refine lv_aload_n hx hb dX1_lastDay_0 rfl (lv_at hl 0 rfl) ?_
  refine ag_getX1 (v := .int (f 0)) hx hb hG hown hK hP 0 0 rfl (by decide) k_30 rfl dX1_lastDay_1 ?_
  refine lv_iconst (v := 1) hx hb dX1_lastDay_4 (by decide) ?_
  refine lv_isub hx hb dX1_lastDay_5 ?_
  refine lv_sipush (v := 144) hx hb dX1_lastDay_6 (by decide) ?_
  refine ag_callSi (As := [.int ((f 0) - 1), .int 144]) (rest := []) hx hb hml hown hG hK hN hA hP hD hS hl (ct_J9_floorDiv_7cf53 l D cI cC cL ((f 0) - 1) 144 (by decide)) fJ9_floorDiv_7cf53 k_228 ag_cut_0 rfl (Nat.le_of_ble_eq_true rfl) ⟨Nat.le_of_ble_eq_true rfl, Nat.le_of_ble_eq_true rfl⟩ ⟨Nat.zero_le _, Nat.zero_le _⟩ dX1_lastDay_9 (fun r w1 H locs hw hP hD hS => ?_)
  obtain ⟨rfl, hw⟩ := hw
  subst hw
  have hP : va_P D vwCl [oL h h1 h2 h3 f, aI cI h1 3 se, aI cI h2 7 to, aI cI h3 60 re] H := hP
  have hD : va_D A [oL h h1 h2 h3 f, aI cI h1 3 se, aI cI h2 7 to, aI cI h3 60 re] := hD
  exact ag_iret [h, h1, h2, h3] hx hb hr rfl hlocks hP hS rfl rfl ⟨rfl, rfl⟩ dX1_lastDay_12
def sr_X1_firstDay (f : Nat → Int32) : Int32 := ag_max 0 (((sr_X1_lastDay f) - 10) + 1)
abbrev po_X1_firstDay (cI cC cL : ClassId) (h h1 h2 h3 : Nat) (f se to re : Nat → Int32) : Int32 → va_W → Prop := fun r w' => sr_X1_firstDay f = r ∧ [oL h h1 h2 h3 f, aI cI h1 3 se, aI cI h2 7 to, aI cI h3 60 re] = w'
set_option maxHeartbeats 4000000 in
set_option maxRecDepth 100000 in
theorem ct_X1_firstDay (l : Launch) (D : va_G) (cI cC cL : ClassId) (h h1 h2 h3 : Nat) (f se to re : Nat → Int32) : ag_MI l yX1_firstDay cX1_firstDay 1 .int 2 42 D cI cC cL [.ref h] [oL h h1 h2 h3 f, aI cI h1 3 se, aI cI h2 7 to, aI cI h3 60 re] (po_X1_firstDay cI cC cL h h1 h2 h3 f se to re) := by
  refine ag_MI.of (plainFor_of_name (by decide)) (Nat.le_of_ble_eq_true rfl) ?_
  intro p e s m below meth c hx hb hr hlocks hml hown hmn hG hK A hN hA H locs hP hD hS ls hl
  have hl : lv_has ls 1 [(0, .ref h)] := hl
  refine lv_iconst (v := 0) hx hb dX1_firstDay_0 (by decide) ?_
  refine lv_aload_n hx hb dX1_firstDay_1 rfl (lv_at hl 0 rfl) ?_
  refine ag_callVi (As := []) (rest := [.int 0]) hx hb hml hown hG hK hN hA hP hD hS hl (ct_X1_lastDay l D cI cC cL h h1 h2 h3 f se to re) fX1_lastDay k_235 ag_cut_all (q0 := 0) rfl rfl rfl rfl (Nat.le_of_ble_eq_true rfl) ⟨Nat.le_of_ble_eq_true rfl, Nat.le_of_ble_eq_true rfl⟩ ⟨Nat.zero_le _, Nat.zero_le _⟩ dX1_firstDay_2 (fun r w1 H locs hw hP hD hS => ?_)
  obtain ⟨rfl, hw⟩ := hw
  subst hw
  have hP : va_P D vwCl [oL h h1 h2 h3 f, aI cI h1 3 se, aI cI h2 7 to, aI cI h3 60 re] H := hP
  have hD : va_D A [oL h h1 h2 h3 f, aI cI h1 3 se, aI cI h2 7 to, aI cI h3 60 re] := hD
  refine lv_bipush (v := 10) hx hb dX1_firstDay_5 (by decide) ?_
  refine lv_isub hx hb dX1_firstDay_7 ?_
  refine lv_iconst (v := 1) hx hb dX1_firstDay_8 (by decide) ?_
  refine lv_iadd hx hb dX1_firstDay_9 ?_
  refine va_mmax hx hb (hml.trans hl.1.symm) hown (hG _ k_236) (hG _ k_237) (hG _ k_14) (hG _ k_238) (Nat.le_of_ble_eq_true rfl) (Nat.le_of_ble_eq_true rfl) (Nat.zero_le _) (Nat.zero_le _) dX1_firstDay_10 ?_
  refine W.eq (g2 := F0 m 13 ls [.int (ag_max 0 (((sr_X1_lastDay f) - 10) + 1))]) rfl ?_
  exact ag_iret [h, h1, h2, h3] hx hb hr rfl hlocks hP hS rfl rfl ⟨rfl, rfl⟩ dX1_firstDay_13
def xv10_1_X1_take (f : Nat → Int32) (kf : Nat → Int32) : Int32 := (f 1) + (kf 3)
def xv23_2_X1_take (f : Nat → Int32) (kf : Nat → Int32) : Int32 := (f 2) + (kf 6)
def xv38_3_X1_take (to : Nat → Int32) (kf : Nat → Int32) : Int32 := (to 0) + (kf 4)
def xv51_4_X1_take (to : Nat → Int32) (kf : Nat → Int32) : Int32 := (to 1) + (kf 5)
def xv68_5_X1_take (to : Nat → Int32) (kf : Nat → Int32) : Int32 := (to 2) + (ag_max 0 (kf 3))
def xv86_6_X1_take (to : Nat → Int32) (kf : Nat → Int32) : Int32 := (to 3) + (ag_max 0 (-(kf 3)))
def xv103_7_X1_take (to : Nat → Int32) (kf : Nat → Int32) : Int32 := (to 5) + (ag_max 0 (kf 6))
def xv122_8_X1_take (to : Nat → Int32) (kf : Nat → Int32) : Int32 := (to 6) + (ag_max 0 (-(kf 6)))
def sw0_X1_take (f : Nat → Int32) (kf : Nat → Int32) : Nat → Int32 := upd (upd f 1 (xv10_1_X1_take f kf)) 2 (xv23_2_X1_take f kf)
def sw2_X1_take (to : Nat → Int32) (kf : Nat → Int32) : Nat → Int32 := upd (upd (upd (upd (upd (upd to 0 (xv38_3_X1_take to kf)) 1 (xv51_4_X1_take to kf)) 2 (xv68_5_X1_take to kf)) 3 (xv86_6_X1_take to kf)) 5 (xv103_7_X1_take to kf)) 6 (xv122_8_X1_take to kf)
abbrev po_X1_take (cI cC cL : ClassId) (h t1 h1 h2 h3 : Nat) (f se to re kf : Nat → Int32) : va_W → Prop := fun w' => [oL h h1 h2 h3 (sw0_X1_take f kf), aI cI h1 3 se, aI cI h2 7 (sw2_X1_take to kf), aI cI h3 60 re, oK t1 kf] = w'
set_option maxHeartbeats 4000000 in
set_option maxRecDepth 100000 in
theorem ct_X1_take (l : Launch) (D : va_G) (cI cC cL : ClassId) (h t1 h1 h2 h3 : Nat) (f se to re kf : Nat → Int32) : ag_MV l yX1_take cX1_take 2 1 16 D cI cC cL [.ref h, .ref t1] [oL h h1 h2 h3 f, aI cI h1 3 se, aI cI h2 7 to, aI cI h3 60 re, oK t1 kf] (po_X1_take cI cC cL h t1 h1 h2 h3 f se to re kf) := by
  refine ag_MV.of (plainFor_of_name (by decide)) (Nat.le_of_ble_eq_true rfl) ?_
  intro p e s m below meth c hx hb hr hlocks hml hown hmn hG hK A hN hA H locs hP hD hS ls hl
  have hl : lv_has ls 2 [(0, .ref h), (1, .ref t1)] := hl
  refine lv_aload_n hx hb dX1_take_0 rfl (lv_at hl 0 rfl) ?_
  refine lv_dup hx hb dX1_take_1 rfl ?_
  refine ag_getX1 (v := .int (f 1)) hx hb hG hown hK hP 0 1 rfl (by decide) k_32 rfl dX1_take_2 ?_
  refine lv_aload_n hx hb dX1_take_5 rfl (lv_at hl 1 rfl) ?_
  refine ag_getX4 (v := .int (kf 3)) hx hb hG hown hK hP 4 3 rfl (by decide) k_94 rfl dX1_take_6 ?_
  refine lv_iadd hx hb dX1_take_9 ?_
  refine ag_topn (v := xv10_1_X1_take f kf) rfl (fun x10_1 ex10_1 => ?_)
  refine ag_putX1 hx hb hG hown hK hP hD hS 0 1 rfl (by decide) k_32 (by decide) rfl rfl (Nat.le_of_ble_eq_true rfl) dX1_take_10 (fun H locs hP hD hS => ?_)
  have hP : va_P D vwCl [oL h h1 h2 h3 (upd f 1 x10_1), aI cI h1 3 se, aI cI h2 7 to, aI cI h3 60 re, oK t1 kf] H := hP
  have hD : va_D A [oL h h1 h2 h3 (upd f 1 x10_1), aI cI h1 3 se, aI cI h2 7 to, aI cI h3 60 re, oK t1 kf] := hD
  refine lv_aload_n hx hb dX1_take_13 rfl (lv_at hl 0 rfl) ?_
  refine lv_dup hx hb dX1_take_14 rfl ?_
  refine ag_getX1 (v := .int (f 2)) hx hb hG hown hK hP 0 2 rfl (by decide) k_35 rfl dX1_take_15 ?_
  refine lv_aload_n hx hb dX1_take_18 rfl (lv_at hl 1 rfl) ?_
  refine ag_getX4 (v := .int (kf 6)) hx hb hG hown hK hP 4 6 rfl (by decide) k_103 rfl dX1_take_19 ?_
  refine lv_iadd hx hb dX1_take_22 ?_
  refine ag_topn (v := xv23_2_X1_take f kf) rfl (fun x23_2 ex23_2 => ?_)
  refine ag_putX1 hx hb hG hown hK hP hD hS 0 2 rfl (by decide) k_35 (by decide) rfl rfl (Nat.le_of_ble_eq_true rfl) dX1_take_23 (fun H locs hP hD hS => ?_)
  have hP : va_P D vwCl [oL h h1 h2 h3 (upd (upd f 1 x10_1) 2 x23_2), aI cI h1 3 se, aI cI h2 7 to, aI cI h3 60 re, oK t1 kf] H := hP
  have hD : va_D A [oL h h1 h2 h3 (upd (upd f 1 x10_1) 2 x23_2), aI cI h1 3 se, aI cI h2 7 to, aI cI h3 60 re, oK t1 kf] := hD
  refine lv_aload_n hx hb dX1_take_26 rfl (lv_at hl 0 rfl) ?_
  refine ag_getX1 (v := .ref h2) hx hb hG hown hK hP 0 9 rfl (by decide) k_52 rfl dX1_take_27 ?_
  refine lv_iconst (v := 0) hx hb dX1_take_30 (by decide) ?_
  refine lv_dup2_11 hx hb dX1_take_31 rfl rfl ?_
  refine ag_ild (k := 0) (v := to 0) hx hb hK hP 2 rfl rfl (Nat.le_of_ble_eq_true rfl) (Nat.le_of_ble_eq_true rfl) rfl dX1_take_32 ?_
  refine lv_aload_n hx hb dX1_take_33 rfl (lv_at hl 1 rfl) ?_
  refine ag_getX4 (v := .int (kf 4)) hx hb hG hown hK hP 4 4 rfl (by decide) k_97 rfl dX1_take_34 ?_
  refine lv_iadd hx hb dX1_take_37 ?_
  refine ag_topn (v := xv38_3_X1_take to kf) rfl (fun x38_3 ex38_3 => ?_)
  refine ag_ist (k := 0) hx hb hK hP hD hS 2 rfl rfl (Nat.le_of_ble_eq_true rfl) (Nat.le_of_ble_eq_true rfl) dX1_take_38 (fun H locs hP hD hS => ?_)
  have hP : va_P D vwCl [oL h h1 h2 h3 (upd (upd f 1 x10_1) 2 x23_2), aI cI h1 3 se, aI cI h2 7 (upd to 0 x38_3), aI cI h3 60 re, oK t1 kf] H := hP
  have hD : va_D A [oL h h1 h2 h3 (upd (upd f 1 x10_1) 2 x23_2), aI cI h1 3 se, aI cI h2 7 (upd to 0 x38_3), aI cI h3 60 re, oK t1 kf] := hD
  refine lv_aload_n hx hb dX1_take_39 rfl (lv_at hl 0 rfl) ?_
  refine ag_getX1 (v := .ref h2) hx hb hG hown hK hP 0 9 rfl (by decide) k_52 rfl dX1_take_40 ?_
  refine lv_iconst (v := 1) hx hb dX1_take_43 (by decide) ?_
  refine lv_dup2_11 hx hb dX1_take_44 rfl rfl ?_
  refine ag_ild (k := 1) (v := to 1) hx hb hK hP 2 rfl rfl (Nat.le_of_ble_eq_true rfl) (Nat.le_of_ble_eq_true rfl) rfl dX1_take_45 ?_
  refine lv_aload_n hx hb dX1_take_46 rfl (lv_at hl 1 rfl) ?_
  refine ag_getX4 (v := .int (kf 5)) hx hb hG hown hK hP 4 5 rfl (by decide) k_100 rfl dX1_take_47 ?_
  refine lv_iadd hx hb dX1_take_50 ?_
  refine ag_topn (v := xv51_4_X1_take to kf) rfl (fun x51_4 ex51_4 => ?_)
  refine ag_ist (k := 1) hx hb hK hP hD hS 2 rfl rfl (Nat.le_of_ble_eq_true rfl) (Nat.le_of_ble_eq_true rfl) dX1_take_51 (fun H locs hP hD hS => ?_)
  have hP : va_P D vwCl [oL h h1 h2 h3 (upd (upd f 1 x10_1) 2 x23_2), aI cI h1 3 se, aI cI h2 7 (upd (upd to 0 x38_3) 1 x51_4), aI cI h3 60 re, oK t1 kf] H := hP
  have hD : va_D A [oL h h1 h2 h3 (upd (upd f 1 x10_1) 2 x23_2), aI cI h1 3 se, aI cI h2 7 (upd (upd to 0 x38_3) 1 x51_4), aI cI h3 60 re, oK t1 kf] := hD
  refine lv_aload_n hx hb dX1_take_52 rfl (lv_at hl 0 rfl) ?_
  refine ag_getX1 (v := .ref h2) hx hb hG hown hK hP 0 9 rfl (by decide) k_52 rfl dX1_take_53 ?_
  refine lv_iconst (v := 2) hx hb dX1_take_56 (by decide) ?_
  refine lv_dup2_11 hx hb dX1_take_57 rfl rfl ?_
  refine ag_ild (k := 2) (v := to 2) hx hb hK hP 2 rfl rfl (Nat.le_of_ble_eq_true rfl) (Nat.le_of_ble_eq_true rfl) rfl dX1_take_58 ?_
  refine lv_iconst (v := 0) hx hb dX1_take_59 (by decide) ?_
  refine lv_aload_n hx hb dX1_take_60 rfl (lv_at hl 1 rfl) ?_
  refine ag_getX4 (v := .int (kf 3)) hx hb hG hown hK hP 4 3 rfl (by decide) k_94 rfl dX1_take_61 ?_
  refine va_mmax hx hb (hml.trans hl.1.symm) hown (hG _ k_236) (hG _ k_237) (hG _ k_14) (hG _ k_238) (Nat.le_of_ble_eq_true rfl) (Nat.le_of_ble_eq_true rfl) (Nat.zero_le _) (Nat.zero_le _) dX1_take_64 ?_
  refine W.eq (g2 := F0 m 67 ls [.int (ag_max 0 (kf 3)), .int (to 2), .int 2, .ref h2]) rfl ?_
  refine lv_iadd hx hb dX1_take_67 ?_
  refine ag_topn (v := xv68_5_X1_take to kf) rfl (fun x68_5 ex68_5 => ?_)
  refine ag_ist (k := 2) hx hb hK hP hD hS 2 rfl rfl (Nat.le_of_ble_eq_true rfl) (Nat.le_of_ble_eq_true rfl) dX1_take_68 (fun H locs hP hD hS => ?_)
  have hP : va_P D vwCl [oL h h1 h2 h3 (upd (upd f 1 x10_1) 2 x23_2), aI cI h1 3 se, aI cI h2 7 (upd (upd (upd to 0 x38_3) 1 x51_4) 2 x68_5), aI cI h3 60 re, oK t1 kf] H := hP
  have hD : va_D A [oL h h1 h2 h3 (upd (upd f 1 x10_1) 2 x23_2), aI cI h1 3 se, aI cI h2 7 (upd (upd (upd to 0 x38_3) 1 x51_4) 2 x68_5), aI cI h3 60 re, oK t1 kf] := hD
  refine lv_aload_n hx hb dX1_take_69 rfl (lv_at hl 0 rfl) ?_
  refine ag_getX1 (v := .ref h2) hx hb hG hown hK hP 0 9 rfl (by decide) k_52 rfl dX1_take_70 ?_
  refine lv_iconst (v := 3) hx hb dX1_take_73 (by decide) ?_
  refine lv_dup2_11 hx hb dX1_take_74 rfl rfl ?_
  refine ag_ild (k := 3) (v := to 3) hx hb hK hP 2 rfl rfl (Nat.le_of_ble_eq_true rfl) (Nat.le_of_ble_eq_true rfl) rfl dX1_take_75 ?_
  refine lv_iconst (v := 0) hx hb dX1_take_76 (by decide) ?_
  refine lv_aload_n hx hb dX1_take_77 rfl (lv_at hl 1 rfl) ?_
  refine ag_getX4 (v := .int (kf 3)) hx hb hG hown hK hP 4 3 rfl (by decide) k_94 rfl dX1_take_78 ?_
  refine lv_ineg hx hb dX1_take_81 ?_
  refine va_mmax hx hb (hml.trans hl.1.symm) hown (hG _ k_236) (hG _ k_237) (hG _ k_14) (hG _ k_238) (Nat.le_of_ble_eq_true rfl) (Nat.le_of_ble_eq_true rfl) (Nat.zero_le _) (Nat.zero_le _) dX1_take_82 ?_
  refine W.eq (g2 := F0 m 85 ls [.int (ag_max 0 (-(kf 3))), .int (to 3), .int 3, .ref h2]) rfl ?_
  refine lv_iadd hx hb dX1_take_85 ?_
  refine ag_topn (v := xv86_6_X1_take to kf) rfl (fun x86_6 ex86_6 => ?_)
  refine ag_ist (k := 3) hx hb hK hP hD hS 2 rfl rfl (Nat.le_of_ble_eq_true rfl) (Nat.le_of_ble_eq_true rfl) dX1_take_86 (fun H locs hP hD hS => ?_)
  have hP : va_P D vwCl [oL h h1 h2 h3 (upd (upd f 1 x10_1) 2 x23_2), aI cI h1 3 se, aI cI h2 7 (upd (upd (upd (upd to 0 x38_3) 1 x51_4) 2 x68_5) 3 x86_6), aI cI h3 60 re, oK t1 kf] H := hP
  have hD : va_D A [oL h h1 h2 h3 (upd (upd f 1 x10_1) 2 x23_2), aI cI h1 3 se, aI cI h2 7 (upd (upd (upd (upd to 0 x38_3) 1 x51_4) 2 x68_5) 3 x86_6), aI cI h3 60 re, oK t1 kf] := hD
  refine lv_aload_n hx hb dX1_take_87 rfl (lv_at hl 0 rfl) ?_
  refine ag_getX1 (v := .ref h2) hx hb hG hown hK hP 0 9 rfl (by decide) k_52 rfl dX1_take_88 ?_
  refine lv_iconst (v := 5) hx hb dX1_take_91 (by decide) ?_
  refine lv_dup2_11 hx hb dX1_take_92 rfl rfl ?_
  refine ag_ild (k := 5) (v := to 5) hx hb hK hP 2 rfl rfl (Nat.le_of_ble_eq_true rfl) (Nat.le_of_ble_eq_true rfl) rfl dX1_take_93 ?_
  refine lv_iconst (v := 0) hx hb dX1_take_94 (by decide) ?_
  refine lv_aload_n hx hb dX1_take_95 rfl (lv_at hl 1 rfl) ?_
  refine ag_getX4 (v := .int (kf 6)) hx hb hG hown hK hP 4 6 rfl (by decide) k_103 rfl dX1_take_96 ?_
  refine va_mmax hx hb (hml.trans hl.1.symm) hown (hG _ k_236) (hG _ k_237) (hG _ k_14) (hG _ k_238) (Nat.le_of_ble_eq_true rfl) (Nat.le_of_ble_eq_true rfl) (Nat.zero_le _) (Nat.zero_le _) dX1_take_99 ?_
  refine W.eq (g2 := F0 m 102 ls [.int (ag_max 0 (kf 6)), .int (to 5), .int 5, .ref h2]) rfl ?_
  refine lv_iadd hx hb dX1_take_102 ?_
  refine ag_topn (v := xv103_7_X1_take to kf) rfl (fun x103_7 ex103_7 => ?_)
  refine ag_ist (k := 5) hx hb hK hP hD hS 2 rfl rfl (Nat.le_of_ble_eq_true rfl) (Nat.le_of_ble_eq_true rfl) dX1_take_103 (fun H locs hP hD hS => ?_)
  have hP : va_P D vwCl [oL h h1 h2 h3 (upd (upd f 1 x10_1) 2 x23_2), aI cI h1 3 se, aI cI h2 7 (upd (upd (upd (upd (upd to 0 x38_3) 1 x51_4) 2 x68_5) 3 x86_6) 5 x103_7), aI cI h3 60 re, oK t1 kf] H := hP
  have hD : va_D A [oL h h1 h2 h3 (upd (upd f 1 x10_1) 2 x23_2), aI cI h1 3 se, aI cI h2 7 (upd (upd (upd (upd (upd to 0 x38_3) 1 x51_4) 2 x68_5) 3 x86_6) 5 x103_7), aI cI h3 60 re, oK t1 kf] := hD
  refine lv_aload_n hx hb dX1_take_104 rfl (lv_at hl 0 rfl) ?_
  refine ag_getX1 (v := .ref h2) hx hb hG hown hK hP 0 9 rfl (by decide) k_52 rfl dX1_take_105 ?_
  refine lv_bipush (v := 6) hx hb dX1_take_108 (by decide) ?_
  refine lv_dup2_11 hx hb dX1_take_110 rfl rfl ?_
  refine ag_ild (k := 6) (v := to 6) hx hb hK hP 2 rfl rfl (Nat.le_of_ble_eq_true rfl) (Nat.le_of_ble_eq_true rfl) rfl dX1_take_111 ?_
  refine lv_iconst (v := 0) hx hb dX1_take_112 (by decide) ?_
  refine lv_aload_n hx hb dX1_take_113 rfl (lv_at hl 1 rfl) ?_
  refine ag_getX4 (v := .int (kf 6)) hx hb hG hown hK hP 4 6 rfl (by decide) k_103 rfl dX1_take_114 ?_
  refine lv_ineg hx hb dX1_take_117 ?_
  refine va_mmax hx hb (hml.trans hl.1.symm) hown (hG _ k_236) (hG _ k_237) (hG _ k_14) (hG _ k_238) (Nat.le_of_ble_eq_true rfl) (Nat.le_of_ble_eq_true rfl) (Nat.zero_le _) (Nat.zero_le _) dX1_take_118 ?_
  refine W.eq (g2 := F0 m 121 ls [.int (ag_max 0 (-(kf 6))), .int (to 6), .int 6, .ref h2]) rfl ?_
  refine lv_iadd hx hb dX1_take_121 ?_
  refine ag_topn (v := xv122_8_X1_take to kf) rfl (fun x122_8 ex122_8 => ?_)
  refine ag_ist (k := 6) hx hb hK hP hD hS 2 rfl rfl (Nat.le_of_ble_eq_true rfl) (Nat.le_of_ble_eq_true rfl) dX1_take_122 (fun H locs hP hD hS => ?_)
  have hP : va_P D vwCl [oL h h1 h2 h3 (upd (upd f 1 x10_1) 2 x23_2), aI cI h1 3 se, aI cI h2 7 (upd (upd (upd (upd (upd (upd to 0 x38_3) 1 x51_4) 2 x68_5) 3 x86_6) 5 x103_7) 6 x122_8), aI cI h3 60 re, oK t1 kf] H := hP
  have hD : va_D A [oL h h1 h2 h3 (upd (upd f 1 x10_1) 2 x23_2), aI cI h1 3 se, aI cI h2 7 (upd (upd (upd (upd (upd (upd to 0 x38_3) 1 x51_4) 2 x68_5) 3 x86_6) 5 x103_7) 6 x122_8), aI cI h3 60 re, oK t1 kf] := hD
  revert hP; revert hD; revert hS; revert hl
  subst ex122_8
  subst ex103_7
  subst ex86_6
  subst ex68_5
  subst ex51_4
  subst ex38_3
  subst ex23_2
  subst ex10_1
  intro hl hS hD hP
  exact ag_vret [h, h1, h2, h3, t1] hx hb hr hlocks hP hS rfl rfl (by show _ = _; rw [show sw0_X1_take f kf = upd (upd f 1 (xv10_1_X1_take f kf)) 2 (xv23_2_X1_take f kf) from rfl, show sw2_X1_take to kf = upd (upd (upd (upd (upd (upd to 0 (xv38_3_X1_take to kf)) 1 (xv51_4_X1_take to kf)) 2 (xv68_5_X1_take to kf)) 3 (xv86_6_X1_take to kf)) 5 (xv103_7_X1_take to kf)) 6 (xv122_8_X1_take to kf) from rfl]) dX1_take_123
def sw3_X1_beginRecord (re : Nat → Int32) (p2 : Int32) (q : Nat) : Nat → Int32 := upd (upd (upd (upd (upd (upd re (q + 0) 0) (q + 1) 0) (q + 2) p2) (q + 3) p2) (q + 4) 0) (q + 5) 0
abbrev po_X1_beginRecord (cI cC cL : ClassId) (h h1 h2 h3 : Nat) (f se to re : Nat → Int32) (p1 : Int32) (p2 : Int32) (q : Nat) (hp : p1 = nI q ∧ q ≤ 54) : va_W → Prop := fun w' => [oL h h1 h2 h3 f, aI cI h1 3 se, aI cI h2 7 to, aI cI h3 60 (sw3_X1_beginRecord re p2 q)] = w'
set_option maxHeartbeats 4000000 in
set_option maxRecDepth 100000 in
theorem ct_X1_beginRecord (l : Launch) (D : va_G) (cI cC cL : ClassId) (h h1 h2 h3 : Nat) (f se to re : Nat → Int32) (p1 : Int32) (p2 : Int32) (q : Nat) (hp : p1 = nI q ∧ q ≤ 54) : ag_MV l yX1_beginRecord cX1_beginRecord 3 0 0 D cI cC cL [.ref h, .int p1, .int p2] [oL h h1 h2 h3 f, aI cI h1 3 se, aI cI h2 7 to, aI cI h3 60 re] (po_X1_beginRecord cI cC cL h h1 h2 h3 f se to re p1 p2 q hp) := by
  refine ag_MV.of (plainFor_of_name (by decide)) (Nat.le_of_ble_eq_true rfl) ?_
  intro p e s m below meth c hx hb hr hlocks hml hown hmn hG hK A hN hA H locs hP hD hS ls hl
  have hl : lv_has ls 3 [(0, .ref h), (1, .int p1), (2, .int p2)] := hl
  refine lv_aload_n hx hb dX1_beginRecord_0 rfl (lv_at hl 0 rfl) ?_
  refine ag_getX1 (v := .ref h3) hx hb hG hown hK hP 0 10 rfl (by decide) k_54 rfl dX1_beginRecord_1 ?_
  refine lv_iload_n hx hb dX1_beginRecord_4 rfl (lv_at hl 1 rfl) ?_
  refine lv_iconst (v := 0) hx hb dX1_beginRecord_5 (by decide) ?_
  refine lv_iadd hx hb dX1_beginRecord_6 ?_
  refine lv_iconst (v := 0) hx hb dX1_beginRecord_7 (by decide) ?_
  refine ag_ist (k := q + 0) hx hb hK hP hD hS 3 rfl ((congrArg (· + (0 : Int32)) hp.1).trans (nI_add _ 0)) (by have := hp.2; omega) (Nat.le_of_ble_eq_true rfl) dX1_beginRecord_8 (fun H locs hP hD hS => ?_)
  have hP : va_P D vwCl [oL h h1 h2 h3 f, aI cI h1 3 se, aI cI h2 7 to, aI cI h3 60 (upd re (q + 0) 0)] H := hP
  have hD : va_D A [oL h h1 h2 h3 f, aI cI h1 3 se, aI cI h2 7 to, aI cI h3 60 (upd re (q + 0) 0)] := hD
  refine lv_aload_n hx hb dX1_beginRecord_9 rfl (lv_at hl 0 rfl) ?_
  refine ag_getX1 (v := .ref h3) hx hb hG hown hK hP 0 10 rfl (by decide) k_54 rfl dX1_beginRecord_10 ?_
  refine lv_iload_n hx hb dX1_beginRecord_13 rfl (lv_at hl 1 rfl) ?_
  refine lv_iconst (v := 1) hx hb dX1_beginRecord_14 (by decide) ?_
  refine lv_iadd hx hb dX1_beginRecord_15 ?_
  refine lv_iconst (v := 0) hx hb dX1_beginRecord_16 (by decide) ?_
  refine ag_ist (k := q + 1) hx hb hK hP hD hS 3 rfl ((congrArg (· + (1 : Int32)) hp.1).trans (nI_add _ 1)) (by have := hp.2; omega) (Nat.le_of_ble_eq_true rfl) dX1_beginRecord_17 (fun H locs hP hD hS => ?_)
  have hP : va_P D vwCl [oL h h1 h2 h3 f, aI cI h1 3 se, aI cI h2 7 to, aI cI h3 60 (upd (upd re (q + 0) 0) (q + 1) 0)] H := hP
  have hD : va_D A [oL h h1 h2 h3 f, aI cI h1 3 se, aI cI h2 7 to, aI cI h3 60 (upd (upd re (q + 0) 0) (q + 1) 0)] := hD
  refine lv_aload_n hx hb dX1_beginRecord_18 rfl (lv_at hl 0 rfl) ?_
  refine ag_getX1 (v := .ref h3) hx hb hG hown hK hP 0 10 rfl (by decide) k_54 rfl dX1_beginRecord_19 ?_
  refine lv_iload_n hx hb dX1_beginRecord_22 rfl (lv_at hl 1 rfl) ?_
  refine lv_iconst (v := 2) hx hb dX1_beginRecord_23 (by decide) ?_
  refine lv_iadd hx hb dX1_beginRecord_24 ?_
  refine lv_iload_n hx hb dX1_beginRecord_25 rfl (lv_at hl 2 rfl) ?_
  refine ag_ist (k := q + 2) hx hb hK hP hD hS 3 rfl ((congrArg (· + (2 : Int32)) hp.1).trans (nI_add _ 2)) (by have := hp.2; omega) (Nat.le_of_ble_eq_true rfl) dX1_beginRecord_26 (fun H locs hP hD hS => ?_)
  have hP : va_P D vwCl [oL h h1 h2 h3 f, aI cI h1 3 se, aI cI h2 7 to, aI cI h3 60 (upd (upd (upd re (q + 0) 0) (q + 1) 0) (q + 2) p2)] H := hP
  have hD : va_D A [oL h h1 h2 h3 f, aI cI h1 3 se, aI cI h2 7 to, aI cI h3 60 (upd (upd (upd re (q + 0) 0) (q + 1) 0) (q + 2) p2)] := hD
  refine lv_aload_n hx hb dX1_beginRecord_27 rfl (lv_at hl 0 rfl) ?_
  refine ag_getX1 (v := .ref h3) hx hb hG hown hK hP 0 10 rfl (by decide) k_54 rfl dX1_beginRecord_28 ?_
  refine lv_iload_n hx hb dX1_beginRecord_31 rfl (lv_at hl 1 rfl) ?_
  refine lv_iconst (v := 3) hx hb dX1_beginRecord_32 (by decide) ?_
  refine lv_iadd hx hb dX1_beginRecord_33 ?_
  refine lv_iload_n hx hb dX1_beginRecord_34 rfl (lv_at hl 2 rfl) ?_
  refine ag_ist (k := q + 3) hx hb hK hP hD hS 3 rfl ((congrArg (· + (3 : Int32)) hp.1).trans (nI_add _ 3)) (by have := hp.2; omega) (Nat.le_of_ble_eq_true rfl) dX1_beginRecord_35 (fun H locs hP hD hS => ?_)
  have hP : va_P D vwCl [oL h h1 h2 h3 f, aI cI h1 3 se, aI cI h2 7 to, aI cI h3 60 (upd (upd (upd (upd re (q + 0) 0) (q + 1) 0) (q + 2) p2) (q + 3) p2)] H := hP
  have hD : va_D A [oL h h1 h2 h3 f, aI cI h1 3 se, aI cI h2 7 to, aI cI h3 60 (upd (upd (upd (upd re (q + 0) 0) (q + 1) 0) (q + 2) p2) (q + 3) p2)] := hD
  refine lv_aload_n hx hb dX1_beginRecord_36 rfl (lv_at hl 0 rfl) ?_
  refine ag_getX1 (v := .ref h3) hx hb hG hown hK hP 0 10 rfl (by decide) k_54 rfl dX1_beginRecord_37 ?_
  refine lv_iload_n hx hb dX1_beginRecord_40 rfl (lv_at hl 1 rfl) ?_
  refine lv_iconst (v := 4) hx hb dX1_beginRecord_41 (by decide) ?_
  refine lv_iadd hx hb dX1_beginRecord_42 ?_
  refine lv_iconst (v := 0) hx hb dX1_beginRecord_43 (by decide) ?_
  refine ag_ist (k := q + 4) hx hb hK hP hD hS 3 rfl ((congrArg (· + (4 : Int32)) hp.1).trans (nI_add _ 4)) (by have := hp.2; omega) (Nat.le_of_ble_eq_true rfl) dX1_beginRecord_44 (fun H locs hP hD hS => ?_)
  have hP : va_P D vwCl [oL h h1 h2 h3 f, aI cI h1 3 se, aI cI h2 7 to, aI cI h3 60 (upd (upd (upd (upd (upd re (q + 0) 0) (q + 1) 0) (q + 2) p2) (q + 3) p2) (q + 4) 0)] H := hP
  have hD : va_D A [oL h h1 h2 h3 f, aI cI h1 3 se, aI cI h2 7 to, aI cI h3 60 (upd (upd (upd (upd (upd re (q + 0) 0) (q + 1) 0) (q + 2) p2) (q + 3) p2) (q + 4) 0)] := hD
  refine lv_aload_n hx hb dX1_beginRecord_45 rfl (lv_at hl 0 rfl) ?_
  refine ag_getX1 (v := .ref h3) hx hb hG hown hK hP 0 10 rfl (by decide) k_54 rfl dX1_beginRecord_46 ?_
  refine lv_iload_n hx hb dX1_beginRecord_49 rfl (lv_at hl 1 rfl) ?_
  refine lv_iconst (v := 5) hx hb dX1_beginRecord_50 (by decide) ?_
  refine lv_iadd hx hb dX1_beginRecord_51 ?_
  refine lv_iconst (v := 0) hx hb dX1_beginRecord_52 (by decide) ?_
  refine ag_ist (k := q + 5) hx hb hK hP hD hS 3 rfl ((congrArg (· + (5 : Int32)) hp.1).trans (nI_add _ 5)) (by have := hp.2; omega) (Nat.le_of_ble_eq_true rfl) dX1_beginRecord_53 (fun H locs hP hD hS => ?_)
  have hP : va_P D vwCl [oL h h1 h2 h3 f, aI cI h1 3 se, aI cI h2 7 to, aI cI h3 60 (upd (upd (upd (upd (upd (upd re (q + 0) 0) (q + 1) 0) (q + 2) p2) (q + 3) p2) (q + 4) 0) (q + 5) 0)] H := hP
  have hD : va_D A [oL h h1 h2 h3 f, aI cI h1 3 se, aI cI h2 7 to, aI cI h3 60 (upd (upd (upd (upd (upd (upd re (q + 0) 0) (q + 1) 0) (q + 2) p2) (q + 3) p2) (q + 4) 0) (q + 5) 0)] := hD
  exact ag_vret [h, h1, h2, h3] hx hb hr hlocks hP hS rfl rfl (by show _ = _; rw [show sw3_X1_beginRecord re p2 q = upd (upd (upd (upd (upd (upd re (q + 0) 0) (q + 1) 0) (q + 2) p2) (q + 3) p2) (q + 4) 0) (q + 5) 0 from rfl]) dX1_beginRecord_54
def gv31_1_X1_enterRecord (f : Nat → Int32) (re : Nat → Int32) : Nat → Int32 := sw3_X1_beginRecord re (sr_X1_level f) (rs (f 0 / 144))
def w34_3_X1_enterRecord (f : Nat → Int32) (re : Nat → Int32) : Nat → Int32 := if ((f 0) - (f 0) / 144 * 144) = 0 then (gv31_1_X1_enterRecord f re) else re
def xv48_2_X1_enterRecord (f : Nat → Int32) (re : Nat → Int32) (kf : Nat → Int32) : Int32 := ((w34_3_X1_enterRecord f re) ((rs (f 0 / 144)) + 0)) + (kf 4)
def xv63_3_X1_enterRecord (f : Nat → Int32) (re : Nat → Int32) (kf : Nat → Int32) : Int32 := ((w34_3_X1_enterRecord f re) ((rs (f 0 / 144)) + 1)) + (kf 5)
def xv83_4_X1_enterRecord (f : Nat → Int32) (re : Nat → Int32) : Int32 := ag_max ((w34_3_X1_enterRecord f re) ((rs (f 0 / 144)) + 2)) (sr_X1_level f)
def xv103_5_X1_enterRecord (f : Nat → Int32) (re : Nat → Int32) : Int32 := ag_min ((w34_3_X1_enterRecord f re) ((rs (f 0 / 144)) + 3)) (sr_X1_level f)
def xv122_6_X1_enterRecord (f : Nat → Int32) (re : Nat → Int32) (kf : Nat → Int32) : Int32 := ((w34_3_X1_enterRecord f re) ((rs (f 0 / 144)) + 4)) + (ag_max 0 (kf 3))
def xv142_7_X1_enterRecord (f : Nat → Int32) (re : Nat → Int32) (kf : Nat → Int32) : Int32 := ((w34_3_X1_enterRecord f re) ((rs (f 0 / 144)) + 5)) + (ag_max 0 (-(kf 3)))
def sw3_X1_enterRecord (f : Nat → Int32) (re : Nat → Int32) (kf : Nat → Int32) : Nat → Int32 := upd (upd (upd (upd (upd (upd (w34_3_X1_enterRecord f re) ((rs (f 0 / 144)) + 0) (xv48_2_X1_enterRecord f re kf)) ((rs (f 0 / 144)) + 1) (xv63_3_X1_enterRecord f re kf)) ((rs (f 0 / 144)) + 2) (xv83_4_X1_enterRecord f re)) ((rs (f 0 / 144)) + 3) (xv103_5_X1_enterRecord f re)) ((rs (f 0 / 144)) + 4) (xv122_6_X1_enterRecord f re kf)) ((rs (f 0 / 144)) + 5) (xv142_7_X1_enterRecord f re kf)
abbrev po_X1_enterRecord (cI cC cL : ClassId) (h t1 h1 h2 h3 : Nat) (f se to re kf : Nat → Int32) : va_W → Prop := fun w' => [oL h h1 h2 h3 f, aI cI h1 3 se, aI cI h2 7 to, aI cI h3 60 (sw3_X1_enterRecord f re kf), oK t1 kf] = w'
set_option maxHeartbeats 4000000 in
set_option maxRecDepth 100000 in
theorem ct_X1_enterRecord (l : Launch) (D : va_G) (cI cC cL : ClassId) (h t1 h1 h2 h3 : Nat) (f se to re kf : Nat → Int32) : ag_MV l yX1_enterRecord cX1_enterRecord 4 2 42 D cI cC cL [.ref h, .ref t1] [oL h h1 h2 h3 f, aI cI h1 3 se, aI cI h2 7 to, aI cI h3 60 re, oK t1 kf] (po_X1_enterRecord cI cC cL h t1 h1 h2 h3 f se to re kf) := by
  refine ag_MV.of (plainFor_of_name (by decide)) (Nat.le_of_ble_eq_true rfl) ?_
  intro p e s m below meth c hx hb hr hlocks hml hown hmn hG hK A hN hA H locs hP hD hS ls hl
  have hl : lv_has ls 4 [(0, .ref h), (1, .ref t1)] := hl
  refine lv_aload_n hx hb dX1_enterRecord_0 rfl (lv_at hl 0 rfl) ?_
  refine ag_getX1 (v := .int (f 0)) hx hb hG hown hK hP 0 0 rfl (by decide) k_30 rfl dX1_enterRecord_1 ?_
  refine lv_sipush (v := 144) hx hb dX1_enterRecord_4 (by decide) ?_
  refine lv_idiv hx hb dX1_enterRecord_7 (by decide) ?_
  refine ag_callNi (As := [.int ((f 0) / 144)]) (rest := []) hx hb hml hown hG hK hN hA hP hD hS hl (ct_X5_recordStart l D cI cC cL ((f 0) / 144)) fX5_recordStart hN.1.2.2.2.2.2.2.2.1 ag_cut_0 rfl (Nat.le_of_ble_eq_true rfl) ⟨Nat.le_of_ble_eq_true rfl, Nat.le_of_ble_eq_true rfl⟩ ⟨Nat.zero_le _, Nat.zero_le _⟩ dX1_enterRecord_8 (fun r w1 H locs hw hP hD hS => ?_)
  obtain ⟨rfl, hw⟩ := hw
  subst hw
  have hP : va_P D vwCl [oL h h1 h2 h3 f, aI cI h1 3 se, aI cI h2 7 to, aI cI h3 60 re, oK t1 kf] H := hP
  have hD : va_D A [oL h h1 h2 h3 f, aI cI h1 3 se, aI cI h2 7 to, aI cI h3 60 re, oK t1 kf] := hD
  refine lv_istore_n (lv' := [(2, .int (sr_X5_recordStart ((f 0) / 144))), (0, .ref h), (1, .ref t1)]) hx hb dX1_enterRecord_11 rfl hl (by decide) rfl (fun ls hl => ?_)
  refine lv_aload_n hx hb dX1_enterRecord_12 rfl (lv_at hl 1 rfl) ?_
  refine ag_callVi (As := []) (rest := []) hx hb hml hown hG hK hN hA hP hD hS hl (ct_X1_level l D cI cC cL h h1 h2 h3 f se to re) fX1_level k_214 (ag_cut_1 [] [oK t1 kf] rfl) (q0 := 0) rfl rfl rfl rfl (Nat.le_of_ble_eq_true rfl) ⟨Nat.le_of_ble_eq_true rfl, Nat.le_of_ble_eq_true rfl⟩ ⟨Nat.zero_le _, Nat.zero_le _⟩ dX1_enterRecord_13 (fun r w1 H locs hw hP hD hS => ?_)
  obtain ⟨rfl, hw⟩ := hw
  subst hw
  have hP : va_P D vwCl [oL h h1 h2 h3 f, aI cI h1 3 se, aI cI h2 7 to, aI cI h3 60 re, oK t1 kf] H := hP
  have hD : va_D A [oL h h1 h2 h3 f, aI cI h1 3 se, aI cI h2 7 to, aI cI h3 60 re, oK t1 kf] := hD
  refine lv_istore_n (lv' := [(3, .int (sr_X1_level f)), (2, .int (sr_X5_recordStart ((f 0) / 144))), (0, .ref h), (1, .ref t1)]) hx hb dX1_enterRecord_16 rfl hl (by decide) rfl (fun ls hl => ?_)
  refine lv_aload_n hx hb dX1_enterRecord_17 rfl (lv_at hl 2 rfl) ?_
  refine ag_getX1 (v := .int (f 0)) hx hb hG hown hK hP 0 0 rfl (by decide) k_30 rfl dX1_enterRecord_18 ?_
  refine lv_sipush (v := 144) hx hb dX1_enterRecord_21 (by decide) ?_
  refine lv_irem hx hb dX1_enterRecord_24 (by decide) ?_
  have J34 : ∀ (H : Heap) (locs : List Loc), va_P D vwCl [oL h h1 h2 h3 f, aI cI h1 3 se, aI cI h2 7 to, aI cI h3 60 (w34_3_X1_enterRecord f re), oK t1 kf] H → va_D A [oL h h1 h2 h3 f, aI cI h1 3 se, aI cI h2 7 to, aI cI h3 60 (w34_3_X1_enterRecord f re), oK t1 kf] → va_S A s.heap H locs → ∀ (ls : Array Slot), lv_has ls 4 [(0, .ref h), (1, .ref t1), (2, .int (sr_X5_recordStart ((f 0) / 144))), (3, .int (sr_X1_level f))] → W p l e (ag_rm 2 42) s m ([.ref h, .ref t1] : List Value).toArray below meth c H locs 0 0 (MQ below (va_Qv (po_X1_enterRecord cI cC cL h t1 h1 h2 h3 f se to re kf) (ag_Out D [oL h h1 h2 h3 f, aI cI h1 3 se, aI cI h2 7 to, aI cI h3 60 re, oK t1 kf]) A) ([.ref h, .ref t1] : List Value).toArray s 0 0 A) (F0 m 34 ls []) := by
    intro H locs hP hD hS ls hl
    refine lv_aload_n hx hb dX1_enterRecord_34 rfl (lv_at hl 0 rfl) ?_
    refine ag_getX1 (v := .ref h3) hx hb hG hown hK hP 0 10 rfl (by decide) k_54 rfl dX1_enterRecord_35 ?_
    refine lv_iload_n hx hb dX1_enterRecord_38 rfl (lv_at hl 2 rfl) ?_
    refine lv_iconst (v := 0) hx hb dX1_enterRecord_39 (by decide) ?_
    refine lv_iadd hx hb dX1_enterRecord_40 ?_
    refine lv_dup2_11 hx hb dX1_enterRecord_41 rfl rfl ?_
    refine ag_ild (k := (rs (f 0 / 144)) + 0) (v := (w34_3_X1_enterRecord f re) ((rs (f 0 / 144)) + 0)) hx hb hK hP 3 rfl ((congrArg (· + (0 : Int32)) (rs_eq (f 0 / 144))).trans (nI_add _ 0)) (by have := rs_le (f 0 / 144); omega) (Nat.le_of_ble_eq_true rfl) rfl dX1_enterRecord_42 ?_
    refine lv_aload_n hx hb dX1_enterRecord_43 rfl (lv_at hl 1 rfl) ?_
    refine ag_getX4 (v := .int (kf 4)) hx hb hG hown hK hP 4 4 rfl (by decide) k_97 rfl dX1_enterRecord_44 ?_
    refine lv_iadd hx hb dX1_enterRecord_47 ?_
    refine ag_topn (v := xv48_2_X1_enterRecord f re kf) rfl (fun x48_2 ex48_2 => ?_)
    refine ag_ist (k := (rs (f 0 / 144)) + 0) hx hb hK hP hD hS 3 rfl ((congrArg (· + (0 : Int32)) (rs_eq (f 0 / 144))).trans (nI_add _ 0)) (by have := rs_le (f 0 / 144); omega) (Nat.le_of_ble_eq_true rfl) dX1_enterRecord_48 (fun H locs hP hD hS => ?_)
    have hP : va_P D vwCl [oL h h1 h2 h3 f, aI cI h1 3 se, aI cI h2 7 to, aI cI h3 60 (upd (w34_3_X1_enterRecord f re) ((rs (f 0 / 144)) + 0) x48_2), oK t1 kf] H := hP
    have hD : va_D A [oL h h1 h2 h3 f, aI cI h1 3 se, aI cI h2 7 to, aI cI h3 60 (upd (w34_3_X1_enterRecord f re) ((rs (f 0 / 144)) + 0) x48_2), oK t1 kf] := hD
    refine lv_aload_n hx hb dX1_enterRecord_49 rfl (lv_at hl 0 rfl) ?_
    refine ag_getX1 (v := .ref h3) hx hb hG hown hK hP 0 10 rfl (by decide) k_54 rfl dX1_enterRecord_50 ?_
    refine lv_iload_n hx hb dX1_enterRecord_53 rfl (lv_at hl 2 rfl) ?_
    refine lv_iconst (v := 1) hx hb dX1_enterRecord_54 (by decide) ?_
    refine lv_iadd hx hb dX1_enterRecord_55 ?_
    refine lv_dup2_11 hx hb dX1_enterRecord_56 rfl rfl ?_
    refine ag_ild (k := (rs (f 0 / 144)) + 1) (v := (w34_3_X1_enterRecord f re) ((rs (f 0 / 144)) + 1)) hx hb hK hP 3 rfl ((congrArg (· + (1 : Int32)) (rs_eq (f 0 / 144))).trans (nI_add _ 1)) (by have := rs_le (f 0 / 144); omega) (Nat.le_of_ble_eq_true rfl) (Eq.trans (pk_un (by omega)) rfl) dX1_enterRecord_57 ?_
    refine lv_aload_n hx hb dX1_enterRecord_58 rfl (lv_at hl 1 rfl) ?_
    refine ag_getX4 (v := .int (kf 5)) hx hb hG hown hK hP 4 5 rfl (by decide) k_100 rfl dX1_enterRecord_59 ?_
    refine lv_iadd hx hb dX1_enterRecord_62 ?_
    refine ag_topn (v := xv63_3_X1_enterRecord f re kf) rfl (fun x63_3 ex63_3 => ?_)
    refine ag_ist (k := (rs (f 0 / 144)) + 1) hx hb hK hP hD hS 3 rfl ((congrArg (· + (1 : Int32)) (rs_eq (f 0 / 144))).trans (nI_add _ 1)) (by have := rs_le (f 0 / 144); omega) (Nat.le_of_ble_eq_true rfl) dX1_enterRecord_63 (fun H locs hP hD hS => ?_)
    have hP : va_P D vwCl [oL h h1 h2 h3 f, aI cI h1 3 se, aI cI h2 7 to, aI cI h3 60 (upd (upd (w34_3_X1_enterRecord f re) ((rs (f 0 / 144)) + 0) x48_2) ((rs (f 0 / 144)) + 1) x63_3), oK t1 kf] H := hP
    have hD : va_D A [oL h h1 h2 h3 f, aI cI h1 3 se, aI cI h2 7 to, aI cI h3 60 (upd (upd (w34_3_X1_enterRecord f re) ((rs (f 0 / 144)) + 0) x48_2) ((rs (f 0 / 144)) + 1) x63_3), oK t1 kf] := hD
    refine lv_aload_n hx hb dX1_enterRecord_64 rfl (lv_at hl 0 rfl) ?_
    refine ag_getX1 (v := .ref h3) hx hb hG hown hK hP 0 10 rfl (by decide) k_54 rfl dX1_enterRecord_65 ?_
    refine lv_iload_n hx hb dX1_enterRecord_68 rfl (lv_at hl 2 rfl) ?_
    refine lv_iconst (v := 2) hx hb dX1_enterRecord_69 (by decide) ?_
    refine lv_iadd hx hb dX1_enterRecord_70 ?_
    refine lv_aload_n hx hb dX1_enterRecord_71 rfl (lv_at hl 0 rfl) ?_
    refine ag_getX1 (v := .ref h3) hx hb hG hown hK hP 0 10 rfl (by decide) k_54 rfl dX1_enterRecord_72 ?_
    refine lv_iload_n hx hb dX1_enterRecord_75 rfl (lv_at hl 2 rfl) ?_
    refine lv_iconst (v := 2) hx hb dX1_enterRecord_76 (by decide) ?_
    refine lv_iadd hx hb dX1_enterRecord_77 ?_
    refine ag_ild (k := (rs (f 0 / 144)) + 2) (v := (w34_3_X1_enterRecord f re) ((rs (f 0 / 144)) + 2)) hx hb hK hP 3 rfl ((congrArg (· + (2 : Int32)) (rs_eq (f 0 / 144))).trans (nI_add _ 2)) (by have := rs_le (f 0 / 144); omega) (Nat.le_of_ble_eq_true rfl) (Eq.trans (pk_un (by omega)) (Eq.trans (pk_un (by omega)) rfl)) dX1_enterRecord_78 ?_
    refine lv_iload_n hx hb dX1_enterRecord_79 rfl (lv_at hl 3 rfl) ?_
    refine va_mmax hx hb (hml.trans hl.1.symm) hown (hG _ k_236) (hG _ k_237) (hG _ k_14) (hG _ k_238) (Nat.le_of_ble_eq_true rfl) (Nat.le_of_ble_eq_true rfl) (Nat.zero_le _) (Nat.zero_le _) dX1_enterRecord_80 ?_
    refine W.eq (g2 := F0 m 83 ls [.int (ag_max ((w34_3_X1_enterRecord f re) ((rs (f 0 / 144)) + 2)) (sr_X1_level f)), .int ((sr_X5_recordStart ((f 0) / 144)) + 2), .ref h3]) rfl ?_
    refine ag_topn (v := xv83_4_X1_enterRecord f re) rfl (fun x83_4 ex83_4 => ?_)
    refine ag_ist (k := (rs (f 0 / 144)) + 2) hx hb hK hP hD hS 3 rfl ((congrArg (· + (2 : Int32)) (rs_eq (f 0 / 144))).trans (nI_add _ 2)) (by have := rs_le (f 0 / 144); omega) (Nat.le_of_ble_eq_true rfl) dX1_enterRecord_83 (fun H locs hP hD hS => ?_)
    have hP : va_P D vwCl [oL h h1 h2 h3 f, aI cI h1 3 se, aI cI h2 7 to, aI cI h3 60 (upd (upd (upd (w34_3_X1_enterRecord f re) ((rs (f 0 / 144)) + 0) x48_2) ((rs (f 0 / 144)) + 1) x63_3) ((rs (f 0 / 144)) + 2) x83_4), oK t1 kf] H := hP
    have hD : va_D A [oL h h1 h2 h3 f, aI cI h1 3 se, aI cI h2 7 to, aI cI h3 60 (upd (upd (upd (w34_3_X1_enterRecord f re) ((rs (f 0 / 144)) + 0) x48_2) ((rs (f 0 / 144)) + 1) x63_3) ((rs (f 0 / 144)) + 2) x83_4), oK t1 kf] := hD
    refine lv_aload_n hx hb dX1_enterRecord_84 rfl (lv_at hl 0 rfl) ?_
    refine ag_getX1 (v := .ref h3) hx hb hG hown hK hP 0 10 rfl (by decide) k_54 rfl dX1_enterRecord_85 ?_
    refine lv_iload_n hx hb dX1_enterRecord_88 rfl (lv_at hl 2 rfl) ?_
    refine lv_iconst (v := 3) hx hb dX1_enterRecord_89 (by decide) ?_
    refine lv_iadd hx hb dX1_enterRecord_90 ?_
    refine lv_aload_n hx hb dX1_enterRecord_91 rfl (lv_at hl 0 rfl) ?_
    refine ag_getX1 (v := .ref h3) hx hb hG hown hK hP 0 10 rfl (by decide) k_54 rfl dX1_enterRecord_92 ?_
    refine lv_iload_n hx hb dX1_enterRecord_95 rfl (lv_at hl 2 rfl) ?_
    refine lv_iconst (v := 3) hx hb dX1_enterRecord_96 (by decide) ?_
    refine lv_iadd hx hb dX1_enterRecord_97 ?_
    refine ag_ild (k := (rs (f 0 / 144)) + 3) (v := (w34_3_X1_enterRecord f re) ((rs (f 0 / 144)) + 3)) hx hb hK hP 3 rfl ((congrArg (· + (3 : Int32)) (rs_eq (f 0 / 144))).trans (nI_add _ 3)) (by have := rs_le (f 0 / 144); omega) (Nat.le_of_ble_eq_true rfl) (Eq.trans (pk_un (by omega)) (Eq.trans (pk_un (by omega)) (Eq.trans (pk_un (by omega)) rfl))) dX1_enterRecord_98 ?_
    refine lv_iload_n hx hb dX1_enterRecord_99 rfl (lv_at hl 3 rfl) ?_
    refine va_mmin hx hb (hml.trans hl.1.symm) hown (hG _ k_379) (hG _ k_356) (hG _ k_14) (hG _ k_357) (Nat.le_of_ble_eq_true rfl) (Nat.le_of_ble_eq_true rfl) (Nat.zero_le _) (Nat.zero_le _) dX1_enterRecord_100 ?_
    refine W.eq (g2 := F0 m 103 ls [.int (ag_min ((w34_3_X1_enterRecord f re) ((rs (f 0 / 144)) + 3)) (sr_X1_level f)), .int ((sr_X5_recordStart ((f 0) / 144)) + 3), .ref h3]) rfl ?_
    refine ag_topn (v := xv103_5_X1_enterRecord f re) rfl (fun x103_5 ex103_5 => ?_)
    refine ag_ist (k := (rs (f 0 / 144)) + 3) hx hb hK hP hD hS 3 rfl ((congrArg (· + (3 : Int32)) (rs_eq (f 0 / 144))).trans (nI_add _ 3)) (by have := rs_le (f 0 / 144); omega) (Nat.le_of_ble_eq_true rfl) dX1_enterRecord_103 (fun H locs hP hD hS => ?_)
    have hP : va_P D vwCl [oL h h1 h2 h3 f, aI cI h1 3 se, aI cI h2 7 to, aI cI h3 60 (upd (upd (upd (upd (w34_3_X1_enterRecord f re) ((rs (f 0 / 144)) + 0) x48_2) ((rs (f 0 / 144)) + 1) x63_3) ((rs (f 0 / 144)) + 2) x83_4) ((rs (f 0 / 144)) + 3) x103_5), oK t1 kf] H := hP
    have hD : va_D A [oL h h1 h2 h3 f, aI cI h1 3 se, aI cI h2 7 to, aI cI h3 60 (upd (upd (upd (upd (w34_3_X1_enterRecord f re) ((rs (f 0 / 144)) + 0) x48_2) ((rs (f 0 / 144)) + 1) x63_3) ((rs (f 0 / 144)) + 2) x83_4) ((rs (f 0 / 144)) + 3) x103_5), oK t1 kf] := hD
    refine lv_aload_n hx hb dX1_enterRecord_104 rfl (lv_at hl 0 rfl) ?_
    refine ag_getX1 (v := .ref h3) hx hb hG hown hK hP 0 10 rfl (by decide) k_54 rfl dX1_enterRecord_105 ?_
    refine lv_iload_n hx hb dX1_enterRecord_108 rfl (lv_at hl 2 rfl) ?_
    refine lv_iconst (v := 4) hx hb dX1_enterRecord_109 (by decide) ?_
    refine lv_iadd hx hb dX1_enterRecord_110 ?_
    refine lv_dup2_11 hx hb dX1_enterRecord_111 rfl rfl ?_
    refine ag_ild (k := (rs (f 0 / 144)) + 4) (v := (w34_3_X1_enterRecord f re) ((rs (f 0 / 144)) + 4)) hx hb hK hP 3 rfl ((congrArg (· + (4 : Int32)) (rs_eq (f 0 / 144))).trans (nI_add _ 4)) (by have := rs_le (f 0 / 144); omega) (Nat.le_of_ble_eq_true rfl) (Eq.trans (pk_un (by omega)) (Eq.trans (pk_un (by omega)) (Eq.trans (pk_un (by omega)) (Eq.trans (pk_un (by omega)) rfl)))) dX1_enterRecord_112 ?_
    refine lv_iconst (v := 0) hx hb dX1_enterRecord_113 (by decide) ?_
    refine lv_aload_n hx hb dX1_enterRecord_114 rfl (lv_at hl 1 rfl) ?_
    refine ag_getX4 (v := .int (kf 3)) hx hb hG hown hK hP 4 3 rfl (by decide) k_94 rfl dX1_enterRecord_115 ?_
    refine va_mmax hx hb (hml.trans hl.1.symm) hown (hG _ k_236) (hG _ k_237) (hG _ k_14) (hG _ k_238) (Nat.le_of_ble_eq_true rfl) (Nat.le_of_ble_eq_true rfl) (Nat.zero_le _) (Nat.zero_le _) dX1_enterRecord_118 ?_
    refine W.eq (g2 := F0 m 121 ls [.int (ag_max 0 (kf 3)), .int ((w34_3_X1_enterRecord f re) ((rs (f 0 / 144)) + 4)), .int ((sr_X5_recordStart ((f 0) / 144)) + 4), .ref h3]) rfl ?_
    refine lv_iadd hx hb dX1_enterRecord_121 ?_
    refine ag_topn (v := xv122_6_X1_enterRecord f re kf) rfl (fun x122_6 ex122_6 => ?_)
    refine ag_ist (k := (rs (f 0 / 144)) + 4) hx hb hK hP hD hS 3 rfl ((congrArg (· + (4 : Int32)) (rs_eq (f 0 / 144))).trans (nI_add _ 4)) (by have := rs_le (f 0 / 144); omega) (Nat.le_of_ble_eq_true rfl) dX1_enterRecord_122 (fun H locs hP hD hS => ?_)
    have hP : va_P D vwCl [oL h h1 h2 h3 f, aI cI h1 3 se, aI cI h2 7 to, aI cI h3 60 (upd (upd (upd (upd (upd (w34_3_X1_enterRecord f re) ((rs (f 0 / 144)) + 0) x48_2) ((rs (f 0 / 144)) + 1) x63_3) ((rs (f 0 / 144)) + 2) x83_4) ((rs (f 0 / 144)) + 3) x103_5) ((rs (f 0 / 144)) + 4) x122_6), oK t1 kf] H := hP
    have hD : va_D A [oL h h1 h2 h3 f, aI cI h1 3 se, aI cI h2 7 to, aI cI h3 60 (upd (upd (upd (upd (upd (w34_3_X1_enterRecord f re) ((rs (f 0 / 144)) + 0) x48_2) ((rs (f 0 / 144)) + 1) x63_3) ((rs (f 0 / 144)) + 2) x83_4) ((rs (f 0 / 144)) + 3) x103_5) ((rs (f 0 / 144)) + 4) x122_6), oK t1 kf] := hD
    refine lv_aload_n hx hb dX1_enterRecord_123 rfl (lv_at hl 0 rfl) ?_
    refine ag_getX1 (v := .ref h3) hx hb hG hown hK hP 0 10 rfl (by decide) k_54 rfl dX1_enterRecord_124 ?_
    refine lv_iload_n hx hb dX1_enterRecord_127 rfl (lv_at hl 2 rfl) ?_
    refine lv_iconst (v := 5) hx hb dX1_enterRecord_128 (by decide) ?_
    refine lv_iadd hx hb dX1_enterRecord_129 ?_
    refine lv_dup2_11 hx hb dX1_enterRecord_130 rfl rfl ?_
    refine ag_ild (k := (rs (f 0 / 144)) + 5) (v := (w34_3_X1_enterRecord f re) ((rs (f 0 / 144)) + 5)) hx hb hK hP 3 rfl ((congrArg (· + (5 : Int32)) (rs_eq (f 0 / 144))).trans (nI_add _ 5)) (by have := rs_le (f 0 / 144); omega) (Nat.le_of_ble_eq_true rfl) (Eq.trans (pk_un (by omega)) (Eq.trans (pk_un (by omega)) (Eq.trans (pk_un (by omega)) (Eq.trans (pk_un (by omega)) (Eq.trans (pk_un (by omega)) rfl))))) dX1_enterRecord_131 ?_
    refine lv_iconst (v := 0) hx hb dX1_enterRecord_132 (by decide) ?_
    refine lv_aload_n hx hb dX1_enterRecord_133 rfl (lv_at hl 1 rfl) ?_
    refine ag_getX4 (v := .int (kf 3)) hx hb hG hown hK hP 4 3 rfl (by decide) k_94 rfl dX1_enterRecord_134 ?_
    refine lv_ineg hx hb dX1_enterRecord_137 ?_
    refine va_mmax hx hb (hml.trans hl.1.symm) hown (hG _ k_236) (hG _ k_237) (hG _ k_14) (hG _ k_238) (Nat.le_of_ble_eq_true rfl) (Nat.le_of_ble_eq_true rfl) (Nat.zero_le _) (Nat.zero_le _) dX1_enterRecord_138 ?_
    refine W.eq (g2 := F0 m 141 ls [.int (ag_max 0 (-(kf 3))), .int ((w34_3_X1_enterRecord f re) ((rs (f 0 / 144)) + 5)), .int ((sr_X5_recordStart ((f 0) / 144)) + 5), .ref h3]) rfl ?_
    refine lv_iadd hx hb dX1_enterRecord_141 ?_
    refine ag_topn (v := xv142_7_X1_enterRecord f re kf) rfl (fun x142_7 ex142_7 => ?_)
    refine ag_ist (k := (rs (f 0 / 144)) + 5) hx hb hK hP hD hS 3 rfl ((congrArg (· + (5 : Int32)) (rs_eq (f 0 / 144))).trans (nI_add _ 5)) (by have := rs_le (f 0 / 144); omega) (Nat.le_of_ble_eq_true rfl) dX1_enterRecord_142 (fun H locs hP hD hS => ?_)
    have hP : va_P D vwCl [oL h h1 h2 h3 f, aI cI h1 3 se, aI cI h2 7 to, aI cI h3 60 (upd (upd (upd (upd (upd (upd (w34_3_X1_enterRecord f re) ((rs (f 0 / 144)) + 0) x48_2) ((rs (f 0 / 144)) + 1) x63_3) ((rs (f 0 / 144)) + 2) x83_4) ((rs (f 0 / 144)) + 3) x103_5) ((rs (f 0 / 144)) + 4) x122_6) ((rs (f 0 / 144)) + 5) x142_7), oK t1 kf] H := hP
    have hD : va_D A [oL h h1 h2 h3 f, aI cI h1 3 se, aI cI h2 7 to, aI cI h3 60 (upd (upd (upd (upd (upd (upd (w34_3_X1_enterRecord f re) ((rs (f 0 / 144)) + 0) x48_2) ((rs (f 0 / 144)) + 1) x63_3) ((rs (f 0 / 144)) + 2) x83_4) ((rs (f 0 / 144)) + 3) x103_5) ((rs (f 0 / 144)) + 4) x122_6) ((rs (f 0 / 144)) + 5) x142_7), oK t1 kf] := hD
    revert hP; revert hD; revert hS; revert hl
    subst ex142_7
    subst ex122_6
    subst ex103_5
    subst ex83_4
    subst ex63_3
    subst ex48_2
    intro hl hS hD hP
    exact ag_vret [h, h1, h2, h3, t1] hx hb hr hlocks hP hS rfl rfl (by show _ = _; rw [show sw3_X1_enterRecord f re kf = upd (upd (upd (upd (upd (upd (w34_3_X1_enterRecord f re) ((rs (f 0 / 144)) + 0) (xv48_2_X1_enterRecord f re kf)) ((rs (f 0 / 144)) + 1) (xv63_3_X1_enterRecord f re kf)) ((rs (f 0 / 144)) + 2) (xv83_4_X1_enterRecord f re)) ((rs (f 0 / 144)) + 3) (xv103_5_X1_enterRecord f re)) ((rs (f 0 / 144)) + 4) (xv122_6_X1_enterRecord f re kf)) ((rs (f 0 / 144)) + 5) (xv142_7_X1_enterRecord f re kf) from rfl]) dX1_enterRecord_143
  refine lv_if_ne (tgt := 34) hx hb dX1_enterRecord_25 (by decide) (fun c_25 => ?_) (fun c_25 => ?_)
  · simp only [w34_3_X1_enterRecord, if_neg c_25] at J34
    exact J34 H locs hP hD hS _ (lv_sub hl [2, 3, 1, 0] rfl)
  · refine lv_aload_n hx hb dX1_enterRecord_28 rfl (lv_at hl 2 rfl) ?_
    refine lv_iload_n hx hb dX1_enterRecord_29 rfl (lv_at hl 1 rfl) ?_
    refine lv_iload_n hx hb dX1_enterRecord_30 rfl (lv_at hl 0 rfl) ?_
    refine ag_callVv (As := [.int (sr_X5_recordStart ((f 0) / 144)), .int (sr_X1_level f)]) (rest := []) hx hb hml hown hG hK hN hA hP hD hS hl (ct_X1_beginRecord l D cI cC cL h h1 h2 h3 f se to re (sr_X5_recordStart ((f 0) / 144)) (sr_X1_level f) (rs (f 0 / 144)) (⟨rs_eq (f 0 / 144), rs_le (f 0 / 144)⟩)) fX1_beginRecord k_375 (ag_cut_1 [] [oK t1 kf] rfl) (q0 := 0) rfl rfl rfl rfl (Nat.le_of_ble_eq_true rfl) ⟨Nat.le_of_ble_eq_true rfl, Nat.le_of_ble_eq_true rfl⟩ ⟨Nat.zero_le _, Nat.zero_le _⟩ dX1_enterRecord_31 (fun w1 H locs hw hP hD hS => ?_)
    have hw : _ = w1 := hw
    generalize eg31_1 : sw3_X1_beginRecord re (sr_X1_level f) (rs (f 0 / 144)) = g31_1 at hw
    replace eg31_1 : gv31_1_X1_enterRecord f re = g31_1 := (by rw [← eg31_1]; rfl)
    subst hw
    have hP : va_P D vwCl [oL h h1 h2 h3 f, aI cI h1 3 se, aI cI h2 7 to, aI cI h3 60 g31_1, oK t1 kf] H := hP
    have hD : va_D A [oL h h1 h2 h3 f, aI cI h1 3 se, aI cI h2 7 to, aI cI h3 60 g31_1, oK t1 kf] := hD
    revert hP; revert hD; revert hS; revert hl
    subst eg31_1
    intro hl hS hD hP
    simp only [w34_3_X1_enterRecord, if_pos c_25] at J34
    exact J34 H locs hP hD hS _ (lv_sub hl [2, 3, 1, 0] rfl)
def sr_X4_siltOf (kf : Nat → Int32) (f : Nat → Int32) (se : Nat → Int32) : Int32 := if (kf 3) ≤ 0 then if (-(se 2)) < (kf 3) then 0 else -(ag_min ((-(kf 3)) / 20) (f 2)) else ag_min ((kf 3) / 50) (20000 - (f 2))
abbrev po_X4_siltOf (cI cC cL : ClassId) (t1 h h1 h2 h3 : Nat) (kf f se to re : Nat → Int32) : Int32 → va_W → Prop := fun r w' => sr_X4_siltOf kf f se = r ∧ [oK t1 kf, oL h h1 h2 h3 f, aI cI h1 3 se, aI cI h2 7 to, aI cI h3 60 re] = w'
set_option maxHeartbeats 4000000 in
set_option maxRecDepth 100000 in
theorem ct_X4_siltOf (l : Launch) (D : va_G) (cI cC cL : ClassId) (t1 h h1 h2 h3 : Nat) (kf f se to re : Nat → Int32) : ag_MI l yX4_siltOf cX4_siltOf 2 .int 1 13 D cI cC cL [.ref t1, .ref h] [oK t1 kf, oL h h1 h2 h3 f, aI cI h1 3 se, aI cI h2 7 to, aI cI h3 60 re] (po_X4_siltOf cI cC cL t1 h h1 h2 h3 kf f se to re) := by
  refine ag_MI.of (plainFor_of_name (by decide)) (Nat.le_of_ble_eq_true rfl) ?_
  intro p e s m below meth c hx hb hr hlocks hml hown hmn hG hK A hN hA H locs hP hD hS ls hl
  have hl : lv_has ls 2 [(0, .ref t1), (1, .ref h)] := hl
  refine lv_aload_n hx hb dX4_siltOf_0 rfl (lv_at hl 0 rfl) ?_
  refine ag_getX4 (v := .int (kf 3)) hx hb hG hown hK hP 0 3 rfl (by decide) k_92 rfl dX4_siltOf_1 ?_
  refine lv_if_le (tgt := 26) hx hb dX4_siltOf_4 (by decide) (fun c_4 => ?_) (fun c_4 => ?_)
  · refine lv_aload_n hx hb dX4_siltOf_26 rfl (lv_at hl 0 rfl) ?_
    refine ag_getX4 (v := .int (kf 3)) hx hb hG hown hK hP 0 3 rfl (by decide) k_92 rfl dX4_siltOf_27 ?_
    refine lv_aload_n hx hb dX4_siltOf_30 rfl (lv_at hl 1 rfl) ?_
    refine ag_getX1 (v := .ref h1) hx hb hG hown hK hP 1 8 rfl (by decide) k_50 rfl dX4_siltOf_31 ?_
    refine lv_iconst (v := 2) hx hb dX4_siltOf_34 (by decide) ?_
    refine ag_ild (k := 2) (v := se 2) hx hb hK hP 2 rfl rfl (Nat.le_of_ble_eq_true rfl) (Nat.le_of_ble_eq_true rfl) rfl dX4_siltOf_35 ?_
    refine lv_ineg hx hb dX4_siltOf_36 ?_
    refine lv_icmp_gt (tgt := 57) hx hb dX4_siltOf_37 (by decide) (fun c_37 => ?_) (fun c_37 => ?_)
    · refine lv_iconst (v := 0) hx hb dX4_siltOf_57 (by decide) ?_
      exact ag_iret [t1, h, h1, h2, h3] hx hb hr rfl hlocks hP hS rfl rfl ⟨(by unfold sr_X4_siltOf; rw [if_pos c_4, if_pos c_37]), rfl⟩ dX4_siltOf_58
    · refine lv_aload_n hx hb dX4_siltOf_40 rfl (lv_at hl 0 rfl) ?_
      refine ag_getX4 (v := .int (kf 3)) hx hb hG hown hK hP 0 3 rfl (by decide) k_92 rfl dX4_siltOf_41 ?_
      refine lv_ineg hx hb dX4_siltOf_44 ?_
      refine lv_bipush (v := 20) hx hb dX4_siltOf_45 (by decide) ?_
      refine lv_idiv hx hb dX4_siltOf_47 (by decide) ?_
      refine lv_aload_n hx hb dX4_siltOf_48 rfl (lv_at hl 1 rfl) ?_
      refine ag_getX1 (v := .int (f 2)) hx hb hG hown hK hP 1 2 rfl (by decide) k_36 rfl dX4_siltOf_49 ?_
      refine va_mmin hx hb (hml.trans hl.1.symm) hown (hG _ k_355) (hG _ k_356) (hG _ k_14) (hG _ k_357) (Nat.le_of_ble_eq_true rfl) (Nat.le_of_ble_eq_true rfl) (Nat.zero_le _) (Nat.zero_le _) dX4_siltOf_52 ?_
      refine W.eq (g2 := F0 m 55 ls [.int (ag_min ((-(kf 3)) / 20) (f 2))]) rfl ?_
      refine lv_ineg hx hb dX4_siltOf_55 ?_
      exact ag_iret [t1, h, h1, h2, h3] hx hb hr rfl hlocks hP hS rfl rfl ⟨(by unfold sr_X4_siltOf; rw [if_pos c_4, if_neg c_37]), rfl⟩ dX4_siltOf_56
  · refine lv_aload_n hx hb dX4_siltOf_7 rfl (lv_at hl 0 rfl) ?_
    refine ag_getX4 (v := .int (kf 3)) hx hb hG hown hK hP 0 3 rfl (by decide) k_92 rfl dX4_siltOf_8 ?_
    refine lv_bipush (v := 50) hx hb dX4_siltOf_11 (by decide) ?_
    refine lv_idiv hx hb dX4_siltOf_13 (by decide) ?_
    refine lv_sipush (v := 20000) hx hb dX4_siltOf_14 (by decide) ?_
    refine lv_aload_n hx hb dX4_siltOf_17 rfl (lv_at hl 1 rfl) ?_
    refine ag_getX1 (v := .int (f 2)) hx hb hG hown hK hP 1 2 rfl (by decide) k_36 rfl dX4_siltOf_18 ?_
    refine lv_isub hx hb dX4_siltOf_21 ?_
    refine va_mmin hx hb (hml.trans hl.1.symm) hown (hG _ k_355) (hG _ k_356) (hG _ k_14) (hG _ k_357) (Nat.le_of_ble_eq_true rfl) (Nat.le_of_ble_eq_true rfl) (Nat.zero_le _) (Nat.zero_le _) dX4_siltOf_22 ?_
    refine W.eq (g2 := F0 m 25 ls [.int (ag_min ((kf 3) / 50) (20000 - (f 2)))]) rfl ?_
    exact ag_iret [t1, h, h1, h2, h3] hx hb hr rfl hlocks hP hS rfl rfl ⟨(by unfold sr_X4_siltOf; rw [if_neg c_4]), rfl⟩ dX4_siltOf_25
def j29_0_X4_foresee (f : Nat → Int32) (p1 : Int32) : Int32 := if (sr_X1_isBirdHour f) = 0 then ((f 3) * p1) * 2 else 0
def xv29_1_X4_foresee (f : Nat → Int32) (p1 : Int32) : Int32 := j29_0_X4_foresee f p1
def j53_0_X4_foresee (f : Nat → Int32) (se : Nat → Int32) (p1 : Int32) : Int32 := if (ag_abs p1) < (se 0) then 0 else (f 4) * p1
def xv53_2_X4_foresee (f : Nat → Int32) (se : Nat → Int32) (p1 : Int32) : Int32 := j53_0_X4_foresee f se p1
def j80_0_X4_foresee (f : Nat → Int32) (se : Nat → Int32) (p1 : Int32) : Int32 := if (sr_X1_isBirdHour f) = 0 then if (se 1) < (ag_abs p1) then 0 else f 5 else 0
def xv80_3_X4_foresee (f : Nat → Int32) (se : Nat → Int32) (p1 : Int32) : Int32 := j80_0_X4_foresee f se p1
def xv96_4_X4_foresee (f : Nat → Int32) (se : Nat → Int32) (p1 : Int32) : Int32 := ((ag_abs (xv53_2_X4_foresee f se p1)) * (ag_abs p1)) / 100
def xv115_5_X4_foresee (f : Nat → Int32) (se : Nat → Int32) (p1 : Int32) : Int32 := ((ag_abs (xv80_3_X4_foresee f se p1)) * (20 + (ag_abs p1))) / 100
def xv155_6_X4_foresee (f : Nat → Int32) (se : Nat → Int32) (p1 : Int32) : Int32 := ag_max (-(f 1)) (ag_min (80000 - (f 1)) (((xv29_1_X4_foresee f p1) + (xv53_2_X4_foresee f se p1)) + (xv80_3_X4_foresee f se p1)))
def xv164_7_X4_foresee (kf : Nat → Int32) (f : Nat → Int32) (se : Nat → Int32) (p1 : Int32) : Int32 := sr_X4_siltOf (upd (upd (upd (upd (upd (upd kf 0 (xv29_1_X4_foresee f p1)) 1 (xv53_2_X4_foresee f se p1)) 2 (xv80_3_X4_foresee f se p1)) 4 (xv96_4_X4_foresee f se p1)) 5 (xv115_5_X4_foresee f se p1)) 3 (xv155_6_X4_foresee f se p1)) f se
def sw0_X4_foresee (kf : Nat → Int32) (f : Nat → Int32) (se : Nat → Int32) (p1 : Int32) : Nat → Int32 := upd (upd (upd (upd (upd (upd (upd kf 0 (xv29_1_X4_foresee f p1)) 1 (xv53_2_X4_foresee f se p1)) 2 (xv80_3_X4_foresee f se p1)) 4 (xv96_4_X4_foresee f se p1)) 5 (xv115_5_X4_foresee f se p1)) 3 (xv155_6_X4_foresee f se p1)) 6 (xv164_7_X4_foresee kf f se p1)
abbrev po_X4_foresee (cI cC cL : ClassId) (t1 h h1 h2 h3 : Nat) (kf f se to re : Nat → Int32) (p1 : Int32) : va_W → Prop := fun w' => [oK t1 (sw0_X4_foresee kf f se p1), oL h h1 h2 h3 f, aI cI h1 3 se, aI cI h2 7 to, aI cI h3 60 re] = w'
set_option maxHeartbeats 4000000 in
set_option maxRecDepth 100000 in
theorem ct_X4_foresee (l : Launch) (D : va_G) (cI cC cL : ClassId) (t1 h h1 h2 h3 : Nat) (kf f se to re : Nat → Int32) (p1 : Int32) : ag_MV l yX4_foresee cX4_foresee 6 2 34 D cI cC cL [.ref t1, .ref h, .int p1] [oK t1 kf, oL h h1 h2 h3 f, aI cI h1 3 se, aI cI h2 7 to, aI cI h3 60 re] (po_X4_foresee cI cC cL t1 h h1 h2 h3 kf f se to re p1) := by
  refine ag_MV.of (plainFor_of_name (by decide)) (Nat.le_of_ble_eq_true rfl) ?_
  intro p e s m below meth c hx hb hr hlocks hml hown hmn hG hK A hN hA H locs hP hD hS ls hl
  have hl : lv_has ls 6 [(0, .ref t1), (1, .ref h), (2, .int p1)] := hl
  refine lv_iload_n hx hb dX4_foresee_0 rfl (lv_at hl 2 rfl) ?_
  refine va_mabs hx hb (hml.trans hl.1.symm) hown (hG _ k_350) (hG _ k_351) (hG _ k_14) (hG _ k_352) (Nat.le_of_ble_eq_true rfl) (Nat.le_of_ble_eq_true rfl) (Nat.zero_le _) (Nat.zero_le _) dX4_foresee_1 ?_
  refine W.eq (g2 := F0 m 4 ls [.int (ag_abs p1)]) rfl ?_
  refine lv_istore_n (lv' := [(3, .int (ag_abs p1)), (0, .ref t1), (1, .ref h), (2, .int p1)]) hx hb dX4_foresee_4 rfl hl (by decide) rfl (fun ls hl => ?_)
  refine lv_aload_n hx hb dX4_foresee_5 rfl (lv_at hl 2 rfl) ?_
  refine ag_callVi (As := []) (rest := []) hx hb hml hown hG hK hN hA hP hD hS hl (ct_X1_isBirdHour l D cI cC cL h h1 h2 h3 f se to re) fX1_isBirdHour k_353 (ag_cut_1 [oK t1 kf] [] rfl) (q0 := 1) rfl rfl rfl rfl (Nat.le_of_ble_eq_true rfl) ⟨Nat.le_of_ble_eq_true rfl, Nat.le_of_ble_eq_true rfl⟩ ⟨Nat.zero_le _, Nat.zero_le _⟩ dX4_foresee_6 (fun r w1 H locs hw hP hD hS => ?_)
  obtain ⟨rfl, hw⟩ := hw
  subst hw
  have hP : va_P D vwCl [oK t1 kf, oL h h1 h2 h3 f, aI cI h1 3 se, aI cI h2 7 to, aI cI h3 60 re] H := hP
  have hD : va_D A [oK t1 kf, oL h h1 h2 h3 f, aI cI h1 3 se, aI cI h2 7 to, aI cI h3 60 re] := hD
  refine lv_istore (lv' := [(4, .int (sr_X1_isBirdHour f)), (3, .int (ag_abs p1)), (0, .ref t1), (1, .ref h), (2, .int p1)]) hx hb dX4_foresee_9 hl (by decide) rfl (fun ls hl => ?_)
  refine lv_aload_n hx hb dX4_foresee_11 rfl (lv_at hl 2 rfl) ?_
  refine lv_iload hx hb dX4_foresee_12 (lv_at hl 0 rfl) ?_
  have J29 : ∀ (ls : Array Slot), lv_has ls 6 [(0, .ref t1), (1, .ref h), (2, .int p1), (3, .int (ag_abs p1)), (4, .int (sr_X1_isBirdHour f))] → W p l e (ag_rm 2 34) s m ([.ref t1, .ref h, .int p1] : List Value).toArray below meth c H locs 0 0 (MQ below (va_Qv (po_X4_foresee cI cC cL t1 h h1 h2 h3 kf f se to re p1) (ag_Out D [oK t1 kf, oL h h1 h2 h3 f, aI cI h1 3 se, aI cI h2 7 to, aI cI h3 60 re]) A) ([.ref t1, .ref h, .int p1] : List Value).toArray s 0 0 A) (F0 m 29 ls [.int (j29_0_X4_foresee f p1), .ref t1]) := by
    intro ls hl
    refine ag_topn (v := xv29_1_X4_foresee f p1) rfl (fun x29_1 ex29_1 => ?_)
    refine ag_putX4 hx hb hG hown hK hP hD hS 0 0 rfl (by decide) k_86 (by decide) rfl rfl (Nat.le_of_ble_eq_true rfl) dX4_foresee_29 (fun H locs hP hD hS => ?_)
    have hP : va_P D vwCl [oK t1 (upd kf 0 x29_1), oL h h1 h2 h3 f, aI cI h1 3 se, aI cI h2 7 to, aI cI h3 60 re] H := hP
    have hD : va_D A [oK t1 (upd kf 0 x29_1), oL h h1 h2 h3 f, aI cI h1 3 se, aI cI h2 7 to, aI cI h3 60 re] := hD
    refine lv_aload_n hx hb dX4_foresee_32 rfl (lv_at hl 0 rfl) ?_
    refine lv_iload_n hx hb dX4_foresee_33 rfl (lv_at hl 3 rfl) ?_
    refine lv_aload_n hx hb dX4_foresee_34 rfl (lv_at hl 1 rfl) ?_
    refine ag_getX1 (v := .ref h1) hx hb hG hown hK hP 1 8 rfl (by decide) k_50 rfl dX4_foresee_35 ?_
    refine lv_iconst (v := 0) hx hb dX4_foresee_38 (by decide) ?_
    refine ag_ild (k := 0) (v := se 0) hx hb hK hP 2 rfl rfl (Nat.le_of_ble_eq_true rfl) (Nat.le_of_ble_eq_true rfl) rfl dX4_foresee_39 ?_
    have J53 : ∀ (ls : Array Slot), lv_has ls 6 [(0, .ref t1), (1, .ref h), (2, .int p1), (3, .int (ag_abs p1)), (4, .int (sr_X1_isBirdHour f))] → W p l e (ag_rm 2 34) s m ([.ref t1, .ref h, .int p1] : List Value).toArray below meth c H locs 0 0 (MQ below (va_Qv (po_X4_foresee cI cC cL t1 h h1 h2 h3 kf f se to re p1) (ag_Out D [oK t1 kf, oL h h1 h2 h3 f, aI cI h1 3 se, aI cI h2 7 to, aI cI h3 60 re]) A) ([.ref t1, .ref h, .int p1] : List Value).toArray s 0 0 A) (F0 m 53 ls [.int (j53_0_X4_foresee f se p1), .ref t1]) := by
      intro ls hl
      refine ag_topn (v := xv53_2_X4_foresee f se p1) rfl (fun x53_2 ex53_2 => ?_)
      refine ag_putX4 hx hb hG hown hK hP hD hS 0 1 rfl (by decide) k_88 (by decide) rfl rfl (Nat.le_of_ble_eq_true rfl) dX4_foresee_53 (fun H locs hP hD hS => ?_)
      have hP : va_P D vwCl [oK t1 (upd (upd kf 0 x29_1) 1 x53_2), oL h h1 h2 h3 f, aI cI h1 3 se, aI cI h2 7 to, aI cI h3 60 re] H := hP
      have hD : va_D A [oK t1 (upd (upd kf 0 x29_1) 1 x53_2), oL h h1 h2 h3 f, aI cI h1 3 se, aI cI h2 7 to, aI cI h3 60 re] := hD
      refine lv_aload_n hx hb dX4_foresee_56 rfl (lv_at hl 0 rfl) ?_
      refine lv_iload hx hb dX4_foresee_57 (lv_at hl 4 rfl) ?_
      have J80 : ∀ (ls : Array Slot), lv_has ls 6 [(0, .ref t1), (1, .ref h), (2, .int p1), (3, .int (ag_abs p1)), (4, .int (sr_X1_isBirdHour f))] → W p l e (ag_rm 2 34) s m ([.ref t1, .ref h, .int p1] : List Value).toArray below meth c H locs 0 0 (MQ below (va_Qv (po_X4_foresee cI cC cL t1 h h1 h2 h3 kf f se to re p1) (ag_Out D [oK t1 kf, oL h h1 h2 h3 f, aI cI h1 3 se, aI cI h2 7 to, aI cI h3 60 re]) A) ([.ref t1, .ref h, .int p1] : List Value).toArray s 0 0 A) (F0 m 80 ls [.int (j80_0_X4_foresee f se p1), .ref t1]) := by
        intro ls hl
        refine ag_topn (v := xv80_3_X4_foresee f se p1) rfl (fun x80_3 ex80_3 => ?_)
        refine ag_putX4 hx hb hG hown hK hP hD hS 0 2 rfl (by decide) k_90 (by decide) rfl rfl (Nat.le_of_ble_eq_true rfl) dX4_foresee_80 (fun H locs hP hD hS => ?_)
        have hP : va_P D vwCl [oK t1 (upd (upd (upd kf 0 x29_1) 1 x53_2) 2 x80_3), oL h h1 h2 h3 f, aI cI h1 3 se, aI cI h2 7 to, aI cI h3 60 re] H := hP
        have hD : va_D A [oK t1 (upd (upd (upd kf 0 x29_1) 1 x53_2) 2 x80_3), oL h h1 h2 h3 f, aI cI h1 3 se, aI cI h2 7 to, aI cI h3 60 re] := hD
        refine lv_aload_n hx hb dX4_foresee_83 rfl (lv_at hl 0 rfl) ?_
        refine lv_aload_n hx hb dX4_foresee_84 rfl (lv_at hl 0 rfl) ?_
        refine ag_getX4 (v := .int x53_2) hx hb hG hown hK hP 0 1 rfl (by decide) k_88 rfl dX4_foresee_85 ?_
        refine va_mabs hx hb (hml.trans hl.1.symm) hown (hG _ k_350) (hG _ k_351) (hG _ k_14) (hG _ k_352) (Nat.le_of_ble_eq_true rfl) (Nat.le_of_ble_eq_true rfl) (Nat.zero_le _) (Nat.zero_le _) dX4_foresee_88 ?_
        refine W.eq (g2 := F0 m 91 ls [.int (ag_abs x53_2), .ref t1]) rfl ?_
        refine lv_iload_n hx hb dX4_foresee_91 rfl (lv_at hl 3 rfl) ?_
        refine lv_imul hx hb dX4_foresee_92 ?_
        refine lv_bipush (v := 100) hx hb dX4_foresee_93 (by decide) ?_
        refine lv_idiv hx hb dX4_foresee_95 (by decide) ?_
        refine ag_topn (v := xv96_4_X4_foresee f se p1) (by rw [← ex53_2]; rfl) (fun x96_4 ex96_4 => ?_)
        refine ag_putX4 hx hb hG hown hK hP hD hS 0 4 rfl (by decide) k_95 (by decide) rfl rfl (Nat.le_of_ble_eq_true rfl) dX4_foresee_96 (fun H locs hP hD hS => ?_)
        have hP : va_P D vwCl [oK t1 (upd (upd (upd (upd kf 0 x29_1) 1 x53_2) 2 x80_3) 4 x96_4), oL h h1 h2 h3 f, aI cI h1 3 se, aI cI h2 7 to, aI cI h3 60 re] H := hP
        have hD : va_D A [oK t1 (upd (upd (upd (upd kf 0 x29_1) 1 x53_2) 2 x80_3) 4 x96_4), oL h h1 h2 h3 f, aI cI h1 3 se, aI cI h2 7 to, aI cI h3 60 re] := hD
        refine lv_aload_n hx hb dX4_foresee_99 rfl (lv_at hl 0 rfl) ?_
        refine lv_aload_n hx hb dX4_foresee_100 rfl (lv_at hl 0 rfl) ?_
        refine ag_getX4 (v := .int x80_3) hx hb hG hown hK hP 0 2 rfl (by decide) k_90 rfl dX4_foresee_101 ?_
        refine va_mabs hx hb (hml.trans hl.1.symm) hown (hG _ k_350) (hG _ k_351) (hG _ k_14) (hG _ k_352) (Nat.le_of_ble_eq_true rfl) (Nat.le_of_ble_eq_true rfl) (Nat.zero_le _) (Nat.zero_le _) dX4_foresee_104 ?_
        refine W.eq (g2 := F0 m 107 ls [.int (ag_abs x80_3), .ref t1]) rfl ?_
        refine lv_bipush (v := 20) hx hb dX4_foresee_107 (by decide) ?_
        refine lv_iload_n hx hb dX4_foresee_109 rfl (lv_at hl 3 rfl) ?_
        refine lv_iadd hx hb dX4_foresee_110 ?_
        refine lv_imul hx hb dX4_foresee_111 ?_
        refine lv_bipush (v := 100) hx hb dX4_foresee_112 (by decide) ?_
        refine lv_idiv hx hb dX4_foresee_114 (by decide) ?_
        refine ag_topn (v := xv115_5_X4_foresee f se p1) (by rw [← ex80_3]; rfl) (fun x115_5 ex115_5 => ?_)
        refine ag_putX4 hx hb hG hown hK hP hD hS 0 5 rfl (by decide) k_98 (by decide) rfl rfl (Nat.le_of_ble_eq_true rfl) dX4_foresee_115 (fun H locs hP hD hS => ?_)
        have hP : va_P D vwCl [oK t1 (upd (upd (upd (upd (upd kf 0 x29_1) 1 x53_2) 2 x80_3) 4 x96_4) 5 x115_5), oL h h1 h2 h3 f, aI cI h1 3 se, aI cI h2 7 to, aI cI h3 60 re] H := hP
        have hD : va_D A [oK t1 (upd (upd (upd (upd (upd kf 0 x29_1) 1 x53_2) 2 x80_3) 4 x96_4) 5 x115_5), oL h h1 h2 h3 f, aI cI h1 3 se, aI cI h2 7 to, aI cI h3 60 re] := hD
        refine lv_aload_n hx hb dX4_foresee_118 rfl (lv_at hl 0 rfl) ?_
        refine ag_getX4 (v := .int x29_1) hx hb hG hown hK hP 0 0 rfl (by decide) k_86 rfl dX4_foresee_119 ?_
        refine lv_aload_n hx hb dX4_foresee_122 rfl (lv_at hl 0 rfl) ?_
        refine ag_getX4 (v := .int x53_2) hx hb hG hown hK hP 0 1 rfl (by decide) k_88 rfl dX4_foresee_123 ?_
        refine lv_iadd hx hb dX4_foresee_126 ?_
        refine lv_aload_n hx hb dX4_foresee_127 rfl (lv_at hl 0 rfl) ?_
        refine ag_getX4 (v := .int x80_3) hx hb hG hown hK hP 0 2 rfl (by decide) k_90 rfl dX4_foresee_128 ?_
        refine lv_iadd hx hb dX4_foresee_131 ?_
        refine lv_istore (lv' := [(5, .int ((x29_1 + x53_2) + x80_3)), (0, .ref t1), (1, .ref h), (2, .int p1), (3, .int (ag_abs p1)), (4, .int (sr_X1_isBirdHour f))]) hx hb dX4_foresee_132 hl (by decide) rfl (fun ls hl => ?_)
        refine lv_aload_n hx hb dX4_foresee_134 rfl (lv_at hl 1 rfl) ?_
        refine lv_aload_n hx hb dX4_foresee_135 rfl (lv_at hl 2 rfl) ?_
        refine ag_getX1 (v := .int (f 1)) hx hb hG hown hK hP 1 1 rfl (by decide) k_33 rfl dX4_foresee_136 ?_
        refine lv_ineg hx hb dX4_foresee_139 ?_
        refine lv_ldc (v := 80000) hx hb hown (hG _ k_354) dX4_foresee_140 ?_
        refine lv_aload_n hx hb dX4_foresee_142 rfl (lv_at hl 2 rfl) ?_
        refine ag_getX1 (v := .int (f 1)) hx hb hG hown hK hP 1 1 rfl (by decide) k_33 rfl dX4_foresee_143 ?_
        refine lv_isub hx hb dX4_foresee_146 ?_
        refine lv_iload hx hb dX4_foresee_147 (lv_at hl 0 rfl) ?_
        refine va_mmin hx hb (hml.trans hl.1.symm) hown (hG _ k_355) (hG _ k_356) (hG _ k_14) (hG _ k_357) (Nat.le_of_ble_eq_true rfl) (Nat.le_of_ble_eq_true rfl) (Nat.zero_le _) (Nat.zero_le _) dX4_foresee_149 ?_
        refine W.eq (g2 := F0 m 152 ls [.int (ag_min (80000 - (f 1)) ((x29_1 + x53_2) + x80_3)), .int (-(f 1)), .ref t1]) rfl ?_
        refine va_mmax hx hb (hml.trans hl.1.symm) hown (hG _ k_358) (hG _ k_237) (hG _ k_14) (hG _ k_238) (Nat.le_of_ble_eq_true rfl) (Nat.le_of_ble_eq_true rfl) (Nat.zero_le _) (Nat.zero_le _) dX4_foresee_152 ?_
        refine W.eq (g2 := F0 m 155 ls [.int (ag_max (-(f 1)) (ag_min (80000 - (f 1)) ((x29_1 + x53_2) + x80_3))), .ref t1]) rfl ?_
        refine ag_topn (v := xv155_6_X4_foresee f se p1) (by rw [← ex29_1, ← ex53_2, ← ex80_3]; rfl) (fun x155_6 ex155_6 => ?_)
        refine ag_putX4 hx hb hG hown hK hP hD hS 0 3 rfl (by decide) k_92 (by decide) rfl rfl (Nat.le_of_ble_eq_true rfl) dX4_foresee_155 (fun H locs hP hD hS => ?_)
        have hP : va_P D vwCl [oK t1 (upd (upd (upd (upd (upd (upd kf 0 x29_1) 1 x53_2) 2 x80_3) 4 x96_4) 5 x115_5) 3 x155_6), oL h h1 h2 h3 f, aI cI h1 3 se, aI cI h2 7 to, aI cI h3 60 re] H := hP
        have hD : va_D A [oK t1 (upd (upd (upd (upd (upd (upd kf 0 x29_1) 1 x53_2) 2 x80_3) 4 x96_4) 5 x115_5) 3 x155_6), oL h h1 h2 h3 f, aI cI h1 3 se, aI cI h2 7 to, aI cI h3 60 re] := hD
        refine lv_aload_n hx hb dX4_foresee_158 rfl (lv_at hl 1 rfl) ?_
        refine lv_aload_n hx hb dX4_foresee_159 rfl (lv_at hl 1 rfl) ?_
        refine lv_aload_n hx hb dX4_foresee_160 rfl (lv_at hl 2 rfl) ?_
        refine ag_callVi (As := [.ref h]) (rest := [.ref t1]) hx hb hml hown hG hK hN hA hP hD hS hl (ct_X4_siltOf l D cI cC cL t1 h h1 h2 h3 (upd (upd (upd (upd (upd (upd kf 0 x29_1) 1 x53_2) 2 x80_3) 4 x96_4) 5 x115_5) 3 x155_6) f se to re) fX4_siltOf k_359 ag_cut_all (q0 := 0) rfl rfl rfl rfl (Nat.le_of_ble_eq_true rfl) ⟨Nat.le_of_ble_eq_true rfl, Nat.le_of_ble_eq_true rfl⟩ ⟨Nat.zero_le _, Nat.zero_le _⟩ dX4_foresee_161 (fun r w1 H locs hw hP hD hS => ?_)
        obtain ⟨rfl, hw⟩ := hw
        subst hw
        have hP : va_P D vwCl [oK t1 (upd (upd (upd (upd (upd (upd kf 0 x29_1) 1 x53_2) 2 x80_3) 4 x96_4) 5 x115_5) 3 x155_6), oL h h1 h2 h3 f, aI cI h1 3 se, aI cI h2 7 to, aI cI h3 60 re] H := hP
        have hD : va_D A [oK t1 (upd (upd (upd (upd (upd (upd kf 0 x29_1) 1 x53_2) 2 x80_3) 4 x96_4) 5 x115_5) 3 x155_6), oL h h1 h2 h3 f, aI cI h1 3 se, aI cI h2 7 to, aI cI h3 60 re] := hD
        refine ag_topn (v := xv164_7_X4_foresee kf f se p1) (by rw [← ex29_1, ← ex53_2, ← ex80_3, ← ex96_4, ← ex115_5, ← ex155_6]; rfl) (fun x164_7 ex164_7 => ?_)
        refine ag_putX4 hx hb hG hown hK hP hD hS 0 6 rfl (by decide) k_101 (by decide) rfl rfl (Nat.le_of_ble_eq_true rfl) dX4_foresee_164 (fun H locs hP hD hS => ?_)
        have hP : va_P D vwCl [oK t1 (upd (upd (upd (upd (upd (upd (upd kf 0 x29_1) 1 x53_2) 2 x80_3) 4 x96_4) 5 x115_5) 3 x155_6) 6 x164_7), oL h h1 h2 h3 f, aI cI h1 3 se, aI cI h2 7 to, aI cI h3 60 re] H := hP
        have hD : va_D A [oK t1 (upd (upd (upd (upd (upd (upd (upd kf 0 x29_1) 1 x53_2) 2 x80_3) 4 x96_4) 5 x115_5) 3 x155_6) 6 x164_7), oL h h1 h2 h3 f, aI cI h1 3 se, aI cI h2 7 to, aI cI h3 60 re] := hD
        revert hP; revert hD; revert hS; revert hl
        subst ex164_7
        subst ex155_6
        subst ex115_5
        subst ex96_4
        subst ex80_3
        subst ex53_2
        subst ex29_1
        intro hl hS hD hP
        exact ag_vret [t1, h, h1, h2, h3] hx hb hr hlocks hP hS rfl rfl (by show _ = _; rw [show sw0_X4_foresee kf f se p1 = upd (upd (upd (upd (upd (upd (upd kf 0 (xv29_1_X4_foresee f p1)) 1 (xv53_2_X4_foresee f se p1)) 2 (xv80_3_X4_foresee f se p1)) 4 (xv96_4_X4_foresee f se p1)) 5 (xv115_5_X4_foresee f se p1)) 3 (xv155_6_X4_foresee f se p1)) 6 (xv164_7_X4_foresee kf f se p1) from rfl]) dX4_foresee_167
      refine lv_if_ne (tgt := 79) hx hb dX4_foresee_59 (by decide) (fun c_59 => ?_) (fun c_59 => ?_)
      · refine lv_iconst (v := 0) hx hb dX4_foresee_79 (by decide) ?_
        revert hP; revert hD; revert hS; revert hl
        subst ex53_2
        subst ex29_1
        intro hl hS hD hP
        simp only [j80_0_X4_foresee, if_neg c_59] at J80
        exact J80 _ (lv_sub hl [0, 1, 2, 3, 4] rfl)
      · refine lv_iload_n hx hb dX4_foresee_62 rfl (lv_at hl 3 rfl) ?_
        refine lv_aload_n hx hb dX4_foresee_63 rfl (lv_at hl 1 rfl) ?_
        refine ag_getX1 (v := .ref h1) hx hb hG hown hK hP 1 8 rfl (by decide) k_50 rfl dX4_foresee_64 ?_
        refine lv_iconst (v := 1) hx hb dX4_foresee_67 (by decide) ?_
        refine ag_ild (k := 1) (v := se 1) hx hb hK hP 2 rfl rfl (Nat.le_of_ble_eq_true rfl) (Nat.le_of_ble_eq_true rfl) rfl dX4_foresee_68 ?_
        refine lv_icmp_gt (tgt := 79) hx hb dX4_foresee_69 (by decide) (fun c_69 => ?_) (fun c_69 => ?_)
        · refine lv_iconst (v := 0) hx hb dX4_foresee_79 (by decide) ?_
          revert hP; revert hD; revert hS; revert hl
          subst ex53_2
          subst ex29_1
          intro hl hS hD hP
          simp only [j80_0_X4_foresee, if_pos c_59, if_pos c_69] at J80
          exact J80 _ (lv_sub hl [0, 1, 2, 3, 4] rfl)
        · refine lv_aload_n hx hb dX4_foresee_72 rfl (lv_at hl 1 rfl) ?_
          refine ag_getX1 (v := .int (f 5)) hx hb hG hown hK hP 1 5 rfl (by decide) k_45 rfl dX4_foresee_73 ?_
          refine lv_goto (tgt := 80) hx hb dX4_foresee_76 (by decide) ?_
          revert hP; revert hD; revert hS; revert hl
          subst ex53_2
          subst ex29_1
          intro hl hS hD hP
          simp only [j80_0_X4_foresee, if_pos c_59, if_neg c_69] at J80
          exact J80 _ (lv_sub hl [0, 1, 2, 3, 4] rfl)
    refine lv_icmp_lt (tgt := 52) hx hb dX4_foresee_40 (by decide) (fun c_40 => ?_) (fun c_40 => ?_)
    · refine lv_iconst (v := 0) hx hb dX4_foresee_52 (by decide) ?_
      revert hP; revert hD; revert hS; revert hl
      subst ex29_1
      intro hl hS hD hP
      simp only [j53_0_X4_foresee, if_pos c_40] at J53
      exact J53 _ (lv_sub hl [0, 1, 2, 3, 4] rfl)
    · refine lv_aload_n hx hb dX4_foresee_43 rfl (lv_at hl 1 rfl) ?_
      refine ag_getX1 (v := .int (f 4)) hx hb hG hown hK hP 1 4 rfl (by decide) k_42 rfl dX4_foresee_44 ?_
      refine lv_iload_n hx hb dX4_foresee_47 rfl (lv_at hl 2 rfl) ?_
      refine lv_imul hx hb dX4_foresee_48 ?_
      refine lv_goto (tgt := 53) hx hb dX4_foresee_49 (by decide) ?_
      revert hP; revert hD; revert hS; revert hl
      subst ex29_1
      intro hl hS hD hP
      simp only [j53_0_X4_foresee, if_neg c_40] at J53
      exact J53 _ (lv_sub hl [0, 1, 2, 3, 4] rfl)
  refine lv_if_eq (tgt := 21) hx hb dX4_foresee_14 (by decide) (fun c_14 => ?_) (fun c_14 => ?_)
  · refine lv_aload_n hx hb dX4_foresee_21 rfl (lv_at hl 3 rfl) ?_
    refine ag_getX1 (v := .int (f 3)) hx hb hG hown hK hP 1 3 rfl (by decide) k_38 rfl dX4_foresee_22 ?_
    refine lv_iload_n hx hb dX4_foresee_25 rfl (lv_at hl 4 rfl) ?_
    refine lv_imul hx hb dX4_foresee_26 ?_
    refine lv_iconst (v := 2) hx hb dX4_foresee_27 (by decide) ?_
    refine lv_imul hx hb dX4_foresee_28 ?_
    simp only [j29_0_X4_foresee, if_pos c_14] at J29
    exact J29 _ (lv_sub hl [2, 3, 4, 1, 0] rfl)
  · refine lv_iconst (v := 0) hx hb dX4_foresee_17 (by decide) ?_
    refine lv_goto (tgt := 29) hx hb dX4_foresee_18 (by decide) ?_
    simp only [j29_0_X4_foresee, if_neg c_14] at J29
    exact J29 _ (lv_sub hl [2, 3, 4, 1, 0] rfl)
end
section
/-! ticks -/
abbrev ltu : Type := (Nat → Int32) × (Nat → Int32) × (Nat → Int32) × (Nat → Int32)
/-- what a tick foresees; a tick; some ticks: the numbers of the lagoon, its sums, its records, the tick -/
def lpK (se : Nat → Int32) (x : ltu) : Nat → Int32 := sw0_X4_foresee x.2.2.2 x.1 se (sr_X1_head x.1)
def lpS (se : Nat → Int32) (x : ltu) : ltu :=
  (upd (sw0_X1_take x.1 (lpK se x)) 0 (sw0_X1_take x.1 (lpK se x) 0 + 1), sw2_X1_take x.2.1 (lpK se x), sw3_X1_enterRecord (sw0_X1_take x.1 (lpK se x)) x.2.2.1 (lpK se x), lpK se x)
def lp (se : Nat → Int32) : Nat → ltu → ltu
  | 0, x => x
  | n + 1, x => lp se n (lpS se x)
theorem ag_pos {x : Int32} (h : ¬ x < 1) : x = nI x.toNatClampNeg ∧ x.toNatClampNeg < 2 ^ 31 := by
  have h0 : ¬ x < 0 := fun h2 => h (by rw [Int32.lt_iff_toInt_lt] at *; have e0 : (0 : Int32).toInt = 0 := rfl; have e1 : (1 : Int32).toInt = 1 := rfl; omega)
  obtain ⟨j, hj, rfl⟩ := nI_of h0
  rw [nI_clamp hj]
  exact ⟨rfl, hj⟩
theorem ag_nn {x : Int32} (h : ¬ x < 0) : x = nI x.toNatClampNeg ∧ x.toNatClampNeg < 2 ^ 31 := by
  obtain ⟨j, hj, rfl⟩ := nI_of h
  rw [nI_clamp hj]
  exact ⟨rfl, hj⟩
theorem ag_ixn {x : Int32} {n : Nat} (hn : n < 2 ^ 31) (h0 : ¬ x < 0) (h1 : ¬ nI n ≤ x) : x = nI x.toNatClampNeg ∧ x.toNatClampNeg < n := by
  obtain ⟨j, hj, rfl⟩ := nI_of h0
  rw [nI_clamp hj]
  exact ⟨rfl, Nat.not_le.mp (fun h => h1 ((nI_leI hn hj).mpr h))⟩

def gv13_1_X1_letPass (se : Nat → Int32) (fi : Nat → Int32) (ki : Nat → Int32) : Nat → Int32 := sw0_X4_foresee ki fi se (sr_X1_head fi)
def gv18_2_X1_letPass (se : Nat → Int32) (fi : Nat → Int32) (ki : Nat → Int32) : Nat → Int32 := sw0_X1_take fi (gv13_1_X1_letPass se fi ki)
def gv18_3_X1_letPass (se : Nat → Int32) (fi : Nat → Int32) (ti : Nat → Int32) (ki : Nat → Int32) : Nat → Int32 := sw2_X1_take ti (gv13_1_X1_letPass se fi ki)
def gv23_4_X1_letPass (se : Nat → Int32) (fi : Nat → Int32) (ri : Nat → Int32) (ki : Nat → Int32) : Nat → Int32 := sw3_X1_enterRecord (gv18_2_X1_letPass se fi ki) ri (gv13_1_X1_letPass se fi ki)
def xv33_5_X1_letPass (se : Nat → Int32) (fi : Nat → Int32) (ki : Nat → Int32) : Int32 := ((gv18_2_X1_letPass se fi ki) 0) + 1
abbrev po_X1_letPass (cI cC cL : ClassId) (h t1 h1 h2 h3 : Nat) (f se to re kf : Nat → Int32) (p1 : Int32) (N : Nat) (hp : p1 = nI N ∧ N < 2 ^ 31) : va_W → Prop := fun w' => [oL h h1 h2 h3 ((lp se N (f, to, re, kf)).1), aI cI h1 3 se, aI cI h2 7 ((lp se N (f, to, re, kf)).2.1), aI cI h3 60 ((lp se N (f, to, re, kf)).2.2.1), oK t1 ((lp se N (f, to, re, kf)).2.2.2)] = w'
set_option maxHeartbeats 4000000 in
set_option maxRecDepth 100000 in
theorem ct_X1_letPass (l : Launch) (D : va_G) (cI cC cL : ClassId) (h t1 h1 h2 h3 : Nat) (f se to re kf : Nat → Int32) (p1 : Int32) (N : Nat) (hp : p1 = nI N ∧ N < 2 ^ 31) : ag_MV l yX1_letPass cX1_letPass 4 3 65 D cI cC cL [.ref h, .int p1, .ref t1] [oL h h1 h2 h3 f, aI cI h1 3 se, aI cI h2 7 to, aI cI h3 60 re, oK t1 kf] (po_X1_letPass cI cC cL h t1 h1 h2 h3 f se to re kf p1 N hp) := by
  refine ag_MV.of (plainFor_of_name (by decide)) (Nat.le_of_ble_eq_true rfl) ?_
  intro p e s m below meth c hx hb hr hlocks hml hown hmn hG hK A hN hA H locs hP hD hS ls hl
  have hl : lv_has ls 4 [(0, .ref h), (1, .int p1), (2, .ref t1)] := hl
  refine lv_iconst (v := 0) hx hb dX1_letPass_0 (by decide) ?_
  refine lv_istore_n (lv' := [(3, .int 0), (0, .ref h), (1, .int p1), (2, .ref t1)]) hx hb dX1_letPass_1 rfl hl (by decide) rfl (fun ls hl => ?_)
  suffices L2 : ∀ (n : Nat) (i : Nat) (fi ti ri ki : Nat → Int32), (hi : i + n = N) → (hR : lp se n (fi, ti, ri, ki) = lp se N (f, to, re, kf)) → ∀ (H : Heap) (locs : List Loc) (ls : Array Slot), lv_has ls 4 [(0, .ref h), (1, .int p1), (2, .ref t1), (3, .int (nI i))] → va_P D vwCl [oL h h1 h2 h3 fi, aI cI h1 3 se, aI cI h2 7 ti, aI cI h3 60 ri, oK t1 ki] H → va_D A [oL h h1 h2 h3 fi, aI cI h1 3 se, aI cI h2 7 ti, aI cI h3 60 ri, oK t1 ki] → va_S A s.heap H locs → W p l e (ag_rm 3 65) s m ([.ref h, .int p1, .ref t1] : List Value).toArray below meth c H locs 0 0 (MQ below (va_Qv (po_X1_letPass cI cC cL h t1 h1 h2 h3 f se to re kf p1 N hp) (ag_Out D [oL h h1 h2 h3 f, aI cI h1 3 se, aI cI h2 7 to, aI cI h3 60 re, oK t1 kf]) A) ([.ref h, .int p1, .ref t1] : List Value).toArray s 0 0 A) (F0 m 2 ls []) from L2 N 0 f to re kf (by omega) rfl H locs ls (lv_sub hl [1, 2, 3, 0] rfl) hP hD hS
  intro n
  induction n with
  | zero =>
    intro i fi ti ri ki hi hR H locs ls hl hP hD hS
    refine lv_iload_n hx hb dX1_letPass_2 rfl (lv_at hl 3 rfl) ?_
    refine lv_iload_n hx hb dX1_letPass_3 rfl (lv_at hl 1 rfl) ?_
    refine lv_icmp_ge (tgt := 42) hx hb dX1_letPass_4 (by decide) (fun _ => ?_) (fun h0 => absurd (by rw [hp.1]; exact nI_le (by omega) (by omega)) h0)
    exact ag_vret [h, h1, h2, h3, t1] hx hb hr hlocks hP hS rfl rfl (by show _ = _; rw [← hR]; rfl) dX1_letPass_42
  | succ n ih =>
    intro i fi ti ri ki hi hR H locs ls hl hP hD hS
    refine lv_iload_n hx hb dX1_letPass_2 rfl (lv_at hl 3 rfl) ?_
    refine lv_iload_n hx hb dX1_letPass_3 rfl (lv_at hl 1 rfl) ?_
    refine lv_icmp_ge (tgt := 42) hx hb dX1_letPass_4 (by decide) (fun h0 => absurd h0 (by rw [hp.1]; exact nI_ge (by omega) hp.2)) (fun _ => ?_)
    refine lv_aload_n hx hb dX1_letPass_7 rfl (lv_at hl 2 rfl) ?_
    refine lv_aload_n hx hb dX1_letPass_8 rfl (lv_at hl 0 rfl) ?_
    refine lv_aload_n hx hb dX1_letPass_9 rfl (lv_at hl 0 rfl) ?_
    refine ag_callVi (As := []) (rest := [.ref h, .ref t1]) hx hb hml hown hG hK hN hA hP hD hS hl (ct_X1_head l D cI cC cL h h1 h2 h3 fi se ti ri) fX1_head k_345 (ag_cut_1 [] [oK t1 ki] rfl) (q0 := 0) rfl rfl rfl rfl (Nat.le_of_ble_eq_true rfl) ⟨Nat.le_of_ble_eq_true rfl, Nat.le_of_ble_eq_true rfl⟩ ⟨Nat.zero_le _, Nat.zero_le _⟩ dX1_letPass_10 (fun r w1 H locs hw hP hD hS => ?_)
    obtain ⟨rfl, hw⟩ := hw
    subst hw
    have hP : va_P D vwCl [oL h h1 h2 h3 fi, aI cI h1 3 se, aI cI h2 7 ti, aI cI h3 60 ri, oK t1 ki] H := hP
    have hD : va_D A [oL h h1 h2 h3 fi, aI cI h1 3 se, aI cI h2 7 ti, aI cI h3 60 ri, oK t1 ki] := hD
    refine ag_callVv (As := [.ref h, .int (sr_X1_head fi)]) (rest := []) hx hb hml hown hG hK hN hA hP hD hS hl (ct_X4_foresee l D cI cC cL t1 h h1 h2 h3 ki fi se ti ri (sr_X1_head fi)) fX4_foresee k_346 (ag_cut_2s 1 [] [oK t1 ki] [] [oL h h1 h2 h3 fi, aI cI h1 3 se, aI cI h2 7 ti, aI cI h3 60 ri] [] rfl rfl rfl) (q0 := 4) rfl rfl rfl rfl (Nat.le_of_ble_eq_true rfl) ⟨Nat.le_of_ble_eq_true rfl, Nat.le_of_ble_eq_true rfl⟩ ⟨Nat.zero_le _, Nat.zero_le _⟩ dX1_letPass_13 (fun w1 H locs hw hP hD hS => ?_)
    have hw : _ = w1 := hw
    generalize eg13_1 : sw0_X4_foresee ki fi se (sr_X1_head fi) = g13_1 at hw
    replace eg13_1 : gv13_1_X1_letPass se fi ki = g13_1 := (by rw [← eg13_1]; rfl)
    subst hw
    have hP : va_P D vwCl [oL h h1 h2 h3 fi, aI cI h1 3 se, aI cI h2 7 ti, aI cI h3 60 ri, oK t1 g13_1] H := hP
    have hD : va_D A [oL h h1 h2 h3 fi, aI cI h1 3 se, aI cI h2 7 ti, aI cI h3 60 ri, oK t1 g13_1] := hD
    refine lv_aload_n hx hb dX1_letPass_16 rfl (lv_at hl 0 rfl) ?_
    refine lv_aload_n hx hb dX1_letPass_17 rfl (lv_at hl 2 rfl) ?_
    refine ag_callVv (As := [.ref t1]) (rest := []) hx hb hml hown hG hK hN hA hP hD hS hl (ct_X1_take l D cI cC cL h t1 h1 h2 h3 fi se ti ri g13_1) fX1_take k_363 ag_cut_all (q0 := 0) rfl rfl rfl rfl (Nat.le_of_ble_eq_true rfl) ⟨Nat.le_of_ble_eq_true rfl, Nat.le_of_ble_eq_true rfl⟩ ⟨Nat.zero_le _, Nat.zero_le _⟩ dX1_letPass_18 (fun w1 H locs hw hP hD hS => ?_)
    have hw : _ = w1 := hw
    generalize eg18_2 : sw0_X1_take fi g13_1 = g18_2 at hw
    replace eg18_2 : gv18_2_X1_letPass se fi ki = g18_2 := (by rw [← eg18_2, ← eg13_1]; rfl)
    generalize eg18_3 : sw2_X1_take ti g13_1 = g18_3 at hw
    replace eg18_3 : gv18_3_X1_letPass se fi ti ki = g18_3 := (by rw [← eg18_3, ← eg13_1]; rfl)
    subst hw
    have hP : va_P D vwCl [oL h h1 h2 h3 g18_2, aI cI h1 3 se, aI cI h2 7 g18_3, aI cI h3 60 ri, oK t1 g13_1] H := hP
    have hD : va_D A [oL h h1 h2 h3 g18_2, aI cI h1 3 se, aI cI h2 7 g18_3, aI cI h3 60 ri, oK t1 g13_1] := hD
    refine lv_aload_n hx hb dX1_letPass_21 rfl (lv_at hl 0 rfl) ?_
    refine lv_aload_n hx hb dX1_letPass_22 rfl (lv_at hl 2 rfl) ?_
    refine ag_callVv (As := [.ref t1]) (rest := []) hx hb hml hown hG hK hN hA hP hD hS hl (ct_X1_enterRecord l D cI cC cL h t1 h1 h2 h3 g18_2 se g18_3 ri g13_1) fX1_enterRecord k_367 ag_cut_all (q0 := 0) rfl rfl rfl rfl (Nat.le_of_ble_eq_true rfl) ⟨Nat.le_of_ble_eq_true rfl, Nat.le_of_ble_eq_true rfl⟩ ⟨Nat.zero_le _, Nat.zero_le _⟩ dX1_letPass_23 (fun w1 H locs hw hP hD hS => ?_)
    have hw : _ = w1 := hw
    generalize eg23_4 : sw3_X1_enterRecord g18_2 ri g13_1 = g23_4 at hw
    replace eg23_4 : gv23_4_X1_letPass se fi ri ki = g23_4 := (by rw [← eg23_4, ← eg13_1, ← eg18_2]; rfl)
    subst hw
    have hP : va_P D vwCl [oL h h1 h2 h3 g18_2, aI cI h1 3 se, aI cI h2 7 g18_3, aI cI h3 60 g23_4, oK t1 g13_1] H := hP
    have hD : va_D A [oL h h1 h2 h3 g18_2, aI cI h1 3 se, aI cI h2 7 g18_3, aI cI h3 60 g23_4, oK t1 g13_1] := hD
    refine lv_aload_n hx hb dX1_letPass_26 rfl (lv_at hl 0 rfl) ?_
    refine lv_dup hx hb dX1_letPass_27 rfl ?_
    refine ag_getX1 (v := .int (g18_2 0)) hx hb hG hown hK hP 0 0 rfl (by decide) k_30 rfl dX1_letPass_28 ?_
    refine lv_iconst (v := 1) hx hb dX1_letPass_31 (by decide) ?_
    refine lv_iadd hx hb dX1_letPass_32 ?_
    refine ag_topn (v := xv33_5_X1_letPass se fi ki) (by rw [← eg18_2]; rfl) (fun x33_5 ex33_5 => ?_)
    refine ag_putX1 hx hb hG hown hK hP hD hS 0 0 rfl (by decide) k_30 (by decide) rfl rfl (Nat.le_of_ble_eq_true rfl) dX1_letPass_33 (fun H locs hP hD hS => ?_)
    have hP : va_P D vwCl [oL h h1 h2 h3 (upd g18_2 0 x33_5), aI cI h1 3 se, aI cI h2 7 g18_3, aI cI h3 60 g23_4, oK t1 g13_1] H := hP
    have hD : va_D A [oL h h1 h2 h3 (upd g18_2 0 x33_5), aI cI h1 3 se, aI cI h2 7 g18_3, aI cI h3 60 g23_4, oK t1 g13_1] := hD
    refine lv_iinc (v := nI (i + 1)) (lv' := [(3, .int (nI (i + 1))), (0, .ref h), (1, .int p1), (2, .ref t1)]) hx hb dX1_letPass_36 hl (k := 3) rfl (nI_1 i) (by decide) rfl (fun ls hl => ?_)
    refine lv_goto (tgt := 2) hx hb dX1_letPass_39 (by decide) ?_
    revert hP; revert hD; revert hS; revert hl
    subst ex33_5
    subst eg23_4
    subst eg18_3
    subst eg18_2
    subst eg13_1
    intro hl hS hD hP
    exact ih (i + 1) (upd (gv18_2_X1_letPass se fi ki) 0 (xv33_5_X1_letPass se fi ki)) (gv18_3_X1_letPass se fi ti ki) (gv23_4_X1_letPass se fi ri ki) (gv13_1_X1_letPass se fi ki) (by omega) hR H locs ls (lv_sub hl [1, 2, 3, 0] rfl) hP hD hS
def gv33_1_X1_runTicks (f : Nat → Int32) (se : Nat → Int32) (to : Nat → Int32) (re : Nat → Int32) (kf : Nat → Int32) (p1 : Int32) : Nat → Int32 := (lp se p1.toNatClampNeg (f, to, re, kf)).1
def gv33_2_X1_runTicks (f : Nat → Int32) (se : Nat → Int32) (to : Nat → Int32) (re : Nat → Int32) (kf : Nat → Int32) (p1 : Int32) : Nat → Int32 := (lp se p1.toNatClampNeg (f, to, re, kf)).2.1
def gv33_3_X1_runTicks (f : Nat → Int32) (se : Nat → Int32) (to : Nat → Int32) (re : Nat → Int32) (kf : Nat → Int32) (p1 : Int32) : Nat → Int32 := (lp se p1.toNatClampNeg (f, to, re, kf)).2.2.1
def gv33_4_X1_runTicks (f : Nat → Int32) (se : Nat → Int32) (to : Nat → Int32) (re : Nat → Int32) (kf : Nat → Int32) (p1 : Int32) : Nat → Int32 := (lp se p1.toNatClampNeg (f, to, re, kf)).2.2.2
def sr_X1_runTicks (f : Nat → Int32) (se : Nat → Int32) (to : Nat → Int32) (re : Nat → Int32) (kf : Nat → Int32) (p1 : Int32) : Int32 := if p1 < 1 then (-1000000001) else if p1 ≤ 300 then if ((f 0) + p1) ≤ 9999 then sr_X1_level (gv33_1_X1_runTicks f se to re kf p1) else (-1000000003) else (-1000000001)
def sw0_X1_runTicks (f : Nat → Int32) (se : Nat → Int32) (to : Nat → Int32) (re : Nat → Int32) (kf : Nat → Int32) (p1 : Int32) : Nat → Int32 := if p1 < 1 then f else if p1 ≤ 300 then if ((f 0) + p1) ≤ 9999 then (gv33_1_X1_runTicks f se to re kf p1) else f else f
def sw2_X1_runTicks (f : Nat → Int32) (se : Nat → Int32) (to : Nat → Int32) (re : Nat → Int32) (kf : Nat → Int32) (p1 : Int32) : Nat → Int32 := if p1 < 1 then to else if p1 ≤ 300 then if ((f 0) + p1) ≤ 9999 then (gv33_2_X1_runTicks f se to re kf p1) else to else to
def sw3_X1_runTicks (f : Nat → Int32) (se : Nat → Int32) (to : Nat → Int32) (re : Nat → Int32) (kf : Nat → Int32) (p1 : Int32) : Nat → Int32 := if p1 < 1 then re else if p1 ≤ 300 then if ((f 0) + p1) ≤ 9999 then (gv33_3_X1_runTicks f se to re kf p1) else re else re
def sw4_X1_runTicks (f : Nat → Int32) (se : Nat → Int32) (to : Nat → Int32) (re : Nat → Int32) (kf : Nat → Int32) (p1 : Int32) : Nat → Int32 := if p1 < 1 then kf else if p1 ≤ 300 then if ((f 0) + p1) ≤ 9999 then (gv33_4_X1_runTicks f se to re kf p1) else kf else kf
abbrev po_X1_runTicks (cI cC cL : ClassId) (h t1 h1 h2 h3 : Nat) (f se to re kf : Nat → Int32) (p1 : Int32) : Int32 → va_W → Prop := fun r w' => sr_X1_runTicks f se to re kf p1 = r ∧ [oL h h1 h2 h3 (sw0_X1_runTicks f se to re kf p1), aI cI h1 3 se, aI cI h2 7 (sw2_X1_runTicks f se to re kf p1), aI cI h3 60 (sw3_X1_runTicks f se to re kf p1), oK t1 (sw4_X1_runTicks f se to re kf p1)] = w'
set_option maxHeartbeats 4000000 in
set_option maxRecDepth 100000 in
theorem ct_X1_runTicks (l : Launch) (D : va_G) (cI cC cL : ClassId) (h t1 h1 h2 h3 : Nat) (f se to re kf : Nat → Int32) (p1 : Int32) : ag_MI l yX1_runTicks cX1_runTicks 3 .int 4 88 D cI cC cL [.ref h, .int p1, .ref t1] [oL h h1 h2 h3 f, aI cI h1 3 se, aI cI h2 7 to, aI cI h3 60 re, oK t1 kf] (po_X1_runTicks cI cC cL h t1 h1 h2 h3 f se to re kf p1) := by
  refine ag_MI.of (plainFor_of_name (by decide)) (Nat.le_of_ble_eq_true rfl) ?_
  intro p e s m below meth c hx hb hr hlocks hml hown hmn hG hK A hN hA H locs hP hD hS ls hl
  have hl : lv_has ls 3 [(0, .ref h), (1, .int p1), (2, .ref t1)] := hl
  refine lv_iload_n hx hb dX1_runTicks_0 rfl (lv_at hl 1 rfl) ?_
  refine lv_iconst (v := 1) hx hb dX1_runTicks_1 (by decide) ?_
  refine lv_icmp_lt (tgt := 12) hx hb dX1_runTicks_2 (by decide) (fun c_2 => ?_) (fun c_2 => ?_)
  · refine lv_ldc (v := (-1000000001)) hx hb hown (hG _ k_266) dX1_runTicks_12 ?_
    exact ag_iret [h, h1, h2, h3, t1] hx hb hr rfl hlocks hP hS rfl rfl ⟨(by unfold sr_X1_runTicks; rw [if_pos c_2]), (by show _ = _; rw [show sw0_X1_runTicks f se to re kf p1 = f from (by unfold sw0_X1_runTicks; rw [if_pos c_2]), show sw2_X1_runTicks f se to re kf p1 = to from (by unfold sw2_X1_runTicks; rw [if_pos c_2]), show sw3_X1_runTicks f se to re kf p1 = re from (by unfold sw3_X1_runTicks; rw [if_pos c_2]), show sw4_X1_runTicks f se to re kf p1 = kf from (by unfold sw4_X1_runTicks; rw [if_pos c_2])])⟩ dX1_runTicks_14
  · refine lv_iload_n hx hb dX1_runTicks_5 rfl (lv_at hl 1 rfl) ?_
    refine lv_sipush (v := 300) hx hb dX1_runTicks_6 (by decide) ?_
    refine lv_icmp_le (tgt := 15) hx hb dX1_runTicks_9 (by decide) (fun c_9 => ?_) (fun c_9 => ?_)
    · refine lv_aload_n hx hb dX1_runTicks_15 rfl (lv_at hl 0 rfl) ?_
      refine ag_getX1 (v := .int (f 0)) hx hb hG hown hK hP 0 0 rfl (by decide) k_30 rfl dX1_runTicks_16 ?_
      refine lv_iload_n hx hb dX1_runTicks_19 rfl (lv_at hl 1 rfl) ?_
      refine lv_iadd hx hb dX1_runTicks_20 ?_
      refine lv_sipush (v := 9999) hx hb dX1_runTicks_21 (by decide) ?_
      refine lv_icmp_le (tgt := 30) hx hb dX1_runTicks_24 (by decide) (fun c_24 => ?_) (fun c_24 => ?_)
      · refine lv_aload_n hx hb dX1_runTicks_30 rfl (lv_at hl 0 rfl) ?_
        refine lv_iload_n hx hb dX1_runTicks_31 rfl (lv_at hl 1 rfl) ?_
        refine lv_aload_n hx hb dX1_runTicks_32 rfl (lv_at hl 2 rfl) ?_
        refine ag_callVv (As := [.int p1, .ref t1]) (rest := []) hx hb hml hown hG hK hN hA hP hD hS hl (ct_X1_letPass l D cI cC cL h t1 h1 h2 h3 f se to re kf p1 p1.toNatClampNeg (ag_pos c_2)) fX1_letPass k_341 ag_cut_all (q0 := 0) rfl rfl rfl rfl (Nat.le_of_ble_eq_true rfl) ⟨Nat.le_of_ble_eq_true rfl, Nat.le_of_ble_eq_true rfl⟩ ⟨Nat.zero_le _, Nat.zero_le _⟩ dX1_runTicks_33 (fun w1 H locs hw hP hD hS => ?_)
        have hw : _ = w1 := hw
        generalize eg33_1 : (lp se p1.toNatClampNeg (f, to, re, kf)).1 = g33_1 at hw
        replace eg33_1 : gv33_1_X1_runTicks f se to re kf p1 = g33_1 := (by rw [← eg33_1]; rfl)
        generalize eg33_2 : (lp se p1.toNatClampNeg (f, to, re, kf)).2.1 = g33_2 at hw
        replace eg33_2 : gv33_2_X1_runTicks f se to re kf p1 = g33_2 := (by rw [← eg33_2]; rfl)
        generalize eg33_3 : (lp se p1.toNatClampNeg (f, to, re, kf)).2.2.1 = g33_3 at hw
        replace eg33_3 : gv33_3_X1_runTicks f se to re kf p1 = g33_3 := (by rw [← eg33_3]; rfl)
        generalize eg33_4 : (lp se p1.toNatClampNeg (f, to, re, kf)).2.2.2 = g33_4 at hw
        replace eg33_4 : gv33_4_X1_runTicks f se to re kf p1 = g33_4 := (by rw [← eg33_4]; rfl)
        subst hw
        have hP : va_P D vwCl [oL h h1 h2 h3 g33_1, aI cI h1 3 se, aI cI h2 7 g33_2, aI cI h3 60 g33_3, oK t1 g33_4] H := hP
        have hD : va_D A [oL h h1 h2 h3 g33_1, aI cI h1 3 se, aI cI h2 7 g33_2, aI cI h3 60 g33_3, oK t1 g33_4] := hD
        refine lv_aload_n hx hb dX1_runTicks_36 rfl (lv_at hl 0 rfl) ?_
        refine ag_callVi (As := []) (rest := []) hx hb hml hown hG hK hN hA hP hD hS hl (ct_X1_level l D cI cC cL h h1 h2 h3 g33_1 se g33_2 g33_3) fX1_level k_214 (ag_cut_1 [] [oK t1 g33_4] rfl) (q0 := 0) rfl rfl rfl rfl (Nat.le_of_ble_eq_true rfl) ⟨Nat.le_of_ble_eq_true rfl, Nat.le_of_ble_eq_true rfl⟩ ⟨Nat.zero_le _, Nat.zero_le _⟩ dX1_runTicks_37 (fun r w1 H locs hw hP hD hS => ?_)
        obtain ⟨rfl, hw⟩ := hw
        subst hw
        have hP : va_P D vwCl [oL h h1 h2 h3 g33_1, aI cI h1 3 se, aI cI h2 7 g33_2, aI cI h3 60 g33_3, oK t1 g33_4] H := hP
        have hD : va_D A [oL h h1 h2 h3 g33_1, aI cI h1 3 se, aI cI h2 7 g33_2, aI cI h3 60 g33_3, oK t1 g33_4] := hD
        revert hP; revert hD; revert hS; revert hl
        subst eg33_4
        subst eg33_3
        subst eg33_2
        subst eg33_1
        intro hl hS hD hP
        exact ag_iret [h, h1, h2, h3, t1] hx hb hr rfl hlocks hP hS rfl rfl ⟨(by unfold sr_X1_runTicks; rw [if_neg c_2, if_pos c_9, if_pos c_24]), (by show _ = _; rw [show sw0_X1_runTicks f se to re kf p1 = (gv33_1_X1_runTicks f se to re kf p1) from (by unfold sw0_X1_runTicks; rw [if_neg c_2, if_pos c_9, if_pos c_24]), show sw2_X1_runTicks f se to re kf p1 = (gv33_2_X1_runTicks f se to re kf p1) from (by unfold sw2_X1_runTicks; rw [if_neg c_2, if_pos c_9, if_pos c_24]), show sw3_X1_runTicks f se to re kf p1 = (gv33_3_X1_runTicks f se to re kf p1) from (by unfold sw3_X1_runTicks; rw [if_neg c_2, if_pos c_9, if_pos c_24]), show sw4_X1_runTicks f se to re kf p1 = (gv33_4_X1_runTicks f se to re kf p1) from (by unfold sw4_X1_runTicks; rw [if_neg c_2, if_pos c_9, if_pos c_24])])⟩ dX1_runTicks_40
      · refine lv_ldc (v := (-1000000003)) hx hb hown (hG _ k_340) dX1_runTicks_27 ?_
        exact ag_iret [h, h1, h2, h3, t1] hx hb hr rfl hlocks hP hS rfl rfl ⟨(by unfold sr_X1_runTicks; rw [if_neg c_2, if_pos c_9, if_neg c_24]), (by show _ = _; rw [show sw0_X1_runTicks f se to re kf p1 = f from (by unfold sw0_X1_runTicks; rw [if_neg c_2, if_pos c_9, if_neg c_24]), show sw2_X1_runTicks f se to re kf p1 = to from (by unfold sw2_X1_runTicks; rw [if_neg c_2, if_pos c_9, if_neg c_24]), show sw3_X1_runTicks f se to re kf p1 = re from (by unfold sw3_X1_runTicks; rw [if_neg c_2, if_pos c_9, if_neg c_24]), show sw4_X1_runTicks f se to re kf p1 = kf from (by unfold sw4_X1_runTicks; rw [if_neg c_2, if_pos c_9, if_neg c_24])])⟩ dX1_runTicks_29
    · refine lv_ldc (v := (-1000000001)) hx hb hown (hG _ k_266) dX1_runTicks_12 ?_
      exact ag_iret [h, h1, h2, h3, t1] hx hb hr rfl hlocks hP hS rfl rfl ⟨(by unfold sr_X1_runTicks; rw [if_neg c_2, if_neg c_9]), (by show _ = _; rw [show sw0_X1_runTicks f se to re kf p1 = f from (by unfold sw0_X1_runTicks; rw [if_neg c_2, if_neg c_9]), show sw2_X1_runTicks f se to re kf p1 = to from (by unfold sw2_X1_runTicks; rw [if_neg c_2, if_neg c_9]), show sw3_X1_runTicks f se to re kf p1 = re from (by unfold sw3_X1_runTicks; rw [if_neg c_2, if_neg c_9]), show sw4_X1_runTicks f se to re kf p1 = kf from (by unfold sw4_X1_runTicks; rw [if_neg c_2, if_neg c_9])])⟩ dX1_runTicks_14
end
section
/-! the history -/
def rox (x : Int32) : Nat := (sr_J9_floorMod_7cf53 x 4).toNatClampNeg
theorem rox_at (x : Int32) : sr_J9_floorMod_7cf53 x 4 = nI (rox x) ∧ rox x < 4 := by
  obtain ⟨k, h1, h2⟩ := fm_in x (d := 4) (by decide) (by decide)
  have e : (4 : Int32) = nI 4 := rfl
  unfold rox
  rw [e, h2, nI_clamp (by omega)]
  exact ⟨rfl, h1⟩
theorem rox_4 (x : Int32) : rox x = 0 ∨ rox x = 1 ∨ rox x = 2 ∨ rox x = 3 := by
  have := (rox_at x).2
  omega
def gS (a b c d : Nat) : Nat → Option Nat := fun j => if j = 0 then some a else if j = 1 then some b else if j = 2 then some c else some d

def sr_X0_rowOf (hf : Nat → Int32) (p1 : Int32) : Int32 := sr_J9_floorMod_7cf53 ((hf 0) + p1) 4
abbrev po_X0_rowOf (cI cC cL : ClassId) (x1 x2 : Nat) (hf : Nat → Int32) (p1 : Int32) : Int32 → va_W → Prop := fun r w' => sr_X0_rowOf hf p1 = r ∧ [oH x1 x2 hf] = w'
set_option maxHeartbeats 4000000 in
set_option maxRecDepth 100000 in
theorem ct_X0_rowOf (l : Launch) (D : va_G) (cI cC cL : ClassId) (x1 x2 : Nat) (hf : Nat → Int32) (p1 : Int32) : ag_MI l yX0_rowOf cX0_rowOf 2 .int 1 22 D cI cC cL [.ref x1, .int p1] [oH x1 x2 hf] (po_X0_rowOf cI cC cL x1 x2 hf p1) := by
  refine ag_MI.of (plainFor_of_name (by decide)) (Nat.le_of_ble_eq_true rfl) ?_
  intro p e s m below meth c hx hb hr hlocks hml hown hmn hG hK A hN hA H locs hP hD hS ls hl
  have hl : lv_has ls 2 [(0, .ref x1), (1, .int p1)] := hl
  refine lv_aload_n hx hb dX0_rowOf_0 rfl (lv_at hl 0 rfl) ?_
  refine ag_getX0 (v := .int (hf 0)) hx hb hG hown hK hP 0 1 rfl (by decide) k_129 rfl dX0_rowOf_1 ?_
  refine lv_iload_n hx hb dX0_rowOf_4 rfl (lv_at hl 1 rfl) ?_
  refine lv_iadd hx hb dX0_rowOf_5 ?_
  refine lv_iconst (v := 4) hx hb dX0_rowOf_6 (by decide) ?_
  refine ag_callSi (As := [.int ((hf 0) + p1), .int 4]) (rest := []) hx hb hml hown hG hK hN hA hP hD hS hl (ct_J9_floorMod_7cf53 l D cI cC cL ((hf 0) + p1) 4 (by decide)) fJ9_floorMod_7cf53 k_282 ag_cut_0 rfl (Nat.le_of_ble_eq_true rfl) ⟨Nat.le_of_ble_eq_true rfl, Nat.le_of_ble_eq_true rfl⟩ ⟨Nat.zero_le _, Nat.zero_le _⟩ dX0_rowOf_7 (fun r w1 H locs hw hP hD hS => ?_)
  obtain ⟨rfl, hw⟩ := hw
  subst hw
  have hP : va_P D vwCl [oH x1 x2 hf] H := hP
  have hD : va_D A [oH x1 x2 hf] := hD
  exact ag_iret [x1] hx hb hr rfl hlocks hP hS rfl rfl ⟨rfl, rfl⟩ dX0_rowOf_10
theorem row_at (hf : Nat → Int32) (x : Int32) : sr_X0_rowOf hf x = nI (rox (hf 0 + x)) := (rox_at (hf 0 + x)).1
section AGQ
variable {p : Program} {l : Launch} {e : Env} {R : Room} {s : State} {m : MethodId} {args : Array Value} {below : List Frame} {meth : Method} {c : Code} {H : Heap} {locs : List Loc} {cells slots : Nat} {Q : State → Prop}
variable {cc : ByteArray} {pc : Nat} {ls : Array Slot} {rest : List Value} {D : va_G} {A : Nat → Prop} {a : Nat} {cI cC cL : ClassId} {w : va_W} {H0 : Heap}
theorem ag_qld (hx : p.tables.exec = Jvm.exec) (hb : c.code = cc) (hK : va_K D vwCl (ag_T cI cC cL) s) (hP : va_P D vwCl w H) {k v : Nat} {f : Nat → Option Nat} {i : Int32} (q0 : Nat) (ha : w[q0]? = some (a, .inl (cL, 4, .inr (.inr (.inr (.inr f)))))) (hi : i = nI k) (hk : k < 4) (hv : f k = some v) (hdg : decode cc pc = .ok (.aaload, 1))
    (kk : W p l e R s m args below meth c H locs cells slots Q (F0 m (pc + 1) ls (.ref v :: rest))) : W p l e R s m args below meth c H locs cells slots Q (F0 m pc ls (.int i :: .ref a :: rest)) := by
  subst hi
  have hc : (nI k).toNatClampNeg = k := nI_clamp (by omega)
  refine va_aldq hx hb hK hP q0 2 ha rfl (vp_in_nI hk (by decide)) hdg ?_
  rw [hc, hv]
  exact kk
end AGQ

def hk_k (hf : Nat → Int32) : Nat → Int32 := if 4 ≤ hf 1 then upd hf 0 (sr_X0_rowOf hf 1) else upd hf 1 (hf 1 + 1)
def xv44_1_X0_keep (hf : Nat → Int32) : Int32 := sr_X0_rowOf hf 1
def xv32_2_X0_keep (hf : Nat → Int32) : Int32 := (hf 1) + 1
def xv44_3_X0_keep (hf : Nat → Int32) : Int32 := sr_X0_rowOf hf 1
def xv32_4_X0_keep (hf : Nat → Int32) : Int32 := (hf 1) + 1
def xv44_5_X0_keep (hf : Nat → Int32) : Int32 := sr_X0_rowOf hf 1
def xv32_6_X0_keep (hf : Nat → Int32) : Int32 := (hf 1) + 1
def xv44_7_X0_keep (hf : Nat → Int32) : Int32 := sr_X0_rowOf hf 1
def xv32_8_X0_keep (hf : Nat → Int32) : Int32 := (hf 1) + 1
abbrev po_X0_keep (cI cC cL : ClassId) (x1 o x2 s0 s01 s02 s03 s1 s11 s12 s13 s2 s21 s22 s23 s3 s31 s32 s33 o1 o2 o3 : Nat) (hf of ose oto ore : Nat → Int32) (sf : Nat → Nat → Int32) (sse : Nat → Nat → Int32) (sto : Nat → Nat → Int32) (sre : Nat → Nat → Int32) : va_W → Prop := fun w' => [oH x1 x2 (hk_k hf), aL cL x2 (gS s0 s1 s2 s3), oL s0 s01 s02 s03 (va_up sf (rox (hf 0 + hf 1)) of 0), aI cI s01 3 (va_up sse (rox (hf 0 + hf 1)) ose 0), aI cI s02 7 (va_up sto (rox (hf 0 + hf 1)) oto 0), aI cI s03 60 (va_up sre (rox (hf 0 + hf 1)) ore 0), oL s1 s11 s12 s13 (va_up sf (rox (hf 0 + hf 1)) of 1), aI cI s11 3 (va_up sse (rox (hf 0 + hf 1)) ose 1), aI cI s12 7 (va_up sto (rox (hf 0 + hf 1)) oto 1), aI cI s13 60 (va_up sre (rox (hf 0 + hf 1)) ore 1), oL s2 s21 s22 s23 (va_up sf (rox (hf 0 + hf 1)) of 2), aI cI s21 3 (va_up sse (rox (hf 0 + hf 1)) ose 2), aI cI s22 7 (va_up sto (rox (hf 0 + hf 1)) oto 2), aI cI s23 60 (va_up sre (rox (hf 0 + hf 1)) ore 2), oL s3 s31 s32 s33 (va_up sf (rox (hf 0 + hf 1)) of 3), aI cI s31 3 (va_up sse (rox (hf 0 + hf 1)) ose 3), aI cI s32 7 (va_up sto (rox (hf 0 + hf 1)) oto 3), aI cI s33 60 (va_up sre (rox (hf 0 + hf 1)) ore 3), oL o o1 o2 o3 of, aI cI o1 3 ose, aI cI o2 7 oto, aI cI o3 60 ore] = w'
set_option maxHeartbeats 4000000 in
set_option maxRecDepth 100000 in
theorem ct_X0_keep (l : Launch) (D : va_G) (cI cC cL : ClassId) (x1 o x2 s0 s01 s02 s03 s1 s11 s12 s13 s2 s21 s22 s23 s3 s31 s32 s33 o1 o2 o3 : Nat) (hf of ose oto ore : Nat → Int32) (sf : Nat → Nat → Int32) (sse : Nat → Nat → Int32) (sto : Nat → Nat → Int32) (sre : Nat → Nat → Int32) : ag_MV l yX0_keep cX0_keep 2 2 51 D cI cC cL [.ref x1, .ref o] [oH x1 x2 hf, aL cL x2 (gS s0 s1 s2 s3), oL s0 s01 s02 s03 (sf 0), aI cI s01 3 (sse 0), aI cI s02 7 (sto 0), aI cI s03 60 (sre 0), oL s1 s11 s12 s13 (sf 1), aI cI s11 3 (sse 1), aI cI s12 7 (sto 1), aI cI s13 60 (sre 1), oL s2 s21 s22 s23 (sf 2), aI cI s21 3 (sse 2), aI cI s22 7 (sto 2), aI cI s23 60 (sre 2), oL s3 s31 s32 s33 (sf 3), aI cI s31 3 (sse 3), aI cI s32 7 (sto 3), aI cI s33 60 (sre 3), oL o o1 o2 o3 of, aI cI o1 3 ose, aI cI o2 7 oto, aI cI o3 60 ore] (po_X0_keep cI cC cL x1 o x2 s0 s01 s02 s03 s1 s11 s12 s13 s2 s21 s22 s23 s3 s31 s32 s33 o1 o2 o3 hf of ose oto ore sf sse sto sre) := by
  refine ag_MV.of (plainFor_of_name (by decide)) (Nat.le_of_ble_eq_true rfl) ?_
  intro p e s m below meth c hx hb hr hlocks hml hown hmn hG hK A hN hA H locs hP hD hS ls hl
  have hl : lv_has ls 2 [(0, .ref x1), (1, .ref o)] := hl
  refine lv_aload_n hx hb dX0_keep_0 rfl (lv_at hl 0 rfl) ?_
  refine ag_getX0 (v := .ref x2) hx hb hG hown hK hP 0 0 rfl (by decide) k_128 rfl dX0_keep_1 ?_
  refine lv_aload_n hx hb dX0_keep_4 rfl (lv_at hl 0 rfl) ?_
  refine lv_aload_n hx hb dX0_keep_5 rfl (lv_at hl 0 rfl) ?_
  refine ag_getX0 (v := .int (hf 1)) hx hb hG hown hK hP 0 2 rfl (by decide) k_130 rfl dX0_keep_6 ?_
  refine ag_callVi (As := [.int (hf 1)]) (rest := [.ref x2]) hx hb hml hown hG hK hN hA hP hD hS hl (ct_X0_rowOf l D cI cC cL x1 x2 hf (hf 1)) fX0_rowOf k_278 (ag_cut_1 [] [aL cL x2 (gS s0 s1 s2 s3), oL s0 s01 s02 s03 (sf 0), aI cI s01 3 (sse 0), aI cI s02 7 (sto 0), aI cI s03 60 (sre 0), oL s1 s11 s12 s13 (sf 1), aI cI s11 3 (sse 1), aI cI s12 7 (sto 1), aI cI s13 60 (sre 1), oL s2 s21 s22 s23 (sf 2), aI cI s21 3 (sse 2), aI cI s22 7 (sto 2), aI cI s23 60 (sre 2), oL s3 s31 s32 s33 (sf 3), aI cI s31 3 (sse 3), aI cI s32 7 (sto 3), aI cI s33 60 (sre 3), oL o o1 o2 o3 of, aI cI o1 3 ose, aI cI o2 7 oto, aI cI o3 60 ore] rfl) (q0 := 0) rfl rfl rfl rfl (Nat.le_of_ble_eq_true rfl) ⟨Nat.le_of_ble_eq_true rfl, Nat.le_of_ble_eq_true rfl⟩ ⟨Nat.zero_le _, Nat.zero_le _⟩ dX0_keep_9 (fun r w1 H locs hw hP hD hS => ?_)
  obtain ⟨rfl, hw⟩ := hw
  subst hw
  have hP : va_P D vwCl [oH x1 x2 hf, aL cL x2 (gS s0 s1 s2 s3), oL s0 s01 s02 s03 (sf 0), aI cI s01 3 (sse 0), aI cI s02 7 (sto 0), aI cI s03 60 (sre 0), oL s1 s11 s12 s13 (sf 1), aI cI s11 3 (sse 1), aI cI s12 7 (sto 1), aI cI s13 60 (sre 1), oL s2 s21 s22 s23 (sf 2), aI cI s21 3 (sse 2), aI cI s22 7 (sto 2), aI cI s23 60 (sre 2), oL s3 s31 s32 s33 (sf 3), aI cI s31 3 (sse 3), aI cI s32 7 (sto 3), aI cI s33 60 (sre 3), oL o o1 o2 o3 of, aI cI o1 3 ose, aI cI o2 7 oto, aI cI o3 60 ore] H := hP
  have hD : va_D A [oH x1 x2 hf, aL cL x2 (gS s0 s1 s2 s3), oL s0 s01 s02 s03 (sf 0), aI cI s01 3 (sse 0), aI cI s02 7 (sto 0), aI cI s03 60 (sre 0), oL s1 s11 s12 s13 (sf 1), aI cI s11 3 (sse 1), aI cI s12 7 (sto 1), aI cI s13 60 (sre 1), oL s2 s21 s22 s23 (sf 2), aI cI s21 3 (sse 2), aI cI s22 7 (sto 2), aI cI s23 60 (sre 2), oL s3 s31 s32 s33 (sf 3), aI cI s31 3 (sse 3), aI cI s32 7 (sto 3), aI cI s33 60 (sre 3), oL o o1 o2 o3 of, aI cI o1 3 ose, aI cI o2 7 oto, aI cI o3 60 ore] := hD
  rcases rox_4 (hf 0 + hf 1) with hk | hk | hk | hk
  · refine ag_qld (k := 0) (v := s0) hx hb hK hP 1 rfl ((row_at hf (hf 1)).trans (by rw [hk])) (by decide) rfl dX0_keep_12 ?_
    refine lv_aload_n hx hb dX0_keep_13 rfl (lv_at hl 1 rfl) ?_
    refine ag_callVv (As := [.ref o]) (rest := []) hx hb hml hown hG hK hN hA hP hD hS hl (ct_X1_copyFrom l D cI cC cL s0 o s01 s02 s03 o1 o2 o3 (sf 0) (sse 0) (sto 0) (sre 0) of ose oto ore) fX1_copyFrom k_285 (ag_cut_2 4 [oH x1 x2 hf, aL cL x2 (gS s0 s1 s2 s3)] [oL s0 s01 s02 s03 (sf 0), aI cI s01 3 (sse 0), aI cI s02 7 (sto 0), aI cI s03 60 (sre 0)] [oL s1 s11 s12 s13 (sf 1), aI cI s11 3 (sse 1), aI cI s12 7 (sto 1), aI cI s13 60 (sre 1), oL s2 s21 s22 s23 (sf 2), aI cI s21 3 (sse 2), aI cI s22 7 (sto 2), aI cI s23 60 (sre 2), oL s3 s31 s32 s33 (sf 3), aI cI s31 3 (sse 3), aI cI s32 7 (sto 3), aI cI s33 60 (sre 3)] [oL o o1 o2 o3 of, aI cI o1 3 ose, aI cI o2 7 oto, aI cI o3 60 ore] [] rfl rfl rfl) (q0 := 2) rfl rfl rfl rfl (Nat.le_of_ble_eq_true rfl) ⟨Nat.le_of_ble_eq_true rfl, Nat.le_of_ble_eq_true rfl⟩ ⟨Nat.zero_le _, Nat.zero_le _⟩ dX0_keep_14 (fun w1 H locs hw hP hD hS => ?_)
    have hw : _ = w1 := hw
    subst hw
    have hP : va_P D vwCl [oH x1 x2 hf, aL cL x2 (gS s0 s1 s2 s3), oL s0 s01 s02 s03 of, aI cI s01 3 ose, aI cI s02 7 oto, aI cI s03 60 ore, oL s1 s11 s12 s13 (sf 1), aI cI s11 3 (sse 1), aI cI s12 7 (sto 1), aI cI s13 60 (sre 1), oL s2 s21 s22 s23 (sf 2), aI cI s21 3 (sse 2), aI cI s22 7 (sto 2), aI cI s23 60 (sre 2), oL s3 s31 s32 s33 (sf 3), aI cI s31 3 (sse 3), aI cI s32 7 (sto 3), aI cI s33 60 (sre 3), oL o o1 o2 o3 of, aI cI o1 3 ose, aI cI o2 7 oto, aI cI o3 60 ore] H := hP
    have hD : va_D A [oH x1 x2 hf, aL cL x2 (gS s0 s1 s2 s3), oL s0 s01 s02 s03 of, aI cI s01 3 ose, aI cI s02 7 oto, aI cI s03 60 ore, oL s1 s11 s12 s13 (sf 1), aI cI s11 3 (sse 1), aI cI s12 7 (sto 1), aI cI s13 60 (sre 1), oL s2 s21 s22 s23 (sf 2), aI cI s21 3 (sse 2), aI cI s22 7 (sto 2), aI cI s23 60 (sre 2), oL s3 s31 s32 s33 (sf 3), aI cI s31 3 (sse 3), aI cI s32 7 (sto 3), aI cI s33 60 (sre 3), oL o o1 o2 o3 of, aI cI o1 3 ose, aI cI o2 7 oto, aI cI o3 60 ore] := hD
    refine lv_aload_n hx hb dX0_keep_17 rfl (lv_at hl 0 rfl) ?_
    refine ag_getX0 (v := .int (hf 1)) hx hb hG hown hK hP 0 2 rfl (by decide) k_130 rfl dX0_keep_18 ?_
    refine lv_iconst (v := 4) hx hb dX0_keep_21 (by decide) ?_
    refine lv_icmp_ge (tgt := 38) hx hb dX0_keep_22 (by decide) (fun c_22 => ?_) (fun c_22 => ?_)
    · refine lv_aload_n hx hb dX0_keep_38 rfl (lv_at hl 0 rfl) ?_
      refine lv_aload_n hx hb dX0_keep_39 rfl (lv_at hl 0 rfl) ?_
      refine lv_iconst (v := 1) hx hb dX0_keep_40 (by decide) ?_
      refine ag_callVi (As := [.int 1]) (rest := [.ref x1]) hx hb hml hown hG hK hN hA hP hD hS hl (ct_X0_rowOf l D cI cC cL x1 x2 hf 1) fX0_rowOf k_278 (ag_cut_1 [] [aL cL x2 (gS s0 s1 s2 s3), oL s0 s01 s02 s03 of, aI cI s01 3 ose, aI cI s02 7 oto, aI cI s03 60 ore, oL s1 s11 s12 s13 (sf 1), aI cI s11 3 (sse 1), aI cI s12 7 (sto 1), aI cI s13 60 (sre 1), oL s2 s21 s22 s23 (sf 2), aI cI s21 3 (sse 2), aI cI s22 7 (sto 2), aI cI s23 60 (sre 2), oL s3 s31 s32 s33 (sf 3), aI cI s31 3 (sse 3), aI cI s32 7 (sto 3), aI cI s33 60 (sre 3), oL o o1 o2 o3 of, aI cI o1 3 ose, aI cI o2 7 oto, aI cI o3 60 ore] rfl) (q0 := 0) rfl rfl rfl rfl (Nat.le_of_ble_eq_true rfl) ⟨Nat.le_of_ble_eq_true rfl, Nat.le_of_ble_eq_true rfl⟩ ⟨Nat.zero_le _, Nat.zero_le _⟩ dX0_keep_41 (fun r w1 H locs hw hP hD hS => ?_)
      obtain ⟨rfl, hw⟩ := hw
      subst hw
      have hP : va_P D vwCl [oH x1 x2 hf, aL cL x2 (gS s0 s1 s2 s3), oL s0 s01 s02 s03 of, aI cI s01 3 ose, aI cI s02 7 oto, aI cI s03 60 ore, oL s1 s11 s12 s13 (sf 1), aI cI s11 3 (sse 1), aI cI s12 7 (sto 1), aI cI s13 60 (sre 1), oL s2 s21 s22 s23 (sf 2), aI cI s21 3 (sse 2), aI cI s22 7 (sto 2), aI cI s23 60 (sre 2), oL s3 s31 s32 s33 (sf 3), aI cI s31 3 (sse 3), aI cI s32 7 (sto 3), aI cI s33 60 (sre 3), oL o o1 o2 o3 of, aI cI o1 3 ose, aI cI o2 7 oto, aI cI o3 60 ore] H := hP
      have hD : va_D A [oH x1 x2 hf, aL cL x2 (gS s0 s1 s2 s3), oL s0 s01 s02 s03 of, aI cI s01 3 ose, aI cI s02 7 oto, aI cI s03 60 ore, oL s1 s11 s12 s13 (sf 1), aI cI s11 3 (sse 1), aI cI s12 7 (sto 1), aI cI s13 60 (sre 1), oL s2 s21 s22 s23 (sf 2), aI cI s21 3 (sse 2), aI cI s22 7 (sto 2), aI cI s23 60 (sre 2), oL s3 s31 s32 s33 (sf 3), aI cI s31 3 (sse 3), aI cI s32 7 (sto 3), aI cI s33 60 (sre 3), oL o o1 o2 o3 of, aI cI o1 3 ose, aI cI o2 7 oto, aI cI o3 60 ore] := hD
      refine ag_topn (v := xv44_1_X0_keep hf) rfl (fun x44_1 ex44_1 => ?_)
      refine ag_putX0 hx hb hG hown hK hP hD hS 0 1 rfl (by decide) k_129 (by decide) rfl rfl (Nat.le_of_ble_eq_true rfl) dX0_keep_44 (fun H locs hP hD hS => ?_)
      have hP : va_P D vwCl [oH x1 x2 (upd hf 0 x44_1), aL cL x2 (gS s0 s1 s2 s3), oL s0 s01 s02 s03 of, aI cI s01 3 ose, aI cI s02 7 oto, aI cI s03 60 ore, oL s1 s11 s12 s13 (sf 1), aI cI s11 3 (sse 1), aI cI s12 7 (sto 1), aI cI s13 60 (sre 1), oL s2 s21 s22 s23 (sf 2), aI cI s21 3 (sse 2), aI cI s22 7 (sto 2), aI cI s23 60 (sre 2), oL s3 s31 s32 s33 (sf 3), aI cI s31 3 (sse 3), aI cI s32 7 (sto 3), aI cI s33 60 (sre 3), oL o o1 o2 o3 of, aI cI o1 3 ose, aI cI o2 7 oto, aI cI o3 60 ore] H := hP
      have hD : va_D A [oH x1 x2 (upd hf 0 x44_1), aL cL x2 (gS s0 s1 s2 s3), oL s0 s01 s02 s03 of, aI cI s01 3 ose, aI cI s02 7 oto, aI cI s03 60 ore, oL s1 s11 s12 s13 (sf 1), aI cI s11 3 (sse 1), aI cI s12 7 (sto 1), aI cI s13 60 (sre 1), oL s2 s21 s22 s23 (sf 2), aI cI s21 3 (sse 2), aI cI s22 7 (sto 2), aI cI s23 60 (sre 2), oL s3 s31 s32 s33 (sf 3), aI cI s31 3 (sse 3), aI cI s32 7 (sto 3), aI cI s33 60 (sre 3), oL o o1 o2 o3 of, aI cI o1 3 ose, aI cI o2 7 oto, aI cI o3 60 ore] := hD
      revert hP; revert hD; revert hS; revert hl
      subst ex44_1
      intro hl hS hD hP
      exact ag_vret [x1, x2, s0, s01, s02, s03, s1, s11, s12, s13, s2, s21, s22, s23, s3, s31, s32, s33, o, o1, o2, o3] hx hb hr hlocks hP hS rfl rfl (by show _ = _; unfold hk_k; rw [show rox (hf 0 + hf 1) = 0 from hk, if_pos c_22]; rfl) dX0_keep_47
    · refine lv_aload_n hx hb dX0_keep_25 rfl (lv_at hl 0 rfl) ?_
      refine lv_dup hx hb dX0_keep_26 rfl ?_
      refine ag_getX0 (v := .int (hf 1)) hx hb hG hown hK hP 0 2 rfl (by decide) k_130 rfl dX0_keep_27 ?_
      refine lv_iconst (v := 1) hx hb dX0_keep_30 (by decide) ?_
      refine lv_iadd hx hb dX0_keep_31 ?_
      refine ag_topn (v := xv32_2_X0_keep hf) rfl (fun x32_2 ex32_2 => ?_)
      refine ag_putX0 hx hb hG hown hK hP hD hS 0 2 rfl (by decide) k_130 (by decide) rfl rfl (Nat.le_of_ble_eq_true rfl) dX0_keep_32 (fun H locs hP hD hS => ?_)
      have hP : va_P D vwCl [oH x1 x2 (upd hf 1 x32_2), aL cL x2 (gS s0 s1 s2 s3), oL s0 s01 s02 s03 of, aI cI s01 3 ose, aI cI s02 7 oto, aI cI s03 60 ore, oL s1 s11 s12 s13 (sf 1), aI cI s11 3 (sse 1), aI cI s12 7 (sto 1), aI cI s13 60 (sre 1), oL s2 s21 s22 s23 (sf 2), aI cI s21 3 (sse 2), aI cI s22 7 (sto 2), aI cI s23 60 (sre 2), oL s3 s31 s32 s33 (sf 3), aI cI s31 3 (sse 3), aI cI s32 7 (sto 3), aI cI s33 60 (sre 3), oL o o1 o2 o3 of, aI cI o1 3 ose, aI cI o2 7 oto, aI cI o3 60 ore] H := hP
      have hD : va_D A [oH x1 x2 (upd hf 1 x32_2), aL cL x2 (gS s0 s1 s2 s3), oL s0 s01 s02 s03 of, aI cI s01 3 ose, aI cI s02 7 oto, aI cI s03 60 ore, oL s1 s11 s12 s13 (sf 1), aI cI s11 3 (sse 1), aI cI s12 7 (sto 1), aI cI s13 60 (sre 1), oL s2 s21 s22 s23 (sf 2), aI cI s21 3 (sse 2), aI cI s22 7 (sto 2), aI cI s23 60 (sre 2), oL s3 s31 s32 s33 (sf 3), aI cI s31 3 (sse 3), aI cI s32 7 (sto 3), aI cI s33 60 (sre 3), oL o o1 o2 o3 of, aI cI o1 3 ose, aI cI o2 7 oto, aI cI o3 60 ore] := hD
      refine lv_goto (tgt := 47) hx hb dX0_keep_35 (by decide) ?_
      revert hP; revert hD; revert hS; revert hl
      subst ex32_2
      intro hl hS hD hP
      exact ag_vret [x1, x2, s0, s01, s02, s03, s1, s11, s12, s13, s2, s21, s22, s23, s3, s31, s32, s33, o, o1, o2, o3] hx hb hr hlocks hP hS rfl rfl (by show _ = _; unfold hk_k; rw [show rox (hf 0 + hf 1) = 0 from hk, if_neg c_22]; rfl) dX0_keep_47
  · refine ag_qld (k := 1) (v := s1) hx hb hK hP 1 rfl ((row_at hf (hf 1)).trans (by rw [hk])) (by decide) rfl dX0_keep_12 ?_
    refine lv_aload_n hx hb dX0_keep_13 rfl (lv_at hl 1 rfl) ?_
    refine ag_callVv (As := [.ref o]) (rest := []) hx hb hml hown hG hK hN hA hP hD hS hl (ct_X1_copyFrom l D cI cC cL s1 o s11 s12 s13 o1 o2 o3 (sf 1) (sse 1) (sto 1) (sre 1) of ose oto ore) fX1_copyFrom k_285 (ag_cut_2 4 [oH x1 x2 hf, aL cL x2 (gS s0 s1 s2 s3), oL s0 s01 s02 s03 (sf 0), aI cI s01 3 (sse 0), aI cI s02 7 (sto 0), aI cI s03 60 (sre 0)] [oL s1 s11 s12 s13 (sf 1), aI cI s11 3 (sse 1), aI cI s12 7 (sto 1), aI cI s13 60 (sre 1)] [oL s2 s21 s22 s23 (sf 2), aI cI s21 3 (sse 2), aI cI s22 7 (sto 2), aI cI s23 60 (sre 2), oL s3 s31 s32 s33 (sf 3), aI cI s31 3 (sse 3), aI cI s32 7 (sto 3), aI cI s33 60 (sre 3)] [oL o o1 o2 o3 of, aI cI o1 3 ose, aI cI o2 7 oto, aI cI o3 60 ore] [] rfl rfl rfl) (q0 := 6) rfl rfl rfl rfl (Nat.le_of_ble_eq_true rfl) ⟨Nat.le_of_ble_eq_true rfl, Nat.le_of_ble_eq_true rfl⟩ ⟨Nat.zero_le _, Nat.zero_le _⟩ dX0_keep_14 (fun w1 H locs hw hP hD hS => ?_)
    have hw : _ = w1 := hw
    subst hw
    have hP : va_P D vwCl [oH x1 x2 hf, aL cL x2 (gS s0 s1 s2 s3), oL s0 s01 s02 s03 (sf 0), aI cI s01 3 (sse 0), aI cI s02 7 (sto 0), aI cI s03 60 (sre 0), oL s1 s11 s12 s13 of, aI cI s11 3 ose, aI cI s12 7 oto, aI cI s13 60 ore, oL s2 s21 s22 s23 (sf 2), aI cI s21 3 (sse 2), aI cI s22 7 (sto 2), aI cI s23 60 (sre 2), oL s3 s31 s32 s33 (sf 3), aI cI s31 3 (sse 3), aI cI s32 7 (sto 3), aI cI s33 60 (sre 3), oL o o1 o2 o3 of, aI cI o1 3 ose, aI cI o2 7 oto, aI cI o3 60 ore] H := hP
    have hD : va_D A [oH x1 x2 hf, aL cL x2 (gS s0 s1 s2 s3), oL s0 s01 s02 s03 (sf 0), aI cI s01 3 (sse 0), aI cI s02 7 (sto 0), aI cI s03 60 (sre 0), oL s1 s11 s12 s13 of, aI cI s11 3 ose, aI cI s12 7 oto, aI cI s13 60 ore, oL s2 s21 s22 s23 (sf 2), aI cI s21 3 (sse 2), aI cI s22 7 (sto 2), aI cI s23 60 (sre 2), oL s3 s31 s32 s33 (sf 3), aI cI s31 3 (sse 3), aI cI s32 7 (sto 3), aI cI s33 60 (sre 3), oL o o1 o2 o3 of, aI cI o1 3 ose, aI cI o2 7 oto, aI cI o3 60 ore] := hD
    refine lv_aload_n hx hb dX0_keep_17 rfl (lv_at hl 0 rfl) ?_
    refine ag_getX0 (v := .int (hf 1)) hx hb hG hown hK hP 0 2 rfl (by decide) k_130 rfl dX0_keep_18 ?_
    refine lv_iconst (v := 4) hx hb dX0_keep_21 (by decide) ?_
    refine lv_icmp_ge (tgt := 38) hx hb dX0_keep_22 (by decide) (fun c_22 => ?_) (fun c_22 => ?_)
    · refine lv_aload_n hx hb dX0_keep_38 rfl (lv_at hl 0 rfl) ?_
      refine lv_aload_n hx hb dX0_keep_39 rfl (lv_at hl 0 rfl) ?_
      refine lv_iconst (v := 1) hx hb dX0_keep_40 (by decide) ?_
      refine ag_callVi (As := [.int 1]) (rest := [.ref x1]) hx hb hml hown hG hK hN hA hP hD hS hl (ct_X0_rowOf l D cI cC cL x1 x2 hf 1) fX0_rowOf k_278 (ag_cut_1 [] [aL cL x2 (gS s0 s1 s2 s3), oL s0 s01 s02 s03 (sf 0), aI cI s01 3 (sse 0), aI cI s02 7 (sto 0), aI cI s03 60 (sre 0), oL s1 s11 s12 s13 of, aI cI s11 3 ose, aI cI s12 7 oto, aI cI s13 60 ore, oL s2 s21 s22 s23 (sf 2), aI cI s21 3 (sse 2), aI cI s22 7 (sto 2), aI cI s23 60 (sre 2), oL s3 s31 s32 s33 (sf 3), aI cI s31 3 (sse 3), aI cI s32 7 (sto 3), aI cI s33 60 (sre 3), oL o o1 o2 o3 of, aI cI o1 3 ose, aI cI o2 7 oto, aI cI o3 60 ore] rfl) (q0 := 0) rfl rfl rfl rfl (Nat.le_of_ble_eq_true rfl) ⟨Nat.le_of_ble_eq_true rfl, Nat.le_of_ble_eq_true rfl⟩ ⟨Nat.zero_le _, Nat.zero_le _⟩ dX0_keep_41 (fun r w1 H locs hw hP hD hS => ?_)
      obtain ⟨rfl, hw⟩ := hw
      subst hw
      have hP : va_P D vwCl [oH x1 x2 hf, aL cL x2 (gS s0 s1 s2 s3), oL s0 s01 s02 s03 (sf 0), aI cI s01 3 (sse 0), aI cI s02 7 (sto 0), aI cI s03 60 (sre 0), oL s1 s11 s12 s13 of, aI cI s11 3 ose, aI cI s12 7 oto, aI cI s13 60 ore, oL s2 s21 s22 s23 (sf 2), aI cI s21 3 (sse 2), aI cI s22 7 (sto 2), aI cI s23 60 (sre 2), oL s3 s31 s32 s33 (sf 3), aI cI s31 3 (sse 3), aI cI s32 7 (sto 3), aI cI s33 60 (sre 3), oL o o1 o2 o3 of, aI cI o1 3 ose, aI cI o2 7 oto, aI cI o3 60 ore] H := hP
      have hD : va_D A [oH x1 x2 hf, aL cL x2 (gS s0 s1 s2 s3), oL s0 s01 s02 s03 (sf 0), aI cI s01 3 (sse 0), aI cI s02 7 (sto 0), aI cI s03 60 (sre 0), oL s1 s11 s12 s13 of, aI cI s11 3 ose, aI cI s12 7 oto, aI cI s13 60 ore, oL s2 s21 s22 s23 (sf 2), aI cI s21 3 (sse 2), aI cI s22 7 (sto 2), aI cI s23 60 (sre 2), oL s3 s31 s32 s33 (sf 3), aI cI s31 3 (sse 3), aI cI s32 7 (sto 3), aI cI s33 60 (sre 3), oL o o1 o2 o3 of, aI cI o1 3 ose, aI cI o2 7 oto, aI cI o3 60 ore] := hD
      refine ag_topn (v := xv44_3_X0_keep hf) rfl (fun x44_3 ex44_3 => ?_)
      refine ag_putX0 hx hb hG hown hK hP hD hS 0 1 rfl (by decide) k_129 (by decide) rfl rfl (Nat.le_of_ble_eq_true rfl) dX0_keep_44 (fun H locs hP hD hS => ?_)
      have hP : va_P D vwCl [oH x1 x2 (upd hf 0 x44_3), aL cL x2 (gS s0 s1 s2 s3), oL s0 s01 s02 s03 (sf 0), aI cI s01 3 (sse 0), aI cI s02 7 (sto 0), aI cI s03 60 (sre 0), oL s1 s11 s12 s13 of, aI cI s11 3 ose, aI cI s12 7 oto, aI cI s13 60 ore, oL s2 s21 s22 s23 (sf 2), aI cI s21 3 (sse 2), aI cI s22 7 (sto 2), aI cI s23 60 (sre 2), oL s3 s31 s32 s33 (sf 3), aI cI s31 3 (sse 3), aI cI s32 7 (sto 3), aI cI s33 60 (sre 3), oL o o1 o2 o3 of, aI cI o1 3 ose, aI cI o2 7 oto, aI cI o3 60 ore] H := hP
      have hD : va_D A [oH x1 x2 (upd hf 0 x44_3), aL cL x2 (gS s0 s1 s2 s3), oL s0 s01 s02 s03 (sf 0), aI cI s01 3 (sse 0), aI cI s02 7 (sto 0), aI cI s03 60 (sre 0), oL s1 s11 s12 s13 of, aI cI s11 3 ose, aI cI s12 7 oto, aI cI s13 60 ore, oL s2 s21 s22 s23 (sf 2), aI cI s21 3 (sse 2), aI cI s22 7 (sto 2), aI cI s23 60 (sre 2), oL s3 s31 s32 s33 (sf 3), aI cI s31 3 (sse 3), aI cI s32 7 (sto 3), aI cI s33 60 (sre 3), oL o o1 o2 o3 of, aI cI o1 3 ose, aI cI o2 7 oto, aI cI o3 60 ore] := hD
      revert hP; revert hD; revert hS; revert hl
      subst ex44_3
      intro hl hS hD hP
      exact ag_vret [x1, x2, s0, s01, s02, s03, s1, s11, s12, s13, s2, s21, s22, s23, s3, s31, s32, s33, o, o1, o2, o3] hx hb hr hlocks hP hS rfl rfl (by show _ = _; unfold hk_k; rw [show rox (hf 0 + hf 1) = 1 from hk, if_pos c_22]; rfl) dX0_keep_47
    · refine lv_aload_n hx hb dX0_keep_25 rfl (lv_at hl 0 rfl) ?_
      refine lv_dup hx hb dX0_keep_26 rfl ?_
      refine ag_getX0 (v := .int (hf 1)) hx hb hG hown hK hP 0 2 rfl (by decide) k_130 rfl dX0_keep_27 ?_
      refine lv_iconst (v := 1) hx hb dX0_keep_30 (by decide) ?_
      refine lv_iadd hx hb dX0_keep_31 ?_
      refine ag_topn (v := xv32_4_X0_keep hf) rfl (fun x32_4 ex32_4 => ?_)
      refine ag_putX0 hx hb hG hown hK hP hD hS 0 2 rfl (by decide) k_130 (by decide) rfl rfl (Nat.le_of_ble_eq_true rfl) dX0_keep_32 (fun H locs hP hD hS => ?_)
      have hP : va_P D vwCl [oH x1 x2 (upd hf 1 x32_4), aL cL x2 (gS s0 s1 s2 s3), oL s0 s01 s02 s03 (sf 0), aI cI s01 3 (sse 0), aI cI s02 7 (sto 0), aI cI s03 60 (sre 0), oL s1 s11 s12 s13 of, aI cI s11 3 ose, aI cI s12 7 oto, aI cI s13 60 ore, oL s2 s21 s22 s23 (sf 2), aI cI s21 3 (sse 2), aI cI s22 7 (sto 2), aI cI s23 60 (sre 2), oL s3 s31 s32 s33 (sf 3), aI cI s31 3 (sse 3), aI cI s32 7 (sto 3), aI cI s33 60 (sre 3), oL o o1 o2 o3 of, aI cI o1 3 ose, aI cI o2 7 oto, aI cI o3 60 ore] H := hP
      have hD : va_D A [oH x1 x2 (upd hf 1 x32_4), aL cL x2 (gS s0 s1 s2 s3), oL s0 s01 s02 s03 (sf 0), aI cI s01 3 (sse 0), aI cI s02 7 (sto 0), aI cI s03 60 (sre 0), oL s1 s11 s12 s13 of, aI cI s11 3 ose, aI cI s12 7 oto, aI cI s13 60 ore, oL s2 s21 s22 s23 (sf 2), aI cI s21 3 (sse 2), aI cI s22 7 (sto 2), aI cI s23 60 (sre 2), oL s3 s31 s32 s33 (sf 3), aI cI s31 3 (sse 3), aI cI s32 7 (sto 3), aI cI s33 60 (sre 3), oL o o1 o2 o3 of, aI cI o1 3 ose, aI cI o2 7 oto, aI cI o3 60 ore] := hD
      refine lv_goto (tgt := 47) hx hb dX0_keep_35 (by decide) ?_
      revert hP; revert hD; revert hS; revert hl
      subst ex32_4
      intro hl hS hD hP
      exact ag_vret [x1, x2, s0, s01, s02, s03, s1, s11, s12, s13, s2, s21, s22, s23, s3, s31, s32, s33, o, o1, o2, o3] hx hb hr hlocks hP hS rfl rfl (by show _ = _; unfold hk_k; rw [show rox (hf 0 + hf 1) = 1 from hk, if_neg c_22]; rfl) dX0_keep_47
  · refine ag_qld (k := 2) (v := s2) hx hb hK hP 1 rfl ((row_at hf (hf 1)).trans (by rw [hk])) (by decide) rfl dX0_keep_12 ?_
    refine lv_aload_n hx hb dX0_keep_13 rfl (lv_at hl 1 rfl) ?_
    refine ag_callVv (As := [.ref o]) (rest := []) hx hb hml hown hG hK hN hA hP hD hS hl (ct_X1_copyFrom l D cI cC cL s2 o s21 s22 s23 o1 o2 o3 (sf 2) (sse 2) (sto 2) (sre 2) of ose oto ore) fX1_copyFrom k_285 (ag_cut_2 4 [oH x1 x2 hf, aL cL x2 (gS s0 s1 s2 s3), oL s0 s01 s02 s03 (sf 0), aI cI s01 3 (sse 0), aI cI s02 7 (sto 0), aI cI s03 60 (sre 0), oL s1 s11 s12 s13 (sf 1), aI cI s11 3 (sse 1), aI cI s12 7 (sto 1), aI cI s13 60 (sre 1)] [oL s2 s21 s22 s23 (sf 2), aI cI s21 3 (sse 2), aI cI s22 7 (sto 2), aI cI s23 60 (sre 2)] [oL s3 s31 s32 s33 (sf 3), aI cI s31 3 (sse 3), aI cI s32 7 (sto 3), aI cI s33 60 (sre 3)] [oL o o1 o2 o3 of, aI cI o1 3 ose, aI cI o2 7 oto, aI cI o3 60 ore] [] rfl rfl rfl) (q0 := 10) rfl rfl rfl rfl (Nat.le_of_ble_eq_true rfl) ⟨Nat.le_of_ble_eq_true rfl, Nat.le_of_ble_eq_true rfl⟩ ⟨Nat.zero_le _, Nat.zero_le _⟩ dX0_keep_14 (fun w1 H locs hw hP hD hS => ?_)
    have hw : _ = w1 := hw
    subst hw
    have hP : va_P D vwCl [oH x1 x2 hf, aL cL x2 (gS s0 s1 s2 s3), oL s0 s01 s02 s03 (sf 0), aI cI s01 3 (sse 0), aI cI s02 7 (sto 0), aI cI s03 60 (sre 0), oL s1 s11 s12 s13 (sf 1), aI cI s11 3 (sse 1), aI cI s12 7 (sto 1), aI cI s13 60 (sre 1), oL s2 s21 s22 s23 of, aI cI s21 3 ose, aI cI s22 7 oto, aI cI s23 60 ore, oL s3 s31 s32 s33 (sf 3), aI cI s31 3 (sse 3), aI cI s32 7 (sto 3), aI cI s33 60 (sre 3), oL o o1 o2 o3 of, aI cI o1 3 ose, aI cI o2 7 oto, aI cI o3 60 ore] H := hP
    have hD : va_D A [oH x1 x2 hf, aL cL x2 (gS s0 s1 s2 s3), oL s0 s01 s02 s03 (sf 0), aI cI s01 3 (sse 0), aI cI s02 7 (sto 0), aI cI s03 60 (sre 0), oL s1 s11 s12 s13 (sf 1), aI cI s11 3 (sse 1), aI cI s12 7 (sto 1), aI cI s13 60 (sre 1), oL s2 s21 s22 s23 of, aI cI s21 3 ose, aI cI s22 7 oto, aI cI s23 60 ore, oL s3 s31 s32 s33 (sf 3), aI cI s31 3 (sse 3), aI cI s32 7 (sto 3), aI cI s33 60 (sre 3), oL o o1 o2 o3 of, aI cI o1 3 ose, aI cI o2 7 oto, aI cI o3 60 ore] := hD
    refine lv_aload_n hx hb dX0_keep_17 rfl (lv_at hl 0 rfl) ?_
    refine ag_getX0 (v := .int (hf 1)) hx hb hG hown hK hP 0 2 rfl (by decide) k_130 rfl dX0_keep_18 ?_
    refine lv_iconst (v := 4) hx hb dX0_keep_21 (by decide) ?_
    refine lv_icmp_ge (tgt := 38) hx hb dX0_keep_22 (by decide) (fun c_22 => ?_) (fun c_22 => ?_)
    · refine lv_aload_n hx hb dX0_keep_38 rfl (lv_at hl 0 rfl) ?_
      refine lv_aload_n hx hb dX0_keep_39 rfl (lv_at hl 0 rfl) ?_
      refine lv_iconst (v := 1) hx hb dX0_keep_40 (by decide) ?_
      refine ag_callVi (As := [.int 1]) (rest := [.ref x1]) hx hb hml hown hG hK hN hA hP hD hS hl (ct_X0_rowOf l D cI cC cL x1 x2 hf 1) fX0_rowOf k_278 (ag_cut_1 [] [aL cL x2 (gS s0 s1 s2 s3), oL s0 s01 s02 s03 (sf 0), aI cI s01 3 (sse 0), aI cI s02 7 (sto 0), aI cI s03 60 (sre 0), oL s1 s11 s12 s13 (sf 1), aI cI s11 3 (sse 1), aI cI s12 7 (sto 1), aI cI s13 60 (sre 1), oL s2 s21 s22 s23 of, aI cI s21 3 ose, aI cI s22 7 oto, aI cI s23 60 ore, oL s3 s31 s32 s33 (sf 3), aI cI s31 3 (sse 3), aI cI s32 7 (sto 3), aI cI s33 60 (sre 3), oL o o1 o2 o3 of, aI cI o1 3 ose, aI cI o2 7 oto, aI cI o3 60 ore] rfl) (q0 := 0) rfl rfl rfl rfl (Nat.le_of_ble_eq_true rfl) ⟨Nat.le_of_ble_eq_true rfl, Nat.le_of_ble_eq_true rfl⟩ ⟨Nat.zero_le _, Nat.zero_le _⟩ dX0_keep_41 (fun r w1 H locs hw hP hD hS => ?_)
      obtain ⟨rfl, hw⟩ := hw
      subst hw
      have hP : va_P D vwCl [oH x1 x2 hf, aL cL x2 (gS s0 s1 s2 s3), oL s0 s01 s02 s03 (sf 0), aI cI s01 3 (sse 0), aI cI s02 7 (sto 0), aI cI s03 60 (sre 0), oL s1 s11 s12 s13 (sf 1), aI cI s11 3 (sse 1), aI cI s12 7 (sto 1), aI cI s13 60 (sre 1), oL s2 s21 s22 s23 of, aI cI s21 3 ose, aI cI s22 7 oto, aI cI s23 60 ore, oL s3 s31 s32 s33 (sf 3), aI cI s31 3 (sse 3), aI cI s32 7 (sto 3), aI cI s33 60 (sre 3), oL o o1 o2 o3 of, aI cI o1 3 ose, aI cI o2 7 oto, aI cI o3 60 ore] H := hP
      have hD : va_D A [oH x1 x2 hf, aL cL x2 (gS s0 s1 s2 s3), oL s0 s01 s02 s03 (sf 0), aI cI s01 3 (sse 0), aI cI s02 7 (sto 0), aI cI s03 60 (sre 0), oL s1 s11 s12 s13 (sf 1), aI cI s11 3 (sse 1), aI cI s12 7 (sto 1), aI cI s13 60 (sre 1), oL s2 s21 s22 s23 of, aI cI s21 3 ose, aI cI s22 7 oto, aI cI s23 60 ore, oL s3 s31 s32 s33 (sf 3), aI cI s31 3 (sse 3), aI cI s32 7 (sto 3), aI cI s33 60 (sre 3), oL o o1 o2 o3 of, aI cI o1 3 ose, aI cI o2 7 oto, aI cI o3 60 ore] := hD
      refine ag_topn (v := xv44_5_X0_keep hf) rfl (fun x44_5 ex44_5 => ?_)
      refine ag_putX0 hx hb hG hown hK hP hD hS 0 1 rfl (by decide) k_129 (by decide) rfl rfl (Nat.le_of_ble_eq_true rfl) dX0_keep_44 (fun H locs hP hD hS => ?_)
      have hP : va_P D vwCl [oH x1 x2 (upd hf 0 x44_5), aL cL x2 (gS s0 s1 s2 s3), oL s0 s01 s02 s03 (sf 0), aI cI s01 3 (sse 0), aI cI s02 7 (sto 0), aI cI s03 60 (sre 0), oL s1 s11 s12 s13 (sf 1), aI cI s11 3 (sse 1), aI cI s12 7 (sto 1), aI cI s13 60 (sre 1), oL s2 s21 s22 s23 of, aI cI s21 3 ose, aI cI s22 7 oto, aI cI s23 60 ore, oL s3 s31 s32 s33 (sf 3), aI cI s31 3 (sse 3), aI cI s32 7 (sto 3), aI cI s33 60 (sre 3), oL o o1 o2 o3 of, aI cI o1 3 ose, aI cI o2 7 oto, aI cI o3 60 ore] H := hP
      have hD : va_D A [oH x1 x2 (upd hf 0 x44_5), aL cL x2 (gS s0 s1 s2 s3), oL s0 s01 s02 s03 (sf 0), aI cI s01 3 (sse 0), aI cI s02 7 (sto 0), aI cI s03 60 (sre 0), oL s1 s11 s12 s13 (sf 1), aI cI s11 3 (sse 1), aI cI s12 7 (sto 1), aI cI s13 60 (sre 1), oL s2 s21 s22 s23 of, aI cI s21 3 ose, aI cI s22 7 oto, aI cI s23 60 ore, oL s3 s31 s32 s33 (sf 3), aI cI s31 3 (sse 3), aI cI s32 7 (sto 3), aI cI s33 60 (sre 3), oL o o1 o2 o3 of, aI cI o1 3 ose, aI cI o2 7 oto, aI cI o3 60 ore] := hD
      revert hP; revert hD; revert hS; revert hl
      subst ex44_5
      intro hl hS hD hP
      exact ag_vret [x1, x2, s0, s01, s02, s03, s1, s11, s12, s13, s2, s21, s22, s23, s3, s31, s32, s33, o, o1, o2, o3] hx hb hr hlocks hP hS rfl rfl (by show _ = _; unfold hk_k; rw [show rox (hf 0 + hf 1) = 2 from hk, if_pos c_22]; rfl) dX0_keep_47
    · refine lv_aload_n hx hb dX0_keep_25 rfl (lv_at hl 0 rfl) ?_
      refine lv_dup hx hb dX0_keep_26 rfl ?_
      refine ag_getX0 (v := .int (hf 1)) hx hb hG hown hK hP 0 2 rfl (by decide) k_130 rfl dX0_keep_27 ?_
      refine lv_iconst (v := 1) hx hb dX0_keep_30 (by decide) ?_
      refine lv_iadd hx hb dX0_keep_31 ?_
      refine ag_topn (v := xv32_6_X0_keep hf) rfl (fun x32_6 ex32_6 => ?_)
      refine ag_putX0 hx hb hG hown hK hP hD hS 0 2 rfl (by decide) k_130 (by decide) rfl rfl (Nat.le_of_ble_eq_true rfl) dX0_keep_32 (fun H locs hP hD hS => ?_)
      have hP : va_P D vwCl [oH x1 x2 (upd hf 1 x32_6), aL cL x2 (gS s0 s1 s2 s3), oL s0 s01 s02 s03 (sf 0), aI cI s01 3 (sse 0), aI cI s02 7 (sto 0), aI cI s03 60 (sre 0), oL s1 s11 s12 s13 (sf 1), aI cI s11 3 (sse 1), aI cI s12 7 (sto 1), aI cI s13 60 (sre 1), oL s2 s21 s22 s23 of, aI cI s21 3 ose, aI cI s22 7 oto, aI cI s23 60 ore, oL s3 s31 s32 s33 (sf 3), aI cI s31 3 (sse 3), aI cI s32 7 (sto 3), aI cI s33 60 (sre 3), oL o o1 o2 o3 of, aI cI o1 3 ose, aI cI o2 7 oto, aI cI o3 60 ore] H := hP
      have hD : va_D A [oH x1 x2 (upd hf 1 x32_6), aL cL x2 (gS s0 s1 s2 s3), oL s0 s01 s02 s03 (sf 0), aI cI s01 3 (sse 0), aI cI s02 7 (sto 0), aI cI s03 60 (sre 0), oL s1 s11 s12 s13 (sf 1), aI cI s11 3 (sse 1), aI cI s12 7 (sto 1), aI cI s13 60 (sre 1), oL s2 s21 s22 s23 of, aI cI s21 3 ose, aI cI s22 7 oto, aI cI s23 60 ore, oL s3 s31 s32 s33 (sf 3), aI cI s31 3 (sse 3), aI cI s32 7 (sto 3), aI cI s33 60 (sre 3), oL o o1 o2 o3 of, aI cI o1 3 ose, aI cI o2 7 oto, aI cI o3 60 ore] := hD
      refine lv_goto (tgt := 47) hx hb dX0_keep_35 (by decide) ?_
      revert hP; revert hD; revert hS; revert hl
      subst ex32_6
      intro hl hS hD hP
      exact ag_vret [x1, x2, s0, s01, s02, s03, s1, s11, s12, s13, s2, s21, s22, s23, s3, s31, s32, s33, o, o1, o2, o3] hx hb hr hlocks hP hS rfl rfl (by show _ = _; unfold hk_k; rw [show rox (hf 0 + hf 1) = 2 from hk, if_neg c_22]; rfl) dX0_keep_47
  · refine ag_qld (k := 3) (v := s3) hx hb hK hP 1 rfl ((row_at hf (hf 1)).trans (by rw [hk])) (by decide) rfl dX0_keep_12 ?_
    refine lv_aload_n hx hb dX0_keep_13 rfl (lv_at hl 1 rfl) ?_
    refine ag_callVv (As := [.ref o]) (rest := []) hx hb hml hown hG hK hN hA hP hD hS hl (ct_X1_copyFrom l D cI cC cL s3 o s31 s32 s33 o1 o2 o3 (sf 3) (sse 3) (sto 3) (sre 3) of ose oto ore) fX1_copyFrom k_285 (ag_cut_1 [oH x1 x2 hf, aL cL x2 (gS s0 s1 s2 s3), oL s0 s01 s02 s03 (sf 0), aI cI s01 3 (sse 0), aI cI s02 7 (sto 0), aI cI s03 60 (sre 0), oL s1 s11 s12 s13 (sf 1), aI cI s11 3 (sse 1), aI cI s12 7 (sto 1), aI cI s13 60 (sre 1), oL s2 s21 s22 s23 (sf 2), aI cI s21 3 (sse 2), aI cI s22 7 (sto 2), aI cI s23 60 (sre 2)] [] rfl) (q0 := 14) rfl rfl rfl rfl (Nat.le_of_ble_eq_true rfl) ⟨Nat.le_of_ble_eq_true rfl, Nat.le_of_ble_eq_true rfl⟩ ⟨Nat.zero_le _, Nat.zero_le _⟩ dX0_keep_14 (fun w1 H locs hw hP hD hS => ?_)
    have hw : _ = w1 := hw
    subst hw
    have hP : va_P D vwCl [oH x1 x2 hf, aL cL x2 (gS s0 s1 s2 s3), oL s0 s01 s02 s03 (sf 0), aI cI s01 3 (sse 0), aI cI s02 7 (sto 0), aI cI s03 60 (sre 0), oL s1 s11 s12 s13 (sf 1), aI cI s11 3 (sse 1), aI cI s12 7 (sto 1), aI cI s13 60 (sre 1), oL s2 s21 s22 s23 (sf 2), aI cI s21 3 (sse 2), aI cI s22 7 (sto 2), aI cI s23 60 (sre 2), oL s3 s31 s32 s33 of, aI cI s31 3 ose, aI cI s32 7 oto, aI cI s33 60 ore, oL o o1 o2 o3 of, aI cI o1 3 ose, aI cI o2 7 oto, aI cI o3 60 ore] H := hP
    have hD : va_D A [oH x1 x2 hf, aL cL x2 (gS s0 s1 s2 s3), oL s0 s01 s02 s03 (sf 0), aI cI s01 3 (sse 0), aI cI s02 7 (sto 0), aI cI s03 60 (sre 0), oL s1 s11 s12 s13 (sf 1), aI cI s11 3 (sse 1), aI cI s12 7 (sto 1), aI cI s13 60 (sre 1), oL s2 s21 s22 s23 (sf 2), aI cI s21 3 (sse 2), aI cI s22 7 (sto 2), aI cI s23 60 (sre 2), oL s3 s31 s32 s33 of, aI cI s31 3 ose, aI cI s32 7 oto, aI cI s33 60 ore, oL o o1 o2 o3 of, aI cI o1 3 ose, aI cI o2 7 oto, aI cI o3 60 ore] := hD
    refine lv_aload_n hx hb dX0_keep_17 rfl (lv_at hl 0 rfl) ?_
    refine ag_getX0 (v := .int (hf 1)) hx hb hG hown hK hP 0 2 rfl (by decide) k_130 rfl dX0_keep_18 ?_
    refine lv_iconst (v := 4) hx hb dX0_keep_21 (by decide) ?_
    refine lv_icmp_ge (tgt := 38) hx hb dX0_keep_22 (by decide) (fun c_22 => ?_) (fun c_22 => ?_)
    · refine lv_aload_n hx hb dX0_keep_38 rfl (lv_at hl 0 rfl) ?_
      refine lv_aload_n hx hb dX0_keep_39 rfl (lv_at hl 0 rfl) ?_
      refine lv_iconst (v := 1) hx hb dX0_keep_40 (by decide) ?_
      refine ag_callVi (As := [.int 1]) (rest := [.ref x1]) hx hb hml hown hG hK hN hA hP hD hS hl (ct_X0_rowOf l D cI cC cL x1 x2 hf 1) fX0_rowOf k_278 (ag_cut_1 [] [aL cL x2 (gS s0 s1 s2 s3), oL s0 s01 s02 s03 (sf 0), aI cI s01 3 (sse 0), aI cI s02 7 (sto 0), aI cI s03 60 (sre 0), oL s1 s11 s12 s13 (sf 1), aI cI s11 3 (sse 1), aI cI s12 7 (sto 1), aI cI s13 60 (sre 1), oL s2 s21 s22 s23 (sf 2), aI cI s21 3 (sse 2), aI cI s22 7 (sto 2), aI cI s23 60 (sre 2), oL s3 s31 s32 s33 of, aI cI s31 3 ose, aI cI s32 7 oto, aI cI s33 60 ore, oL o o1 o2 o3 of, aI cI o1 3 ose, aI cI o2 7 oto, aI cI o3 60 ore] rfl) (q0 := 0) rfl rfl rfl rfl (Nat.le_of_ble_eq_true rfl) ⟨Nat.le_of_ble_eq_true rfl, Nat.le_of_ble_eq_true rfl⟩ ⟨Nat.zero_le _, Nat.zero_le _⟩ dX0_keep_41 (fun r w1 H locs hw hP hD hS => ?_)
      obtain ⟨rfl, hw⟩ := hw
      subst hw
      have hP : va_P D vwCl [oH x1 x2 hf, aL cL x2 (gS s0 s1 s2 s3), oL s0 s01 s02 s03 (sf 0), aI cI s01 3 (sse 0), aI cI s02 7 (sto 0), aI cI s03 60 (sre 0), oL s1 s11 s12 s13 (sf 1), aI cI s11 3 (sse 1), aI cI s12 7 (sto 1), aI cI s13 60 (sre 1), oL s2 s21 s22 s23 (sf 2), aI cI s21 3 (sse 2), aI cI s22 7 (sto 2), aI cI s23 60 (sre 2), oL s3 s31 s32 s33 of, aI cI s31 3 ose, aI cI s32 7 oto, aI cI s33 60 ore, oL o o1 o2 o3 of, aI cI o1 3 ose, aI cI o2 7 oto, aI cI o3 60 ore] H := hP
      have hD : va_D A [oH x1 x2 hf, aL cL x2 (gS s0 s1 s2 s3), oL s0 s01 s02 s03 (sf 0), aI cI s01 3 (sse 0), aI cI s02 7 (sto 0), aI cI s03 60 (sre 0), oL s1 s11 s12 s13 (sf 1), aI cI s11 3 (sse 1), aI cI s12 7 (sto 1), aI cI s13 60 (sre 1), oL s2 s21 s22 s23 (sf 2), aI cI s21 3 (sse 2), aI cI s22 7 (sto 2), aI cI s23 60 (sre 2), oL s3 s31 s32 s33 of, aI cI s31 3 ose, aI cI s32 7 oto, aI cI s33 60 ore, oL o o1 o2 o3 of, aI cI o1 3 ose, aI cI o2 7 oto, aI cI o3 60 ore] := hD
      refine ag_topn (v := xv44_7_X0_keep hf) rfl (fun x44_7 ex44_7 => ?_)
      refine ag_putX0 hx hb hG hown hK hP hD hS 0 1 rfl (by decide) k_129 (by decide) rfl rfl (Nat.le_of_ble_eq_true rfl) dX0_keep_44 (fun H locs hP hD hS => ?_)
      have hP : va_P D vwCl [oH x1 x2 (upd hf 0 x44_7), aL cL x2 (gS s0 s1 s2 s3), oL s0 s01 s02 s03 (sf 0), aI cI s01 3 (sse 0), aI cI s02 7 (sto 0), aI cI s03 60 (sre 0), oL s1 s11 s12 s13 (sf 1), aI cI s11 3 (sse 1), aI cI s12 7 (sto 1), aI cI s13 60 (sre 1), oL s2 s21 s22 s23 (sf 2), aI cI s21 3 (sse 2), aI cI s22 7 (sto 2), aI cI s23 60 (sre 2), oL s3 s31 s32 s33 of, aI cI s31 3 ose, aI cI s32 7 oto, aI cI s33 60 ore, oL o o1 o2 o3 of, aI cI o1 3 ose, aI cI o2 7 oto, aI cI o3 60 ore] H := hP
      have hD : va_D A [oH x1 x2 (upd hf 0 x44_7), aL cL x2 (gS s0 s1 s2 s3), oL s0 s01 s02 s03 (sf 0), aI cI s01 3 (sse 0), aI cI s02 7 (sto 0), aI cI s03 60 (sre 0), oL s1 s11 s12 s13 (sf 1), aI cI s11 3 (sse 1), aI cI s12 7 (sto 1), aI cI s13 60 (sre 1), oL s2 s21 s22 s23 (sf 2), aI cI s21 3 (sse 2), aI cI s22 7 (sto 2), aI cI s23 60 (sre 2), oL s3 s31 s32 s33 of, aI cI s31 3 ose, aI cI s32 7 oto, aI cI s33 60 ore, oL o o1 o2 o3 of, aI cI o1 3 ose, aI cI o2 7 oto, aI cI o3 60 ore] := hD
      revert hP; revert hD; revert hS; revert hl
      subst ex44_7
      intro hl hS hD hP
      exact ag_vret [x1, x2, s0, s01, s02, s03, s1, s11, s12, s13, s2, s21, s22, s23, s3, s31, s32, s33, o, o1, o2, o3] hx hb hr hlocks hP hS rfl rfl (by show _ = _; unfold hk_k; rw [show rox (hf 0 + hf 1) = 3 from hk, if_pos c_22]; rfl) dX0_keep_47
    · refine lv_aload_n hx hb dX0_keep_25 rfl (lv_at hl 0 rfl) ?_
      refine lv_dup hx hb dX0_keep_26 rfl ?_
      refine ag_getX0 (v := .int (hf 1)) hx hb hG hown hK hP 0 2 rfl (by decide) k_130 rfl dX0_keep_27 ?_
      refine lv_iconst (v := 1) hx hb dX0_keep_30 (by decide) ?_
      refine lv_iadd hx hb dX0_keep_31 ?_
      refine ag_topn (v := xv32_8_X0_keep hf) rfl (fun x32_8 ex32_8 => ?_)
      refine ag_putX0 hx hb hG hown hK hP hD hS 0 2 rfl (by decide) k_130 (by decide) rfl rfl (Nat.le_of_ble_eq_true rfl) dX0_keep_32 (fun H locs hP hD hS => ?_)
      have hP : va_P D vwCl [oH x1 x2 (upd hf 1 x32_8), aL cL x2 (gS s0 s1 s2 s3), oL s0 s01 s02 s03 (sf 0), aI cI s01 3 (sse 0), aI cI s02 7 (sto 0), aI cI s03 60 (sre 0), oL s1 s11 s12 s13 (sf 1), aI cI s11 3 (sse 1), aI cI s12 7 (sto 1), aI cI s13 60 (sre 1), oL s2 s21 s22 s23 (sf 2), aI cI s21 3 (sse 2), aI cI s22 7 (sto 2), aI cI s23 60 (sre 2), oL s3 s31 s32 s33 of, aI cI s31 3 ose, aI cI s32 7 oto, aI cI s33 60 ore, oL o o1 o2 o3 of, aI cI o1 3 ose, aI cI o2 7 oto, aI cI o3 60 ore] H := hP
      have hD : va_D A [oH x1 x2 (upd hf 1 x32_8), aL cL x2 (gS s0 s1 s2 s3), oL s0 s01 s02 s03 (sf 0), aI cI s01 3 (sse 0), aI cI s02 7 (sto 0), aI cI s03 60 (sre 0), oL s1 s11 s12 s13 (sf 1), aI cI s11 3 (sse 1), aI cI s12 7 (sto 1), aI cI s13 60 (sre 1), oL s2 s21 s22 s23 (sf 2), aI cI s21 3 (sse 2), aI cI s22 7 (sto 2), aI cI s23 60 (sre 2), oL s3 s31 s32 s33 of, aI cI s31 3 ose, aI cI s32 7 oto, aI cI s33 60 ore, oL o o1 o2 o3 of, aI cI o1 3 ose, aI cI o2 7 oto, aI cI o3 60 ore] := hD
      refine lv_goto (tgt := 47) hx hb dX0_keep_35 (by decide) ?_
      revert hP; revert hD; revert hS; revert hl
      subst ex32_8
      intro hl hS hD hP
      exact ag_vret [x1, x2, s0, s01, s02, s03, s1, s11, s12, s13, s2, s21, s22, s23, s3, s31, s32, s33, o, o1, o2, o3] hx hb hr hlocks hP hS rfl rfl (by show _ = _; unfold hk_k; rw [show rox (hf 0 + hf 1) = 3 from hk, if_neg c_22]; rfl) dX0_keep_47
end
section
/-! the class itself: reads -/
def sr_X5_now (f : Nat → Int32) (p1 : Int32) : Int32 := if p1 = 0 then f 0 else if p1 = 1 then (f 0) / 144 else if p1 = 2 then (f 0) - (f 0) / 144 * 144 else if p1 = 3 then sr_X5_seaLevel (f 0) else if p1 = 4 then sr_X1_level f else if p1 = 5 then sr_X1_head f else if p1 = 6 then f 1 else if p1 = 7 then f 2 else if p1 = 8 then f 3 else if p1 = 9 then f 4 else if p1 = 10 then f 5 else if p1 = 11 then if (sr_X1_isBirdHour f) = 0 then 0 else 1 else if p1 = 12 then sr_X5_tideHeight ((f 0) / 144) else (-1000000001)
abbrev po_X5_now (cI cC cL : ClassId) (x0 h o t1 x1 y1 z1 x2 s0 s01 s02 s03 s1 s11 s12 s13 s2 s21 s22 s23 s3 s31 s32 s33 h1 h2 h3 y2 o1 o2 o3 : Nat) (hf f se to re pf tf ch of ose oto ore kf : Nat → Int32) (p1 : Int32) (sf : Nat → Nat → Int32) (sse : Nat → Nat → Int32) (sto : Nat → Nat → Int32) (sre : Nat → Nat → Int32) : Int32 → va_W → Prop := fun r w' => sr_X5_now f p1 = r ∧ [oX x0 h o t1 x1 y1 z1, oH x1 x2 hf, aL cL x2 (gS s0 s1 s2 s3), oL s0 s01 s02 s03 (sf 0), aI cI s01 3 (sse 0), aI cI s02 7 (sto 0), aI cI s03 60 (sre 0), oL s1 s11 s12 s13 (sf 1), aI cI s11 3 (sse 1), aI cI s12 7 (sto 1), aI cI s13 60 (sre 1), oL s2 s21 s22 s23 (sf 2), aI cI s21 3 (sse 2), aI cI s22 7 (sto 2), aI cI s23 60 (sre 2), oL s3 s31 s32 s33 (sf 3), aI cI s31 3 (sse 3), aI cI s32 7 (sto 3), aI cI s33 60 (sre 3), oL h h1 h2 h3 f, aI cI h1 3 se, aI cI h2 7 to, aI cI h3 60 re, oP z1 pf, oT y1 y2 tf, aC cC y2 60 ch, oL o o1 o2 o3 of, aI cI o1 3 ose, aI cI o2 7 oto, aI cI o3 60 ore, oK t1 kf] = w'
set_option maxHeartbeats 4000000 in
set_option maxRecDepth 100000 in
theorem ct_X5_now (l : Launch) (D : va_G) (cI cC cL : ClassId) (x0 h o t1 x1 y1 z1 x2 s0 s01 s02 s03 s1 s11 s12 s13 s2 s21 s22 s23 s3 s31 s32 s33 h1 h2 h3 y2 o1 o2 o3 : Nat) (hf f se to re pf tf ch of ose oto ore kf : Nat → Int32) (p1 : Int32) (sf : Nat → Nat → Int32) (sse : Nat → Nat → Int32) (sto : Nat → Nat → Int32) (sre : Nat → Nat → Int32) : ag_MI l yX5_now cX5_now 2 .int 3 63 D cI cC cL [.ref x0, .int p1] [oX x0 h o t1 x1 y1 z1, oH x1 x2 hf, aL cL x2 (gS s0 s1 s2 s3), oL s0 s01 s02 s03 (sf 0), aI cI s01 3 (sse 0), aI cI s02 7 (sto 0), aI cI s03 60 (sre 0), oL s1 s11 s12 s13 (sf 1), aI cI s11 3 (sse 1), aI cI s12 7 (sto 1), aI cI s13 60 (sre 1), oL s2 s21 s22 s23 (sf 2), aI cI s21 3 (sse 2), aI cI s22 7 (sto 2), aI cI s23 60 (sre 2), oL s3 s31 s32 s33 (sf 3), aI cI s31 3 (sse 3), aI cI s32 7 (sto 3), aI cI s33 60 (sre 3), oL h h1 h2 h3 f, aI cI h1 3 se, aI cI h2 7 to, aI cI h3 60 re, oP z1 pf, oT y1 y2 tf, aC cC y2 60 ch, oL o o1 o2 o3 of, aI cI o1 3 ose, aI cI o2 7 oto, aI cI o3 60 ore, oK t1 kf] (po_X5_now cI cC cL x0 h o t1 x1 y1 z1 x2 s0 s01 s02 s03 s1 s11 s12 s13 s2 s21 s22 s23 s3 s31 s32 s33 h1 h2 h3 y2 o1 o2 o3 hf f se to re pf tf ch of ose oto ore kf p1 sf sse sto sre) := by
  refine ag_MI.of (plainFor_of_name (by decide)) (Nat.le_of_ble_eq_true rfl) ?_
  intro p e s m below meth c hx hb hr hlocks hml hown hmn hG hK A hN hA H locs hP hD hS ls hl
  have hl : lv_has ls 2 [(0, .ref x0), (1, .int p1)] := hl
  refine lv_iload_n hx hb dX5_now_0 rfl (lv_at hl 1 rfl) ?_
  by_cases c_1_0 : p1 = 0
  · refine lv_tableIn (off := 67) (tgt := 68) hx hb dX5_now_1 (by rw [c_1_0]; decide) (by rw [c_1_0]; decide) (by rw [c_1_0]; rfl) (by decide) ?_
    refine lv_aload_n hx hb dX5_now_68 rfl (lv_at hl 0 rfl) ?_
    refine ag_getX5 (v := .ref h) hx hb hG hown hK hP 0 0 rfl (by decide) k_176 rfl dX5_now_69 ?_
    refine ag_getX1 (v := .int (f 0)) hx hb hG hown hK hP 19 0 rfl (by decide) k_31 rfl dX5_now_72 ?_
    exact ag_iret [x0, x1, x2, s0, s01, s02, s03, s1, s11, s12, s13, s2, s21, s22, s23, s3, s31, s32, s33, h, h1, h2, h3, z1, y1, y2, o, o1, o2, o3, t1] hx hb hr rfl hlocks hP hS rfl rfl ⟨(by unfold sr_X5_now; rw [if_pos c_1_0]), rfl⟩ dX5_now_75
  · by_cases c_1_1 : p1 = 1
    · refine lv_tableIn (off := 75) (tgt := 76) hx hb dX5_now_1 (by rw [c_1_1]; decide) (by rw [c_1_1]; decide) (by rw [c_1_1]; rfl) (by decide) ?_
      refine lv_aload_n hx hb dX5_now_76 rfl (lv_at hl 0 rfl) ?_
      refine ag_getX5 (v := .ref h) hx hb hG hown hK hP 0 0 rfl (by decide) k_176 rfl dX5_now_77 ?_
      refine ag_getX1 (v := .int (f 0)) hx hb hG hown hK hP 19 0 rfl (by decide) k_31 rfl dX5_now_80 ?_
      refine lv_sipush (v := 144) hx hb dX5_now_83 (by decide) ?_
      refine lv_idiv hx hb dX5_now_86 (by decide) ?_
      exact ag_iret [x0, x1, x2, s0, s01, s02, s03, s1, s11, s12, s13, s2, s21, s22, s23, s3, s31, s32, s33, h, h1, h2, h3, z1, y1, y2, o, o1, o2, o3, t1] hx hb hr rfl hlocks hP hS rfl rfl ⟨(by unfold sr_X5_now; rw [if_neg c_1_0, if_pos c_1_1]), rfl⟩ dX5_now_87
    · by_cases c_1_2 : p1 = 2
      · refine lv_tableIn (off := 87) (tgt := 88) hx hb dX5_now_1 (by rw [c_1_2]; decide) (by rw [c_1_2]; decide) (by rw [c_1_2]; rfl) (by decide) ?_
        refine lv_aload_n hx hb dX5_now_88 rfl (lv_at hl 0 rfl) ?_
        refine ag_getX5 (v := .ref h) hx hb hG hown hK hP 0 0 rfl (by decide) k_176 rfl dX5_now_89 ?_
        refine ag_getX1 (v := .int (f 0)) hx hb hG hown hK hP 19 0 rfl (by decide) k_31 rfl dX5_now_92 ?_
        refine lv_sipush (v := 144) hx hb dX5_now_95 (by decide) ?_
        refine lv_irem hx hb dX5_now_98 (by decide) ?_
        exact ag_iret [x0, x1, x2, s0, s01, s02, s03, s1, s11, s12, s13, s2, s21, s22, s23, s3, s31, s32, s33, h, h1, h2, h3, z1, y1, y2, o, o1, o2, o3, t1] hx hb hr rfl hlocks hP hS rfl rfl ⟨(by unfold sr_X5_now; rw [if_neg c_1_0, if_neg c_1_1, if_pos c_1_2]), rfl⟩ dX5_now_99
      · by_cases c_1_3 : p1 = 3
        · refine lv_tableIn (off := 99) (tgt := 100) hx hb dX5_now_1 (by rw [c_1_3]; decide) (by rw [c_1_3]; decide) (by rw [c_1_3]; rfl) (by decide) ?_
          refine lv_aload_n hx hb dX5_now_100 rfl (lv_at hl 0 rfl) ?_
          refine ag_getX5 (v := .ref h) hx hb hG hown hK hP 0 0 rfl (by decide) k_176 rfl dX5_now_101 ?_
          refine ag_getX1 (v := .int (f 0)) hx hb hG hown hK hP 19 0 rfl (by decide) k_31 rfl dX5_now_104 ?_
          refine ag_callSi (As := [.int (f 0)]) (rest := []) hx hb hml hown hG hK hN hA hP hD hS hl (ct_X5_seaLevel l D cI cC cL (f 0)) fX5_seaLevel k_199 ag_cut_0 rfl (Nat.le_of_ble_eq_true rfl) ⟨Nat.le_of_ble_eq_true rfl, Nat.le_of_ble_eq_true rfl⟩ ⟨Nat.zero_le _, Nat.zero_le _⟩ dX5_now_107 (fun r w1 H locs hw hP hD hS => ?_)
          obtain ⟨rfl, hw⟩ := hw
          subst hw
          have hP : va_P D vwCl [oX x0 h o t1 x1 y1 z1, oH x1 x2 hf, aL cL x2 (gS s0 s1 s2 s3), oL s0 s01 s02 s03 (sf 0), aI cI s01 3 (sse 0), aI cI s02 7 (sto 0), aI cI s03 60 (sre 0), oL s1 s11 s12 s13 (sf 1), aI cI s11 3 (sse 1), aI cI s12 7 (sto 1), aI cI s13 60 (sre 1), oL s2 s21 s22 s23 (sf 2), aI cI s21 3 (sse 2), aI cI s22 7 (sto 2), aI cI s23 60 (sre 2), oL s3 s31 s32 s33 (sf 3), aI cI s31 3 (sse 3), aI cI s32 7 (sto 3), aI cI s33 60 (sre 3), oL h h1 h2 h3 f, aI cI h1 3 se, aI cI h2 7 to, aI cI h3 60 re, oP z1 pf, oT y1 y2 tf, aC cC y2 60 ch, oL o o1 o2 o3 of, aI cI o1 3 ose, aI cI o2 7 oto, aI cI o3 60 ore, oK t1 kf] H := hP
          have hD : va_D A [oX x0 h o t1 x1 y1 z1, oH x1 x2 hf, aL cL x2 (gS s0 s1 s2 s3), oL s0 s01 s02 s03 (sf 0), aI cI s01 3 (sse 0), aI cI s02 7 (sto 0), aI cI s03 60 (sre 0), oL s1 s11 s12 s13 (sf 1), aI cI s11 3 (sse 1), aI cI s12 7 (sto 1), aI cI s13 60 (sre 1), oL s2 s21 s22 s23 (sf 2), aI cI s21 3 (sse 2), aI cI s22 7 (sto 2), aI cI s23 60 (sre 2), oL s3 s31 s32 s33 (sf 3), aI cI s31 3 (sse 3), aI cI s32 7 (sto 3), aI cI s33 60 (sre 3), oL h h1 h2 h3 f, aI cI h1 3 se, aI cI h2 7 to, aI cI h3 60 re, oP z1 pf, oT y1 y2 tf, aC cC y2 60 ch, oL o o1 o2 o3 of, aI cI o1 3 ose, aI cI o2 7 oto, aI cI o3 60 ore, oK t1 kf] := hD
          exact ag_iret [x0, x1, x2, s0, s01, s02, s03, s1, s11, s12, s13, s2, s21, s22, s23, s3, s31, s32, s33, h, h1, h2, h3, z1, y1, y2, o, o1, o2, o3, t1] hx hb hr rfl hlocks hP hS rfl rfl ⟨(by unfold sr_X5_now; rw [if_neg c_1_0, if_neg c_1_1, if_neg c_1_2, if_pos c_1_3]), rfl⟩ dX5_now_110
        · by_cases c_1_4 : p1 = 4
          · refine lv_tableIn (off := 110) (tgt := 111) hx hb dX5_now_1 (by rw [c_1_4]; decide) (by rw [c_1_4]; decide) (by rw [c_1_4]; rfl) (by decide) ?_
            refine lv_aload_n hx hb dX5_now_111 rfl (lv_at hl 0 rfl) ?_
            refine ag_getX5 (v := .ref h) hx hb hG hown hK hP 0 0 rfl (by decide) k_176 rfl dX5_now_112 ?_
            refine ag_callVi (As := []) (rest := []) hx hb hml hown hG hK hN hA hP hD hS hl (ct_X1_level l D cI cC cL h h1 h2 h3 f se to re) fX1_level k_205 (ag_cut_1 [oX x0 h o t1 x1 y1 z1, oH x1 x2 hf, aL cL x2 (gS s0 s1 s2 s3), oL s0 s01 s02 s03 (sf 0), aI cI s01 3 (sse 0), aI cI s02 7 (sto 0), aI cI s03 60 (sre 0), oL s1 s11 s12 s13 (sf 1), aI cI s11 3 (sse 1), aI cI s12 7 (sto 1), aI cI s13 60 (sre 1), oL s2 s21 s22 s23 (sf 2), aI cI s21 3 (sse 2), aI cI s22 7 (sto 2), aI cI s23 60 (sre 2), oL s3 s31 s32 s33 (sf 3), aI cI s31 3 (sse 3), aI cI s32 7 (sto 3), aI cI s33 60 (sre 3)] [oP z1 pf, oT y1 y2 tf, aC cC y2 60 ch, oL o o1 o2 o3 of, aI cI o1 3 ose, aI cI o2 7 oto, aI cI o3 60 ore, oK t1 kf] rfl) (q0 := 19) rfl rfl rfl rfl (Nat.le_of_ble_eq_true rfl) ⟨Nat.le_of_ble_eq_true rfl, Nat.le_of_ble_eq_true rfl⟩ ⟨Nat.zero_le _, Nat.zero_le _⟩ dX5_now_115 (fun r w1 H locs hw hP hD hS => ?_)
            obtain ⟨rfl, hw⟩ := hw
            subst hw
            have hP : va_P D vwCl [oX x0 h o t1 x1 y1 z1, oH x1 x2 hf, aL cL x2 (gS s0 s1 s2 s3), oL s0 s01 s02 s03 (sf 0), aI cI s01 3 (sse 0), aI cI s02 7 (sto 0), aI cI s03 60 (sre 0), oL s1 s11 s12 s13 (sf 1), aI cI s11 3 (sse 1), aI cI s12 7 (sto 1), aI cI s13 60 (sre 1), oL s2 s21 s22 s23 (sf 2), aI cI s21 3 (sse 2), aI cI s22 7 (sto 2), aI cI s23 60 (sre 2), oL s3 s31 s32 s33 (sf 3), aI cI s31 3 (sse 3), aI cI s32 7 (sto 3), aI cI s33 60 (sre 3), oL h h1 h2 h3 f, aI cI h1 3 se, aI cI h2 7 to, aI cI h3 60 re, oP z1 pf, oT y1 y2 tf, aC cC y2 60 ch, oL o o1 o2 o3 of, aI cI o1 3 ose, aI cI o2 7 oto, aI cI o3 60 ore, oK t1 kf] H := hP
            have hD : va_D A [oX x0 h o t1 x1 y1 z1, oH x1 x2 hf, aL cL x2 (gS s0 s1 s2 s3), oL s0 s01 s02 s03 (sf 0), aI cI s01 3 (sse 0), aI cI s02 7 (sto 0), aI cI s03 60 (sre 0), oL s1 s11 s12 s13 (sf 1), aI cI s11 3 (sse 1), aI cI s12 7 (sto 1), aI cI s13 60 (sre 1), oL s2 s21 s22 s23 (sf 2), aI cI s21 3 (sse 2), aI cI s22 7 (sto 2), aI cI s23 60 (sre 2), oL s3 s31 s32 s33 (sf 3), aI cI s31 3 (sse 3), aI cI s32 7 (sto 3), aI cI s33 60 (sre 3), oL h h1 h2 h3 f, aI cI h1 3 se, aI cI h2 7 to, aI cI h3 60 re, oP z1 pf, oT y1 y2 tf, aC cC y2 60 ch, oL o o1 o2 o3 of, aI cI o1 3 ose, aI cI o2 7 oto, aI cI o3 60 ore, oK t1 kf] := hD
            exact ag_iret [x0, x1, x2, s0, s01, s02, s03, s1, s11, s12, s13, s2, s21, s22, s23, s3, s31, s32, s33, h, h1, h2, h3, z1, y1, y2, o, o1, o2, o3, t1] hx hb hr rfl hlocks hP hS rfl rfl ⟨(by unfold sr_X5_now; rw [if_neg c_1_0, if_neg c_1_1, if_neg c_1_2, if_neg c_1_3, if_pos c_1_4]), rfl⟩ dX5_now_118
          · by_cases c_1_5 : p1 = 5
            · refine lv_tableIn (off := 118) (tgt := 119) hx hb dX5_now_1 (by rw [c_1_5]; decide) (by rw [c_1_5]; decide) (by rw [c_1_5]; rfl) (by decide) ?_
              refine lv_aload_n hx hb dX5_now_119 rfl (lv_at hl 0 rfl) ?_
              refine ag_getX5 (v := .ref h) hx hb hG hown hK hP 0 0 rfl (by decide) k_176 rfl dX5_now_120 ?_
              refine ag_callVi (As := []) (rest := []) hx hb hml hown hG hK hN hA hP hD hS hl (ct_X1_head l D cI cC cL h h1 h2 h3 f se to re) fX1_head k_209 (ag_cut_1 [oX x0 h o t1 x1 y1 z1, oH x1 x2 hf, aL cL x2 (gS s0 s1 s2 s3), oL s0 s01 s02 s03 (sf 0), aI cI s01 3 (sse 0), aI cI s02 7 (sto 0), aI cI s03 60 (sre 0), oL s1 s11 s12 s13 (sf 1), aI cI s11 3 (sse 1), aI cI s12 7 (sto 1), aI cI s13 60 (sre 1), oL s2 s21 s22 s23 (sf 2), aI cI s21 3 (sse 2), aI cI s22 7 (sto 2), aI cI s23 60 (sre 2), oL s3 s31 s32 s33 (sf 3), aI cI s31 3 (sse 3), aI cI s32 7 (sto 3), aI cI s33 60 (sre 3)] [oP z1 pf, oT y1 y2 tf, aC cC y2 60 ch, oL o o1 o2 o3 of, aI cI o1 3 ose, aI cI o2 7 oto, aI cI o3 60 ore, oK t1 kf] rfl) (q0 := 19) rfl rfl rfl rfl (Nat.le_of_ble_eq_true rfl) ⟨Nat.le_of_ble_eq_true rfl, Nat.le_of_ble_eq_true rfl⟩ ⟨Nat.zero_le _, Nat.zero_le _⟩ dX5_now_123 (fun r w1 H locs hw hP hD hS => ?_)
              obtain ⟨rfl, hw⟩ := hw
              subst hw
              have hP : va_P D vwCl [oX x0 h o t1 x1 y1 z1, oH x1 x2 hf, aL cL x2 (gS s0 s1 s2 s3), oL s0 s01 s02 s03 (sf 0), aI cI s01 3 (sse 0), aI cI s02 7 (sto 0), aI cI s03 60 (sre 0), oL s1 s11 s12 s13 (sf 1), aI cI s11 3 (sse 1), aI cI s12 7 (sto 1), aI cI s13 60 (sre 1), oL s2 s21 s22 s23 (sf 2), aI cI s21 3 (sse 2), aI cI s22 7 (sto 2), aI cI s23 60 (sre 2), oL s3 s31 s32 s33 (sf 3), aI cI s31 3 (sse 3), aI cI s32 7 (sto 3), aI cI s33 60 (sre 3), oL h h1 h2 h3 f, aI cI h1 3 se, aI cI h2 7 to, aI cI h3 60 re, oP z1 pf, oT y1 y2 tf, aC cC y2 60 ch, oL o o1 o2 o3 of, aI cI o1 3 ose, aI cI o2 7 oto, aI cI o3 60 ore, oK t1 kf] H := hP
              have hD : va_D A [oX x0 h o t1 x1 y1 z1, oH x1 x2 hf, aL cL x2 (gS s0 s1 s2 s3), oL s0 s01 s02 s03 (sf 0), aI cI s01 3 (sse 0), aI cI s02 7 (sto 0), aI cI s03 60 (sre 0), oL s1 s11 s12 s13 (sf 1), aI cI s11 3 (sse 1), aI cI s12 7 (sto 1), aI cI s13 60 (sre 1), oL s2 s21 s22 s23 (sf 2), aI cI s21 3 (sse 2), aI cI s22 7 (sto 2), aI cI s23 60 (sre 2), oL s3 s31 s32 s33 (sf 3), aI cI s31 3 (sse 3), aI cI s32 7 (sto 3), aI cI s33 60 (sre 3), oL h h1 h2 h3 f, aI cI h1 3 se, aI cI h2 7 to, aI cI h3 60 re, oP z1 pf, oT y1 y2 tf, aC cC y2 60 ch, oL o o1 o2 o3 of, aI cI o1 3 ose, aI cI o2 7 oto, aI cI o3 60 ore, oK t1 kf] := hD
              exact ag_iret [x0, x1, x2, s0, s01, s02, s03, s1, s11, s12, s13, s2, s21, s22, s23, s3, s31, s32, s33, h, h1, h2, h3, z1, y1, y2, o, o1, o2, o3, t1] hx hb hr rfl hlocks hP hS rfl rfl ⟨(by unfold sr_X5_now; rw [if_neg c_1_0, if_neg c_1_1, if_neg c_1_2, if_neg c_1_3, if_neg c_1_4, if_pos c_1_5]), rfl⟩ dX5_now_126
            · by_cases c_1_6 : p1 = 6
              · refine lv_tableIn (off := 126) (tgt := 127) hx hb dX5_now_1 (by rw [c_1_6]; decide) (by rw [c_1_6]; decide) (by rw [c_1_6]; rfl) (by decide) ?_
                refine lv_aload_n hx hb dX5_now_127 rfl (lv_at hl 0 rfl) ?_
                refine ag_getX5 (v := .ref h) hx hb hG hown hK hP 0 0 rfl (by decide) k_176 rfl dX5_now_128 ?_
                refine ag_getX1 (v := .int (f 1)) hx hb hG hown hK hP 19 1 rfl (by decide) k_34 rfl dX5_now_131 ?_
                exact ag_iret [x0, x1, x2, s0, s01, s02, s03, s1, s11, s12, s13, s2, s21, s22, s23, s3, s31, s32, s33, h, h1, h2, h3, z1, y1, y2, o, o1, o2, o3, t1] hx hb hr rfl hlocks hP hS rfl rfl ⟨(by unfold sr_X5_now; rw [if_neg c_1_0, if_neg c_1_1, if_neg c_1_2, if_neg c_1_3, if_neg c_1_4, if_neg c_1_5, if_pos c_1_6]), rfl⟩ dX5_now_134
              · by_cases c_1_7 : p1 = 7
                · refine lv_tableIn (off := 134) (tgt := 135) hx hb dX5_now_1 (by rw [c_1_7]; decide) (by rw [c_1_7]; decide) (by rw [c_1_7]; rfl) (by decide) ?_
                  refine lv_aload_n hx hb dX5_now_135 rfl (lv_at hl 0 rfl) ?_
                  refine ag_getX5 (v := .ref h) hx hb hG hown hK hP 0 0 rfl (by decide) k_176 rfl dX5_now_136 ?_
                  refine ag_getX1 (v := .int (f 2)) hx hb hG hown hK hP 19 2 rfl (by decide) k_37 rfl dX5_now_139 ?_
                  exact ag_iret [x0, x1, x2, s0, s01, s02, s03, s1, s11, s12, s13, s2, s21, s22, s23, s3, s31, s32, s33, h, h1, h2, h3, z1, y1, y2, o, o1, o2, o3, t1] hx hb hr rfl hlocks hP hS rfl rfl ⟨(by unfold sr_X5_now; rw [if_neg c_1_0, if_neg c_1_1, if_neg c_1_2, if_neg c_1_3, if_neg c_1_4, if_neg c_1_5, if_neg c_1_6, if_pos c_1_7]), rfl⟩ dX5_now_142
                · by_cases c_1_8 : p1 = 8
                  · refine lv_tableIn (off := 142) (tgt := 143) hx hb dX5_now_1 (by rw [c_1_8]; decide) (by rw [c_1_8]; decide) (by rw [c_1_8]; rfl) (by decide) ?_
                    refine lv_aload_n hx hb dX5_now_143 rfl (lv_at hl 0 rfl) ?_
                    refine ag_getX5 (v := .ref h) hx hb hG hown hK hP 0 0 rfl (by decide) k_176 rfl dX5_now_144 ?_
                    refine ag_getX1 (v := .int (f 3)) hx hb hG hown hK hP 19 3 rfl (by decide) k_40 rfl dX5_now_147 ?_
                    exact ag_iret [x0, x1, x2, s0, s01, s02, s03, s1, s11, s12, s13, s2, s21, s22, s23, s3, s31, s32, s33, h, h1, h2, h3, z1, y1, y2, o, o1, o2, o3, t1] hx hb hr rfl hlocks hP hS rfl rfl ⟨(by unfold sr_X5_now; rw [if_neg c_1_0, if_neg c_1_1, if_neg c_1_2, if_neg c_1_3, if_neg c_1_4, if_neg c_1_5, if_neg c_1_6, if_neg c_1_7, if_pos c_1_8]), rfl⟩ dX5_now_150
                  · by_cases c_1_9 : p1 = 9
                    · refine lv_tableIn (off := 150) (tgt := 151) hx hb dX5_now_1 (by rw [c_1_9]; decide) (by rw [c_1_9]; decide) (by rw [c_1_9]; rfl) (by decide) ?_
                      refine lv_aload_n hx hb dX5_now_151 rfl (lv_at hl 0 rfl) ?_
                      refine ag_getX5 (v := .ref h) hx hb hG hown hK hP 0 0 rfl (by decide) k_176 rfl dX5_now_152 ?_
                      refine ag_getX1 (v := .int (f 4)) hx hb hG hown hK hP 19 4 rfl (by decide) k_43 rfl dX5_now_155 ?_
                      exact ag_iret [x0, x1, x2, s0, s01, s02, s03, s1, s11, s12, s13, s2, s21, s22, s23, s3, s31, s32, s33, h, h1, h2, h3, z1, y1, y2, o, o1, o2, o3, t1] hx hb hr rfl hlocks hP hS rfl rfl ⟨(by unfold sr_X5_now; rw [if_neg c_1_0, if_neg c_1_1, if_neg c_1_2, if_neg c_1_3, if_neg c_1_4, if_neg c_1_5, if_neg c_1_6, if_neg c_1_7, if_neg c_1_8, if_pos c_1_9]), rfl⟩ dX5_now_158
                    · by_cases c_1_10 : p1 = 10
                      · refine lv_tableIn (off := 158) (tgt := 159) hx hb dX5_now_1 (by rw [c_1_10]; decide) (by rw [c_1_10]; decide) (by rw [c_1_10]; rfl) (by decide) ?_
                        refine lv_aload_n hx hb dX5_now_159 rfl (lv_at hl 0 rfl) ?_
                        refine ag_getX5 (v := .ref h) hx hb hG hown hK hP 0 0 rfl (by decide) k_176 rfl dX5_now_160 ?_
                        refine ag_getX1 (v := .int (f 5)) hx hb hG hown hK hP 19 5 rfl (by decide) k_46 rfl dX5_now_163 ?_
                        exact ag_iret [x0, x1, x2, s0, s01, s02, s03, s1, s11, s12, s13, s2, s21, s22, s23, s3, s31, s32, s33, h, h1, h2, h3, z1, y1, y2, o, o1, o2, o3, t1] hx hb hr rfl hlocks hP hS rfl rfl ⟨(by unfold sr_X5_now; rw [if_neg c_1_0, if_neg c_1_1, if_neg c_1_2, if_neg c_1_3, if_neg c_1_4, if_neg c_1_5, if_neg c_1_6, if_neg c_1_7, if_neg c_1_8, if_neg c_1_9, if_pos c_1_10]), rfl⟩ dX5_now_166
                      · by_cases c_1_11 : p1 = 11
                        · refine lv_tableIn (off := 166) (tgt := 167) hx hb dX5_now_1 (by rw [c_1_11]; decide) (by rw [c_1_11]; decide) (by rw [c_1_11]; rfl) (by decide) ?_
                          refine lv_aload_n hx hb dX5_now_167 rfl (lv_at hl 0 rfl) ?_
                          refine ag_getX5 (v := .ref h) hx hb hG hown hK hP 0 0 rfl (by decide) k_176 rfl dX5_now_168 ?_
                          refine ag_callVi (As := []) (rest := []) hx hb hml hown hG hK hN hA hP hD hS hl (ct_X1_isBirdHour l D cI cC cL h h1 h2 h3 f se to re) fX1_isBirdHour k_215 (ag_cut_1 [oX x0 h o t1 x1 y1 z1, oH x1 x2 hf, aL cL x2 (gS s0 s1 s2 s3), oL s0 s01 s02 s03 (sf 0), aI cI s01 3 (sse 0), aI cI s02 7 (sto 0), aI cI s03 60 (sre 0), oL s1 s11 s12 s13 (sf 1), aI cI s11 3 (sse 1), aI cI s12 7 (sto 1), aI cI s13 60 (sre 1), oL s2 s21 s22 s23 (sf 2), aI cI s21 3 (sse 2), aI cI s22 7 (sto 2), aI cI s23 60 (sre 2), oL s3 s31 s32 s33 (sf 3), aI cI s31 3 (sse 3), aI cI s32 7 (sto 3), aI cI s33 60 (sre 3)] [oP z1 pf, oT y1 y2 tf, aC cC y2 60 ch, oL o o1 o2 o3 of, aI cI o1 3 ose, aI cI o2 7 oto, aI cI o3 60 ore, oK t1 kf] rfl) (q0 := 19) rfl rfl rfl rfl (Nat.le_of_ble_eq_true rfl) ⟨Nat.le_of_ble_eq_true rfl, Nat.le_of_ble_eq_true rfl⟩ ⟨Nat.zero_le _, Nat.zero_le _⟩ dX5_now_171 (fun r w1 H locs hw hP hD hS => ?_)
                          obtain ⟨rfl, hw⟩ := hw
                          subst hw
                          have hP : va_P D vwCl [oX x0 h o t1 x1 y1 z1, oH x1 x2 hf, aL cL x2 (gS s0 s1 s2 s3), oL s0 s01 s02 s03 (sf 0), aI cI s01 3 (sse 0), aI cI s02 7 (sto 0), aI cI s03 60 (sre 0), oL s1 s11 s12 s13 (sf 1), aI cI s11 3 (sse 1), aI cI s12 7 (sto 1), aI cI s13 60 (sre 1), oL s2 s21 s22 s23 (sf 2), aI cI s21 3 (sse 2), aI cI s22 7 (sto 2), aI cI s23 60 (sre 2), oL s3 s31 s32 s33 (sf 3), aI cI s31 3 (sse 3), aI cI s32 7 (sto 3), aI cI s33 60 (sre 3), oL h h1 h2 h3 f, aI cI h1 3 se, aI cI h2 7 to, aI cI h3 60 re, oP z1 pf, oT y1 y2 tf, aC cC y2 60 ch, oL o o1 o2 o3 of, aI cI o1 3 ose, aI cI o2 7 oto, aI cI o3 60 ore, oK t1 kf] H := hP
                          have hD : va_D A [oX x0 h o t1 x1 y1 z1, oH x1 x2 hf, aL cL x2 (gS s0 s1 s2 s3), oL s0 s01 s02 s03 (sf 0), aI cI s01 3 (sse 0), aI cI s02 7 (sto 0), aI cI s03 60 (sre 0), oL s1 s11 s12 s13 (sf 1), aI cI s11 3 (sse 1), aI cI s12 7 (sto 1), aI cI s13 60 (sre 1), oL s2 s21 s22 s23 (sf 2), aI cI s21 3 (sse 2), aI cI s22 7 (sto 2), aI cI s23 60 (sre 2), oL s3 s31 s32 s33 (sf 3), aI cI s31 3 (sse 3), aI cI s32 7 (sto 3), aI cI s33 60 (sre 3), oL h h1 h2 h3 f, aI cI h1 3 se, aI cI h2 7 to, aI cI h3 60 re, oP z1 pf, oT y1 y2 tf, aC cC y2 60 ch, oL o o1 o2 o3 of, aI cI o1 3 ose, aI cI o2 7 oto, aI cI o3 60 ore, oK t1 kf] := hD
                          refine lv_if_eq (tgt := 181) hx hb dX5_now_174 (by decide) (fun c_174 => ?_) (fun c_174 => ?_)
                          · refine lv_iconst (v := 0) hx hb dX5_now_181 (by decide) ?_
                            exact ag_iret [x0, x1, x2, s0, s01, s02, s03, s1, s11, s12, s13, s2, s21, s22, s23, s3, s31, s32, s33, h, h1, h2, h3, z1, y1, y2, o, o1, o2, o3, t1] hx hb hr rfl hlocks hP hS rfl rfl ⟨(by unfold sr_X5_now; rw [if_neg c_1_0, if_neg c_1_1, if_neg c_1_2, if_neg c_1_3, if_neg c_1_4, if_neg c_1_5, if_neg c_1_6, if_neg c_1_7, if_neg c_1_8, if_neg c_1_9, if_neg c_1_10, if_pos c_1_11, if_pos c_174]), rfl⟩ dX5_now_182
                          · refine lv_iconst (v := 1) hx hb dX5_now_177 (by decide) ?_
                            refine lv_goto (tgt := 182) hx hb dX5_now_178 (by decide) ?_
                            exact ag_iret [x0, x1, x2, s0, s01, s02, s03, s1, s11, s12, s13, s2, s21, s22, s23, s3, s31, s32, s33, h, h1, h2, h3, z1, y1, y2, o, o1, o2, o3, t1] hx hb hr rfl hlocks hP hS rfl rfl ⟨(by unfold sr_X5_now; rw [if_neg c_1_0, if_neg c_1_1, if_neg c_1_2, if_neg c_1_3, if_neg c_1_4, if_neg c_1_5, if_neg c_1_6, if_neg c_1_7, if_neg c_1_8, if_neg c_1_9, if_neg c_1_10, if_pos c_1_11, if_neg c_174]), rfl⟩ dX5_now_182
                        · by_cases c_1_12 : p1 = 12
                          · refine lv_tableIn (off := 182) (tgt := 183) hx hb dX5_now_1 (by rw [c_1_12]; decide) (by rw [c_1_12]; decide) (by rw [c_1_12]; rfl) (by decide) ?_
                            refine lv_aload_n hx hb dX5_now_183 rfl (lv_at hl 0 rfl) ?_
                            refine ag_getX5 (v := .ref h) hx hb hG hown hK hP 0 0 rfl (by decide) k_176 rfl dX5_now_184 ?_
                            refine ag_getX1 (v := .int (f 0)) hx hb hG hown hK hP 19 0 rfl (by decide) k_31 rfl dX5_now_187 ?_
                            refine lv_sipush (v := 144) hx hb dX5_now_190 (by decide) ?_
                            refine lv_idiv hx hb dX5_now_193 (by decide) ?_
                            refine ag_callSi (As := [.int ((f 0) / 144)]) (rest := []) hx hb hml hown hG hK hN hA hP hD hS hl (ct_X5_tideHeight l D cI cC cL ((f 0) / 144)) fX5_tideHeight k_202 ag_cut_0 rfl (Nat.le_of_ble_eq_true rfl) ⟨Nat.le_of_ble_eq_true rfl, Nat.le_of_ble_eq_true rfl⟩ ⟨Nat.zero_le _, Nat.zero_le _⟩ dX5_now_194 (fun r w1 H locs hw hP hD hS => ?_)
                            obtain ⟨rfl, hw⟩ := hw
                            subst hw
                            have hP : va_P D vwCl [oX x0 h o t1 x1 y1 z1, oH x1 x2 hf, aL cL x2 (gS s0 s1 s2 s3), oL s0 s01 s02 s03 (sf 0), aI cI s01 3 (sse 0), aI cI s02 7 (sto 0), aI cI s03 60 (sre 0), oL s1 s11 s12 s13 (sf 1), aI cI s11 3 (sse 1), aI cI s12 7 (sto 1), aI cI s13 60 (sre 1), oL s2 s21 s22 s23 (sf 2), aI cI s21 3 (sse 2), aI cI s22 7 (sto 2), aI cI s23 60 (sre 2), oL s3 s31 s32 s33 (sf 3), aI cI s31 3 (sse 3), aI cI s32 7 (sto 3), aI cI s33 60 (sre 3), oL h h1 h2 h3 f, aI cI h1 3 se, aI cI h2 7 to, aI cI h3 60 re, oP z1 pf, oT y1 y2 tf, aC cC y2 60 ch, oL o o1 o2 o3 of, aI cI o1 3 ose, aI cI o2 7 oto, aI cI o3 60 ore, oK t1 kf] H := hP
                            have hD : va_D A [oX x0 h o t1 x1 y1 z1, oH x1 x2 hf, aL cL x2 (gS s0 s1 s2 s3), oL s0 s01 s02 s03 (sf 0), aI cI s01 3 (sse 0), aI cI s02 7 (sto 0), aI cI s03 60 (sre 0), oL s1 s11 s12 s13 (sf 1), aI cI s11 3 (sse 1), aI cI s12 7 (sto 1), aI cI s13 60 (sre 1), oL s2 s21 s22 s23 (sf 2), aI cI s21 3 (sse 2), aI cI s22 7 (sto 2), aI cI s23 60 (sre 2), oL s3 s31 s32 s33 (sf 3), aI cI s31 3 (sse 3), aI cI s32 7 (sto 3), aI cI s33 60 (sre 3), oL h h1 h2 h3 f, aI cI h1 3 se, aI cI h2 7 to, aI cI h3 60 re, oP z1 pf, oT y1 y2 tf, aC cC y2 60 ch, oL o o1 o2 o3 of, aI cI o1 3 ose, aI cI o2 7 oto, aI cI o3 60 ore, oK t1 kf] := hD
                            exact ag_iret [x0, x1, x2, s0, s01, s02, s03, s1, s11, s12, s13, s2, s21, s22, s23, s3, s31, s32, s33, h, h1, h2, h3, z1, y1, y2, o, o1, o2, o3, t1] hx hb hr rfl hlocks hP hS rfl rfl ⟨(by unfold sr_X5_now; rw [if_neg c_1_0, if_neg c_1_1, if_neg c_1_2, if_neg c_1_3, if_neg c_1_4, if_neg c_1_5, if_neg c_1_6, if_neg c_1_7, if_neg c_1_8, if_neg c_1_9, if_neg c_1_10, if_neg c_1_11, if_pos c_1_12]), rfl⟩ dX5_now_197
                          · refine lv_tableOut (tgt := 198) hx hb dX5_now_1 (by have h0 := lv_neT c_1_0 (a := 0) rfl; have h1 := lv_neT c_1_1 (a := 1) rfl; have h2 := lv_neT c_1_2 (a := 2) rfl; have h3 := lv_neT c_1_3 (a := 3) rfl; have h4 := lv_neT c_1_4 (a := 4) rfl; have h5 := lv_neT c_1_5 (a := 5) rfl; have h6 := lv_neT c_1_6 (a := 6) rfl; have h7 := lv_neT c_1_7 (a := 7) rfl; have h8 := lv_neT c_1_8 (a := 8) rfl; have h9 := lv_neT c_1_9 (a := 9) rfl; have h10 := lv_neT c_1_10 (a := 10) rfl; have h11 := lv_neT c_1_11 (a := 11) rfl; have h12 := lv_neT c_1_12 (a := 12) rfl; omega) (by decide) ?_
                            refine lv_ldc (v := (-1000000001)) hx hb hown (hG _ k_219) dX5_now_198 ?_
                            exact ag_iret [x0, x1, x2, s0, s01, s02, s03, s1, s11, s12, s13, s2, s21, s22, s23, s3, s31, s32, s33, h, h1, h2, h3, z1, y1, y2, o, o1, o2, o3, t1] hx hb hr rfl hlocks hP hS rfl rfl ⟨(by unfold sr_X5_now; rw [if_neg c_1_0, if_neg c_1_1, if_neg c_1_2, if_neg c_1_3, if_neg c_1_4, if_neg c_1_5, if_neg c_1_6, if_neg c_1_7, if_neg c_1_8, if_neg c_1_9, if_neg c_1_10, if_neg c_1_11, if_neg c_1_12]), rfl⟩ dX5_now_200
def sr_X5_record (f : Nat → Int32) (re : Nat → Int32) (p1 : Int32) (p2 : Int32) : Int32 := if p1 < 0 then (-1000000001) else if p2 < 0 then (-1000000001) else if p2 < 6 then if p1 < (sr_X1_firstDay f) then (-1000000004) else if p1 ≤ (sr_X1_lastDay f) then re (rs p1 + p2.toNatClampNeg) else (-1000000004) else (-1000000001)
abbrev po_X5_record (cI cC cL : ClassId) (x0 h o t1 x1 y1 z1 x2 s0 s01 s02 s03 s1 s11 s12 s13 s2 s21 s22 s23 s3 s31 s32 s33 h1 h2 h3 y2 o1 o2 o3 : Nat) (hf f se to re pf tf ch of ose oto ore kf : Nat → Int32) (p1 : Int32) (p2 : Int32) (sf : Nat → Nat → Int32) (sse : Nat → Nat → Int32) (sto : Nat → Nat → Int32) (sre : Nat → Nat → Int32) : Int32 → va_W → Prop := fun r w' => sr_X5_record f re p1 p2 = r ∧ [oX x0 h o t1 x1 y1 z1, oH x1 x2 hf, aL cL x2 (gS s0 s1 s2 s3), oL s0 s01 s02 s03 (sf 0), aI cI s01 3 (sse 0), aI cI s02 7 (sto 0), aI cI s03 60 (sre 0), oL s1 s11 s12 s13 (sf 1), aI cI s11 3 (sse 1), aI cI s12 7 (sto 1), aI cI s13 60 (sre 1), oL s2 s21 s22 s23 (sf 2), aI cI s21 3 (sse 2), aI cI s22 7 (sto 2), aI cI s23 60 (sre 2), oL s3 s31 s32 s33 (sf 3), aI cI s31 3 (sse 3), aI cI s32 7 (sto 3), aI cI s33 60 (sre 3), oL h h1 h2 h3 f, aI cI h1 3 se, aI cI h2 7 to, aI cI h3 60 re, oP z1 pf, oT y1 y2 tf, aC cC y2 60 ch, oL o o1 o2 o3 of, aI cI o1 3 ose, aI cI o2 7 oto, aI cI o3 60 ore, oK t1 kf] = w'
set_option maxHeartbeats 4000000 in
set_option maxRecDepth 100000 in
theorem ct_X5_record (l : Launch) (D : va_G) (cI cC cL : ClassId) (x0 h o t1 x1 y1 z1 x2 s0 s01 s02 s03 s1 s11 s12 s13 s2 s21 s22 s23 s3 s31 s32 s33 h1 h2 h3 y2 o1 o2 o3 : Nat) (hf f se to re pf tf ch of ose oto ore kf : Nat → Int32) (p1 : Int32) (p2 : Int32) (sf : Nat → Nat → Int32) (sse : Nat → Nat → Int32) (sto : Nat → Nat → Int32) (sre : Nat → Nat → Int32) : ag_MI l yX5_record cX5_record 3 .int 3 62 D cI cC cL [.ref x0, .int p1, .int p2] [oX x0 h o t1 x1 y1 z1, oH x1 x2 hf, aL cL x2 (gS s0 s1 s2 s3), oL s0 s01 s02 s03 (sf 0), aI cI s01 3 (sse 0), aI cI s02 7 (sto 0), aI cI s03 60 (sre 0), oL s1 s11 s12 s13 (sf 1), aI cI s11 3 (sse 1), aI cI s12 7 (sto 1), aI cI s13 60 (sre 1), oL s2 s21 s22 s23 (sf 2), aI cI s21 3 (sse 2), aI cI s22 7 (sto 2), aI cI s23 60 (sre 2), oL s3 s31 s32 s33 (sf 3), aI cI s31 3 (sse 3), aI cI s32 7 (sto 3), aI cI s33 60 (sre 3), oL h h1 h2 h3 f, aI cI h1 3 se, aI cI h2 7 to, aI cI h3 60 re, oP z1 pf, oT y1 y2 tf, aC cC y2 60 ch, oL o o1 o2 o3 of, aI cI o1 3 ose, aI cI o2 7 oto, aI cI o3 60 ore, oK t1 kf] (po_X5_record cI cC cL x0 h o t1 x1 y1 z1 x2 s0 s01 s02 s03 s1 s11 s12 s13 s2 s21 s22 s23 s3 s31 s32 s33 h1 h2 h3 y2 o1 o2 o3 hf f se to re pf tf ch of ose oto ore kf p1 p2 sf sse sto sre) := by
  refine ag_MI.of (plainFor_of_name (by decide)) (Nat.le_of_ble_eq_true rfl) ?_
  intro p e s m below meth c hx hb hr hlocks hml hown hmn hG hK A hN hA H locs hP hD hS ls hl
  have hl : lv_has ls 3 [(0, .ref x0), (1, .int p1), (2, .int p2)] := hl
  refine lv_iload_n hx hb dX5_record_0 rfl (lv_at hl 1 rfl) ?_
  refine lv_if_lt (tgt := 14) hx hb dX5_record_1 (by decide) (fun c_1 => ?_) (fun c_1 => ?_)
  · refine lv_ldc (v := (-1000000001)) hx hb hown (hG _ k_219) dX5_record_14 ?_
    exact ag_iret [x0, x1, x2, s0, s01, s02, s03, s1, s11, s12, s13, s2, s21, s22, s23, s3, s31, s32, s33, h, h1, h2, h3, z1, y1, y2, o, o1, o2, o3, t1] hx hb hr rfl hlocks hP hS rfl rfl ⟨(by unfold sr_X5_record; rw [if_pos c_1]), rfl⟩ dX5_record_16
  · refine lv_iload_n hx hb dX5_record_4 rfl (lv_at hl 2 rfl) ?_
    refine lv_if_lt (tgt := 14) hx hb dX5_record_5 (by decide) (fun c_5 => ?_) (fun c_5 => ?_)
    · refine lv_ldc (v := (-1000000001)) hx hb hown (hG _ k_219) dX5_record_14 ?_
      exact ag_iret [x0, x1, x2, s0, s01, s02, s03, s1, s11, s12, s13, s2, s21, s22, s23, s3, s31, s32, s33, h, h1, h2, h3, z1, y1, y2, o, o1, o2, o3, t1] hx hb hr rfl hlocks hP hS rfl rfl ⟨(by unfold sr_X5_record; rw [if_neg c_1, if_pos c_5]), rfl⟩ dX5_record_16
    · refine lv_iload_n hx hb dX5_record_8 rfl (lv_at hl 2 rfl) ?_
      refine lv_bipush (v := 6) hx hb dX5_record_9 (by decide) ?_
      refine lv_icmp_lt (tgt := 17) hx hb dX5_record_11 (by decide) (fun c_11 => ?_) (fun c_11 => ?_)
      · refine lv_iload_n hx hb dX5_record_17 rfl (lv_at hl 1 rfl) ?_
        refine lv_aload_n hx hb dX5_record_18 rfl (lv_at hl 0 rfl) ?_
        refine ag_getX5 (v := .ref h) hx hb hG hown hK hP 0 0 rfl (by decide) k_176 rfl dX5_record_19 ?_
        refine ag_callVi (As := []) (rest := [.int p1]) hx hb hml hown hG hK hN hA hP hD hS hl (ct_X1_firstDay l D cI cC cL h h1 h2 h3 f se to re) fX1_firstDay k_231 (ag_cut_1 [oX x0 h o t1 x1 y1 z1, oH x1 x2 hf, aL cL x2 (gS s0 s1 s2 s3), oL s0 s01 s02 s03 (sf 0), aI cI s01 3 (sse 0), aI cI s02 7 (sto 0), aI cI s03 60 (sre 0), oL s1 s11 s12 s13 (sf 1), aI cI s11 3 (sse 1), aI cI s12 7 (sto 1), aI cI s13 60 (sre 1), oL s2 s21 s22 s23 (sf 2), aI cI s21 3 (sse 2), aI cI s22 7 (sto 2), aI cI s23 60 (sre 2), oL s3 s31 s32 s33 (sf 3), aI cI s31 3 (sse 3), aI cI s32 7 (sto 3), aI cI s33 60 (sre 3)] [oP z1 pf, oT y1 y2 tf, aC cC y2 60 ch, oL o o1 o2 o3 of, aI cI o1 3 ose, aI cI o2 7 oto, aI cI o3 60 ore, oK t1 kf] rfl) (q0 := 19) rfl rfl rfl rfl (Nat.le_of_ble_eq_true rfl) ⟨Nat.le_of_ble_eq_true rfl, Nat.le_of_ble_eq_true rfl⟩ ⟨Nat.zero_le _, Nat.zero_le _⟩ dX5_record_22 (fun r w1 H locs hw hP hD hS => ?_)
        obtain ⟨rfl, hw⟩ := hw
        subst hw
        have hP : va_P D vwCl [oX x0 h o t1 x1 y1 z1, oH x1 x2 hf, aL cL x2 (gS s0 s1 s2 s3), oL s0 s01 s02 s03 (sf 0), aI cI s01 3 (sse 0), aI cI s02 7 (sto 0), aI cI s03 60 (sre 0), oL s1 s11 s12 s13 (sf 1), aI cI s11 3 (sse 1), aI cI s12 7 (sto 1), aI cI s13 60 (sre 1), oL s2 s21 s22 s23 (sf 2), aI cI s21 3 (sse 2), aI cI s22 7 (sto 2), aI cI s23 60 (sre 2), oL s3 s31 s32 s33 (sf 3), aI cI s31 3 (sse 3), aI cI s32 7 (sto 3), aI cI s33 60 (sre 3), oL h h1 h2 h3 f, aI cI h1 3 se, aI cI h2 7 to, aI cI h3 60 re, oP z1 pf, oT y1 y2 tf, aC cC y2 60 ch, oL o o1 o2 o3 of, aI cI o1 3 ose, aI cI o2 7 oto, aI cI o3 60 ore, oK t1 kf] H := hP
        have hD : va_D A [oX x0 h o t1 x1 y1 z1, oH x1 x2 hf, aL cL x2 (gS s0 s1 s2 s3), oL s0 s01 s02 s03 (sf 0), aI cI s01 3 (sse 0), aI cI s02 7 (sto 0), aI cI s03 60 (sre 0), oL s1 s11 s12 s13 (sf 1), aI cI s11 3 (sse 1), aI cI s12 7 (sto 1), aI cI s13 60 (sre 1), oL s2 s21 s22 s23 (sf 2), aI cI s21 3 (sse 2), aI cI s22 7 (sto 2), aI cI s23 60 (sre 2), oL s3 s31 s32 s33 (sf 3), aI cI s31 3 (sse 3), aI cI s32 7 (sto 3), aI cI s33 60 (sre 3), oL h h1 h2 h3 f, aI cI h1 3 se, aI cI h2 7 to, aI cI h3 60 re, oP z1 pf, oT y1 y2 tf, aC cC y2 60 ch, oL o o1 o2 o3 of, aI cI o1 3 ose, aI cI o2 7 oto, aI cI o3 60 ore, oK t1 kf] := hD
        refine lv_icmp_lt (tgt := 39) hx hb dX5_record_25 (by decide) (fun c_25 => ?_) (fun c_25 => ?_)
        · refine lv_ldc (v := (-1000000004)) hx hb hown (hG _ k_411) dX5_record_39 ?_
          exact ag_iret [x0, x1, x2, s0, s01, s02, s03, s1, s11, s12, s13, s2, s21, s22, s23, s3, s31, s32, s33, h, h1, h2, h3, z1, y1, y2, o, o1, o2, o3, t1] hx hb hr rfl hlocks hP hS rfl rfl ⟨(by unfold sr_X5_record; rw [if_neg c_1, if_neg c_5, if_pos c_11, if_pos c_25]), rfl⟩ dX5_record_41
        · refine lv_iload_n hx hb dX5_record_28 rfl (lv_at hl 1 rfl) ?_
          refine lv_aload_n hx hb dX5_record_29 rfl (lv_at hl 0 rfl) ?_
          refine ag_getX5 (v := .ref h) hx hb hG hown hK hP 0 0 rfl (by decide) k_176 rfl dX5_record_30 ?_
          refine ag_callVi (As := []) (rest := [.int p1]) hx hb hml hown hG hK hN hA hP hD hS hl (ct_X1_lastDay l D cI cC cL h h1 h2 h3 f se to re) fX1_lastDay k_224 (ag_cut_1 [oX x0 h o t1 x1 y1 z1, oH x1 x2 hf, aL cL x2 (gS s0 s1 s2 s3), oL s0 s01 s02 s03 (sf 0), aI cI s01 3 (sse 0), aI cI s02 7 (sto 0), aI cI s03 60 (sre 0), oL s1 s11 s12 s13 (sf 1), aI cI s11 3 (sse 1), aI cI s12 7 (sto 1), aI cI s13 60 (sre 1), oL s2 s21 s22 s23 (sf 2), aI cI s21 3 (sse 2), aI cI s22 7 (sto 2), aI cI s23 60 (sre 2), oL s3 s31 s32 s33 (sf 3), aI cI s31 3 (sse 3), aI cI s32 7 (sto 3), aI cI s33 60 (sre 3)] [oP z1 pf, oT y1 y2 tf, aC cC y2 60 ch, oL o o1 o2 o3 of, aI cI o1 3 ose, aI cI o2 7 oto, aI cI o3 60 ore, oK t1 kf] rfl) (q0 := 19) rfl rfl rfl rfl (Nat.le_of_ble_eq_true rfl) ⟨Nat.le_of_ble_eq_true rfl, Nat.le_of_ble_eq_true rfl⟩ ⟨Nat.zero_le _, Nat.zero_le _⟩ dX5_record_33 (fun r w1 H locs hw hP hD hS => ?_)
          obtain ⟨rfl, hw⟩ := hw
          subst hw
          have hP : va_P D vwCl [oX x0 h o t1 x1 y1 z1, oH x1 x2 hf, aL cL x2 (gS s0 s1 s2 s3), oL s0 s01 s02 s03 (sf 0), aI cI s01 3 (sse 0), aI cI s02 7 (sto 0), aI cI s03 60 (sre 0), oL s1 s11 s12 s13 (sf 1), aI cI s11 3 (sse 1), aI cI s12 7 (sto 1), aI cI s13 60 (sre 1), oL s2 s21 s22 s23 (sf 2), aI cI s21 3 (sse 2), aI cI s22 7 (sto 2), aI cI s23 60 (sre 2), oL s3 s31 s32 s33 (sf 3), aI cI s31 3 (sse 3), aI cI s32 7 (sto 3), aI cI s33 60 (sre 3), oL h h1 h2 h3 f, aI cI h1 3 se, aI cI h2 7 to, aI cI h3 60 re, oP z1 pf, oT y1 y2 tf, aC cC y2 60 ch, oL o o1 o2 o3 of, aI cI o1 3 ose, aI cI o2 7 oto, aI cI o3 60 ore, oK t1 kf] H := hP
          have hD : va_D A [oX x0 h o t1 x1 y1 z1, oH x1 x2 hf, aL cL x2 (gS s0 s1 s2 s3), oL s0 s01 s02 s03 (sf 0), aI cI s01 3 (sse 0), aI cI s02 7 (sto 0), aI cI s03 60 (sre 0), oL s1 s11 s12 s13 (sf 1), aI cI s11 3 (sse 1), aI cI s12 7 (sto 1), aI cI s13 60 (sre 1), oL s2 s21 s22 s23 (sf 2), aI cI s21 3 (sse 2), aI cI s22 7 (sto 2), aI cI s23 60 (sre 2), oL s3 s31 s32 s33 (sf 3), aI cI s31 3 (sse 3), aI cI s32 7 (sto 3), aI cI s33 60 (sre 3), oL h h1 h2 h3 f, aI cI h1 3 se, aI cI h2 7 to, aI cI h3 60 re, oP z1 pf, oT y1 y2 tf, aC cC y2 60 ch, oL o o1 o2 o3 of, aI cI o1 3 ose, aI cI o2 7 oto, aI cI o3 60 ore, oK t1 kf] := hD
          refine lv_icmp_le (tgt := 42) hx hb dX5_record_36 (by decide) (fun c_36 => ?_) (fun c_36 => ?_)
          · refine lv_aload_n hx hb dX5_record_42 rfl (lv_at hl 0 rfl) ?_
            refine ag_getX5 (v := .ref h) hx hb hG hown hK hP 0 0 rfl (by decide) k_176 rfl dX5_record_43 ?_
            refine ag_getX1 (v := .ref h3) hx hb hG hown hK hP 19 10 rfl (by decide) k_55 rfl dX5_record_46 ?_
            refine lv_iload_n hx hb dX5_record_49 rfl (lv_at hl 1 rfl) ?_
            refine ag_callSi (As := [.int p1]) (rest := [.ref h3]) hx hb hml hown hG hK hN hA hP hD hS hl (ct_X5_recordStart l D cI cC cL p1) fX5_recordStart k_412 ag_cut_0 rfl (Nat.le_of_ble_eq_true rfl) ⟨Nat.le_of_ble_eq_true rfl, Nat.le_of_ble_eq_true rfl⟩ ⟨Nat.zero_le _, Nat.zero_le _⟩ dX5_record_50 (fun r w1 H locs hw hP hD hS => ?_)
            obtain ⟨rfl, hw⟩ := hw
            subst hw
            have hP : va_P D vwCl [oX x0 h o t1 x1 y1 z1, oH x1 x2 hf, aL cL x2 (gS s0 s1 s2 s3), oL s0 s01 s02 s03 (sf 0), aI cI s01 3 (sse 0), aI cI s02 7 (sto 0), aI cI s03 60 (sre 0), oL s1 s11 s12 s13 (sf 1), aI cI s11 3 (sse 1), aI cI s12 7 (sto 1), aI cI s13 60 (sre 1), oL s2 s21 s22 s23 (sf 2), aI cI s21 3 (sse 2), aI cI s22 7 (sto 2), aI cI s23 60 (sre 2), oL s3 s31 s32 s33 (sf 3), aI cI s31 3 (sse 3), aI cI s32 7 (sto 3), aI cI s33 60 (sre 3), oL h h1 h2 h3 f, aI cI h1 3 se, aI cI h2 7 to, aI cI h3 60 re, oP z1 pf, oT y1 y2 tf, aC cC y2 60 ch, oL o o1 o2 o3 of, aI cI o1 3 ose, aI cI o2 7 oto, aI cI o3 60 ore, oK t1 kf] H := hP
            have hD : va_D A [oX x0 h o t1 x1 y1 z1, oH x1 x2 hf, aL cL x2 (gS s0 s1 s2 s3), oL s0 s01 s02 s03 (sf 0), aI cI s01 3 (sse 0), aI cI s02 7 (sto 0), aI cI s03 60 (sre 0), oL s1 s11 s12 s13 (sf 1), aI cI s11 3 (sse 1), aI cI s12 7 (sto 1), aI cI s13 60 (sre 1), oL s2 s21 s22 s23 (sf 2), aI cI s21 3 (sse 2), aI cI s22 7 (sto 2), aI cI s23 60 (sre 2), oL s3 s31 s32 s33 (sf 3), aI cI s31 3 (sse 3), aI cI s32 7 (sto 3), aI cI s33 60 (sre 3), oL h h1 h2 h3 f, aI cI h1 3 se, aI cI h2 7 to, aI cI h3 60 re, oP z1 pf, oT y1 y2 tf, aC cC y2 60 ch, oL o o1 o2 o3 of, aI cI o1 3 ose, aI cI o2 7 oto, aI cI o3 60 ore, oK t1 kf] := hD
            refine lv_iload_n hx hb dX5_record_53 rfl (lv_at hl 2 rfl) ?_
            refine lv_iadd hx hb dX5_record_54 ?_
            refine ag_ild (k := rs p1 + p2.toNatClampNeg) (v := re (rs p1 + p2.toNatClampNeg)) hx hb hK hP 22 rfl ((congrArg (· + p2) (rs_eq p1)).trans ((congrArg (nI (rs p1) + ·) (ag_ixr (n := 6) (by decide) c_5 c_11).1).trans (nI_add _ _))) (by have := rs_le p1; have := (ag_ixr (n := 6) (by decide) c_5 c_11).2; omega) (Nat.le_of_ble_eq_true rfl) rfl dX5_record_55 ?_
            exact ag_iret [x0, x1, x2, s0, s01, s02, s03, s1, s11, s12, s13, s2, s21, s22, s23, s3, s31, s32, s33, h, h1, h2, h3, z1, y1, y2, o, o1, o2, o3, t1] hx hb hr rfl hlocks hP hS rfl rfl ⟨(by unfold sr_X5_record; rw [if_neg c_1, if_neg c_5, if_pos c_11, if_neg c_25, if_pos c_36]), rfl⟩ dX5_record_56
          · refine lv_ldc (v := (-1000000004)) hx hb hown (hG _ k_411) dX5_record_39 ?_
            exact ag_iret [x0, x1, x2, s0, s01, s02, s03, s1, s11, s12, s13, s2, s21, s22, s23, s3, s31, s32, s33, h, h1, h2, h3, z1, y1, y2, o, o1, o2, o3, t1] hx hb hr rfl hlocks hP hS rfl rfl ⟨(by unfold sr_X5_record; rw [if_neg c_1, if_neg c_5, if_pos c_11, if_neg c_25, if_neg c_36]), rfl⟩ dX5_record_41
      · refine lv_ldc (v := (-1000000001)) hx hb hown (hG _ k_219) dX5_record_14 ?_
        exact ag_iret [x0, x1, x2, s0, s01, s02, s03, s1, s11, s12, s13, s2, s21, s22, s23, s3, s31, s32, s33, h, h1, h2, h3, z1, y1, y2, o, o1, o2, o3, t1] hx hb hr rfl hlocks hP hS rfl rfl ⟨(by unfold sr_X5_record; rw [if_neg c_1, if_neg c_5, if_neg c_11]), rfl⟩ dX5_record_16
def gv15_1_X5_next (f : Nat → Int32) (se : Nat → Int32) (kf : Nat → Int32) : Nat → Int32 := sw0_X4_foresee kf f se (sr_X1_head f)
def sr_X5_next (f : Nat → Int32) (se : Nat → Int32) (kf : Nat → Int32) (p1 : Int32) : Int32 := if p1 = 0 then (gv15_1_X5_next f se kf) 0 else if p1 = 1 then (gv15_1_X5_next f se kf) 1 else if p1 = 2 then (gv15_1_X5_next f se kf) 2 else if p1 = 3 then (gv15_1_X5_next f se kf) 3 else if p1 = 4 then (gv15_1_X5_next f se kf) 4 else if p1 = 5 then (gv15_1_X5_next f se kf) 5 else if p1 = 6 then (gv15_1_X5_next f se kf) 6 else (-1000000001)
def sw30_X5_next (f : Nat → Int32) (se : Nat → Int32) (kf : Nat → Int32) : Nat → Int32 := (gv15_1_X5_next f se kf)
abbrev po_X5_next (cI cC cL : ClassId) (x0 h o t1 x1 y1 z1 x2 s0 s01 s02 s03 s1 s11 s12 s13 s2 s21 s22 s23 s3 s31 s32 s33 h1 h2 h3 y2 o1 o2 o3 : Nat) (hf f se to re pf tf ch of ose oto ore kf : Nat → Int32) (p1 : Int32) (sf : Nat → Nat → Int32) (sse : Nat → Nat → Int32) (sto : Nat → Nat → Int32) (sre : Nat → Nat → Int32) : Int32 → va_W → Prop := fun r w' => sr_X5_next f se kf p1 = r ∧ [oX x0 h o t1 x1 y1 z1, oH x1 x2 hf, aL cL x2 (gS s0 s1 s2 s3), oL s0 s01 s02 s03 (sf 0), aI cI s01 3 (sse 0), aI cI s02 7 (sto 0), aI cI s03 60 (sre 0), oL s1 s11 s12 s13 (sf 1), aI cI s11 3 (sse 1), aI cI s12 7 (sto 1), aI cI s13 60 (sre 1), oL s2 s21 s22 s23 (sf 2), aI cI s21 3 (sse 2), aI cI s22 7 (sto 2), aI cI s23 60 (sre 2), oL s3 s31 s32 s33 (sf 3), aI cI s31 3 (sse 3), aI cI s32 7 (sto 3), aI cI s33 60 (sre 3), oL h h1 h2 h3 f, aI cI h1 3 se, aI cI h2 7 to, aI cI h3 60 re, oP z1 pf, oT y1 y2 tf, aC cC y2 60 ch, oL o o1 o2 o3 of, aI cI o1 3 ose, aI cI o2 7 oto, aI cI o3 60 ore, oK t1 (sw30_X5_next f se kf)] = w'
set_option maxHeartbeats 4000000 in
set_option maxRecDepth 100000 in
theorem ct_X5_next (l : Launch) (D : va_G) (cI cC cL : ClassId) (x0 h o t1 x1 y1 z1 x2 s0 s01 s02 s03 s1 s11 s12 s13 s2 s21 s22 s23 s3 s31 s32 s33 h1 h2 h3 y2 o1 o2 o3 : Nat) (hf f se to re pf tf ch of ose oto ore kf : Nat → Int32) (p1 : Int32) (sf : Nat → Nat → Int32) (sse : Nat → Nat → Int32) (sto : Nat → Nat → Int32) (sre : Nat → Nat → Int32) : ag_MI l yX5_next cX5_next 2 .int 3 63 D cI cC cL [.ref x0, .int p1] [oX x0 h o t1 x1 y1 z1, oH x1 x2 hf, aL cL x2 (gS s0 s1 s2 s3), oL s0 s01 s02 s03 (sf 0), aI cI s01 3 (sse 0), aI cI s02 7 (sto 0), aI cI s03 60 (sre 0), oL s1 s11 s12 s13 (sf 1), aI cI s11 3 (sse 1), aI cI s12 7 (sto 1), aI cI s13 60 (sre 1), oL s2 s21 s22 s23 (sf 2), aI cI s21 3 (sse 2), aI cI s22 7 (sto 2), aI cI s23 60 (sre 2), oL s3 s31 s32 s33 (sf 3), aI cI s31 3 (sse 3), aI cI s32 7 (sto 3), aI cI s33 60 (sre 3), oL h h1 h2 h3 f, aI cI h1 3 se, aI cI h2 7 to, aI cI h3 60 re, oP z1 pf, oT y1 y2 tf, aC cC y2 60 ch, oL o o1 o2 o3 of, aI cI o1 3 ose, aI cI o2 7 oto, aI cI o3 60 ore, oK t1 kf] (po_X5_next cI cC cL x0 h o t1 x1 y1 z1 x2 s0 s01 s02 s03 s1 s11 s12 s13 s2 s21 s22 s23 s3 s31 s32 s33 h1 h2 h3 y2 o1 o2 o3 hf f se to re pf tf ch of ose oto ore kf p1 sf sse sto sre) := by
  refine ag_MI.of (plainFor_of_name (by decide)) (Nat.le_of_ble_eq_true rfl) ?_
  intro p e s m below meth c hx hb hr hlocks hml hown hmn hG hK A hN hA H locs hP hD hS ls hl
  have hl : lv_has ls 2 [(0, .ref x0), (1, .int p1)] := hl
  refine lv_aload_n hx hb dX5_next_0 rfl (lv_at hl 0 rfl) ?_
  refine ag_getX5 (v := .ref t1) hx hb hG hown hK hP 0 2 rfl (by decide) k_178 rfl dX5_next_1 ?_
  refine lv_aload_n hx hb dX5_next_4 rfl (lv_at hl 0 rfl) ?_
  refine ag_getX5 (v := .ref h) hx hb hG hown hK hP 0 0 rfl (by decide) k_176 rfl dX5_next_5 ?_
  refine lv_aload_n hx hb dX5_next_8 rfl (lv_at hl 0 rfl) ?_
  refine ag_getX5 (v := .ref h) hx hb hG hown hK hP 0 0 rfl (by decide) k_176 rfl dX5_next_9 ?_
  refine ag_callVi (As := []) (rest := [.ref h, .ref t1]) hx hb hml hown hG hK hN hA hP hD hS hl (ct_X1_head l D cI cC cL h h1 h2 h3 f se to re) fX1_head k_209 (ag_cut_1 [oX x0 h o t1 x1 y1 z1, oH x1 x2 hf, aL cL x2 (gS s0 s1 s2 s3), oL s0 s01 s02 s03 (sf 0), aI cI s01 3 (sse 0), aI cI s02 7 (sto 0), aI cI s03 60 (sre 0), oL s1 s11 s12 s13 (sf 1), aI cI s11 3 (sse 1), aI cI s12 7 (sto 1), aI cI s13 60 (sre 1), oL s2 s21 s22 s23 (sf 2), aI cI s21 3 (sse 2), aI cI s22 7 (sto 2), aI cI s23 60 (sre 2), oL s3 s31 s32 s33 (sf 3), aI cI s31 3 (sse 3), aI cI s32 7 (sto 3), aI cI s33 60 (sre 3)] [oP z1 pf, oT y1 y2 tf, aC cC y2 60 ch, oL o o1 o2 o3 of, aI cI o1 3 ose, aI cI o2 7 oto, aI cI o3 60 ore, oK t1 kf] rfl) (q0 := 19) rfl rfl rfl rfl (Nat.le_of_ble_eq_true rfl) ⟨Nat.le_of_ble_eq_true rfl, Nat.le_of_ble_eq_true rfl⟩ ⟨Nat.zero_le _, Nat.zero_le _⟩ dX5_next_12 (fun r w1 H locs hw hP hD hS => ?_)
  obtain ⟨rfl, hw⟩ := hw
  subst hw
  have hP : va_P D vwCl [oX x0 h o t1 x1 y1 z1, oH x1 x2 hf, aL cL x2 (gS s0 s1 s2 s3), oL s0 s01 s02 s03 (sf 0), aI cI s01 3 (sse 0), aI cI s02 7 (sto 0), aI cI s03 60 (sre 0), oL s1 s11 s12 s13 (sf 1), aI cI s11 3 (sse 1), aI cI s12 7 (sto 1), aI cI s13 60 (sre 1), oL s2 s21 s22 s23 (sf 2), aI cI s21 3 (sse 2), aI cI s22 7 (sto 2), aI cI s23 60 (sre 2), oL s3 s31 s32 s33 (sf 3), aI cI s31 3 (sse 3), aI cI s32 7 (sto 3), aI cI s33 60 (sre 3), oL h h1 h2 h3 f, aI cI h1 3 se, aI cI h2 7 to, aI cI h3 60 re, oP z1 pf, oT y1 y2 tf, aC cC y2 60 ch, oL o o1 o2 o3 of, aI cI o1 3 ose, aI cI o2 7 oto, aI cI o3 60 ore, oK t1 kf] H := hP
  have hD : va_D A [oX x0 h o t1 x1 y1 z1, oH x1 x2 hf, aL cL x2 (gS s0 s1 s2 s3), oL s0 s01 s02 s03 (sf 0), aI cI s01 3 (sse 0), aI cI s02 7 (sto 0), aI cI s03 60 (sre 0), oL s1 s11 s12 s13 (sf 1), aI cI s11 3 (sse 1), aI cI s12 7 (sto 1), aI cI s13 60 (sre 1), oL s2 s21 s22 s23 (sf 2), aI cI s21 3 (sse 2), aI cI s22 7 (sto 2), aI cI s23 60 (sre 2), oL s3 s31 s32 s33 (sf 3), aI cI s31 3 (sse 3), aI cI s32 7 (sto 3), aI cI s33 60 (sre 3), oL h h1 h2 h3 f, aI cI h1 3 se, aI cI h2 7 to, aI cI h3 60 re, oP z1 pf, oT y1 y2 tf, aC cC y2 60 ch, oL o o1 o2 o3 of, aI cI o1 3 ose, aI cI o2 7 oto, aI cI o3 60 ore, oK t1 kf] := hD
  refine ag_callVv (As := [.ref h, .int (sr_X1_head f)]) (rest := []) hx hb hml hown hG hK hN hA hP hD hS hl (ct_X4_foresee l D cI cC cL t1 h h1 h2 h3 kf f se to re (sr_X1_head f)) fX4_foresee k_423 (ag_cut_2s 1 [oX x0 h o t1 x1 y1 z1, oH x1 x2 hf, aL cL x2 (gS s0 s1 s2 s3), oL s0 s01 s02 s03 (sf 0), aI cI s01 3 (sse 0), aI cI s02 7 (sto 0), aI cI s03 60 (sre 0), oL s1 s11 s12 s13 (sf 1), aI cI s11 3 (sse 1), aI cI s12 7 (sto 1), aI cI s13 60 (sre 1), oL s2 s21 s22 s23 (sf 2), aI cI s21 3 (sse 2), aI cI s22 7 (sto 2), aI cI s23 60 (sre 2), oL s3 s31 s32 s33 (sf 3), aI cI s31 3 (sse 3), aI cI s32 7 (sto 3), aI cI s33 60 (sre 3)] [oK t1 kf] [oP z1 pf, oT y1 y2 tf, aC cC y2 60 ch, oL o o1 o2 o3 of, aI cI o1 3 ose, aI cI o2 7 oto, aI cI o3 60 ore] [oL h h1 h2 h3 f, aI cI h1 3 se, aI cI h2 7 to, aI cI h3 60 re] [] rfl rfl rfl) (q0 := 30) rfl rfl rfl rfl (Nat.le_of_ble_eq_true rfl) ⟨Nat.le_of_ble_eq_true rfl, Nat.le_of_ble_eq_true rfl⟩ ⟨Nat.zero_le _, Nat.zero_le _⟩ dX5_next_15 (fun w1 H locs hw hP hD hS => ?_)
  have hw : _ = w1 := hw
  generalize eg15_1 : sw0_X4_foresee kf f se (sr_X1_head f) = g15_1 at hw
  replace eg15_1 : gv15_1_X5_next f se kf = g15_1 := (by rw [← eg15_1]; rfl)
  subst hw
  have hP : va_P D vwCl [oX x0 h o t1 x1 y1 z1, oH x1 x2 hf, aL cL x2 (gS s0 s1 s2 s3), oL s0 s01 s02 s03 (sf 0), aI cI s01 3 (sse 0), aI cI s02 7 (sto 0), aI cI s03 60 (sre 0), oL s1 s11 s12 s13 (sf 1), aI cI s11 3 (sse 1), aI cI s12 7 (sto 1), aI cI s13 60 (sre 1), oL s2 s21 s22 s23 (sf 2), aI cI s21 3 (sse 2), aI cI s22 7 (sto 2), aI cI s23 60 (sre 2), oL s3 s31 s32 s33 (sf 3), aI cI s31 3 (sse 3), aI cI s32 7 (sto 3), aI cI s33 60 (sre 3), oL h h1 h2 h3 f, aI cI h1 3 se, aI cI h2 7 to, aI cI h3 60 re, oP z1 pf, oT y1 y2 tf, aC cC y2 60 ch, oL o o1 o2 o3 of, aI cI o1 3 ose, aI cI o2 7 oto, aI cI o3 60 ore, oK t1 g15_1] H := hP
  have hD : va_D A [oX x0 h o t1 x1 y1 z1, oH x1 x2 hf, aL cL x2 (gS s0 s1 s2 s3), oL s0 s01 s02 s03 (sf 0), aI cI s01 3 (sse 0), aI cI s02 7 (sto 0), aI cI s03 60 (sre 0), oL s1 s11 s12 s13 (sf 1), aI cI s11 3 (sse 1), aI cI s12 7 (sto 1), aI cI s13 60 (sre 1), oL s2 s21 s22 s23 (sf 2), aI cI s21 3 (sse 2), aI cI s22 7 (sto 2), aI cI s23 60 (sre 2), oL s3 s31 s32 s33 (sf 3), aI cI s31 3 (sse 3), aI cI s32 7 (sto 3), aI cI s33 60 (sre 3), oL h h1 h2 h3 f, aI cI h1 3 se, aI cI h2 7 to, aI cI h3 60 re, oP z1 pf, oT y1 y2 tf, aC cC y2 60 ch, oL o o1 o2 o3 of, aI cI o1 3 ose, aI cI o2 7 oto, aI cI o3 60 ore, oK t1 g15_1] := hD
  refine lv_iload_n hx hb dX5_next_18 rfl (lv_at hl 1 rfl) ?_
  by_cases c_19_0 : p1 = 0
  · refine lv_tableIn (off := 41) (tgt := 60) hx hb dX5_next_19 (by rw [c_19_0]; decide) (by rw [c_19_0]; decide) (by rw [c_19_0]; rfl) (by decide) ?_
    refine lv_aload_n hx hb dX5_next_60 rfl (lv_at hl 0 rfl) ?_
    refine ag_getX5 (v := .ref t1) hx hb hG hown hK hP 0 2 rfl (by decide) k_178 rfl dX5_next_61 ?_
    refine ag_getX4 (v := .int (g15_1 0)) hx hb hG hown hK hP 30 0 rfl (by decide) k_87 rfl dX5_next_64 ?_
    revert hP; revert hD; revert hS; revert hl
    subst eg15_1
    intro hl hS hD hP
    exact ag_iret [x0, x1, x2, s0, s01, s02, s03, s1, s11, s12, s13, s2, s21, s22, s23, s3, s31, s32, s33, h, h1, h2, h3, z1, y1, y2, o, o1, o2, o3, t1] hx hb hr rfl hlocks hP hS rfl rfl ⟨(by unfold sr_X5_next; rw [if_pos c_19_0]), (by show _ = _; rw [show sw30_X5_next f se kf = (gv15_1_X5_next f se kf) from rfl])⟩ dX5_next_67
  · by_cases c_19_1 : p1 = 1
    · refine lv_tableIn (off := 49) (tgt := 68) hx hb dX5_next_19 (by rw [c_19_1]; decide) (by rw [c_19_1]; decide) (by rw [c_19_1]; rfl) (by decide) ?_
      refine lv_aload_n hx hb dX5_next_68 rfl (lv_at hl 0 rfl) ?_
      refine ag_getX5 (v := .ref t1) hx hb hG hown hK hP 0 2 rfl (by decide) k_178 rfl dX5_next_69 ?_
      refine ag_getX4 (v := .int (g15_1 1)) hx hb hG hown hK hP 30 1 rfl (by decide) k_89 rfl dX5_next_72 ?_
      revert hP; revert hD; revert hS; revert hl
      subst eg15_1
      intro hl hS hD hP
      exact ag_iret [x0, x1, x2, s0, s01, s02, s03, s1, s11, s12, s13, s2, s21, s22, s23, s3, s31, s32, s33, h, h1, h2, h3, z1, y1, y2, o, o1, o2, o3, t1] hx hb hr rfl hlocks hP hS rfl rfl ⟨(by unfold sr_X5_next; rw [if_neg c_19_0, if_pos c_19_1]), (by show _ = _; rw [show sw30_X5_next f se kf = (gv15_1_X5_next f se kf) from rfl])⟩ dX5_next_75
    · by_cases c_19_2 : p1 = 2
      · refine lv_tableIn (off := 57) (tgt := 76) hx hb dX5_next_19 (by rw [c_19_2]; decide) (by rw [c_19_2]; decide) (by rw [c_19_2]; rfl) (by decide) ?_
        refine lv_aload_n hx hb dX5_next_76 rfl (lv_at hl 0 rfl) ?_
        refine ag_getX5 (v := .ref t1) hx hb hG hown hK hP 0 2 rfl (by decide) k_178 rfl dX5_next_77 ?_
        refine ag_getX4 (v := .int (g15_1 2)) hx hb hG hown hK hP 30 2 rfl (by decide) k_91 rfl dX5_next_80 ?_
        revert hP; revert hD; revert hS; revert hl
        subst eg15_1
        intro hl hS hD hP
        exact ag_iret [x0, x1, x2, s0, s01, s02, s03, s1, s11, s12, s13, s2, s21, s22, s23, s3, s31, s32, s33, h, h1, h2, h3, z1, y1, y2, o, o1, o2, o3, t1] hx hb hr rfl hlocks hP hS rfl rfl ⟨(by unfold sr_X5_next; rw [if_neg c_19_0, if_neg c_19_1, if_pos c_19_2]), (by show _ = _; rw [show sw30_X5_next f se kf = (gv15_1_X5_next f se kf) from rfl])⟩ dX5_next_83
      · by_cases c_19_3 : p1 = 3
        · refine lv_tableIn (off := 65) (tgt := 84) hx hb dX5_next_19 (by rw [c_19_3]; decide) (by rw [c_19_3]; decide) (by rw [c_19_3]; rfl) (by decide) ?_
          refine lv_aload_n hx hb dX5_next_84 rfl (lv_at hl 0 rfl) ?_
          refine ag_getX5 (v := .ref t1) hx hb hG hown hK hP 0 2 rfl (by decide) k_178 rfl dX5_next_85 ?_
          refine ag_getX4 (v := .int (g15_1 3)) hx hb hG hown hK hP 30 3 rfl (by decide) k_93 rfl dX5_next_88 ?_
          revert hP; revert hD; revert hS; revert hl
          subst eg15_1
          intro hl hS hD hP
          exact ag_iret [x0, x1, x2, s0, s01, s02, s03, s1, s11, s12, s13, s2, s21, s22, s23, s3, s31, s32, s33, h, h1, h2, h3, z1, y1, y2, o, o1, o2, o3, t1] hx hb hr rfl hlocks hP hS rfl rfl ⟨(by unfold sr_X5_next; rw [if_neg c_19_0, if_neg c_19_1, if_neg c_19_2, if_pos c_19_3]), (by show _ = _; rw [show sw30_X5_next f se kf = (gv15_1_X5_next f se kf) from rfl])⟩ dX5_next_91
        · by_cases c_19_4 : p1 = 4
          · refine lv_tableIn (off := 73) (tgt := 92) hx hb dX5_next_19 (by rw [c_19_4]; decide) (by rw [c_19_4]; decide) (by rw [c_19_4]; rfl) (by decide) ?_
            refine lv_aload_n hx hb dX5_next_92 rfl (lv_at hl 0 rfl) ?_
            refine ag_getX5 (v := .ref t1) hx hb hG hown hK hP 0 2 rfl (by decide) k_178 rfl dX5_next_93 ?_
            refine ag_getX4 (v := .int (g15_1 4)) hx hb hG hown hK hP 30 4 rfl (by decide) k_96 rfl dX5_next_96 ?_
            revert hP; revert hD; revert hS; revert hl
            subst eg15_1
            intro hl hS hD hP
            exact ag_iret [x0, x1, x2, s0, s01, s02, s03, s1, s11, s12, s13, s2, s21, s22, s23, s3, s31, s32, s33, h, h1, h2, h3, z1, y1, y2, o, o1, o2, o3, t1] hx hb hr rfl hlocks hP hS rfl rfl ⟨(by unfold sr_X5_next; rw [if_neg c_19_0, if_neg c_19_1, if_neg c_19_2, if_neg c_19_3, if_pos c_19_4]), (by show _ = _; rw [show sw30_X5_next f se kf = (gv15_1_X5_next f se kf) from rfl])⟩ dX5_next_99
          · by_cases c_19_5 : p1 = 5
            · refine lv_tableIn (off := 81) (tgt := 100) hx hb dX5_next_19 (by rw [c_19_5]; decide) (by rw [c_19_5]; decide) (by rw [c_19_5]; rfl) (by decide) ?_
              refine lv_aload_n hx hb dX5_next_100 rfl (lv_at hl 0 rfl) ?_
              refine ag_getX5 (v := .ref t1) hx hb hG hown hK hP 0 2 rfl (by decide) k_178 rfl dX5_next_101 ?_
              refine ag_getX4 (v := .int (g15_1 5)) hx hb hG hown hK hP 30 5 rfl (by decide) k_99 rfl dX5_next_104 ?_
              revert hP; revert hD; revert hS; revert hl
              subst eg15_1
              intro hl hS hD hP
              exact ag_iret [x0, x1, x2, s0, s01, s02, s03, s1, s11, s12, s13, s2, s21, s22, s23, s3, s31, s32, s33, h, h1, h2, h3, z1, y1, y2, o, o1, o2, o3, t1] hx hb hr rfl hlocks hP hS rfl rfl ⟨(by unfold sr_X5_next; rw [if_neg c_19_0, if_neg c_19_1, if_neg c_19_2, if_neg c_19_3, if_neg c_19_4, if_pos c_19_5]), (by show _ = _; rw [show sw30_X5_next f se kf = (gv15_1_X5_next f se kf) from rfl])⟩ dX5_next_107
            · by_cases c_19_6 : p1 = 6
              · refine lv_tableIn (off := 89) (tgt := 108) hx hb dX5_next_19 (by rw [c_19_6]; decide) (by rw [c_19_6]; decide) (by rw [c_19_6]; rfl) (by decide) ?_
                refine lv_aload_n hx hb dX5_next_108 rfl (lv_at hl 0 rfl) ?_
                refine ag_getX5 (v := .ref t1) hx hb hG hown hK hP 0 2 rfl (by decide) k_178 rfl dX5_next_109 ?_
                refine ag_getX4 (v := .int (g15_1 6)) hx hb hG hown hK hP 30 6 rfl (by decide) k_102 rfl dX5_next_112 ?_
                revert hP; revert hD; revert hS; revert hl
                subst eg15_1
                intro hl hS hD hP
                exact ag_iret [x0, x1, x2, s0, s01, s02, s03, s1, s11, s12, s13, s2, s21, s22, s23, s3, s31, s32, s33, h, h1, h2, h3, z1, y1, y2, o, o1, o2, o3, t1] hx hb hr rfl hlocks hP hS rfl rfl ⟨(by unfold sr_X5_next; rw [if_neg c_19_0, if_neg c_19_1, if_neg c_19_2, if_neg c_19_3, if_neg c_19_4, if_neg c_19_5, if_pos c_19_6]), (by show _ = _; rw [show sw30_X5_next f se kf = (gv15_1_X5_next f se kf) from rfl])⟩ dX5_next_115
              · refine lv_tableOut (tgt := 116) hx hb dX5_next_19 (by have h0 := lv_neT c_19_0 (a := 0) rfl; have h1 := lv_neT c_19_1 (a := 1) rfl; have h2 := lv_neT c_19_2 (a := 2) rfl; have h3 := lv_neT c_19_3 (a := 3) rfl; have h4 := lv_neT c_19_4 (a := 4) rfl; have h5 := lv_neT c_19_5 (a := 5) rfl; have h6 := lv_neT c_19_6 (a := 6) rfl; omega) (by decide) ?_
                refine lv_ldc (v := (-1000000001)) hx hb hown (hG _ k_219) dX5_next_116 ?_
                revert hP; revert hD; revert hS; revert hl
                subst eg15_1
                intro hl hS hD hP
                exact ag_iret [x0, x1, x2, s0, s01, s02, s03, s1, s11, s12, s13, s2, s21, s22, s23, s3, s31, s32, s33, h, h1, h2, h3, z1, y1, y2, o, o1, o2, o3, t1] hx hb hr rfl hlocks hP hS rfl rfl ⟨(by unfold sr_X5_next; rw [if_neg c_19_0, if_neg c_19_1, if_neg c_19_2, if_neg c_19_3, if_neg c_19_4, if_neg c_19_5, if_neg c_19_6]), (by show _ = _; rw [show sw30_X5_next f se kf = (gv15_1_X5_next f se kf) from rfl])⟩ dX5_next_118
theorem ag_cnt {x : Int32} (h0 : ¬ x < 20) (h1 : ¬ 23 ≤ x) : x - 20 = nI (x - 20).toNatClampNeg ∧ (x - 20).toNatClampNeg < 3 := by
  rw [Int32.lt_iff_toInt_lt, show (20 : Int32).toInt = 20 from rfl] at h0
  rw [Int32.le_iff_toInt_le, show (23 : Int32).toInt = 23 from rfl] at h1
  have e : (x - 20).toInt = x.toInt - 20 := by
    rw [Int32.toInt_sub, show (20 : Int32).toInt = 20 from rfl, ag_bm (by omega) (by omega)]
  have h2 : x - 20 = nI (x.toInt - 20).toNat := ag_ofT (by rw [e]; omega) (by omega)
  rw [h2, nI_clamp (by omega)]
  exact ⟨rfl, by omega⟩
theorem ag_i2c {x : Int32} (h0 : ¬ x < 32) (h1 : x ≤ 126) : (x.toUInt32 % 65536).toInt32 = x ∧ vp_nar .char x = x ∧ ∃ q : Nat, q < 128 ∧ x = nI q := by
  rw [Int32.lt_iff_toInt_lt, show (32 : Int32).toInt = 32 from rfl] at h0
  rw [Int32.le_iff_toInt_le, show (126 : Int32).toInt = 126 from rfl] at h1
  have h2 : x = nI x.toInt.toNat := ag_ofT (by omega) (by omega)
  have hq : x.toInt.toNat < 128 := by omega
  refine ⟨?_, ?_, x.toInt.toNat, hq, h2⟩
  · rw [pk_char]
    have h3 : x.toBitVec.toNat = x.toInt.toNat := by
      have := pk_tn (n := x.toInt.toNat) (by omega)
      rw [← h2] at this
      exact this
    rw [h3, Nat.mod_eq_of_lt (by omega)]
    exact h2.symm
  · have := (pk_charN (q := x.toInt.toNat) (by omega)).1
    rw [← h2] at this
    unfold vp_nar
    rw [this]
def sr_X5_count (hf : Nat → Int32) (f : Nat → Int32) (se : Nat → Int32) (to : Nat → Int32) (tf : Nat → Int32) (p1 : Int32) : Int32 := if p1 < 0 then if p1 < 20 then if p1 = 7 then ((sr_X1_lastDay f) - (sr_X1_firstDay f)) + 1 else if p1 = 8 then hf 1 else if p1 = 9 then tf 0 else (-1000000001) else if 23 ≤ p1 then if p1 = 7 then ((sr_X1_lastDay f) - (sr_X1_firstDay f)) + 1 else if p1 = 8 then hf 1 else if p1 = 9 then tf 0 else (-1000000001) else se ((p1 - 20).toNatClampNeg) else if 7 ≤ p1 then if p1 < 20 then if p1 = 7 then ((sr_X1_lastDay f) - (sr_X1_firstDay f)) + 1 else if p1 = 8 then hf 1 else if p1 = 9 then tf 0 else (-1000000001) else if 23 ≤ p1 then if p1 = 7 then ((sr_X1_lastDay f) - (sr_X1_firstDay f)) + 1 else if p1 = 8 then hf 1 else if p1 = 9 then tf 0 else (-1000000001) else se ((p1 - 20).toNatClampNeg) else to p1.toNatClampNeg
abbrev po_X5_count (cI cC cL : ClassId) (x0 h o t1 x1 y1 z1 x2 s0 s01 s02 s03 s1 s11 s12 s13 s2 s21 s22 s23 s3 s31 s32 s33 h1 h2 h3 y2 o1 o2 o3 : Nat) (hf f se to re pf tf ch of ose oto ore kf : Nat → Int32) (p1 : Int32) (sf : Nat → Nat → Int32) (sse : Nat → Nat → Int32) (sto : Nat → Nat → Int32) (sre : Nat → Nat → Int32) : Int32 → va_W → Prop := fun r w' => sr_X5_count hf f se to tf p1 = r ∧ [oX x0 h o t1 x1 y1 z1, oH x1 x2 hf, aL cL x2 (gS s0 s1 s2 s3), oL s0 s01 s02 s03 (sf 0), aI cI s01 3 (sse 0), aI cI s02 7 (sto 0), aI cI s03 60 (sre 0), oL s1 s11 s12 s13 (sf 1), aI cI s11 3 (sse 1), aI cI s12 7 (sto 1), aI cI s13 60 (sre 1), oL s2 s21 s22 s23 (sf 2), aI cI s21 3 (sse 2), aI cI s22 7 (sto 2), aI cI s23 60 (sre 2), oL s3 s31 s32 s33 (sf 3), aI cI s31 3 (sse 3), aI cI s32 7 (sto 3), aI cI s33 60 (sre 3), oL h h1 h2 h3 f, aI cI h1 3 se, aI cI h2 7 to, aI cI h3 60 re, oP z1 pf, oT y1 y2 tf, aC cC y2 60 ch, oL o o1 o2 o3 of, aI cI o1 3 ose, aI cI o2 7 oto, aI cI o3 60 ore, oK t1 kf] = w'
set_option maxHeartbeats 4000000 in
set_option maxRecDepth 100000 in
theorem ct_X5_count (l : Launch) (D : va_G) (cI cC cL : ClassId) (x0 h o t1 x1 y1 z1 x2 s0 s01 s02 s03 s1 s11 s12 s13 s2 s21 s22 s23 s3 s31 s32 s33 h1 h2 h3 y2 o1 o2 o3 : Nat) (hf f se to re pf tf ch of ose oto ore kf : Nat → Int32) (p1 : Int32) (sf : Nat → Nat → Int32) (sse : Nat → Nat → Int32) (sto : Nat → Nat → Int32) (sre : Nat → Nat → Int32) : ag_MI l yX5_count cX5_count 2 .int 3 62 D cI cC cL [.ref x0, .int p1] [oX x0 h o t1 x1 y1 z1, oH x1 x2 hf, aL cL x2 (gS s0 s1 s2 s3), oL s0 s01 s02 s03 (sf 0), aI cI s01 3 (sse 0), aI cI s02 7 (sto 0), aI cI s03 60 (sre 0), oL s1 s11 s12 s13 (sf 1), aI cI s11 3 (sse 1), aI cI s12 7 (sto 1), aI cI s13 60 (sre 1), oL s2 s21 s22 s23 (sf 2), aI cI s21 3 (sse 2), aI cI s22 7 (sto 2), aI cI s23 60 (sre 2), oL s3 s31 s32 s33 (sf 3), aI cI s31 3 (sse 3), aI cI s32 7 (sto 3), aI cI s33 60 (sre 3), oL h h1 h2 h3 f, aI cI h1 3 se, aI cI h2 7 to, aI cI h3 60 re, oP z1 pf, oT y1 y2 tf, aC cC y2 60 ch, oL o o1 o2 o3 of, aI cI o1 3 ose, aI cI o2 7 oto, aI cI o3 60 ore, oK t1 kf] (po_X5_count cI cC cL x0 h o t1 x1 y1 z1 x2 s0 s01 s02 s03 s1 s11 s12 s13 s2 s21 s22 s23 s3 s31 s32 s33 h1 h2 h3 y2 o1 o2 o3 hf f se to re pf tf ch of ose oto ore kf p1 sf sse sto sre) := by
  refine ag_MI.of (plainFor_of_name (by decide)) (Nat.le_of_ble_eq_true rfl) ?_
  intro p e s m below meth c hx hb hr hlocks hml hown hmn hG hK A hN hA H locs hP hD hS ls hl
  have hl : lv_has ls 2 [(0, .ref x0), (1, .int p1)] := hl
  refine lv_iload_n hx hb dX5_count_0 rfl (lv_at hl 1 rfl) ?_
  refine lv_if_lt (tgt := 20) hx hb dX5_count_1 (by decide) (fun c_1 => ?_) (fun c_1 => ?_)
  · refine lv_iload_n hx hb dX5_count_20 rfl (lv_at hl 1 rfl) ?_
    refine lv_bipush (v := 20) hx hb dX5_count_21 (by decide) ?_
    refine lv_icmp_lt (tgt := 45) hx hb dX5_count_23 (by decide) (fun c_23 => ?_) (fun c_23 => ?_)
    · refine lv_iload_n hx hb dX5_count_45 rfl (lv_at hl 1 rfl) ?_
      by_cases c_46_7 : p1 = 7
      · refine lv_tableIn (off := 26) (tgt := 72) hx hb dX5_count_46 (by rw [c_46_7]; decide) (by rw [c_46_7]; decide) (by rw [c_46_7]; rfl) (by decide) ?_
        refine lv_aload_n hx hb dX5_count_72 rfl (lv_at hl 0 rfl) ?_
        refine ag_getX5 (v := .ref h) hx hb hG hown hK hP 0 0 rfl (by decide) k_176 rfl dX5_count_73 ?_
        refine ag_callVi (As := []) (rest := []) hx hb hml hown hG hK hN hA hP hD hS hl (ct_X1_lastDay l D cI cC cL h h1 h2 h3 f se to re) fX1_lastDay k_224 (ag_cut_1 [oX x0 h o t1 x1 y1 z1, oH x1 x2 hf, aL cL x2 (gS s0 s1 s2 s3), oL s0 s01 s02 s03 (sf 0), aI cI s01 3 (sse 0), aI cI s02 7 (sto 0), aI cI s03 60 (sre 0), oL s1 s11 s12 s13 (sf 1), aI cI s11 3 (sse 1), aI cI s12 7 (sto 1), aI cI s13 60 (sre 1), oL s2 s21 s22 s23 (sf 2), aI cI s21 3 (sse 2), aI cI s22 7 (sto 2), aI cI s23 60 (sre 2), oL s3 s31 s32 s33 (sf 3), aI cI s31 3 (sse 3), aI cI s32 7 (sto 3), aI cI s33 60 (sre 3)] [oP z1 pf, oT y1 y2 tf, aC cC y2 60 ch, oL o o1 o2 o3 of, aI cI o1 3 ose, aI cI o2 7 oto, aI cI o3 60 ore, oK t1 kf] rfl) (q0 := 19) rfl rfl rfl rfl (Nat.le_of_ble_eq_true rfl) ⟨Nat.le_of_ble_eq_true rfl, Nat.le_of_ble_eq_true rfl⟩ ⟨Nat.zero_le _, Nat.zero_le _⟩ dX5_count_76 (fun r w1 H locs hw hP hD hS => ?_)
        obtain ⟨rfl, hw⟩ := hw
        subst hw
        have hP : va_P D vwCl [oX x0 h o t1 x1 y1 z1, oH x1 x2 hf, aL cL x2 (gS s0 s1 s2 s3), oL s0 s01 s02 s03 (sf 0), aI cI s01 3 (sse 0), aI cI s02 7 (sto 0), aI cI s03 60 (sre 0), oL s1 s11 s12 s13 (sf 1), aI cI s11 3 (sse 1), aI cI s12 7 (sto 1), aI cI s13 60 (sre 1), oL s2 s21 s22 s23 (sf 2), aI cI s21 3 (sse 2), aI cI s22 7 (sto 2), aI cI s23 60 (sre 2), oL s3 s31 s32 s33 (sf 3), aI cI s31 3 (sse 3), aI cI s32 7 (sto 3), aI cI s33 60 (sre 3), oL h h1 h2 h3 f, aI cI h1 3 se, aI cI h2 7 to, aI cI h3 60 re, oP z1 pf, oT y1 y2 tf, aC cC y2 60 ch, oL o o1 o2 o3 of, aI cI o1 3 ose, aI cI o2 7 oto, aI cI o3 60 ore, oK t1 kf] H := hP
        have hD : va_D A [oX x0 h o t1 x1 y1 z1, oH x1 x2 hf, aL cL x2 (gS s0 s1 s2 s3), oL s0 s01 s02 s03 (sf 0), aI cI s01 3 (sse 0), aI cI s02 7 (sto 0), aI cI s03 60 (sre 0), oL s1 s11 s12 s13 (sf 1), aI cI s11 3 (sse 1), aI cI s12 7 (sto 1), aI cI s13 60 (sre 1), oL s2 s21 s22 s23 (sf 2), aI cI s21 3 (sse 2), aI cI s22 7 (sto 2), aI cI s23 60 (sre 2), oL s3 s31 s32 s33 (sf 3), aI cI s31 3 (sse 3), aI cI s32 7 (sto 3), aI cI s33 60 (sre 3), oL h h1 h2 h3 f, aI cI h1 3 se, aI cI h2 7 to, aI cI h3 60 re, oP z1 pf, oT y1 y2 tf, aC cC y2 60 ch, oL o o1 o2 o3 of, aI cI o1 3 ose, aI cI o2 7 oto, aI cI o3 60 ore, oK t1 kf] := hD
        refine lv_aload_n hx hb dX5_count_79 rfl (lv_at hl 0 rfl) ?_
        refine ag_getX5 (v := .ref h) hx hb hG hown hK hP 0 0 rfl (by decide) k_176 rfl dX5_count_80 ?_
        refine ag_callVi (As := []) (rest := [.int (sr_X1_lastDay f)]) hx hb hml hown hG hK hN hA hP hD hS hl (ct_X1_firstDay l D cI cC cL h h1 h2 h3 f se to re) fX1_firstDay k_231 (ag_cut_1 [oX x0 h o t1 x1 y1 z1, oH x1 x2 hf, aL cL x2 (gS s0 s1 s2 s3), oL s0 s01 s02 s03 (sf 0), aI cI s01 3 (sse 0), aI cI s02 7 (sto 0), aI cI s03 60 (sre 0), oL s1 s11 s12 s13 (sf 1), aI cI s11 3 (sse 1), aI cI s12 7 (sto 1), aI cI s13 60 (sre 1), oL s2 s21 s22 s23 (sf 2), aI cI s21 3 (sse 2), aI cI s22 7 (sto 2), aI cI s23 60 (sre 2), oL s3 s31 s32 s33 (sf 3), aI cI s31 3 (sse 3), aI cI s32 7 (sto 3), aI cI s33 60 (sre 3)] [oP z1 pf, oT y1 y2 tf, aC cC y2 60 ch, oL o o1 o2 o3 of, aI cI o1 3 ose, aI cI o2 7 oto, aI cI o3 60 ore, oK t1 kf] rfl) (q0 := 19) rfl rfl rfl rfl (Nat.le_of_ble_eq_true rfl) ⟨Nat.le_of_ble_eq_true rfl, Nat.le_of_ble_eq_true rfl⟩ ⟨Nat.zero_le _, Nat.zero_le _⟩ dX5_count_83 (fun r w1 H locs hw hP hD hS => ?_)
        obtain ⟨rfl, hw⟩ := hw
        subst hw
        have hP : va_P D vwCl [oX x0 h o t1 x1 y1 z1, oH x1 x2 hf, aL cL x2 (gS s0 s1 s2 s3), oL s0 s01 s02 s03 (sf 0), aI cI s01 3 (sse 0), aI cI s02 7 (sto 0), aI cI s03 60 (sre 0), oL s1 s11 s12 s13 (sf 1), aI cI s11 3 (sse 1), aI cI s12 7 (sto 1), aI cI s13 60 (sre 1), oL s2 s21 s22 s23 (sf 2), aI cI s21 3 (sse 2), aI cI s22 7 (sto 2), aI cI s23 60 (sre 2), oL s3 s31 s32 s33 (sf 3), aI cI s31 3 (sse 3), aI cI s32 7 (sto 3), aI cI s33 60 (sre 3), oL h h1 h2 h3 f, aI cI h1 3 se, aI cI h2 7 to, aI cI h3 60 re, oP z1 pf, oT y1 y2 tf, aC cC y2 60 ch, oL o o1 o2 o3 of, aI cI o1 3 ose, aI cI o2 7 oto, aI cI o3 60 ore, oK t1 kf] H := hP
        have hD : va_D A [oX x0 h o t1 x1 y1 z1, oH x1 x2 hf, aL cL x2 (gS s0 s1 s2 s3), oL s0 s01 s02 s03 (sf 0), aI cI s01 3 (sse 0), aI cI s02 7 (sto 0), aI cI s03 60 (sre 0), oL s1 s11 s12 s13 (sf 1), aI cI s11 3 (sse 1), aI cI s12 7 (sto 1), aI cI s13 60 (sre 1), oL s2 s21 s22 s23 (sf 2), aI cI s21 3 (sse 2), aI cI s22 7 (sto 2), aI cI s23 60 (sre 2), oL s3 s31 s32 s33 (sf 3), aI cI s31 3 (sse 3), aI cI s32 7 (sto 3), aI cI s33 60 (sre 3), oL h h1 h2 h3 f, aI cI h1 3 se, aI cI h2 7 to, aI cI h3 60 re, oP z1 pf, oT y1 y2 tf, aC cC y2 60 ch, oL o o1 o2 o3 of, aI cI o1 3 ose, aI cI o2 7 oto, aI cI o3 60 ore, oK t1 kf] := hD
        refine lv_isub hx hb dX5_count_86 ?_
        refine lv_iconst (v := 1) hx hb dX5_count_87 (by decide) ?_
        refine lv_iadd hx hb dX5_count_88 ?_
        exact ag_iret [x0, x1, x2, s0, s01, s02, s03, s1, s11, s12, s13, s2, s21, s22, s23, s3, s31, s32, s33, h, h1, h2, h3, z1, y1, y2, o, o1, o2, o3, t1] hx hb hr rfl hlocks hP hS rfl rfl ⟨(by unfold sr_X5_count; rw [if_pos c_1, if_pos c_23, if_pos c_46_7]), rfl⟩ dX5_count_89
      · by_cases c_46_8 : p1 = 8
        · refine lv_tableIn (off := 44) (tgt := 90) hx hb dX5_count_46 (by rw [c_46_8]; decide) (by rw [c_46_8]; decide) (by rw [c_46_8]; rfl) (by decide) ?_
          refine lv_aload_n hx hb dX5_count_90 rfl (lv_at hl 0 rfl) ?_
          refine ag_getX5 (v := .ref x1) hx hb hG hown hK hP 0 3 rfl (by decide) k_179 rfl dX5_count_91 ?_
          refine ag_getX0 (v := .int (hf 1)) hx hb hG hown hK hP 1 2 rfl (by decide) k_131 rfl dX5_count_94 ?_
          exact ag_iret [x0, x1, x2, s0, s01, s02, s03, s1, s11, s12, s13, s2, s21, s22, s23, s3, s31, s32, s33, h, h1, h2, h3, z1, y1, y2, o, o1, o2, o3, t1] hx hb hr rfl hlocks hP hS rfl rfl ⟨(by unfold sr_X5_count; rw [if_pos c_1, if_pos c_23, if_neg c_46_7, if_pos c_46_8]), rfl⟩ dX5_count_97
        · by_cases c_46_9 : p1 = 9
          · refine lv_tableIn (off := 52) (tgt := 98) hx hb dX5_count_46 (by rw [c_46_9]; decide) (by rw [c_46_9]; decide) (by rw [c_46_9]; rfl) (by decide) ?_
            refine lv_aload_n hx hb dX5_count_98 rfl (lv_at hl 0 rfl) ?_
            refine ag_getX5 (v := .ref y1) hx hb hG hown hK hP 0 4 rfl (by decide) k_180 rfl dX5_count_99 ?_
            refine ag_getX3 (v := .int (tf 0)) hx hb hG hown hK hP 24 1 rfl (by decide) k_146 rfl dX5_count_102 ?_
            exact ag_iret [x0, x1, x2, s0, s01, s02, s03, s1, s11, s12, s13, s2, s21, s22, s23, s3, s31, s32, s33, h, h1, h2, h3, z1, y1, y2, o, o1, o2, o3, t1] hx hb hr rfl hlocks hP hS rfl rfl ⟨(by unfold sr_X5_count; rw [if_pos c_1, if_pos c_23, if_neg c_46_7, if_neg c_46_8, if_pos c_46_9]), rfl⟩ dX5_count_105
          · refine lv_tableOut (tgt := 106) hx hb dX5_count_46 (by have h0 := lv_neT c_46_7 (a := 7) rfl; have h1 := lv_neT c_46_8 (a := 8) rfl; have h2 := lv_neT c_46_9 (a := 9) rfl; omega) (by decide) ?_
            refine lv_ldc (v := (-1000000001)) hx hb hown (hG _ k_219) dX5_count_106 ?_
            exact ag_iret [x0, x1, x2, s0, s01, s02, s03, s1, s11, s12, s13, s2, s21, s22, s23, s3, s31, s32, s33, h, h1, h2, h3, z1, y1, y2, o, o1, o2, o3, t1] hx hb hr rfl hlocks hP hS rfl rfl ⟨(by unfold sr_X5_count; rw [if_pos c_1, if_pos c_23, if_neg c_46_7, if_neg c_46_8, if_neg c_46_9]), rfl⟩ dX5_count_108
    · refine lv_iload_n hx hb dX5_count_26 rfl (lv_at hl 1 rfl) ?_
      refine lv_bipush (v := 23) hx hb dX5_count_27 (by decide) ?_
      refine lv_icmp_ge (tgt := 45) hx hb dX5_count_29 (by decide) (fun c_29 => ?_) (fun c_29 => ?_)
      · refine lv_iload_n hx hb dX5_count_45 rfl (lv_at hl 1 rfl) ?_
        by_cases c_46_7 : p1 = 7
        · refine lv_tableIn (off := 26) (tgt := 72) hx hb dX5_count_46 (by rw [c_46_7]; decide) (by rw [c_46_7]; decide) (by rw [c_46_7]; rfl) (by decide) ?_
          refine lv_aload_n hx hb dX5_count_72 rfl (lv_at hl 0 rfl) ?_
          refine ag_getX5 (v := .ref h) hx hb hG hown hK hP 0 0 rfl (by decide) k_176 rfl dX5_count_73 ?_
          refine ag_callVi (As := []) (rest := []) hx hb hml hown hG hK hN hA hP hD hS hl (ct_X1_lastDay l D cI cC cL h h1 h2 h3 f se to re) fX1_lastDay k_224 (ag_cut_1 [oX x0 h o t1 x1 y1 z1, oH x1 x2 hf, aL cL x2 (gS s0 s1 s2 s3), oL s0 s01 s02 s03 (sf 0), aI cI s01 3 (sse 0), aI cI s02 7 (sto 0), aI cI s03 60 (sre 0), oL s1 s11 s12 s13 (sf 1), aI cI s11 3 (sse 1), aI cI s12 7 (sto 1), aI cI s13 60 (sre 1), oL s2 s21 s22 s23 (sf 2), aI cI s21 3 (sse 2), aI cI s22 7 (sto 2), aI cI s23 60 (sre 2), oL s3 s31 s32 s33 (sf 3), aI cI s31 3 (sse 3), aI cI s32 7 (sto 3), aI cI s33 60 (sre 3)] [oP z1 pf, oT y1 y2 tf, aC cC y2 60 ch, oL o o1 o2 o3 of, aI cI o1 3 ose, aI cI o2 7 oto, aI cI o3 60 ore, oK t1 kf] rfl) (q0 := 19) rfl rfl rfl rfl (Nat.le_of_ble_eq_true rfl) ⟨Nat.le_of_ble_eq_true rfl, Nat.le_of_ble_eq_true rfl⟩ ⟨Nat.zero_le _, Nat.zero_le _⟩ dX5_count_76 (fun r w1 H locs hw hP hD hS => ?_)
          obtain ⟨rfl, hw⟩ := hw
          subst hw
          have hP : va_P D vwCl [oX x0 h o t1 x1 y1 z1, oH x1 x2 hf, aL cL x2 (gS s0 s1 s2 s3), oL s0 s01 s02 s03 (sf 0), aI cI s01 3 (sse 0), aI cI s02 7 (sto 0), aI cI s03 60 (sre 0), oL s1 s11 s12 s13 (sf 1), aI cI s11 3 (sse 1), aI cI s12 7 (sto 1), aI cI s13 60 (sre 1), oL s2 s21 s22 s23 (sf 2), aI cI s21 3 (sse 2), aI cI s22 7 (sto 2), aI cI s23 60 (sre 2), oL s3 s31 s32 s33 (sf 3), aI cI s31 3 (sse 3), aI cI s32 7 (sto 3), aI cI s33 60 (sre 3), oL h h1 h2 h3 f, aI cI h1 3 se, aI cI h2 7 to, aI cI h3 60 re, oP z1 pf, oT y1 y2 tf, aC cC y2 60 ch, oL o o1 o2 o3 of, aI cI o1 3 ose, aI cI o2 7 oto, aI cI o3 60 ore, oK t1 kf] H := hP
          have hD : va_D A [oX x0 h o t1 x1 y1 z1, oH x1 x2 hf, aL cL x2 (gS s0 s1 s2 s3), oL s0 s01 s02 s03 (sf 0), aI cI s01 3 (sse 0), aI cI s02 7 (sto 0), aI cI s03 60 (sre 0), oL s1 s11 s12 s13 (sf 1), aI cI s11 3 (sse 1), aI cI s12 7 (sto 1), aI cI s13 60 (sre 1), oL s2 s21 s22 s23 (sf 2), aI cI s21 3 (sse 2), aI cI s22 7 (sto 2), aI cI s23 60 (sre 2), oL s3 s31 s32 s33 (sf 3), aI cI s31 3 (sse 3), aI cI s32 7 (sto 3), aI cI s33 60 (sre 3), oL h h1 h2 h3 f, aI cI h1 3 se, aI cI h2 7 to, aI cI h3 60 re, oP z1 pf, oT y1 y2 tf, aC cC y2 60 ch, oL o o1 o2 o3 of, aI cI o1 3 ose, aI cI o2 7 oto, aI cI o3 60 ore, oK t1 kf] := hD
          refine lv_aload_n hx hb dX5_count_79 rfl (lv_at hl 0 rfl) ?_
          refine ag_getX5 (v := .ref h) hx hb hG hown hK hP 0 0 rfl (by decide) k_176 rfl dX5_count_80 ?_
          refine ag_callVi (As := []) (rest := [.int (sr_X1_lastDay f)]) hx hb hml hown hG hK hN hA hP hD hS hl (ct_X1_firstDay l D cI cC cL h h1 h2 h3 f se to re) fX1_firstDay k_231 (ag_cut_1 [oX x0 h o t1 x1 y1 z1, oH x1 x2 hf, aL cL x2 (gS s0 s1 s2 s3), oL s0 s01 s02 s03 (sf 0), aI cI s01 3 (sse 0), aI cI s02 7 (sto 0), aI cI s03 60 (sre 0), oL s1 s11 s12 s13 (sf 1), aI cI s11 3 (sse 1), aI cI s12 7 (sto 1), aI cI s13 60 (sre 1), oL s2 s21 s22 s23 (sf 2), aI cI s21 3 (sse 2), aI cI s22 7 (sto 2), aI cI s23 60 (sre 2), oL s3 s31 s32 s33 (sf 3), aI cI s31 3 (sse 3), aI cI s32 7 (sto 3), aI cI s33 60 (sre 3)] [oP z1 pf, oT y1 y2 tf, aC cC y2 60 ch, oL o o1 o2 o3 of, aI cI o1 3 ose, aI cI o2 7 oto, aI cI o3 60 ore, oK t1 kf] rfl) (q0 := 19) rfl rfl rfl rfl (Nat.le_of_ble_eq_true rfl) ⟨Nat.le_of_ble_eq_true rfl, Nat.le_of_ble_eq_true rfl⟩ ⟨Nat.zero_le _, Nat.zero_le _⟩ dX5_count_83 (fun r w1 H locs hw hP hD hS => ?_)
          obtain ⟨rfl, hw⟩ := hw
          subst hw
          have hP : va_P D vwCl [oX x0 h o t1 x1 y1 z1, oH x1 x2 hf, aL cL x2 (gS s0 s1 s2 s3), oL s0 s01 s02 s03 (sf 0), aI cI s01 3 (sse 0), aI cI s02 7 (sto 0), aI cI s03 60 (sre 0), oL s1 s11 s12 s13 (sf 1), aI cI s11 3 (sse 1), aI cI s12 7 (sto 1), aI cI s13 60 (sre 1), oL s2 s21 s22 s23 (sf 2), aI cI s21 3 (sse 2), aI cI s22 7 (sto 2), aI cI s23 60 (sre 2), oL s3 s31 s32 s33 (sf 3), aI cI s31 3 (sse 3), aI cI s32 7 (sto 3), aI cI s33 60 (sre 3), oL h h1 h2 h3 f, aI cI h1 3 se, aI cI h2 7 to, aI cI h3 60 re, oP z1 pf, oT y1 y2 tf, aC cC y2 60 ch, oL o o1 o2 o3 of, aI cI o1 3 ose, aI cI o2 7 oto, aI cI o3 60 ore, oK t1 kf] H := hP
          have hD : va_D A [oX x0 h o t1 x1 y1 z1, oH x1 x2 hf, aL cL x2 (gS s0 s1 s2 s3), oL s0 s01 s02 s03 (sf 0), aI cI s01 3 (sse 0), aI cI s02 7 (sto 0), aI cI s03 60 (sre 0), oL s1 s11 s12 s13 (sf 1), aI cI s11 3 (sse 1), aI cI s12 7 (sto 1), aI cI s13 60 (sre 1), oL s2 s21 s22 s23 (sf 2), aI cI s21 3 (sse 2), aI cI s22 7 (sto 2), aI cI s23 60 (sre 2), oL s3 s31 s32 s33 (sf 3), aI cI s31 3 (sse 3), aI cI s32 7 (sto 3), aI cI s33 60 (sre 3), oL h h1 h2 h3 f, aI cI h1 3 se, aI cI h2 7 to, aI cI h3 60 re, oP z1 pf, oT y1 y2 tf, aC cC y2 60 ch, oL o o1 o2 o3 of, aI cI o1 3 ose, aI cI o2 7 oto, aI cI o3 60 ore, oK t1 kf] := hD
          refine lv_isub hx hb dX5_count_86 ?_
          refine lv_iconst (v := 1) hx hb dX5_count_87 (by decide) ?_
          refine lv_iadd hx hb dX5_count_88 ?_
          exact ag_iret [x0, x1, x2, s0, s01, s02, s03, s1, s11, s12, s13, s2, s21, s22, s23, s3, s31, s32, s33, h, h1, h2, h3, z1, y1, y2, o, o1, o2, o3, t1] hx hb hr rfl hlocks hP hS rfl rfl ⟨(by unfold sr_X5_count; rw [if_pos c_1, if_neg c_23, if_pos c_29, if_pos c_46_7]), rfl⟩ dX5_count_89
        · by_cases c_46_8 : p1 = 8
          · refine lv_tableIn (off := 44) (tgt := 90) hx hb dX5_count_46 (by rw [c_46_8]; decide) (by rw [c_46_8]; decide) (by rw [c_46_8]; rfl) (by decide) ?_
            refine lv_aload_n hx hb dX5_count_90 rfl (lv_at hl 0 rfl) ?_
            refine ag_getX5 (v := .ref x1) hx hb hG hown hK hP 0 3 rfl (by decide) k_179 rfl dX5_count_91 ?_
            refine ag_getX0 (v := .int (hf 1)) hx hb hG hown hK hP 1 2 rfl (by decide) k_131 rfl dX5_count_94 ?_
            exact ag_iret [x0, x1, x2, s0, s01, s02, s03, s1, s11, s12, s13, s2, s21, s22, s23, s3, s31, s32, s33, h, h1, h2, h3, z1, y1, y2, o, o1, o2, o3, t1] hx hb hr rfl hlocks hP hS rfl rfl ⟨(by unfold sr_X5_count; rw [if_pos c_1, if_neg c_23, if_pos c_29, if_neg c_46_7, if_pos c_46_8]), rfl⟩ dX5_count_97
          · by_cases c_46_9 : p1 = 9
            · refine lv_tableIn (off := 52) (tgt := 98) hx hb dX5_count_46 (by rw [c_46_9]; decide) (by rw [c_46_9]; decide) (by rw [c_46_9]; rfl) (by decide) ?_
              refine lv_aload_n hx hb dX5_count_98 rfl (lv_at hl 0 rfl) ?_
              refine ag_getX5 (v := .ref y1) hx hb hG hown hK hP 0 4 rfl (by decide) k_180 rfl dX5_count_99 ?_
              refine ag_getX3 (v := .int (tf 0)) hx hb hG hown hK hP 24 1 rfl (by decide) k_146 rfl dX5_count_102 ?_
              exact ag_iret [x0, x1, x2, s0, s01, s02, s03, s1, s11, s12, s13, s2, s21, s22, s23, s3, s31, s32, s33, h, h1, h2, h3, z1, y1, y2, o, o1, o2, o3, t1] hx hb hr rfl hlocks hP hS rfl rfl ⟨(by unfold sr_X5_count; rw [if_pos c_1, if_neg c_23, if_pos c_29, if_neg c_46_7, if_neg c_46_8, if_pos c_46_9]), rfl⟩ dX5_count_105
            · refine lv_tableOut (tgt := 106) hx hb dX5_count_46 (by have h0 := lv_neT c_46_7 (a := 7) rfl; have h1 := lv_neT c_46_8 (a := 8) rfl; have h2 := lv_neT c_46_9 (a := 9) rfl; omega) (by decide) ?_
              refine lv_ldc (v := (-1000000001)) hx hb hown (hG _ k_219) dX5_count_106 ?_
              exact ag_iret [x0, x1, x2, s0, s01, s02, s03, s1, s11, s12, s13, s2, s21, s22, s23, s3, s31, s32, s33, h, h1, h2, h3, z1, y1, y2, o, o1, o2, o3, t1] hx hb hr rfl hlocks hP hS rfl rfl ⟨(by unfold sr_X5_count; rw [if_pos c_1, if_neg c_23, if_pos c_29, if_neg c_46_7, if_neg c_46_8, if_neg c_46_9]), rfl⟩ dX5_count_108
      · refine lv_aload_n hx hb dX5_count_32 rfl (lv_at hl 0 rfl) ?_
        refine ag_getX5 (v := .ref h) hx hb hG hown hK hP 0 0 rfl (by decide) k_176 rfl dX5_count_33 ?_
        refine ag_getX1 (v := .ref h1) hx hb hG hown hK hP 19 8 rfl (by decide) k_51 rfl dX5_count_36 ?_
        refine lv_iload_n hx hb dX5_count_39 rfl (lv_at hl 1 rfl) ?_
        refine lv_bipush (v := 20) hx hb dX5_count_40 (by decide) ?_
        refine lv_isub hx hb dX5_count_42 ?_
        refine ag_ild (k := (p1 - 20).toNatClampNeg) (v := se ((p1 - 20).toNatClampNeg)) hx hb hK hP 20 rfl (ag_cnt c_23 c_29).1 (ag_cnt c_23 c_29).2 (Nat.le_of_ble_eq_true rfl) rfl dX5_count_43 ?_
        exact ag_iret [x0, x1, x2, s0, s01, s02, s03, s1, s11, s12, s13, s2, s21, s22, s23, s3, s31, s32, s33, h, h1, h2, h3, z1, y1, y2, o, o1, o2, o3, t1] hx hb hr rfl hlocks hP hS rfl rfl ⟨(by unfold sr_X5_count; rw [if_pos c_1, if_neg c_23, if_neg c_29]), rfl⟩ dX5_count_44
  · refine lv_iload_n hx hb dX5_count_4 rfl (lv_at hl 1 rfl) ?_
    refine lv_bipush (v := 7) hx hb dX5_count_5 (by decide) ?_
    refine lv_icmp_ge (tgt := 20) hx hb dX5_count_7 (by decide) (fun c_7 => ?_) (fun c_7 => ?_)
    · refine lv_iload_n hx hb dX5_count_20 rfl (lv_at hl 1 rfl) ?_
      refine lv_bipush (v := 20) hx hb dX5_count_21 (by decide) ?_
      refine lv_icmp_lt (tgt := 45) hx hb dX5_count_23 (by decide) (fun c_23 => ?_) (fun c_23 => ?_)
      · refine lv_iload_n hx hb dX5_count_45 rfl (lv_at hl 1 rfl) ?_
        by_cases c_46_7 : p1 = 7
        · refine lv_tableIn (off := 26) (tgt := 72) hx hb dX5_count_46 (by rw [c_46_7]; decide) (by rw [c_46_7]; decide) (by rw [c_46_7]; rfl) (by decide) ?_
          refine lv_aload_n hx hb dX5_count_72 rfl (lv_at hl 0 rfl) ?_
          refine ag_getX5 (v := .ref h) hx hb hG hown hK hP 0 0 rfl (by decide) k_176 rfl dX5_count_73 ?_
          refine ag_callVi (As := []) (rest := []) hx hb hml hown hG hK hN hA hP hD hS hl (ct_X1_lastDay l D cI cC cL h h1 h2 h3 f se to re) fX1_lastDay k_224 (ag_cut_1 [oX x0 h o t1 x1 y1 z1, oH x1 x2 hf, aL cL x2 (gS s0 s1 s2 s3), oL s0 s01 s02 s03 (sf 0), aI cI s01 3 (sse 0), aI cI s02 7 (sto 0), aI cI s03 60 (sre 0), oL s1 s11 s12 s13 (sf 1), aI cI s11 3 (sse 1), aI cI s12 7 (sto 1), aI cI s13 60 (sre 1), oL s2 s21 s22 s23 (sf 2), aI cI s21 3 (sse 2), aI cI s22 7 (sto 2), aI cI s23 60 (sre 2), oL s3 s31 s32 s33 (sf 3), aI cI s31 3 (sse 3), aI cI s32 7 (sto 3), aI cI s33 60 (sre 3)] [oP z1 pf, oT y1 y2 tf, aC cC y2 60 ch, oL o o1 o2 o3 of, aI cI o1 3 ose, aI cI o2 7 oto, aI cI o3 60 ore, oK t1 kf] rfl) (q0 := 19) rfl rfl rfl rfl (Nat.le_of_ble_eq_true rfl) ⟨Nat.le_of_ble_eq_true rfl, Nat.le_of_ble_eq_true rfl⟩ ⟨Nat.zero_le _, Nat.zero_le _⟩ dX5_count_76 (fun r w1 H locs hw hP hD hS => ?_)
          obtain ⟨rfl, hw⟩ := hw
          subst hw
          have hP : va_P D vwCl [oX x0 h o t1 x1 y1 z1, oH x1 x2 hf, aL cL x2 (gS s0 s1 s2 s3), oL s0 s01 s02 s03 (sf 0), aI cI s01 3 (sse 0), aI cI s02 7 (sto 0), aI cI s03 60 (sre 0), oL s1 s11 s12 s13 (sf 1), aI cI s11 3 (sse 1), aI cI s12 7 (sto 1), aI cI s13 60 (sre 1), oL s2 s21 s22 s23 (sf 2), aI cI s21 3 (sse 2), aI cI s22 7 (sto 2), aI cI s23 60 (sre 2), oL s3 s31 s32 s33 (sf 3), aI cI s31 3 (sse 3), aI cI s32 7 (sto 3), aI cI s33 60 (sre 3), oL h h1 h2 h3 f, aI cI h1 3 se, aI cI h2 7 to, aI cI h3 60 re, oP z1 pf, oT y1 y2 tf, aC cC y2 60 ch, oL o o1 o2 o3 of, aI cI o1 3 ose, aI cI o2 7 oto, aI cI o3 60 ore, oK t1 kf] H := hP
          have hD : va_D A [oX x0 h o t1 x1 y1 z1, oH x1 x2 hf, aL cL x2 (gS s0 s1 s2 s3), oL s0 s01 s02 s03 (sf 0), aI cI s01 3 (sse 0), aI cI s02 7 (sto 0), aI cI s03 60 (sre 0), oL s1 s11 s12 s13 (sf 1), aI cI s11 3 (sse 1), aI cI s12 7 (sto 1), aI cI s13 60 (sre 1), oL s2 s21 s22 s23 (sf 2), aI cI s21 3 (sse 2), aI cI s22 7 (sto 2), aI cI s23 60 (sre 2), oL s3 s31 s32 s33 (sf 3), aI cI s31 3 (sse 3), aI cI s32 7 (sto 3), aI cI s33 60 (sre 3), oL h h1 h2 h3 f, aI cI h1 3 se, aI cI h2 7 to, aI cI h3 60 re, oP z1 pf, oT y1 y2 tf, aC cC y2 60 ch, oL o o1 o2 o3 of, aI cI o1 3 ose, aI cI o2 7 oto, aI cI o3 60 ore, oK t1 kf] := hD
          refine lv_aload_n hx hb dX5_count_79 rfl (lv_at hl 0 rfl) ?_
          refine ag_getX5 (v := .ref h) hx hb hG hown hK hP 0 0 rfl (by decide) k_176 rfl dX5_count_80 ?_
          refine ag_callVi (As := []) (rest := [.int (sr_X1_lastDay f)]) hx hb hml hown hG hK hN hA hP hD hS hl (ct_X1_firstDay l D cI cC cL h h1 h2 h3 f se to re) fX1_firstDay k_231 (ag_cut_1 [oX x0 h o t1 x1 y1 z1, oH x1 x2 hf, aL cL x2 (gS s0 s1 s2 s3), oL s0 s01 s02 s03 (sf 0), aI cI s01 3 (sse 0), aI cI s02 7 (sto 0), aI cI s03 60 (sre 0), oL s1 s11 s12 s13 (sf 1), aI cI s11 3 (sse 1), aI cI s12 7 (sto 1), aI cI s13 60 (sre 1), oL s2 s21 s22 s23 (sf 2), aI cI s21 3 (sse 2), aI cI s22 7 (sto 2), aI cI s23 60 (sre 2), oL s3 s31 s32 s33 (sf 3), aI cI s31 3 (sse 3), aI cI s32 7 (sto 3), aI cI s33 60 (sre 3)] [oP z1 pf, oT y1 y2 tf, aC cC y2 60 ch, oL o o1 o2 o3 of, aI cI o1 3 ose, aI cI o2 7 oto, aI cI o3 60 ore, oK t1 kf] rfl) (q0 := 19) rfl rfl rfl rfl (Nat.le_of_ble_eq_true rfl) ⟨Nat.le_of_ble_eq_true rfl, Nat.le_of_ble_eq_true rfl⟩ ⟨Nat.zero_le _, Nat.zero_le _⟩ dX5_count_83 (fun r w1 H locs hw hP hD hS => ?_)
          obtain ⟨rfl, hw⟩ := hw
          subst hw
          have hP : va_P D vwCl [oX x0 h o t1 x1 y1 z1, oH x1 x2 hf, aL cL x2 (gS s0 s1 s2 s3), oL s0 s01 s02 s03 (sf 0), aI cI s01 3 (sse 0), aI cI s02 7 (sto 0), aI cI s03 60 (sre 0), oL s1 s11 s12 s13 (sf 1), aI cI s11 3 (sse 1), aI cI s12 7 (sto 1), aI cI s13 60 (sre 1), oL s2 s21 s22 s23 (sf 2), aI cI s21 3 (sse 2), aI cI s22 7 (sto 2), aI cI s23 60 (sre 2), oL s3 s31 s32 s33 (sf 3), aI cI s31 3 (sse 3), aI cI s32 7 (sto 3), aI cI s33 60 (sre 3), oL h h1 h2 h3 f, aI cI h1 3 se, aI cI h2 7 to, aI cI h3 60 re, oP z1 pf, oT y1 y2 tf, aC cC y2 60 ch, oL o o1 o2 o3 of, aI cI o1 3 ose, aI cI o2 7 oto, aI cI o3 60 ore, oK t1 kf] H := hP
          have hD : va_D A [oX x0 h o t1 x1 y1 z1, oH x1 x2 hf, aL cL x2 (gS s0 s1 s2 s3), oL s0 s01 s02 s03 (sf 0), aI cI s01 3 (sse 0), aI cI s02 7 (sto 0), aI cI s03 60 (sre 0), oL s1 s11 s12 s13 (sf 1), aI cI s11 3 (sse 1), aI cI s12 7 (sto 1), aI cI s13 60 (sre 1), oL s2 s21 s22 s23 (sf 2), aI cI s21 3 (sse 2), aI cI s22 7 (sto 2), aI cI s23 60 (sre 2), oL s3 s31 s32 s33 (sf 3), aI cI s31 3 (sse 3), aI cI s32 7 (sto 3), aI cI s33 60 (sre 3), oL h h1 h2 h3 f, aI cI h1 3 se, aI cI h2 7 to, aI cI h3 60 re, oP z1 pf, oT y1 y2 tf, aC cC y2 60 ch, oL o o1 o2 o3 of, aI cI o1 3 ose, aI cI o2 7 oto, aI cI o3 60 ore, oK t1 kf] := hD
          refine lv_isub hx hb dX5_count_86 ?_
          refine lv_iconst (v := 1) hx hb dX5_count_87 (by decide) ?_
          refine lv_iadd hx hb dX5_count_88 ?_
          exact ag_iret [x0, x1, x2, s0, s01, s02, s03, s1, s11, s12, s13, s2, s21, s22, s23, s3, s31, s32, s33, h, h1, h2, h3, z1, y1, y2, o, o1, o2, o3, t1] hx hb hr rfl hlocks hP hS rfl rfl ⟨(by unfold sr_X5_count; rw [if_neg c_1, if_pos c_7, if_pos c_23, if_pos c_46_7]), rfl⟩ dX5_count_89
        · by_cases c_46_8 : p1 = 8
          · refine lv_tableIn (off := 44) (tgt := 90) hx hb dX5_count_46 (by rw [c_46_8]; decide) (by rw [c_46_8]; decide) (by rw [c_46_8]; rfl) (by decide) ?_
            refine lv_aload_n hx hb dX5_count_90 rfl (lv_at hl 0 rfl) ?_
            refine ag_getX5 (v := .ref x1) hx hb hG hown hK hP 0 3 rfl (by decide) k_179 rfl dX5_count_91 ?_
            refine ag_getX0 (v := .int (hf 1)) hx hb hG hown hK hP 1 2 rfl (by decide) k_131 rfl dX5_count_94 ?_
            exact ag_iret [x0, x1, x2, s0, s01, s02, s03, s1, s11, s12, s13, s2, s21, s22, s23, s3, s31, s32, s33, h, h1, h2, h3, z1, y1, y2, o, o1, o2, o3, t1] hx hb hr rfl hlocks hP hS rfl rfl ⟨(by unfold sr_X5_count; rw [if_neg c_1, if_pos c_7, if_pos c_23, if_neg c_46_7, if_pos c_46_8]), rfl⟩ dX5_count_97
          · by_cases c_46_9 : p1 = 9
            · refine lv_tableIn (off := 52) (tgt := 98) hx hb dX5_count_46 (by rw [c_46_9]; decide) (by rw [c_46_9]; decide) (by rw [c_46_9]; rfl) (by decide) ?_
              refine lv_aload_n hx hb dX5_count_98 rfl (lv_at hl 0 rfl) ?_
              refine ag_getX5 (v := .ref y1) hx hb hG hown hK hP 0 4 rfl (by decide) k_180 rfl dX5_count_99 ?_
              refine ag_getX3 (v := .int (tf 0)) hx hb hG hown hK hP 24 1 rfl (by decide) k_146 rfl dX5_count_102 ?_
              exact ag_iret [x0, x1, x2, s0, s01, s02, s03, s1, s11, s12, s13, s2, s21, s22, s23, s3, s31, s32, s33, h, h1, h2, h3, z1, y1, y2, o, o1, o2, o3, t1] hx hb hr rfl hlocks hP hS rfl rfl ⟨(by unfold sr_X5_count; rw [if_neg c_1, if_pos c_7, if_pos c_23, if_neg c_46_7, if_neg c_46_8, if_pos c_46_9]), rfl⟩ dX5_count_105
            · refine lv_tableOut (tgt := 106) hx hb dX5_count_46 (by have h0 := lv_neT c_46_7 (a := 7) rfl; have h1 := lv_neT c_46_8 (a := 8) rfl; have h2 := lv_neT c_46_9 (a := 9) rfl; omega) (by decide) ?_
              refine lv_ldc (v := (-1000000001)) hx hb hown (hG _ k_219) dX5_count_106 ?_
              exact ag_iret [x0, x1, x2, s0, s01, s02, s03, s1, s11, s12, s13, s2, s21, s22, s23, s3, s31, s32, s33, h, h1, h2, h3, z1, y1, y2, o, o1, o2, o3, t1] hx hb hr rfl hlocks hP hS rfl rfl ⟨(by unfold sr_X5_count; rw [if_neg c_1, if_pos c_7, if_pos c_23, if_neg c_46_7, if_neg c_46_8, if_neg c_46_9]), rfl⟩ dX5_count_108
      · refine lv_iload_n hx hb dX5_count_26 rfl (lv_at hl 1 rfl) ?_
        refine lv_bipush (v := 23) hx hb dX5_count_27 (by decide) ?_
        refine lv_icmp_ge (tgt := 45) hx hb dX5_count_29 (by decide) (fun c_29 => ?_) (fun c_29 => ?_)
        · refine lv_iload_n hx hb dX5_count_45 rfl (lv_at hl 1 rfl) ?_
          by_cases c_46_7 : p1 = 7
          · refine lv_tableIn (off := 26) (tgt := 72) hx hb dX5_count_46 (by rw [c_46_7]; decide) (by rw [c_46_7]; decide) (by rw [c_46_7]; rfl) (by decide) ?_
            refine lv_aload_n hx hb dX5_count_72 rfl (lv_at hl 0 rfl) ?_
            refine ag_getX5 (v := .ref h) hx hb hG hown hK hP 0 0 rfl (by decide) k_176 rfl dX5_count_73 ?_
            refine ag_callVi (As := []) (rest := []) hx hb hml hown hG hK hN hA hP hD hS hl (ct_X1_lastDay l D cI cC cL h h1 h2 h3 f se to re) fX1_lastDay k_224 (ag_cut_1 [oX x0 h o t1 x1 y1 z1, oH x1 x2 hf, aL cL x2 (gS s0 s1 s2 s3), oL s0 s01 s02 s03 (sf 0), aI cI s01 3 (sse 0), aI cI s02 7 (sto 0), aI cI s03 60 (sre 0), oL s1 s11 s12 s13 (sf 1), aI cI s11 3 (sse 1), aI cI s12 7 (sto 1), aI cI s13 60 (sre 1), oL s2 s21 s22 s23 (sf 2), aI cI s21 3 (sse 2), aI cI s22 7 (sto 2), aI cI s23 60 (sre 2), oL s3 s31 s32 s33 (sf 3), aI cI s31 3 (sse 3), aI cI s32 7 (sto 3), aI cI s33 60 (sre 3)] [oP z1 pf, oT y1 y2 tf, aC cC y2 60 ch, oL o o1 o2 o3 of, aI cI o1 3 ose, aI cI o2 7 oto, aI cI o3 60 ore, oK t1 kf] rfl) (q0 := 19) rfl rfl rfl rfl (Nat.le_of_ble_eq_true rfl) ⟨Nat.le_of_ble_eq_true rfl, Nat.le_of_ble_eq_true rfl⟩ ⟨Nat.zero_le _, Nat.zero_le _⟩ dX5_count_76 (fun r w1 H locs hw hP hD hS => ?_)
            obtain ⟨rfl, hw⟩ := hw
            subst hw
            have hP : va_P D vwCl [oX x0 h o t1 x1 y1 z1, oH x1 x2 hf, aL cL x2 (gS s0 s1 s2 s3), oL s0 s01 s02 s03 (sf 0), aI cI s01 3 (sse 0), aI cI s02 7 (sto 0), aI cI s03 60 (sre 0), oL s1 s11 s12 s13 (sf 1), aI cI s11 3 (sse 1), aI cI s12 7 (sto 1), aI cI s13 60 (sre 1), oL s2 s21 s22 s23 (sf 2), aI cI s21 3 (sse 2), aI cI s22 7 (sto 2), aI cI s23 60 (sre 2), oL s3 s31 s32 s33 (sf 3), aI cI s31 3 (sse 3), aI cI s32 7 (sto 3), aI cI s33 60 (sre 3), oL h h1 h2 h3 f, aI cI h1 3 se, aI cI h2 7 to, aI cI h3 60 re, oP z1 pf, oT y1 y2 tf, aC cC y2 60 ch, oL o o1 o2 o3 of, aI cI o1 3 ose, aI cI o2 7 oto, aI cI o3 60 ore, oK t1 kf] H := hP
            have hD : va_D A [oX x0 h o t1 x1 y1 z1, oH x1 x2 hf, aL cL x2 (gS s0 s1 s2 s3), oL s0 s01 s02 s03 (sf 0), aI cI s01 3 (sse 0), aI cI s02 7 (sto 0), aI cI s03 60 (sre 0), oL s1 s11 s12 s13 (sf 1), aI cI s11 3 (sse 1), aI cI s12 7 (sto 1), aI cI s13 60 (sre 1), oL s2 s21 s22 s23 (sf 2), aI cI s21 3 (sse 2), aI cI s22 7 (sto 2), aI cI s23 60 (sre 2), oL s3 s31 s32 s33 (sf 3), aI cI s31 3 (sse 3), aI cI s32 7 (sto 3), aI cI s33 60 (sre 3), oL h h1 h2 h3 f, aI cI h1 3 se, aI cI h2 7 to, aI cI h3 60 re, oP z1 pf, oT y1 y2 tf, aC cC y2 60 ch, oL o o1 o2 o3 of, aI cI o1 3 ose, aI cI o2 7 oto, aI cI o3 60 ore, oK t1 kf] := hD
            refine lv_aload_n hx hb dX5_count_79 rfl (lv_at hl 0 rfl) ?_
            refine ag_getX5 (v := .ref h) hx hb hG hown hK hP 0 0 rfl (by decide) k_176 rfl dX5_count_80 ?_
            refine ag_callVi (As := []) (rest := [.int (sr_X1_lastDay f)]) hx hb hml hown hG hK hN hA hP hD hS hl (ct_X1_firstDay l D cI cC cL h h1 h2 h3 f se to re) fX1_firstDay k_231 (ag_cut_1 [oX x0 h o t1 x1 y1 z1, oH x1 x2 hf, aL cL x2 (gS s0 s1 s2 s3), oL s0 s01 s02 s03 (sf 0), aI cI s01 3 (sse 0), aI cI s02 7 (sto 0), aI cI s03 60 (sre 0), oL s1 s11 s12 s13 (sf 1), aI cI s11 3 (sse 1), aI cI s12 7 (sto 1), aI cI s13 60 (sre 1), oL s2 s21 s22 s23 (sf 2), aI cI s21 3 (sse 2), aI cI s22 7 (sto 2), aI cI s23 60 (sre 2), oL s3 s31 s32 s33 (sf 3), aI cI s31 3 (sse 3), aI cI s32 7 (sto 3), aI cI s33 60 (sre 3)] [oP z1 pf, oT y1 y2 tf, aC cC y2 60 ch, oL o o1 o2 o3 of, aI cI o1 3 ose, aI cI o2 7 oto, aI cI o3 60 ore, oK t1 kf] rfl) (q0 := 19) rfl rfl rfl rfl (Nat.le_of_ble_eq_true rfl) ⟨Nat.le_of_ble_eq_true rfl, Nat.le_of_ble_eq_true rfl⟩ ⟨Nat.zero_le _, Nat.zero_le _⟩ dX5_count_83 (fun r w1 H locs hw hP hD hS => ?_)
            obtain ⟨rfl, hw⟩ := hw
            subst hw
            have hP : va_P D vwCl [oX x0 h o t1 x1 y1 z1, oH x1 x2 hf, aL cL x2 (gS s0 s1 s2 s3), oL s0 s01 s02 s03 (sf 0), aI cI s01 3 (sse 0), aI cI s02 7 (sto 0), aI cI s03 60 (sre 0), oL s1 s11 s12 s13 (sf 1), aI cI s11 3 (sse 1), aI cI s12 7 (sto 1), aI cI s13 60 (sre 1), oL s2 s21 s22 s23 (sf 2), aI cI s21 3 (sse 2), aI cI s22 7 (sto 2), aI cI s23 60 (sre 2), oL s3 s31 s32 s33 (sf 3), aI cI s31 3 (sse 3), aI cI s32 7 (sto 3), aI cI s33 60 (sre 3), oL h h1 h2 h3 f, aI cI h1 3 se, aI cI h2 7 to, aI cI h3 60 re, oP z1 pf, oT y1 y2 tf, aC cC y2 60 ch, oL o o1 o2 o3 of, aI cI o1 3 ose, aI cI o2 7 oto, aI cI o3 60 ore, oK t1 kf] H := hP
            have hD : va_D A [oX x0 h o t1 x1 y1 z1, oH x1 x2 hf, aL cL x2 (gS s0 s1 s2 s3), oL s0 s01 s02 s03 (sf 0), aI cI s01 3 (sse 0), aI cI s02 7 (sto 0), aI cI s03 60 (sre 0), oL s1 s11 s12 s13 (sf 1), aI cI s11 3 (sse 1), aI cI s12 7 (sto 1), aI cI s13 60 (sre 1), oL s2 s21 s22 s23 (sf 2), aI cI s21 3 (sse 2), aI cI s22 7 (sto 2), aI cI s23 60 (sre 2), oL s3 s31 s32 s33 (sf 3), aI cI s31 3 (sse 3), aI cI s32 7 (sto 3), aI cI s33 60 (sre 3), oL h h1 h2 h3 f, aI cI h1 3 se, aI cI h2 7 to, aI cI h3 60 re, oP z1 pf, oT y1 y2 tf, aC cC y2 60 ch, oL o o1 o2 o3 of, aI cI o1 3 ose, aI cI o2 7 oto, aI cI o3 60 ore, oK t1 kf] := hD
            refine lv_isub hx hb dX5_count_86 ?_
            refine lv_iconst (v := 1) hx hb dX5_count_87 (by decide) ?_
            refine lv_iadd hx hb dX5_count_88 ?_
            exact ag_iret [x0, x1, x2, s0, s01, s02, s03, s1, s11, s12, s13, s2, s21, s22, s23, s3, s31, s32, s33, h, h1, h2, h3, z1, y1, y2, o, o1, o2, o3, t1] hx hb hr rfl hlocks hP hS rfl rfl ⟨(by unfold sr_X5_count; rw [if_neg c_1, if_pos c_7, if_neg c_23, if_pos c_29, if_pos c_46_7]), rfl⟩ dX5_count_89
          · by_cases c_46_8 : p1 = 8
            · refine lv_tableIn (off := 44) (tgt := 90) hx hb dX5_count_46 (by rw [c_46_8]; decide) (by rw [c_46_8]; decide) (by rw [c_46_8]; rfl) (by decide) ?_
              refine lv_aload_n hx hb dX5_count_90 rfl (lv_at hl 0 rfl) ?_
              refine ag_getX5 (v := .ref x1) hx hb hG hown hK hP 0 3 rfl (by decide) k_179 rfl dX5_count_91 ?_
              refine ag_getX0 (v := .int (hf 1)) hx hb hG hown hK hP 1 2 rfl (by decide) k_131 rfl dX5_count_94 ?_
              exact ag_iret [x0, x1, x2, s0, s01, s02, s03, s1, s11, s12, s13, s2, s21, s22, s23, s3, s31, s32, s33, h, h1, h2, h3, z1, y1, y2, o, o1, o2, o3, t1] hx hb hr rfl hlocks hP hS rfl rfl ⟨(by unfold sr_X5_count; rw [if_neg c_1, if_pos c_7, if_neg c_23, if_pos c_29, if_neg c_46_7, if_pos c_46_8]), rfl⟩ dX5_count_97
            · by_cases c_46_9 : p1 = 9
              · refine lv_tableIn (off := 52) (tgt := 98) hx hb dX5_count_46 (by rw [c_46_9]; decide) (by rw [c_46_9]; decide) (by rw [c_46_9]; rfl) (by decide) ?_
                refine lv_aload_n hx hb dX5_count_98 rfl (lv_at hl 0 rfl) ?_
                refine ag_getX5 (v := .ref y1) hx hb hG hown hK hP 0 4 rfl (by decide) k_180 rfl dX5_count_99 ?_
                refine ag_getX3 (v := .int (tf 0)) hx hb hG hown hK hP 24 1 rfl (by decide) k_146 rfl dX5_count_102 ?_
                exact ag_iret [x0, x1, x2, s0, s01, s02, s03, s1, s11, s12, s13, s2, s21, s22, s23, s3, s31, s32, s33, h, h1, h2, h3, z1, y1, y2, o, o1, o2, o3, t1] hx hb hr rfl hlocks hP hS rfl rfl ⟨(by unfold sr_X5_count; rw [if_neg c_1, if_pos c_7, if_neg c_23, if_pos c_29, if_neg c_46_7, if_neg c_46_8, if_pos c_46_9]), rfl⟩ dX5_count_105
              · refine lv_tableOut (tgt := 106) hx hb dX5_count_46 (by have h0 := lv_neT c_46_7 (a := 7) rfl; have h1 := lv_neT c_46_8 (a := 8) rfl; have h2 := lv_neT c_46_9 (a := 9) rfl; omega) (by decide) ?_
                refine lv_ldc (v := (-1000000001)) hx hb hown (hG _ k_219) dX5_count_106 ?_
                exact ag_iret [x0, x1, x2, s0, s01, s02, s03, s1, s11, s12, s13, s2, s21, s22, s23, s3, s31, s32, s33, h, h1, h2, h3, z1, y1, y2, o, o1, o2, o3, t1] hx hb hr rfl hlocks hP hS rfl rfl ⟨(by unfold sr_X5_count; rw [if_neg c_1, if_pos c_7, if_neg c_23, if_pos c_29, if_neg c_46_7, if_neg c_46_8, if_neg c_46_9]), rfl⟩ dX5_count_108
        · refine lv_aload_n hx hb dX5_count_32 rfl (lv_at hl 0 rfl) ?_
          refine ag_getX5 (v := .ref h) hx hb hG hown hK hP 0 0 rfl (by decide) k_176 rfl dX5_count_33 ?_
          refine ag_getX1 (v := .ref h1) hx hb hG hown hK hP 19 8 rfl (by decide) k_51 rfl dX5_count_36 ?_
          refine lv_iload_n hx hb dX5_count_39 rfl (lv_at hl 1 rfl) ?_
          refine lv_bipush (v := 20) hx hb dX5_count_40 (by decide) ?_
          refine lv_isub hx hb dX5_count_42 ?_
          refine ag_ild (k := (p1 - 20).toNatClampNeg) (v := se ((p1 - 20).toNatClampNeg)) hx hb hK hP 20 rfl (ag_cnt c_23 c_29).1 (ag_cnt c_23 c_29).2 (Nat.le_of_ble_eq_true rfl) rfl dX5_count_43 ?_
          exact ag_iret [x0, x1, x2, s0, s01, s02, s03, s1, s11, s12, s13, s2, s21, s22, s23, s3, s31, s32, s33, h, h1, h2, h3, z1, y1, y2, o, o1, o2, o3, t1] hx hb hr rfl hlocks hP hS rfl rfl ⟨(by unfold sr_X5_count; rw [if_neg c_1, if_pos c_7, if_neg c_23, if_neg c_29]), rfl⟩ dX5_count_44
    · refine lv_aload_n hx hb dX5_count_10 rfl (lv_at hl 0 rfl) ?_
      refine ag_getX5 (v := .ref h) hx hb hG hown hK hP 0 0 rfl (by decide) k_176 rfl dX5_count_11 ?_
      refine ag_getX1 (v := .ref h2) hx hb hG hown hK hP 19 9 rfl (by decide) k_53 rfl dX5_count_14 ?_
      refine lv_iload_n hx hb dX5_count_17 rfl (lv_at hl 1 rfl) ?_
      refine ag_ild (k := p1.toNatClampNeg) (v := to p1.toNatClampNeg) hx hb hK hP 21 rfl (ag_ixn (n := 7) (by decide) c_1 c_7).1 (ag_ixn (n := 7) (by decide) c_1 c_7).2 (Nat.le_of_ble_eq_true rfl) rfl dX5_count_18 ?_
      exact ag_iret [x0, x1, x2, s0, s01, s02, s03, s1, s11, s12, s13, s2, s21, s22, s23, s3, s31, s32, s33, h, h1, h2, h3, z1, y1, y2, o, o1, o2, o3, t1] hx hb hr rfl hlocks hP hS rfl rfl ⟨(by unfold sr_X5_count; rw [if_neg c_1, if_neg c_7]), rfl⟩ dX5_count_19
end
section
/-! the class itself: changes -/
def gv15_1_X5_settle (hf : Nat → Int32) : Nat → Int32 := hk_k hf
def gv15_2_X5_settle (hf : Nat → Int32) (f : Nat → Int32) (sf : Nat → Nat → Int32) : Nat → Nat → Int32 := va_up sf (rox (hf 0 + hf 1)) f
def gv15_3_X5_settle (hf : Nat → Int32) (se : Nat → Int32) (sse : Nat → Nat → Int32) : Nat → Nat → Int32 := va_up sse (rox (hf 0 + hf 1)) se
def gv15_4_X5_settle (hf : Nat → Int32) (to : Nat → Int32) (sto : Nat → Nat → Int32) : Nat → Nat → Int32 := va_up sto (rox (hf 0 + hf 1)) to
def gv15_5_X5_settle (hf : Nat → Int32) (re : Nat → Int32) (sre : Nat → Nat → Int32) : Nat → Nat → Int32 := va_up sre (rox (hf 0 + hf 1)) re
def sr_X5_settle (p1 : Int32) : Int32 := p1
def fw_sf_X5_settle (hf : Nat → Int32) (f : Nat → Int32) (p1 : Int32) (sf : Nat → Nat → Int32) : Nat → Nat → Int32 := if (sr_X5_isError p1) = 0 then (gv15_2_X5_settle hf f sf) else sf
def fw_sse_X5_settle (hf : Nat → Int32) (se : Nat → Int32) (p1 : Int32) (sse : Nat → Nat → Int32) : Nat → Nat → Int32 := if (sr_X5_isError p1) = 0 then (gv15_3_X5_settle hf se sse) else sse
def fw_sto_X5_settle (hf : Nat → Int32) (to : Nat → Int32) (p1 : Int32) (sto : Nat → Nat → Int32) : Nat → Nat → Int32 := if (sr_X5_isError p1) = 0 then (gv15_4_X5_settle hf to sto) else sto
def fw_sre_X5_settle (hf : Nat → Int32) (re : Nat → Int32) (p1 : Int32) (sre : Nat → Nat → Int32) : Nat → Nat → Int32 := if (sr_X5_isError p1) = 0 then (gv15_5_X5_settle hf re sre) else sre
def sw1_X5_settle (hf : Nat → Int32) (p1 : Int32) : Nat → Int32 := if (sr_X5_isError p1) = 0 then (gv15_1_X5_settle hf) else hf
def sw19_X5_settle (f : Nat → Int32) (of : Nat → Int32) (p1 : Int32) : Nat → Int32 := if (sr_X5_isError p1) = 0 then of else f
def sw20_X5_settle (se : Nat → Int32) (ose : Nat → Int32) (p1 : Int32) : Nat → Int32 := if (sr_X5_isError p1) = 0 then ose else se
def sw21_X5_settle (to : Nat → Int32) (oto : Nat → Int32) (p1 : Int32) : Nat → Int32 := if (sr_X5_isError p1) = 0 then oto else to
def sw22_X5_settle (re : Nat → Int32) (ore : Nat → Int32) (p1 : Int32) : Nat → Int32 := if (sr_X5_isError p1) = 0 then ore else re
abbrev po_X5_settle (cI cC cL : ClassId) (x0 h o t1 x1 y1 z1 x2 s0 s01 s02 s03 s1 s11 s12 s13 s2 s21 s22 s23 s3 s31 s32 s33 h1 h2 h3 y2 o1 o2 o3 : Nat) (hf f se to re pf tf ch of ose oto ore kf : Nat → Int32) (p1 : Int32) (sf : Nat → Nat → Int32) (sse : Nat → Nat → Int32) (sto : Nat → Nat → Int32) (sre : Nat → Nat → Int32) : Int32 → va_W → Prop := fun r w' => sr_X5_settle p1 = r ∧ [oX x0 h o t1 x1 y1 z1, oH x1 x2 (sw1_X5_settle hf p1), aL cL x2 (gS s0 s1 s2 s3), oL s0 s01 s02 s03 (fw_sf_X5_settle hf f p1 sf 0), aI cI s01 3 (fw_sse_X5_settle hf se p1 sse 0), aI cI s02 7 (fw_sto_X5_settle hf to p1 sto 0), aI cI s03 60 (fw_sre_X5_settle hf re p1 sre 0), oL s1 s11 s12 s13 (fw_sf_X5_settle hf f p1 sf 1), aI cI s11 3 (fw_sse_X5_settle hf se p1 sse 1), aI cI s12 7 (fw_sto_X5_settle hf to p1 sto 1), aI cI s13 60 (fw_sre_X5_settle hf re p1 sre 1), oL s2 s21 s22 s23 (fw_sf_X5_settle hf f p1 sf 2), aI cI s21 3 (fw_sse_X5_settle hf se p1 sse 2), aI cI s22 7 (fw_sto_X5_settle hf to p1 sto 2), aI cI s23 60 (fw_sre_X5_settle hf re p1 sre 2), oL s3 s31 s32 s33 (fw_sf_X5_settle hf f p1 sf 3), aI cI s31 3 (fw_sse_X5_settle hf se p1 sse 3), aI cI s32 7 (fw_sto_X5_settle hf to p1 sto 3), aI cI s33 60 (fw_sre_X5_settle hf re p1 sre 3), oL h h1 h2 h3 (sw19_X5_settle f of p1), aI cI h1 3 (sw20_X5_settle se ose p1), aI cI h2 7 (sw21_X5_settle to oto p1), aI cI h3 60 (sw22_X5_settle re ore p1), oP z1 pf, oT y1 y2 tf, aC cC y2 60 ch, oL o o1 o2 o3 of, aI cI o1 3 ose, aI cI o2 7 oto, aI cI o3 60 ore, oK t1 kf] = w'
set_option maxHeartbeats 4000000 in
set_option maxRecDepth 100000 in
theorem ct_X5_settle (l : Launch) (D : va_G) (cI cC cL : ClassId) (x0 h o t1 x1 y1 z1 x2 s0 s01 s02 s03 s1 s11 s12 s13 s2 s21 s22 s23 s3 s31 s32 s33 h1 h2 h3 y2 o1 o2 o3 : Nat) (hf f se to re pf tf ch of ose oto ore kf : Nat → Int32) (p1 : Int32) (sf : Nat → Nat → Int32) (sse : Nat → Nat → Int32) (sto : Nat → Nat → Int32) (sre : Nat → Nat → Int32) : ag_MI l yX5_settle cX5_settle 2 .int 3 72 D cI cC cL [.ref x0, .int p1] [oX x0 h o t1 x1 y1 z1, oH x1 x2 hf, aL cL x2 (gS s0 s1 s2 s3), oL s0 s01 s02 s03 (sf 0), aI cI s01 3 (sse 0), aI cI s02 7 (sto 0), aI cI s03 60 (sre 0), oL s1 s11 s12 s13 (sf 1), aI cI s11 3 (sse 1), aI cI s12 7 (sto 1), aI cI s13 60 (sre 1), oL s2 s21 s22 s23 (sf 2), aI cI s21 3 (sse 2), aI cI s22 7 (sto 2), aI cI s23 60 (sre 2), oL s3 s31 s32 s33 (sf 3), aI cI s31 3 (sse 3), aI cI s32 7 (sto 3), aI cI s33 60 (sre 3), oL h h1 h2 h3 f, aI cI h1 3 se, aI cI h2 7 to, aI cI h3 60 re, oP z1 pf, oT y1 y2 tf, aC cC y2 60 ch, oL o o1 o2 o3 of, aI cI o1 3 ose, aI cI o2 7 oto, aI cI o3 60 ore, oK t1 kf] (po_X5_settle cI cC cL x0 h o t1 x1 y1 z1 x2 s0 s01 s02 s03 s1 s11 s12 s13 s2 s21 s22 s23 s3 s31 s32 s33 h1 h2 h3 y2 o1 o2 o3 hf f se to re pf tf ch of ose oto ore kf p1 sf sse sto sre) := by
  refine ag_MI.of (plainFor_of_name (by decide)) (Nat.le_of_ble_eq_true rfl) ?_
  intro p e s m below meth c hx hb hr hlocks hml hown hmn hG hK A hN hA H locs hP hD hS ls hl
  have hl : lv_has ls 2 [(0, .ref x0), (1, .int p1)] := hl
  refine lv_iload_n hx hb dX5_settle_0 rfl (lv_at hl 1 rfl) ?_
  refine ag_callSi (As := [.int p1]) (rest := []) hx hb hml hown hG hK hN hA hP hD hS hl (ct_X5_isError l D cI cC cL p1) fX5_isError k_271 ag_cut_0 rfl (Nat.le_of_ble_eq_true rfl) ⟨Nat.le_of_ble_eq_true rfl, Nat.le_of_ble_eq_true rfl⟩ ⟨Nat.zero_le _, Nat.zero_le _⟩ dX5_settle_1 (fun r w1 H locs hw hP hD hS => ?_)
  obtain ⟨rfl, hw⟩ := hw
  subst hw
  have hP : va_P D vwCl [oX x0 h o t1 x1 y1 z1, oH x1 x2 hf, aL cL x2 (gS s0 s1 s2 s3), oL s0 s01 s02 s03 (sf 0), aI cI s01 3 (sse 0), aI cI s02 7 (sto 0), aI cI s03 60 (sre 0), oL s1 s11 s12 s13 (sf 1), aI cI s11 3 (sse 1), aI cI s12 7 (sto 1), aI cI s13 60 (sre 1), oL s2 s21 s22 s23 (sf 2), aI cI s21 3 (sse 2), aI cI s22 7 (sto 2), aI cI s23 60 (sre 2), oL s3 s31 s32 s33 (sf 3), aI cI s31 3 (sse 3), aI cI s32 7 (sto 3), aI cI s33 60 (sre 3), oL h h1 h2 h3 f, aI cI h1 3 se, aI cI h2 7 to, aI cI h3 60 re, oP z1 pf, oT y1 y2 tf, aC cC y2 60 ch, oL o o1 o2 o3 of, aI cI o1 3 ose, aI cI o2 7 oto, aI cI o3 60 ore, oK t1 kf] H := hP
  have hD : va_D A [oX x0 h o t1 x1 y1 z1, oH x1 x2 hf, aL cL x2 (gS s0 s1 s2 s3), oL s0 s01 s02 s03 (sf 0), aI cI s01 3 (sse 0), aI cI s02 7 (sto 0), aI cI s03 60 (sre 0), oL s1 s11 s12 s13 (sf 1), aI cI s11 3 (sse 1), aI cI s12 7 (sto 1), aI cI s13 60 (sre 1), oL s2 s21 s22 s23 (sf 2), aI cI s21 3 (sse 2), aI cI s22 7 (sto 2), aI cI s23 60 (sre 2), oL s3 s31 s32 s33 (sf 3), aI cI s31 3 (sse 3), aI cI s32 7 (sto 3), aI cI s33 60 (sre 3), oL h h1 h2 h3 f, aI cI h1 3 se, aI cI h2 7 to, aI cI h3 60 re, oP z1 pf, oT y1 y2 tf, aC cC y2 60 ch, oL o o1 o2 o3 of, aI cI o1 3 ose, aI cI o2 7 oto, aI cI o3 60 ore, oK t1 kf] := hD
  refine lv_if_ne (tgt := 29) hx hb dX5_settle_4 (by decide) (fun c_4 => ?_) (fun c_4 => ?_)
  · refine lv_iload_n hx hb dX5_settle_29 rfl (lv_at hl 1 rfl) ?_
    exact ag_iret [x0, x1, x2, s0, s01, s02, s03, s1, s11, s12, s13, s2, s21, s22, s23, s3, s31, s32, s33, h, h1, h2, h3, z1, y1, y2, o, o1, o2, o3, t1] hx hb hr rfl hlocks hP hS rfl rfl ⟨rfl, (by show _ = _; rw [show fw_sf_X5_settle hf f p1 sf = sf from (by unfold fw_sf_X5_settle; rw [if_neg c_4]), show fw_sse_X5_settle hf se p1 sse = sse from (by unfold fw_sse_X5_settle; rw [if_neg c_4]), show fw_sto_X5_settle hf to p1 sto = sto from (by unfold fw_sto_X5_settle; rw [if_neg c_4]), show fw_sre_X5_settle hf re p1 sre = sre from (by unfold fw_sre_X5_settle; rw [if_neg c_4]), show sw1_X5_settle hf p1 = hf from (by unfold sw1_X5_settle; rw [if_neg c_4]), show sw19_X5_settle f of p1 = f from (by unfold sw19_X5_settle; rw [if_neg c_4]), show sw20_X5_settle se ose p1 = se from (by unfold sw20_X5_settle; rw [if_neg c_4]), show sw21_X5_settle to oto p1 = to from (by unfold sw21_X5_settle; rw [if_neg c_4]), show sw22_X5_settle re ore p1 = re from (by unfold sw22_X5_settle; rw [if_neg c_4])])⟩ dX5_settle_30
  · refine lv_aload_n hx hb dX5_settle_7 rfl (lv_at hl 0 rfl) ?_
    refine ag_getX5 (v := .ref x1) hx hb hG hown hK hP 0 3 rfl (by decide) k_179 rfl dX5_settle_8 ?_
    refine lv_aload_n hx hb dX5_settle_11 rfl (lv_at hl 0 rfl) ?_
    refine ag_getX5 (v := .ref h) hx hb hG hown hK hP 0 0 rfl (by decide) k_176 rfl dX5_settle_12 ?_
    refine ag_callVv (As := [.ref h]) (rest := []) hx hb hml hown hG hK hN hA hP hD hS hl (ct_X0_keep l D cI cC cL x1 h x2 s0 s01 s02 s03 s1 s11 s12 s13 s2 s21 s22 s23 s3 s31 s32 s33 h1 h2 h3 hf f se to re sf sse sto sre) fX0_keep k_274 (ag_cut_1 [oX x0 h o t1 x1 y1 z1] [oP z1 pf, oT y1 y2 tf, aC cC y2 60 ch, oL o o1 o2 o3 of, aI cI o1 3 ose, aI cI o2 7 oto, aI cI o3 60 ore, oK t1 kf] rfl) (q0 := 1) rfl rfl rfl rfl (Nat.le_of_ble_eq_true rfl) ⟨Nat.le_of_ble_eq_true rfl, Nat.le_of_ble_eq_true rfl⟩ ⟨Nat.zero_le _, Nat.zero_le _⟩ dX5_settle_15 (fun w1 H locs hw hP hD hS => ?_)
    have hw : _ = w1 := hw
    generalize eg15_1 : hk_k hf = g15_1 at hw
    replace eg15_1 : gv15_1_X5_settle hf = g15_1 := (by rw [← eg15_1]; rfl)
    generalize eg15_2 : va_up sf (rox (hf 0 + hf 1)) f = g15_2 at hw
    replace eg15_2 : gv15_2_X5_settle hf f sf = g15_2 := (by rw [← eg15_2]; rfl)
    generalize eg15_3 : va_up sse (rox (hf 0 + hf 1)) se = g15_3 at hw
    replace eg15_3 : gv15_3_X5_settle hf se sse = g15_3 := (by rw [← eg15_3]; rfl)
    generalize eg15_4 : va_up sto (rox (hf 0 + hf 1)) to = g15_4 at hw
    replace eg15_4 : gv15_4_X5_settle hf to sto = g15_4 := (by rw [← eg15_4]; rfl)
    generalize eg15_5 : va_up sre (rox (hf 0 + hf 1)) re = g15_5 at hw
    replace eg15_5 : gv15_5_X5_settle hf re sre = g15_5 := (by rw [← eg15_5]; rfl)
    subst hw
    have hP : va_P D vwCl [oX x0 h o t1 x1 y1 z1, oH x1 x2 g15_1, aL cL x2 (gS s0 s1 s2 s3), oL s0 s01 s02 s03 (g15_2 0), aI cI s01 3 (g15_3 0), aI cI s02 7 (g15_4 0), aI cI s03 60 (g15_5 0), oL s1 s11 s12 s13 (g15_2 1), aI cI s11 3 (g15_3 1), aI cI s12 7 (g15_4 1), aI cI s13 60 (g15_5 1), oL s2 s21 s22 s23 (g15_2 2), aI cI s21 3 (g15_3 2), aI cI s22 7 (g15_4 2), aI cI s23 60 (g15_5 2), oL s3 s31 s32 s33 (g15_2 3), aI cI s31 3 (g15_3 3), aI cI s32 7 (g15_4 3), aI cI s33 60 (g15_5 3), oL h h1 h2 h3 f, aI cI h1 3 se, aI cI h2 7 to, aI cI h3 60 re, oP z1 pf, oT y1 y2 tf, aC cC y2 60 ch, oL o o1 o2 o3 of, aI cI o1 3 ose, aI cI o2 7 oto, aI cI o3 60 ore, oK t1 kf] H := hP
    have hD : va_D A [oX x0 h o t1 x1 y1 z1, oH x1 x2 g15_1, aL cL x2 (gS s0 s1 s2 s3), oL s0 s01 s02 s03 (g15_2 0), aI cI s01 3 (g15_3 0), aI cI s02 7 (g15_4 0), aI cI s03 60 (g15_5 0), oL s1 s11 s12 s13 (g15_2 1), aI cI s11 3 (g15_3 1), aI cI s12 7 (g15_4 1), aI cI s13 60 (g15_5 1), oL s2 s21 s22 s23 (g15_2 2), aI cI s21 3 (g15_3 2), aI cI s22 7 (g15_4 2), aI cI s23 60 (g15_5 2), oL s3 s31 s32 s33 (g15_2 3), aI cI s31 3 (g15_3 3), aI cI s32 7 (g15_4 3), aI cI s33 60 (g15_5 3), oL h h1 h2 h3 f, aI cI h1 3 se, aI cI h2 7 to, aI cI h3 60 re, oP z1 pf, oT y1 y2 tf, aC cC y2 60 ch, oL o o1 o2 o3 of, aI cI o1 3 ose, aI cI o2 7 oto, aI cI o3 60 ore, oK t1 kf] := hD
    refine lv_aload_n hx hb dX5_settle_18 rfl (lv_at hl 0 rfl) ?_
    refine ag_getX5 (v := .ref h) hx hb hG hown hK hP 0 0 rfl (by decide) k_176 rfl dX5_settle_19 ?_
    refine lv_aload_n hx hb dX5_settle_22 rfl (lv_at hl 0 rfl) ?_
    refine ag_getX5 (v := .ref o) hx hb hG hown hK hP 0 1 rfl (by decide) k_177 rfl dX5_settle_23 ?_
    refine ag_callVv (As := [.ref o]) (rest := []) hx hb hml hown hG hK hN hA hP hD hS hl (ct_X1_copyFrom l D cI cC cL h o h1 h2 h3 o1 o2 o3 f se to re of ose oto ore) fX1_copyFrom k_255 (ag_cut_2 4 [oX x0 h o t1 x1 y1 z1, oH x1 x2 g15_1, aL cL x2 (gS s0 s1 s2 s3), oL s0 s01 s02 s03 (g15_2 0), aI cI s01 3 (g15_3 0), aI cI s02 7 (g15_4 0), aI cI s03 60 (g15_5 0), oL s1 s11 s12 s13 (g15_2 1), aI cI s11 3 (g15_3 1), aI cI s12 7 (g15_4 1), aI cI s13 60 (g15_5 1), oL s2 s21 s22 s23 (g15_2 2), aI cI s21 3 (g15_3 2), aI cI s22 7 (g15_4 2), aI cI s23 60 (g15_5 2), oL s3 s31 s32 s33 (g15_2 3), aI cI s31 3 (g15_3 3), aI cI s32 7 (g15_4 3), aI cI s33 60 (g15_5 3)] [oL h h1 h2 h3 f, aI cI h1 3 se, aI cI h2 7 to, aI cI h3 60 re] [oP z1 pf, oT y1 y2 tf, aC cC y2 60 ch] [oL o o1 o2 o3 of, aI cI o1 3 ose, aI cI o2 7 oto, aI cI o3 60 ore] [oK t1 kf] rfl rfl rfl) (q0 := 19) rfl rfl rfl rfl (Nat.le_of_ble_eq_true rfl) ⟨Nat.le_of_ble_eq_true rfl, Nat.le_of_ble_eq_true rfl⟩ ⟨Nat.zero_le _, Nat.zero_le _⟩ dX5_settle_26 (fun w1 H locs hw hP hD hS => ?_)
    have hw : _ = w1 := hw
    subst hw
    have hP : va_P D vwCl [oX x0 h o t1 x1 y1 z1, oH x1 x2 g15_1, aL cL x2 (gS s0 s1 s2 s3), oL s0 s01 s02 s03 (g15_2 0), aI cI s01 3 (g15_3 0), aI cI s02 7 (g15_4 0), aI cI s03 60 (g15_5 0), oL s1 s11 s12 s13 (g15_2 1), aI cI s11 3 (g15_3 1), aI cI s12 7 (g15_4 1), aI cI s13 60 (g15_5 1), oL s2 s21 s22 s23 (g15_2 2), aI cI s21 3 (g15_3 2), aI cI s22 7 (g15_4 2), aI cI s23 60 (g15_5 2), oL s3 s31 s32 s33 (g15_2 3), aI cI s31 3 (g15_3 3), aI cI s32 7 (g15_4 3), aI cI s33 60 (g15_5 3), oL h h1 h2 h3 of, aI cI h1 3 ose, aI cI h2 7 oto, aI cI h3 60 ore, oP z1 pf, oT y1 y2 tf, aC cC y2 60 ch, oL o o1 o2 o3 of, aI cI o1 3 ose, aI cI o2 7 oto, aI cI o3 60 ore, oK t1 kf] H := hP
    have hD : va_D A [oX x0 h o t1 x1 y1 z1, oH x1 x2 g15_1, aL cL x2 (gS s0 s1 s2 s3), oL s0 s01 s02 s03 (g15_2 0), aI cI s01 3 (g15_3 0), aI cI s02 7 (g15_4 0), aI cI s03 60 (g15_5 0), oL s1 s11 s12 s13 (g15_2 1), aI cI s11 3 (g15_3 1), aI cI s12 7 (g15_4 1), aI cI s13 60 (g15_5 1), oL s2 s21 s22 s23 (g15_2 2), aI cI s21 3 (g15_3 2), aI cI s22 7 (g15_4 2), aI cI s23 60 (g15_5 2), oL s3 s31 s32 s33 (g15_2 3), aI cI s31 3 (g15_3 3), aI cI s32 7 (g15_4 3), aI cI s33 60 (g15_5 3), oL h h1 h2 h3 of, aI cI h1 3 ose, aI cI h2 7 oto, aI cI h3 60 ore, oP z1 pf, oT y1 y2 tf, aC cC y2 60 ch, oL o o1 o2 o3 of, aI cI o1 3 ose, aI cI o2 7 oto, aI cI o3 60 ore, oK t1 kf] := hD
    refine lv_iload_n hx hb dX5_settle_29 rfl (lv_at hl 1 rfl) ?_
    revert hP; revert hD; revert hS; revert hl
    subst eg15_5
    subst eg15_4
    subst eg15_3
    subst eg15_2
    subst eg15_1
    intro hl hS hD hP
    exact ag_iret [x0, x1, x2, s0, s01, s02, s03, s1, s11, s12, s13, s2, s21, s22, s23, s3, s31, s32, s33, h, h1, h2, h3, z1, y1, y2, o, o1, o2, o3, t1] hx hb hr rfl hlocks hP hS rfl rfl ⟨rfl, (by show _ = _; rw [show fw_sf_X5_settle hf f p1 sf = (gv15_2_X5_settle hf f sf) from (by unfold fw_sf_X5_settle; rw [if_pos c_4]), show fw_sse_X5_settle hf se p1 sse = (gv15_3_X5_settle hf se sse) from (by unfold fw_sse_X5_settle; rw [if_pos c_4]), show fw_sto_X5_settle hf to p1 sto = (gv15_4_X5_settle hf to sto) from (by unfold fw_sto_X5_settle; rw [if_pos c_4]), show fw_sre_X5_settle hf re p1 sre = (gv15_5_X5_settle hf re sre) from (by unfold fw_sre_X5_settle; rw [if_pos c_4]), show sw1_X5_settle hf p1 = (gv15_1_X5_settle hf) from (by unfold sw1_X5_settle; rw [if_pos c_4]), show sw19_X5_settle f of p1 = of from (by unfold sw19_X5_settle; rw [if_pos c_4]), show sw20_X5_settle se ose p1 = ose from (by unfold sw20_X5_settle; rw [if_pos c_4]), show sw21_X5_settle to oto p1 = oto from (by unfold sw21_X5_settle; rw [if_pos c_4]), show sw22_X5_settle re ore p1 = ore from (by unfold sw22_X5_settle; rw [if_pos c_4])])⟩ dX5_settle_30
def gv17_1_X5_gates (f : Nat → Int32) (p1 : Int32) : Nat → Int32 := sw0_X1_openGates f p1
def gv20_2_X5_gates (hf : Nat → Int32) (f : Nat → Int32) (p1 : Int32) : Nat → Int32 := sw1_X5_settle hf (sr_X1_openGates f p1)
def gv20_3_X5_gates (hf : Nat → Int32) (f : Nat → Int32) (p1 : Int32) (sf : Nat → Nat → Int32) : Nat → Nat → Int32 := fw_sf_X5_settle hf f (sr_X1_openGates f p1) sf
def gv20_4_X5_gates (hf : Nat → Int32) (f : Nat → Int32) (se : Nat → Int32) (p1 : Int32) (sse : Nat → Nat → Int32) : Nat → Nat → Int32 := fw_sse_X5_settle hf se (sr_X1_openGates f p1) sse
def gv20_5_X5_gates (hf : Nat → Int32) (f : Nat → Int32) (to : Nat → Int32) (p1 : Int32) (sto : Nat → Nat → Int32) : Nat → Nat → Int32 := fw_sto_X5_settle hf to (sr_X1_openGates f p1) sto
def gv20_6_X5_gates (hf : Nat → Int32) (f : Nat → Int32) (re : Nat → Int32) (p1 : Int32) (sre : Nat → Nat → Int32) : Nat → Nat → Int32 := fw_sre_X5_settle hf re (sr_X1_openGates f p1) sre
def gv20_7_X5_gates (f : Nat → Int32) (p1 : Int32) : Nat → Int32 := sw19_X5_settle f (gv17_1_X5_gates f p1) (sr_X1_openGates f p1)
def gv20_8_X5_gates (f : Nat → Int32) (se : Nat → Int32) (p1 : Int32) : Nat → Int32 := sw20_X5_settle se se (sr_X1_openGates f p1)
def gv20_9_X5_gates (f : Nat → Int32) (to : Nat → Int32) (p1 : Int32) : Nat → Int32 := sw21_X5_settle to to (sr_X1_openGates f p1)
def gv20_10_X5_gates (f : Nat → Int32) (re : Nat → Int32) (p1 : Int32) : Nat → Int32 := sw22_X5_settle re re (sr_X1_openGates f p1)
def sr_X5_gates (f : Nat → Int32) (p1 : Int32) : Int32 := sr_X5_settle (sr_X1_openGates f p1)
def fw_sf_X5_gates (hf : Nat → Int32) (f : Nat → Int32) (p1 : Int32) (sf : Nat → Nat → Int32) : Nat → Nat → Int32 := (gv20_3_X5_gates hf f p1 sf)
def fw_sse_X5_gates (hf : Nat → Int32) (f : Nat → Int32) (se : Nat → Int32) (p1 : Int32) (sse : Nat → Nat → Int32) : Nat → Nat → Int32 := (gv20_4_X5_gates hf f se p1 sse)
def fw_sto_X5_gates (hf : Nat → Int32) (f : Nat → Int32) (to : Nat → Int32) (p1 : Int32) (sto : Nat → Nat → Int32) : Nat → Nat → Int32 := (gv20_5_X5_gates hf f to p1 sto)
def fw_sre_X5_gates (hf : Nat → Int32) (f : Nat → Int32) (re : Nat → Int32) (p1 : Int32) (sre : Nat → Nat → Int32) : Nat → Nat → Int32 := (gv20_6_X5_gates hf f re p1 sre)
def sw1_X5_gates (hf : Nat → Int32) (f : Nat → Int32) (p1 : Int32) : Nat → Int32 := (gv20_2_X5_gates hf f p1)
def sw19_X5_gates (f : Nat → Int32) (p1 : Int32) : Nat → Int32 := (gv20_7_X5_gates f p1)
def sw20_X5_gates (f : Nat → Int32) (se : Nat → Int32) (p1 : Int32) : Nat → Int32 := (gv20_8_X5_gates f se p1)
def sw21_X5_gates (f : Nat → Int32) (to : Nat → Int32) (p1 : Int32) : Nat → Int32 := (gv20_9_X5_gates f to p1)
def sw22_X5_gates (f : Nat → Int32) (re : Nat → Int32) (p1 : Int32) : Nat → Int32 := (gv20_10_X5_gates f re p1)
def sw26_X5_gates (f : Nat → Int32) (p1 : Int32) : Nat → Int32 := (gv17_1_X5_gates f p1)
def sw27_X5_gates (se : Nat → Int32) : Nat → Int32 := se
def sw28_X5_gates (to : Nat → Int32) : Nat → Int32 := to
def sw29_X5_gates (re : Nat → Int32) : Nat → Int32 := re
abbrev po_X5_gates (cI cC cL : ClassId) (x0 h o t1 x1 y1 z1 x2 s0 s01 s02 s03 s1 s11 s12 s13 s2 s21 s22 s23 s3 s31 s32 s33 h1 h2 h3 y2 o1 o2 o3 : Nat) (hf f se to re pf tf ch of ose oto ore kf : Nat → Int32) (p1 : Int32) (sf : Nat → Nat → Int32) (sse : Nat → Nat → Int32) (sto : Nat → Nat → Int32) (sre : Nat → Nat → Int32) : Int32 → va_W → Prop := fun r w' => sr_X5_gates f p1 = r ∧ [oX x0 h o t1 x1 y1 z1, oH x1 x2 (sw1_X5_gates hf f p1), aL cL x2 (gS s0 s1 s2 s3), oL s0 s01 s02 s03 (fw_sf_X5_gates hf f p1 sf 0), aI cI s01 3 (fw_sse_X5_gates hf f se p1 sse 0), aI cI s02 7 (fw_sto_X5_gates hf f to p1 sto 0), aI cI s03 60 (fw_sre_X5_gates hf f re p1 sre 0), oL s1 s11 s12 s13 (fw_sf_X5_gates hf f p1 sf 1), aI cI s11 3 (fw_sse_X5_gates hf f se p1 sse 1), aI cI s12 7 (fw_sto_X5_gates hf f to p1 sto 1), aI cI s13 60 (fw_sre_X5_gates hf f re p1 sre 1), oL s2 s21 s22 s23 (fw_sf_X5_gates hf f p1 sf 2), aI cI s21 3 (fw_sse_X5_gates hf f se p1 sse 2), aI cI s22 7 (fw_sto_X5_gates hf f to p1 sto 2), aI cI s23 60 (fw_sre_X5_gates hf f re p1 sre 2), oL s3 s31 s32 s33 (fw_sf_X5_gates hf f p1 sf 3), aI cI s31 3 (fw_sse_X5_gates hf f se p1 sse 3), aI cI s32 7 (fw_sto_X5_gates hf f to p1 sto 3), aI cI s33 60 (fw_sre_X5_gates hf f re p1 sre 3), oL h h1 h2 h3 (sw19_X5_gates f p1), aI cI h1 3 (sw20_X5_gates f se p1), aI cI h2 7 (sw21_X5_gates f to p1), aI cI h3 60 (sw22_X5_gates f re p1), oP z1 pf, oT y1 y2 tf, aC cC y2 60 ch, oL o o1 o2 o3 (sw26_X5_gates f p1), aI cI o1 3 (sw27_X5_gates se), aI cI o2 7 (sw28_X5_gates to), aI cI o3 60 (sw29_X5_gates re), oK t1 kf] = w'
set_option maxHeartbeats 4000000 in
set_option maxRecDepth 100000 in
theorem ct_X5_gates (l : Launch) (D : va_G) (cI cC cL : ClassId) (x0 h o t1 x1 y1 z1 x2 s0 s01 s02 s03 s1 s11 s12 s13 s2 s21 s22 s23 s3 s31 s32 s33 h1 h2 h3 y2 o1 o2 o3 : Nat) (hf f se to re pf tf ch of ose oto ore kf : Nat → Int32) (p1 : Int32) (sf : Nat → Nat → Int32) (sse : Nat → Nat → Int32) (sto : Nat → Nat → Int32) (sre : Nat → Nat → Int32) : ag_MI l yX5_gates cX5_gates 2 .int 4 93 D cI cC cL [.ref x0, .int p1] [oX x0 h o t1 x1 y1 z1, oH x1 x2 hf, aL cL x2 (gS s0 s1 s2 s3), oL s0 s01 s02 s03 (sf 0), aI cI s01 3 (sse 0), aI cI s02 7 (sto 0), aI cI s03 60 (sre 0), oL s1 s11 s12 s13 (sf 1), aI cI s11 3 (sse 1), aI cI s12 7 (sto 1), aI cI s13 60 (sre 1), oL s2 s21 s22 s23 (sf 2), aI cI s21 3 (sse 2), aI cI s22 7 (sto 2), aI cI s23 60 (sre 2), oL s3 s31 s32 s33 (sf 3), aI cI s31 3 (sse 3), aI cI s32 7 (sto 3), aI cI s33 60 (sre 3), oL h h1 h2 h3 f, aI cI h1 3 se, aI cI h2 7 to, aI cI h3 60 re, oP z1 pf, oT y1 y2 tf, aC cC y2 60 ch, oL o o1 o2 o3 of, aI cI o1 3 ose, aI cI o2 7 oto, aI cI o3 60 ore, oK t1 kf] (po_X5_gates cI cC cL x0 h o t1 x1 y1 z1 x2 s0 s01 s02 s03 s1 s11 s12 s13 s2 s21 s22 s23 s3 s31 s32 s33 h1 h2 h3 y2 o1 o2 o3 hf f se to re pf tf ch of ose oto ore kf p1 sf sse sto sre) := by
  refine ag_MI.of (plainFor_of_name (by decide)) (Nat.le_of_ble_eq_true rfl) ?_
  intro p e s m below meth c hx hb hr hlocks hml hown hmn hG hK A hN hA H locs hP hD hS ls hl
  have hl : lv_has ls 2 [(0, .ref x0), (1, .int p1)] := hl
  refine lv_aload_n hx hb dX5_gates_0 rfl (lv_at hl 0 rfl) ?_
  refine ag_getX5 (v := .ref o) hx hb hG hown hK hP 0 1 rfl (by decide) k_177 rfl dX5_gates_1 ?_
  refine lv_aload_n hx hb dX5_gates_4 rfl (lv_at hl 0 rfl) ?_
  refine ag_getX5 (v := .ref h) hx hb hG hown hK hP 0 0 rfl (by decide) k_176 rfl dX5_gates_5 ?_
  refine ag_callVv (As := [.ref h]) (rest := []) hx hb hml hown hG hK hN hA hP hD hS hl (ct_X1_copyFrom l D cI cC cL o h o1 o2 o3 h1 h2 h3 of ose oto ore f se to re) fX1_copyFrom k_255 (ag_cut_2s 4 [oX x0 h o t1 x1 y1 z1, oH x1 x2 hf, aL cL x2 (gS s0 s1 s2 s3), oL s0 s01 s02 s03 (sf 0), aI cI s01 3 (sse 0), aI cI s02 7 (sto 0), aI cI s03 60 (sre 0), oL s1 s11 s12 s13 (sf 1), aI cI s11 3 (sse 1), aI cI s12 7 (sto 1), aI cI s13 60 (sre 1), oL s2 s21 s22 s23 (sf 2), aI cI s21 3 (sse 2), aI cI s22 7 (sto 2), aI cI s23 60 (sre 2), oL s3 s31 s32 s33 (sf 3), aI cI s31 3 (sse 3), aI cI s32 7 (sto 3), aI cI s33 60 (sre 3)] [oL o o1 o2 o3 of, aI cI o1 3 ose, aI cI o2 7 oto, aI cI o3 60 ore] [oP z1 pf, oT y1 y2 tf, aC cC y2 60 ch] [oL h h1 h2 h3 f, aI cI h1 3 se, aI cI h2 7 to, aI cI h3 60 re] [oK t1 kf] rfl rfl rfl) (q0 := 26) rfl rfl rfl rfl (Nat.le_of_ble_eq_true rfl) ⟨Nat.le_of_ble_eq_true rfl, Nat.le_of_ble_eq_true rfl⟩ ⟨Nat.zero_le _, Nat.zero_le _⟩ dX5_gates_8 (fun w1 H locs hw hP hD hS => ?_)
  have hw : _ = w1 := hw
  subst hw
  have hP : va_P D vwCl [oX x0 h o t1 x1 y1 z1, oH x1 x2 hf, aL cL x2 (gS s0 s1 s2 s3), oL s0 s01 s02 s03 (sf 0), aI cI s01 3 (sse 0), aI cI s02 7 (sto 0), aI cI s03 60 (sre 0), oL s1 s11 s12 s13 (sf 1), aI cI s11 3 (sse 1), aI cI s12 7 (sto 1), aI cI s13 60 (sre 1), oL s2 s21 s22 s23 (sf 2), aI cI s21 3 (sse 2), aI cI s22 7 (sto 2), aI cI s23 60 (sre 2), oL s3 s31 s32 s33 (sf 3), aI cI s31 3 (sse 3), aI cI s32 7 (sto 3), aI cI s33 60 (sre 3), oL h h1 h2 h3 f, aI cI h1 3 se, aI cI h2 7 to, aI cI h3 60 re, oP z1 pf, oT y1 y2 tf, aC cC y2 60 ch, oL o o1 o2 o3 f, aI cI o1 3 se, aI cI o2 7 to, aI cI o3 60 re, oK t1 kf] H := hP
  have hD : va_D A [oX x0 h o t1 x1 y1 z1, oH x1 x2 hf, aL cL x2 (gS s0 s1 s2 s3), oL s0 s01 s02 s03 (sf 0), aI cI s01 3 (sse 0), aI cI s02 7 (sto 0), aI cI s03 60 (sre 0), oL s1 s11 s12 s13 (sf 1), aI cI s11 3 (sse 1), aI cI s12 7 (sto 1), aI cI s13 60 (sre 1), oL s2 s21 s22 s23 (sf 2), aI cI s21 3 (sse 2), aI cI s22 7 (sto 2), aI cI s23 60 (sre 2), oL s3 s31 s32 s33 (sf 3), aI cI s31 3 (sse 3), aI cI s32 7 (sto 3), aI cI s33 60 (sre 3), oL h h1 h2 h3 f, aI cI h1 3 se, aI cI h2 7 to, aI cI h3 60 re, oP z1 pf, oT y1 y2 tf, aC cC y2 60 ch, oL o o1 o2 o3 f, aI cI o1 3 se, aI cI o2 7 to, aI cI o3 60 re, oK t1 kf] := hD
  refine lv_aload_n hx hb dX5_gates_11 rfl (lv_at hl 0 rfl) ?_
  refine lv_aload_n hx hb dX5_gates_12 rfl (lv_at hl 0 rfl) ?_
  refine ag_getX5 (v := .ref o) hx hb hG hown hK hP 0 1 rfl (by decide) k_177 rfl dX5_gates_13 ?_
  refine lv_iload_n hx hb dX5_gates_16 rfl (lv_at hl 1 rfl) ?_
  refine ag_callVi (As := [.int p1]) (rest := [.ref x0]) hx hb hml hown hG hK hN hA hP hD hS hl (ct_X1_openGates l D cI cC cL o o1 o2 o3 f se to re p1) fX1_openGates k_262 (ag_cut_1 [oX x0 h o t1 x1 y1 z1, oH x1 x2 hf, aL cL x2 (gS s0 s1 s2 s3), oL s0 s01 s02 s03 (sf 0), aI cI s01 3 (sse 0), aI cI s02 7 (sto 0), aI cI s03 60 (sre 0), oL s1 s11 s12 s13 (sf 1), aI cI s11 3 (sse 1), aI cI s12 7 (sto 1), aI cI s13 60 (sre 1), oL s2 s21 s22 s23 (sf 2), aI cI s21 3 (sse 2), aI cI s22 7 (sto 2), aI cI s23 60 (sre 2), oL s3 s31 s32 s33 (sf 3), aI cI s31 3 (sse 3), aI cI s32 7 (sto 3), aI cI s33 60 (sre 3), oL h h1 h2 h3 f, aI cI h1 3 se, aI cI h2 7 to, aI cI h3 60 re, oP z1 pf, oT y1 y2 tf, aC cC y2 60 ch] [oK t1 kf] rfl) (q0 := 26) rfl rfl rfl rfl (Nat.le_of_ble_eq_true rfl) ⟨Nat.le_of_ble_eq_true rfl, Nat.le_of_ble_eq_true rfl⟩ ⟨Nat.zero_le _, Nat.zero_le _⟩ dX5_gates_17 (fun r w1 H locs hw hP hD hS => ?_)
  obtain ⟨rfl, hw⟩ := hw
  generalize eg17_1 : sw0_X1_openGates f p1 = g17_1 at hw
  replace eg17_1 : gv17_1_X5_gates f p1 = g17_1 := (by rw [← eg17_1]; rfl)
  subst hw
  have hP : va_P D vwCl [oX x0 h o t1 x1 y1 z1, oH x1 x2 hf, aL cL x2 (gS s0 s1 s2 s3), oL s0 s01 s02 s03 (sf 0), aI cI s01 3 (sse 0), aI cI s02 7 (sto 0), aI cI s03 60 (sre 0), oL s1 s11 s12 s13 (sf 1), aI cI s11 3 (sse 1), aI cI s12 7 (sto 1), aI cI s13 60 (sre 1), oL s2 s21 s22 s23 (sf 2), aI cI s21 3 (sse 2), aI cI s22 7 (sto 2), aI cI s23 60 (sre 2), oL s3 s31 s32 s33 (sf 3), aI cI s31 3 (sse 3), aI cI s32 7 (sto 3), aI cI s33 60 (sre 3), oL h h1 h2 h3 f, aI cI h1 3 se, aI cI h2 7 to, aI cI h3 60 re, oP z1 pf, oT y1 y2 tf, aC cC y2 60 ch, oL o o1 o2 o3 g17_1, aI cI o1 3 se, aI cI o2 7 to, aI cI o3 60 re, oK t1 kf] H := hP
  have hD : va_D A [oX x0 h o t1 x1 y1 z1, oH x1 x2 hf, aL cL x2 (gS s0 s1 s2 s3), oL s0 s01 s02 s03 (sf 0), aI cI s01 3 (sse 0), aI cI s02 7 (sto 0), aI cI s03 60 (sre 0), oL s1 s11 s12 s13 (sf 1), aI cI s11 3 (sse 1), aI cI s12 7 (sto 1), aI cI s13 60 (sre 1), oL s2 s21 s22 s23 (sf 2), aI cI s21 3 (sse 2), aI cI s22 7 (sto 2), aI cI s23 60 (sre 2), oL s3 s31 s32 s33 (sf 3), aI cI s31 3 (sse 3), aI cI s32 7 (sto 3), aI cI s33 60 (sre 3), oL h h1 h2 h3 f, aI cI h1 3 se, aI cI h2 7 to, aI cI h3 60 re, oP z1 pf, oT y1 y2 tf, aC cC y2 60 ch, oL o o1 o2 o3 g17_1, aI cI o1 3 se, aI cI o2 7 to, aI cI o3 60 re, oK t1 kf] := hD
  refine ag_callVi (As := [.int (sr_X1_openGates f p1)]) (rest := []) hx hb hml hown hG hK hN hA hP hD hS hl (ct_X5_settle l D cI cC cL x0 h o t1 x1 y1 z1 x2 s0 s01 s02 s03 s1 s11 s12 s13 s2 s21 s22 s23 s3 s31 s32 s33 h1 h2 h3 y2 o1 o2 o3 hf f se to re pf tf ch g17_1 se to re kf (sr_X1_openGates f p1) sf sse sto sre) fX5_settle k_267 ag_cut_all (q0 := 0) rfl rfl rfl rfl (Nat.le_of_ble_eq_true rfl) ⟨Nat.le_of_ble_eq_true rfl, Nat.le_of_ble_eq_true rfl⟩ ⟨Nat.zero_le _, Nat.zero_le _⟩ dX5_gates_20 (fun r w1 H locs hw hP hD hS => ?_)
  obtain ⟨rfl, hw⟩ := hw
  generalize eg20_2 : sw1_X5_settle hf (sr_X1_openGates f p1) = g20_2 at hw
  replace eg20_2 : gv20_2_X5_gates hf f p1 = g20_2 := (by rw [← eg20_2]; rfl)
  generalize eg20_3 : fw_sf_X5_settle hf f (sr_X1_openGates f p1) sf = g20_3 at hw
  replace eg20_3 : gv20_3_X5_gates hf f p1 sf = g20_3 := (by rw [← eg20_3]; rfl)
  generalize eg20_4 : fw_sse_X5_settle hf se (sr_X1_openGates f p1) sse = g20_4 at hw
  replace eg20_4 : gv20_4_X5_gates hf f se p1 sse = g20_4 := (by rw [← eg20_4]; rfl)
  generalize eg20_5 : fw_sto_X5_settle hf to (sr_X1_openGates f p1) sto = g20_5 at hw
  replace eg20_5 : gv20_5_X5_gates hf f to p1 sto = g20_5 := (by rw [← eg20_5]; rfl)
  generalize eg20_6 : fw_sre_X5_settle hf re (sr_X1_openGates f p1) sre = g20_6 at hw
  replace eg20_6 : gv20_6_X5_gates hf f re p1 sre = g20_6 := (by rw [← eg20_6]; rfl)
  generalize eg20_7 : sw19_X5_settle f g17_1 (sr_X1_openGates f p1) = g20_7 at hw
  replace eg20_7 : gv20_7_X5_gates f p1 = g20_7 := (by rw [← eg20_7, ← eg17_1]; rfl)
  generalize eg20_8 : sw20_X5_settle se se (sr_X1_openGates f p1) = g20_8 at hw
  replace eg20_8 : gv20_8_X5_gates f se p1 = g20_8 := (by rw [← eg20_8]; rfl)
  generalize eg20_9 : sw21_X5_settle to to (sr_X1_openGates f p1) = g20_9 at hw
  replace eg20_9 : gv20_9_X5_gates f to p1 = g20_9 := (by rw [← eg20_9]; rfl)
  generalize eg20_10 : sw22_X5_settle re re (sr_X1_openGates f p1) = g20_10 at hw
  replace eg20_10 : gv20_10_X5_gates f re p1 = g20_10 := (by rw [← eg20_10]; rfl)
  subst hw
  have hP : va_P D vwCl [oX x0 h o t1 x1 y1 z1, oH x1 x2 g20_2, aL cL x2 (gS s0 s1 s2 s3), oL s0 s01 s02 s03 (g20_3 0), aI cI s01 3 (g20_4 0), aI cI s02 7 (g20_5 0), aI cI s03 60 (g20_6 0), oL s1 s11 s12 s13 (g20_3 1), aI cI s11 3 (g20_4 1), aI cI s12 7 (g20_5 1), aI cI s13 60 (g20_6 1), oL s2 s21 s22 s23 (g20_3 2), aI cI s21 3 (g20_4 2), aI cI s22 7 (g20_5 2), aI cI s23 60 (g20_6 2), oL s3 s31 s32 s33 (g20_3 3), aI cI s31 3 (g20_4 3), aI cI s32 7 (g20_5 3), aI cI s33 60 (g20_6 3), oL h h1 h2 h3 g20_7, aI cI h1 3 g20_8, aI cI h2 7 g20_9, aI cI h3 60 g20_10, oP z1 pf, oT y1 y2 tf, aC cC y2 60 ch, oL o o1 o2 o3 g17_1, aI cI o1 3 se, aI cI o2 7 to, aI cI o3 60 re, oK t1 kf] H := hP
  have hD : va_D A [oX x0 h o t1 x1 y1 z1, oH x1 x2 g20_2, aL cL x2 (gS s0 s1 s2 s3), oL s0 s01 s02 s03 (g20_3 0), aI cI s01 3 (g20_4 0), aI cI s02 7 (g20_5 0), aI cI s03 60 (g20_6 0), oL s1 s11 s12 s13 (g20_3 1), aI cI s11 3 (g20_4 1), aI cI s12 7 (g20_5 1), aI cI s13 60 (g20_6 1), oL s2 s21 s22 s23 (g20_3 2), aI cI s21 3 (g20_4 2), aI cI s22 7 (g20_5 2), aI cI s23 60 (g20_6 2), oL s3 s31 s32 s33 (g20_3 3), aI cI s31 3 (g20_4 3), aI cI s32 7 (g20_5 3), aI cI s33 60 (g20_6 3), oL h h1 h2 h3 g20_7, aI cI h1 3 g20_8, aI cI h2 7 g20_9, aI cI h3 60 g20_10, oP z1 pf, oT y1 y2 tf, aC cC y2 60 ch, oL o o1 o2 o3 g17_1, aI cI o1 3 se, aI cI o2 7 to, aI cI o3 60 re, oK t1 kf] := hD
  revert hP; revert hD; revert hS; revert hl
  subst eg20_10
  subst eg20_9
  subst eg20_8
  subst eg20_7
  subst eg20_6
  subst eg20_5
  subst eg20_4
  subst eg20_3
  subst eg20_2
  subst eg17_1
  intro hl hS hD hP
  exact ag_iret [x0, x1, x2, s0, s01, s02, s03, s1, s11, s12, s13, s2, s21, s22, s23, s3, s31, s32, s33, h, h1, h2, h3, z1, y1, y2, o, o1, o2, o3, t1] hx hb hr rfl hlocks hP hS rfl rfl ⟨rfl, (by show _ = _; rw [show fw_sf_X5_gates hf f p1 sf = (gv20_3_X5_gates hf f p1 sf) from rfl, show fw_sse_X5_gates hf f se p1 sse = (gv20_4_X5_gates hf f se p1 sse) from rfl, show fw_sto_X5_gates hf f to p1 sto = (gv20_5_X5_gates hf f to p1 sto) from rfl, show fw_sre_X5_gates hf f re p1 sre = (gv20_6_X5_gates hf f re p1 sre) from rfl, show sw1_X5_gates hf f p1 = (gv20_2_X5_gates hf f p1) from rfl, show sw19_X5_gates f p1 = (gv20_7_X5_gates f p1) from rfl, show sw20_X5_gates f se p1 = (gv20_8_X5_gates f se p1) from rfl, show sw21_X5_gates f to p1 = (gv20_9_X5_gates f to p1) from rfl, show sw22_X5_gates f re p1 = (gv20_10_X5_gates f re p1) from rfl, show sw26_X5_gates f p1 = (gv17_1_X5_gates f p1) from rfl, show sw27_X5_gates se = se from rfl, show sw28_X5_gates to = to from rfl, show sw29_X5_gates re = re from rfl])⟩ dX5_gates_23
def gv17_1_X5_turbines (f : Nat → Int32) (p1 : Int32) : Nat → Int32 := sw0_X1_openTurbines f p1
def gv20_2_X5_turbines (hf : Nat → Int32) (f : Nat → Int32) (p1 : Int32) : Nat → Int32 := sw1_X5_settle hf (sr_X1_openTurbines f p1)
def gv20_3_X5_turbines (hf : Nat → Int32) (f : Nat → Int32) (p1 : Int32) (sf : Nat → Nat → Int32) : Nat → Nat → Int32 := fw_sf_X5_settle hf f (sr_X1_openTurbines f p1) sf
def gv20_4_X5_turbines (hf : Nat → Int32) (f : Nat → Int32) (se : Nat → Int32) (p1 : Int32) (sse : Nat → Nat → Int32) : Nat → Nat → Int32 := fw_sse_X5_settle hf se (sr_X1_openTurbines f p1) sse
def gv20_5_X5_turbines (hf : Nat → Int32) (f : Nat → Int32) (to : Nat → Int32) (p1 : Int32) (sto : Nat → Nat → Int32) : Nat → Nat → Int32 := fw_sto_X5_settle hf to (sr_X1_openTurbines f p1) sto
def gv20_6_X5_turbines (hf : Nat → Int32) (f : Nat → Int32) (re : Nat → Int32) (p1 : Int32) (sre : Nat → Nat → Int32) : Nat → Nat → Int32 := fw_sre_X5_settle hf re (sr_X1_openTurbines f p1) sre
def gv20_7_X5_turbines (f : Nat → Int32) (p1 : Int32) : Nat → Int32 := sw19_X5_settle f (gv17_1_X5_turbines f p1) (sr_X1_openTurbines f p1)
def gv20_8_X5_turbines (f : Nat → Int32) (se : Nat → Int32) (p1 : Int32) : Nat → Int32 := sw20_X5_settle se se (sr_X1_openTurbines f p1)
def gv20_9_X5_turbines (f : Nat → Int32) (to : Nat → Int32) (p1 : Int32) : Nat → Int32 := sw21_X5_settle to to (sr_X1_openTurbines f p1)
def gv20_10_X5_turbines (f : Nat → Int32) (re : Nat → Int32) (p1 : Int32) : Nat → Int32 := sw22_X5_settle re re (sr_X1_openTurbines f p1)
def sr_X5_turbines (f : Nat → Int32) (p1 : Int32) : Int32 := sr_X5_settle (sr_X1_openTurbines f p1)
def fw_sf_X5_turbines (hf : Nat → Int32) (f : Nat → Int32) (p1 : Int32) (sf : Nat → Nat → Int32) : Nat → Nat → Int32 := (gv20_3_X5_turbines hf f p1 sf)
def fw_sse_X5_turbines (hf : Nat → Int32) (f : Nat → Int32) (se : Nat → Int32) (p1 : Int32) (sse : Nat → Nat → Int32) : Nat → Nat → Int32 := (gv20_4_X5_turbines hf f se p1 sse)
def fw_sto_X5_turbines (hf : Nat → Int32) (f : Nat → Int32) (to : Nat → Int32) (p1 : Int32) (sto : Nat → Nat → Int32) : Nat → Nat → Int32 := (gv20_5_X5_turbines hf f to p1 sto)
def fw_sre_X5_turbines (hf : Nat → Int32) (f : Nat → Int32) (re : Nat → Int32) (p1 : Int32) (sre : Nat → Nat → Int32) : Nat → Nat → Int32 := (gv20_6_X5_turbines hf f re p1 sre)
def sw1_X5_turbines (hf : Nat → Int32) (f : Nat → Int32) (p1 : Int32) : Nat → Int32 := (gv20_2_X5_turbines hf f p1)
def sw19_X5_turbines (f : Nat → Int32) (p1 : Int32) : Nat → Int32 := (gv20_7_X5_turbines f p1)
def sw20_X5_turbines (f : Nat → Int32) (se : Nat → Int32) (p1 : Int32) : Nat → Int32 := (gv20_8_X5_turbines f se p1)
def sw21_X5_turbines (f : Nat → Int32) (to : Nat → Int32) (p1 : Int32) : Nat → Int32 := (gv20_9_X5_turbines f to p1)
def sw22_X5_turbines (f : Nat → Int32) (re : Nat → Int32) (p1 : Int32) : Nat → Int32 := (gv20_10_X5_turbines f re p1)
def sw26_X5_turbines (f : Nat → Int32) (p1 : Int32) : Nat → Int32 := (gv17_1_X5_turbines f p1)
def sw27_X5_turbines (se : Nat → Int32) : Nat → Int32 := se
def sw28_X5_turbines (to : Nat → Int32) : Nat → Int32 := to
def sw29_X5_turbines (re : Nat → Int32) : Nat → Int32 := re
abbrev po_X5_turbines (cI cC cL : ClassId) (x0 h o t1 x1 y1 z1 x2 s0 s01 s02 s03 s1 s11 s12 s13 s2 s21 s22 s23 s3 s31 s32 s33 h1 h2 h3 y2 o1 o2 o3 : Nat) (hf f se to re pf tf ch of ose oto ore kf : Nat → Int32) (p1 : Int32) (sf : Nat → Nat → Int32) (sse : Nat → Nat → Int32) (sto : Nat → Nat → Int32) (sre : Nat → Nat → Int32) : Int32 → va_W → Prop := fun r w' => sr_X5_turbines f p1 = r ∧ [oX x0 h o t1 x1 y1 z1, oH x1 x2 (sw1_X5_turbines hf f p1), aL cL x2 (gS s0 s1 s2 s3), oL s0 s01 s02 s03 (fw_sf_X5_turbines hf f p1 sf 0), aI cI s01 3 (fw_sse_X5_turbines hf f se p1 sse 0), aI cI s02 7 (fw_sto_X5_turbines hf f to p1 sto 0), aI cI s03 60 (fw_sre_X5_turbines hf f re p1 sre 0), oL s1 s11 s12 s13 (fw_sf_X5_turbines hf f p1 sf 1), aI cI s11 3 (fw_sse_X5_turbines hf f se p1 sse 1), aI cI s12 7 (fw_sto_X5_turbines hf f to p1 sto 1), aI cI s13 60 (fw_sre_X5_turbines hf f re p1 sre 1), oL s2 s21 s22 s23 (fw_sf_X5_turbines hf f p1 sf 2), aI cI s21 3 (fw_sse_X5_turbines hf f se p1 sse 2), aI cI s22 7 (fw_sto_X5_turbines hf f to p1 sto 2), aI cI s23 60 (fw_sre_X5_turbines hf f re p1 sre 2), oL s3 s31 s32 s33 (fw_sf_X5_turbines hf f p1 sf 3), aI cI s31 3 (fw_sse_X5_turbines hf f se p1 sse 3), aI cI s32 7 (fw_sto_X5_turbines hf f to p1 sto 3), aI cI s33 60 (fw_sre_X5_turbines hf f re p1 sre 3), oL h h1 h2 h3 (sw19_X5_turbines f p1), aI cI h1 3 (sw20_X5_turbines f se p1), aI cI h2 7 (sw21_X5_turbines f to p1), aI cI h3 60 (sw22_X5_turbines f re p1), oP z1 pf, oT y1 y2 tf, aC cC y2 60 ch, oL o o1 o2 o3 (sw26_X5_turbines f p1), aI cI o1 3 (sw27_X5_turbines se), aI cI o2 7 (sw28_X5_turbines to), aI cI o3 60 (sw29_X5_turbines re), oK t1 kf] = w'
set_option maxHeartbeats 4000000 in
set_option maxRecDepth 100000 in
theorem ct_X5_turbines (l : Launch) (D : va_G) (cI cC cL : ClassId) (x0 h o t1 x1 y1 z1 x2 s0 s01 s02 s03 s1 s11 s12 s13 s2 s21 s22 s23 s3 s31 s32 s33 h1 h2 h3 y2 o1 o2 o3 : Nat) (hf f se to re pf tf ch of ose oto ore kf : Nat → Int32) (p1 : Int32) (sf : Nat → Nat → Int32) (sse : Nat → Nat → Int32) (sto : Nat → Nat → Int32) (sre : Nat → Nat → Int32) : ag_MI l yX5_turbines cX5_turbines 2 .int 4 93 D cI cC cL [.ref x0, .int p1] [oX x0 h o t1 x1 y1 z1, oH x1 x2 hf, aL cL x2 (gS s0 s1 s2 s3), oL s0 s01 s02 s03 (sf 0), aI cI s01 3 (sse 0), aI cI s02 7 (sto 0), aI cI s03 60 (sre 0), oL s1 s11 s12 s13 (sf 1), aI cI s11 3 (sse 1), aI cI s12 7 (sto 1), aI cI s13 60 (sre 1), oL s2 s21 s22 s23 (sf 2), aI cI s21 3 (sse 2), aI cI s22 7 (sto 2), aI cI s23 60 (sre 2), oL s3 s31 s32 s33 (sf 3), aI cI s31 3 (sse 3), aI cI s32 7 (sto 3), aI cI s33 60 (sre 3), oL h h1 h2 h3 f, aI cI h1 3 se, aI cI h2 7 to, aI cI h3 60 re, oP z1 pf, oT y1 y2 tf, aC cC y2 60 ch, oL o o1 o2 o3 of, aI cI o1 3 ose, aI cI o2 7 oto, aI cI o3 60 ore, oK t1 kf] (po_X5_turbines cI cC cL x0 h o t1 x1 y1 z1 x2 s0 s01 s02 s03 s1 s11 s12 s13 s2 s21 s22 s23 s3 s31 s32 s33 h1 h2 h3 y2 o1 o2 o3 hf f se to re pf tf ch of ose oto ore kf p1 sf sse sto sre) := by
  refine ag_MI.of (plainFor_of_name (by decide)) (Nat.le_of_ble_eq_true rfl) ?_
  intro p e s m below meth c hx hb hr hlocks hml hown hmn hG hK A hN hA H locs hP hD hS ls hl
  have hl : lv_has ls 2 [(0, .ref x0), (1, .int p1)] := hl
  refine lv_aload_n hx hb dX5_turbines_0 rfl (lv_at hl 0 rfl) ?_
  refine ag_getX5 (v := .ref o) hx hb hG hown hK hP 0 1 rfl (by decide) k_177 rfl dX5_turbines_1 ?_
  refine lv_aload_n hx hb dX5_turbines_4 rfl (lv_at hl 0 rfl) ?_
  refine ag_getX5 (v := .ref h) hx hb hG hown hK hP 0 0 rfl (by decide) k_176 rfl dX5_turbines_5 ?_
  refine ag_callVv (As := [.ref h]) (rest := []) hx hb hml hown hG hK hN hA hP hD hS hl (ct_X1_copyFrom l D cI cC cL o h o1 o2 o3 h1 h2 h3 of ose oto ore f se to re) fX1_copyFrom k_255 (ag_cut_2s 4 [oX x0 h o t1 x1 y1 z1, oH x1 x2 hf, aL cL x2 (gS s0 s1 s2 s3), oL s0 s01 s02 s03 (sf 0), aI cI s01 3 (sse 0), aI cI s02 7 (sto 0), aI cI s03 60 (sre 0), oL s1 s11 s12 s13 (sf 1), aI cI s11 3 (sse 1), aI cI s12 7 (sto 1), aI cI s13 60 (sre 1), oL s2 s21 s22 s23 (sf 2), aI cI s21 3 (sse 2), aI cI s22 7 (sto 2), aI cI s23 60 (sre 2), oL s3 s31 s32 s33 (sf 3), aI cI s31 3 (sse 3), aI cI s32 7 (sto 3), aI cI s33 60 (sre 3)] [oL o o1 o2 o3 of, aI cI o1 3 ose, aI cI o2 7 oto, aI cI o3 60 ore] [oP z1 pf, oT y1 y2 tf, aC cC y2 60 ch] [oL h h1 h2 h3 f, aI cI h1 3 se, aI cI h2 7 to, aI cI h3 60 re] [oK t1 kf] rfl rfl rfl) (q0 := 26) rfl rfl rfl rfl (Nat.le_of_ble_eq_true rfl) ⟨Nat.le_of_ble_eq_true rfl, Nat.le_of_ble_eq_true rfl⟩ ⟨Nat.zero_le _, Nat.zero_le _⟩ dX5_turbines_8 (fun w1 H locs hw hP hD hS => ?_)
  have hw : _ = w1 := hw
  subst hw
  have hP : va_P D vwCl [oX x0 h o t1 x1 y1 z1, oH x1 x2 hf, aL cL x2 (gS s0 s1 s2 s3), oL s0 s01 s02 s03 (sf 0), aI cI s01 3 (sse 0), aI cI s02 7 (sto 0), aI cI s03 60 (sre 0), oL s1 s11 s12 s13 (sf 1), aI cI s11 3 (sse 1), aI cI s12 7 (sto 1), aI cI s13 60 (sre 1), oL s2 s21 s22 s23 (sf 2), aI cI s21 3 (sse 2), aI cI s22 7 (sto 2), aI cI s23 60 (sre 2), oL s3 s31 s32 s33 (sf 3), aI cI s31 3 (sse 3), aI cI s32 7 (sto 3), aI cI s33 60 (sre 3), oL h h1 h2 h3 f, aI cI h1 3 se, aI cI h2 7 to, aI cI h3 60 re, oP z1 pf, oT y1 y2 tf, aC cC y2 60 ch, oL o o1 o2 o3 f, aI cI o1 3 se, aI cI o2 7 to, aI cI o3 60 re, oK t1 kf] H := hP
  have hD : va_D A [oX x0 h o t1 x1 y1 z1, oH x1 x2 hf, aL cL x2 (gS s0 s1 s2 s3), oL s0 s01 s02 s03 (sf 0), aI cI s01 3 (sse 0), aI cI s02 7 (sto 0), aI cI s03 60 (sre 0), oL s1 s11 s12 s13 (sf 1), aI cI s11 3 (sse 1), aI cI s12 7 (sto 1), aI cI s13 60 (sre 1), oL s2 s21 s22 s23 (sf 2), aI cI s21 3 (sse 2), aI cI s22 7 (sto 2), aI cI s23 60 (sre 2), oL s3 s31 s32 s33 (sf 3), aI cI s31 3 (sse 3), aI cI s32 7 (sto 3), aI cI s33 60 (sre 3), oL h h1 h2 h3 f, aI cI h1 3 se, aI cI h2 7 to, aI cI h3 60 re, oP z1 pf, oT y1 y2 tf, aC cC y2 60 ch, oL o o1 o2 o3 f, aI cI o1 3 se, aI cI o2 7 to, aI cI o3 60 re, oK t1 kf] := hD
  refine lv_aload_n hx hb dX5_turbines_11 rfl (lv_at hl 0 rfl) ?_
  refine lv_aload_n hx hb dX5_turbines_12 rfl (lv_at hl 0 rfl) ?_
  refine ag_getX5 (v := .ref o) hx hb hG hown hK hP 0 1 rfl (by decide) k_177 rfl dX5_turbines_13 ?_
  refine lv_iload_n hx hb dX5_turbines_16 rfl (lv_at hl 1 rfl) ?_
  refine ag_callVi (As := [.int p1]) (rest := [.ref x0]) hx hb hml hown hG hK hN hA hP hD hS hl (ct_X1_openTurbines l D cI cC cL o o1 o2 o3 f se to re p1) fX1_openTurbines k_290 (ag_cut_1 [oX x0 h o t1 x1 y1 z1, oH x1 x2 hf, aL cL x2 (gS s0 s1 s2 s3), oL s0 s01 s02 s03 (sf 0), aI cI s01 3 (sse 0), aI cI s02 7 (sto 0), aI cI s03 60 (sre 0), oL s1 s11 s12 s13 (sf 1), aI cI s11 3 (sse 1), aI cI s12 7 (sto 1), aI cI s13 60 (sre 1), oL s2 s21 s22 s23 (sf 2), aI cI s21 3 (sse 2), aI cI s22 7 (sto 2), aI cI s23 60 (sre 2), oL s3 s31 s32 s33 (sf 3), aI cI s31 3 (sse 3), aI cI s32 7 (sto 3), aI cI s33 60 (sre 3), oL h h1 h2 h3 f, aI cI h1 3 se, aI cI h2 7 to, aI cI h3 60 re, oP z1 pf, oT y1 y2 tf, aC cC y2 60 ch] [oK t1 kf] rfl) (q0 := 26) rfl rfl rfl rfl (Nat.le_of_ble_eq_true rfl) ⟨Nat.le_of_ble_eq_true rfl, Nat.le_of_ble_eq_true rfl⟩ ⟨Nat.zero_le _, Nat.zero_le _⟩ dX5_turbines_17 (fun r w1 H locs hw hP hD hS => ?_)
  obtain ⟨rfl, hw⟩ := hw
  generalize eg17_1 : sw0_X1_openTurbines f p1 = g17_1 at hw
  replace eg17_1 : gv17_1_X5_turbines f p1 = g17_1 := (by rw [← eg17_1]; rfl)
  subst hw
  have hP : va_P D vwCl [oX x0 h o t1 x1 y1 z1, oH x1 x2 hf, aL cL x2 (gS s0 s1 s2 s3), oL s0 s01 s02 s03 (sf 0), aI cI s01 3 (sse 0), aI cI s02 7 (sto 0), aI cI s03 60 (sre 0), oL s1 s11 s12 s13 (sf 1), aI cI s11 3 (sse 1), aI cI s12 7 (sto 1), aI cI s13 60 (sre 1), oL s2 s21 s22 s23 (sf 2), aI cI s21 3 (sse 2), aI cI s22 7 (sto 2), aI cI s23 60 (sre 2), oL s3 s31 s32 s33 (sf 3), aI cI s31 3 (sse 3), aI cI s32 7 (sto 3), aI cI s33 60 (sre 3), oL h h1 h2 h3 f, aI cI h1 3 se, aI cI h2 7 to, aI cI h3 60 re, oP z1 pf, oT y1 y2 tf, aC cC y2 60 ch, oL o o1 o2 o3 g17_1, aI cI o1 3 se, aI cI o2 7 to, aI cI o3 60 re, oK t1 kf] H := hP
  have hD : va_D A [oX x0 h o t1 x1 y1 z1, oH x1 x2 hf, aL cL x2 (gS s0 s1 s2 s3), oL s0 s01 s02 s03 (sf 0), aI cI s01 3 (sse 0), aI cI s02 7 (sto 0), aI cI s03 60 (sre 0), oL s1 s11 s12 s13 (sf 1), aI cI s11 3 (sse 1), aI cI s12 7 (sto 1), aI cI s13 60 (sre 1), oL s2 s21 s22 s23 (sf 2), aI cI s21 3 (sse 2), aI cI s22 7 (sto 2), aI cI s23 60 (sre 2), oL s3 s31 s32 s33 (sf 3), aI cI s31 3 (sse 3), aI cI s32 7 (sto 3), aI cI s33 60 (sre 3), oL h h1 h2 h3 f, aI cI h1 3 se, aI cI h2 7 to, aI cI h3 60 re, oP z1 pf, oT y1 y2 tf, aC cC y2 60 ch, oL o o1 o2 o3 g17_1, aI cI o1 3 se, aI cI o2 7 to, aI cI o3 60 re, oK t1 kf] := hD
  refine ag_callVi (As := [.int (sr_X1_openTurbines f p1)]) (rest := []) hx hb hml hown hG hK hN hA hP hD hS hl (ct_X5_settle l D cI cC cL x0 h o t1 x1 y1 z1 x2 s0 s01 s02 s03 s1 s11 s12 s13 s2 s21 s22 s23 s3 s31 s32 s33 h1 h2 h3 y2 o1 o2 o3 hf f se to re pf tf ch g17_1 se to re kf (sr_X1_openTurbines f p1) sf sse sto sre) fX5_settle k_267 ag_cut_all (q0 := 0) rfl rfl rfl rfl (Nat.le_of_ble_eq_true rfl) ⟨Nat.le_of_ble_eq_true rfl, Nat.le_of_ble_eq_true rfl⟩ ⟨Nat.zero_le _, Nat.zero_le _⟩ dX5_turbines_20 (fun r w1 H locs hw hP hD hS => ?_)
  obtain ⟨rfl, hw⟩ := hw
  generalize eg20_2 : sw1_X5_settle hf (sr_X1_openTurbines f p1) = g20_2 at hw
  replace eg20_2 : gv20_2_X5_turbines hf f p1 = g20_2 := (by rw [← eg20_2]; rfl)
  generalize eg20_3 : fw_sf_X5_settle hf f (sr_X1_openTurbines f p1) sf = g20_3 at hw
  replace eg20_3 : gv20_3_X5_turbines hf f p1 sf = g20_3 := (by rw [← eg20_3]; rfl)
  generalize eg20_4 : fw_sse_X5_settle hf se (sr_X1_openTurbines f p1) sse = g20_4 at hw
  replace eg20_4 : gv20_4_X5_turbines hf f se p1 sse = g20_4 := (by rw [← eg20_4]; rfl)
  generalize eg20_5 : fw_sto_X5_settle hf to (sr_X1_openTurbines f p1) sto = g20_5 at hw
  replace eg20_5 : gv20_5_X5_turbines hf f to p1 sto = g20_5 := (by rw [← eg20_5]; rfl)
  generalize eg20_6 : fw_sre_X5_settle hf re (sr_X1_openTurbines f p1) sre = g20_6 at hw
  replace eg20_6 : gv20_6_X5_turbines hf f re p1 sre = g20_6 := (by rw [← eg20_6]; rfl)
  generalize eg20_7 : sw19_X5_settle f g17_1 (sr_X1_openTurbines f p1) = g20_7 at hw
  replace eg20_7 : gv20_7_X5_turbines f p1 = g20_7 := (by rw [← eg20_7, ← eg17_1]; rfl)
  generalize eg20_8 : sw20_X5_settle se se (sr_X1_openTurbines f p1) = g20_8 at hw
  replace eg20_8 : gv20_8_X5_turbines f se p1 = g20_8 := (by rw [← eg20_8]; rfl)
  generalize eg20_9 : sw21_X5_settle to to (sr_X1_openTurbines f p1) = g20_9 at hw
  replace eg20_9 : gv20_9_X5_turbines f to p1 = g20_9 := (by rw [← eg20_9]; rfl)
  generalize eg20_10 : sw22_X5_settle re re (sr_X1_openTurbines f p1) = g20_10 at hw
  replace eg20_10 : gv20_10_X5_turbines f re p1 = g20_10 := (by rw [← eg20_10]; rfl)
  subst hw
  have hP : va_P D vwCl [oX x0 h o t1 x1 y1 z1, oH x1 x2 g20_2, aL cL x2 (gS s0 s1 s2 s3), oL s0 s01 s02 s03 (g20_3 0), aI cI s01 3 (g20_4 0), aI cI s02 7 (g20_5 0), aI cI s03 60 (g20_6 0), oL s1 s11 s12 s13 (g20_3 1), aI cI s11 3 (g20_4 1), aI cI s12 7 (g20_5 1), aI cI s13 60 (g20_6 1), oL s2 s21 s22 s23 (g20_3 2), aI cI s21 3 (g20_4 2), aI cI s22 7 (g20_5 2), aI cI s23 60 (g20_6 2), oL s3 s31 s32 s33 (g20_3 3), aI cI s31 3 (g20_4 3), aI cI s32 7 (g20_5 3), aI cI s33 60 (g20_6 3), oL h h1 h2 h3 g20_7, aI cI h1 3 g20_8, aI cI h2 7 g20_9, aI cI h3 60 g20_10, oP z1 pf, oT y1 y2 tf, aC cC y2 60 ch, oL o o1 o2 o3 g17_1, aI cI o1 3 se, aI cI o2 7 to, aI cI o3 60 re, oK t1 kf] H := hP
  have hD : va_D A [oX x0 h o t1 x1 y1 z1, oH x1 x2 g20_2, aL cL x2 (gS s0 s1 s2 s3), oL s0 s01 s02 s03 (g20_3 0), aI cI s01 3 (g20_4 0), aI cI s02 7 (g20_5 0), aI cI s03 60 (g20_6 0), oL s1 s11 s12 s13 (g20_3 1), aI cI s11 3 (g20_4 1), aI cI s12 7 (g20_5 1), aI cI s13 60 (g20_6 1), oL s2 s21 s22 s23 (g20_3 2), aI cI s21 3 (g20_4 2), aI cI s22 7 (g20_5 2), aI cI s23 60 (g20_6 2), oL s3 s31 s32 s33 (g20_3 3), aI cI s31 3 (g20_4 3), aI cI s32 7 (g20_5 3), aI cI s33 60 (g20_6 3), oL h h1 h2 h3 g20_7, aI cI h1 3 g20_8, aI cI h2 7 g20_9, aI cI h3 60 g20_10, oP z1 pf, oT y1 y2 tf, aC cC y2 60 ch, oL o o1 o2 o3 g17_1, aI cI o1 3 se, aI cI o2 7 to, aI cI o3 60 re, oK t1 kf] := hD
  revert hP; revert hD; revert hS; revert hl
  subst eg20_10
  subst eg20_9
  subst eg20_8
  subst eg20_7
  subst eg20_6
  subst eg20_5
  subst eg20_4
  subst eg20_3
  subst eg20_2
  subst eg17_1
  intro hl hS hD hP
  exact ag_iret [x0, x1, x2, s0, s01, s02, s03, s1, s11, s12, s13, s2, s21, s22, s23, s3, s31, s32, s33, h, h1, h2, h3, z1, y1, y2, o, o1, o2, o3, t1] hx hb hr rfl hlocks hP hS rfl rfl ⟨rfl, (by show _ = _; rw [show fw_sf_X5_turbines hf f p1 sf = (gv20_3_X5_turbines hf f p1 sf) from rfl, show fw_sse_X5_turbines hf f se p1 sse = (gv20_4_X5_turbines hf f se p1 sse) from rfl, show fw_sto_X5_turbines hf f to p1 sto = (gv20_5_X5_turbines hf f to p1 sto) from rfl, show fw_sre_X5_turbines hf f re p1 sre = (gv20_6_X5_turbines hf f re p1 sre) from rfl, show sw1_X5_turbines hf f p1 = (gv20_2_X5_turbines hf f p1) from rfl, show sw19_X5_turbines f p1 = (gv20_7_X5_turbines f p1) from rfl, show sw20_X5_turbines f se p1 = (gv20_8_X5_turbines f se p1) from rfl, show sw21_X5_turbines f to p1 = (gv20_9_X5_turbines f to p1) from rfl, show sw22_X5_turbines f re p1 = (gv20_10_X5_turbines f re p1) from rfl, show sw26_X5_turbines f p1 = (gv17_1_X5_turbines f p1) from rfl, show sw27_X5_turbines se = se from rfl, show sw28_X5_turbines to = to from rfl, show sw29_X5_turbines re = re from rfl])⟩ dX5_turbines_23
def gv17_1_X5_pump (f : Nat → Int32) (p1 : Int32) : Nat → Int32 := sw0_X1_setPump f p1
def gv20_2_X5_pump (hf : Nat → Int32) (f : Nat → Int32) (p1 : Int32) : Nat → Int32 := sw1_X5_settle hf (sr_X1_setPump f p1)
def gv20_3_X5_pump (hf : Nat → Int32) (f : Nat → Int32) (p1 : Int32) (sf : Nat → Nat → Int32) : Nat → Nat → Int32 := fw_sf_X5_settle hf f (sr_X1_setPump f p1) sf
def gv20_4_X5_pump (hf : Nat → Int32) (f : Nat → Int32) (se : Nat → Int32) (p1 : Int32) (sse : Nat → Nat → Int32) : Nat → Nat → Int32 := fw_sse_X5_settle hf se (sr_X1_setPump f p1) sse
def gv20_5_X5_pump (hf : Nat → Int32) (f : Nat → Int32) (to : Nat → Int32) (p1 : Int32) (sto : Nat → Nat → Int32) : Nat → Nat → Int32 := fw_sto_X5_settle hf to (sr_X1_setPump f p1) sto
def gv20_6_X5_pump (hf : Nat → Int32) (f : Nat → Int32) (re : Nat → Int32) (p1 : Int32) (sre : Nat → Nat → Int32) : Nat → Nat → Int32 := fw_sre_X5_settle hf re (sr_X1_setPump f p1) sre
def gv20_7_X5_pump (f : Nat → Int32) (p1 : Int32) : Nat → Int32 := sw19_X5_settle f (gv17_1_X5_pump f p1) (sr_X1_setPump f p1)
def gv20_8_X5_pump (f : Nat → Int32) (se : Nat → Int32) (p1 : Int32) : Nat → Int32 := sw20_X5_settle se se (sr_X1_setPump f p1)
def gv20_9_X5_pump (f : Nat → Int32) (to : Nat → Int32) (p1 : Int32) : Nat → Int32 := sw21_X5_settle to to (sr_X1_setPump f p1)
def gv20_10_X5_pump (f : Nat → Int32) (re : Nat → Int32) (p1 : Int32) : Nat → Int32 := sw22_X5_settle re re (sr_X1_setPump f p1)
def sr_X5_pump (f : Nat → Int32) (p1 : Int32) : Int32 := sr_X5_settle (sr_X1_setPump f p1)
def fw_sf_X5_pump (hf : Nat → Int32) (f : Nat → Int32) (p1 : Int32) (sf : Nat → Nat → Int32) : Nat → Nat → Int32 := (gv20_3_X5_pump hf f p1 sf)
def fw_sse_X5_pump (hf : Nat → Int32) (f : Nat → Int32) (se : Nat → Int32) (p1 : Int32) (sse : Nat → Nat → Int32) : Nat → Nat → Int32 := (gv20_4_X5_pump hf f se p1 sse)
def fw_sto_X5_pump (hf : Nat → Int32) (f : Nat → Int32) (to : Nat → Int32) (p1 : Int32) (sto : Nat → Nat → Int32) : Nat → Nat → Int32 := (gv20_5_X5_pump hf f to p1 sto)
def fw_sre_X5_pump (hf : Nat → Int32) (f : Nat → Int32) (re : Nat → Int32) (p1 : Int32) (sre : Nat → Nat → Int32) : Nat → Nat → Int32 := (gv20_6_X5_pump hf f re p1 sre)
def sw1_X5_pump (hf : Nat → Int32) (f : Nat → Int32) (p1 : Int32) : Nat → Int32 := (gv20_2_X5_pump hf f p1)
def sw19_X5_pump (f : Nat → Int32) (p1 : Int32) : Nat → Int32 := (gv20_7_X5_pump f p1)
def sw20_X5_pump (f : Nat → Int32) (se : Nat → Int32) (p1 : Int32) : Nat → Int32 := (gv20_8_X5_pump f se p1)
def sw21_X5_pump (f : Nat → Int32) (to : Nat → Int32) (p1 : Int32) : Nat → Int32 := (gv20_9_X5_pump f to p1)
def sw22_X5_pump (f : Nat → Int32) (re : Nat → Int32) (p1 : Int32) : Nat → Int32 := (gv20_10_X5_pump f re p1)
def sw26_X5_pump (f : Nat → Int32) (p1 : Int32) : Nat → Int32 := (gv17_1_X5_pump f p1)
def sw27_X5_pump (se : Nat → Int32) : Nat → Int32 := se
def sw28_X5_pump (to : Nat → Int32) : Nat → Int32 := to
def sw29_X5_pump (re : Nat → Int32) : Nat → Int32 := re
abbrev po_X5_pump (cI cC cL : ClassId) (x0 h o t1 x1 y1 z1 x2 s0 s01 s02 s03 s1 s11 s12 s13 s2 s21 s22 s23 s3 s31 s32 s33 h1 h2 h3 y2 o1 o2 o3 : Nat) (hf f se to re pf tf ch of ose oto ore kf : Nat → Int32) (p1 : Int32) (sf : Nat → Nat → Int32) (sse : Nat → Nat → Int32) (sto : Nat → Nat → Int32) (sre : Nat → Nat → Int32) : Int32 → va_W → Prop := fun r w' => sr_X5_pump f p1 = r ∧ [oX x0 h o t1 x1 y1 z1, oH x1 x2 (sw1_X5_pump hf f p1), aL cL x2 (gS s0 s1 s2 s3), oL s0 s01 s02 s03 (fw_sf_X5_pump hf f p1 sf 0), aI cI s01 3 (fw_sse_X5_pump hf f se p1 sse 0), aI cI s02 7 (fw_sto_X5_pump hf f to p1 sto 0), aI cI s03 60 (fw_sre_X5_pump hf f re p1 sre 0), oL s1 s11 s12 s13 (fw_sf_X5_pump hf f p1 sf 1), aI cI s11 3 (fw_sse_X5_pump hf f se p1 sse 1), aI cI s12 7 (fw_sto_X5_pump hf f to p1 sto 1), aI cI s13 60 (fw_sre_X5_pump hf f re p1 sre 1), oL s2 s21 s22 s23 (fw_sf_X5_pump hf f p1 sf 2), aI cI s21 3 (fw_sse_X5_pump hf f se p1 sse 2), aI cI s22 7 (fw_sto_X5_pump hf f to p1 sto 2), aI cI s23 60 (fw_sre_X5_pump hf f re p1 sre 2), oL s3 s31 s32 s33 (fw_sf_X5_pump hf f p1 sf 3), aI cI s31 3 (fw_sse_X5_pump hf f se p1 sse 3), aI cI s32 7 (fw_sto_X5_pump hf f to p1 sto 3), aI cI s33 60 (fw_sre_X5_pump hf f re p1 sre 3), oL h h1 h2 h3 (sw19_X5_pump f p1), aI cI h1 3 (sw20_X5_pump f se p1), aI cI h2 7 (sw21_X5_pump f to p1), aI cI h3 60 (sw22_X5_pump f re p1), oP z1 pf, oT y1 y2 tf, aC cC y2 60 ch, oL o o1 o2 o3 (sw26_X5_pump f p1), aI cI o1 3 (sw27_X5_pump se), aI cI o2 7 (sw28_X5_pump to), aI cI o3 60 (sw29_X5_pump re), oK t1 kf] = w'
set_option maxHeartbeats 4000000 in
set_option maxRecDepth 100000 in
theorem ct_X5_pump (l : Launch) (D : va_G) (cI cC cL : ClassId) (x0 h o t1 x1 y1 z1 x2 s0 s01 s02 s03 s1 s11 s12 s13 s2 s21 s22 s23 s3 s31 s32 s33 h1 h2 h3 y2 o1 o2 o3 : Nat) (hf f se to re pf tf ch of ose oto ore kf : Nat → Int32) (p1 : Int32) (sf : Nat → Nat → Int32) (sse : Nat → Nat → Int32) (sto : Nat → Nat → Int32) (sre : Nat → Nat → Int32) : ag_MI l yX5_pump cX5_pump 2 .int 4 93 D cI cC cL [.ref x0, .int p1] [oX x0 h o t1 x1 y1 z1, oH x1 x2 hf, aL cL x2 (gS s0 s1 s2 s3), oL s0 s01 s02 s03 (sf 0), aI cI s01 3 (sse 0), aI cI s02 7 (sto 0), aI cI s03 60 (sre 0), oL s1 s11 s12 s13 (sf 1), aI cI s11 3 (sse 1), aI cI s12 7 (sto 1), aI cI s13 60 (sre 1), oL s2 s21 s22 s23 (sf 2), aI cI s21 3 (sse 2), aI cI s22 7 (sto 2), aI cI s23 60 (sre 2), oL s3 s31 s32 s33 (sf 3), aI cI s31 3 (sse 3), aI cI s32 7 (sto 3), aI cI s33 60 (sre 3), oL h h1 h2 h3 f, aI cI h1 3 se, aI cI h2 7 to, aI cI h3 60 re, oP z1 pf, oT y1 y2 tf, aC cC y2 60 ch, oL o o1 o2 o3 of, aI cI o1 3 ose, aI cI o2 7 oto, aI cI o3 60 ore, oK t1 kf] (po_X5_pump cI cC cL x0 h o t1 x1 y1 z1 x2 s0 s01 s02 s03 s1 s11 s12 s13 s2 s21 s22 s23 s3 s31 s32 s33 h1 h2 h3 y2 o1 o2 o3 hf f se to re pf tf ch of ose oto ore kf p1 sf sse sto sre) := by
  refine ag_MI.of (plainFor_of_name (by decide)) (Nat.le_of_ble_eq_true rfl) ?_
  intro p e s m below meth c hx hb hr hlocks hml hown hmn hG hK A hN hA H locs hP hD hS ls hl
  have hl : lv_has ls 2 [(0, .ref x0), (1, .int p1)] := hl
  refine lv_aload_n hx hb dX5_pump_0 rfl (lv_at hl 0 rfl) ?_
  refine ag_getX5 (v := .ref o) hx hb hG hown hK hP 0 1 rfl (by decide) k_177 rfl dX5_pump_1 ?_
  refine lv_aload_n hx hb dX5_pump_4 rfl (lv_at hl 0 rfl) ?_
  refine ag_getX5 (v := .ref h) hx hb hG hown hK hP 0 0 rfl (by decide) k_176 rfl dX5_pump_5 ?_
  refine ag_callVv (As := [.ref h]) (rest := []) hx hb hml hown hG hK hN hA hP hD hS hl (ct_X1_copyFrom l D cI cC cL o h o1 o2 o3 h1 h2 h3 of ose oto ore f se to re) fX1_copyFrom k_255 (ag_cut_2s 4 [oX x0 h o t1 x1 y1 z1, oH x1 x2 hf, aL cL x2 (gS s0 s1 s2 s3), oL s0 s01 s02 s03 (sf 0), aI cI s01 3 (sse 0), aI cI s02 7 (sto 0), aI cI s03 60 (sre 0), oL s1 s11 s12 s13 (sf 1), aI cI s11 3 (sse 1), aI cI s12 7 (sto 1), aI cI s13 60 (sre 1), oL s2 s21 s22 s23 (sf 2), aI cI s21 3 (sse 2), aI cI s22 7 (sto 2), aI cI s23 60 (sre 2), oL s3 s31 s32 s33 (sf 3), aI cI s31 3 (sse 3), aI cI s32 7 (sto 3), aI cI s33 60 (sre 3)] [oL o o1 o2 o3 of, aI cI o1 3 ose, aI cI o2 7 oto, aI cI o3 60 ore] [oP z1 pf, oT y1 y2 tf, aC cC y2 60 ch] [oL h h1 h2 h3 f, aI cI h1 3 se, aI cI h2 7 to, aI cI h3 60 re] [oK t1 kf] rfl rfl rfl) (q0 := 26) rfl rfl rfl rfl (Nat.le_of_ble_eq_true rfl) ⟨Nat.le_of_ble_eq_true rfl, Nat.le_of_ble_eq_true rfl⟩ ⟨Nat.zero_le _, Nat.zero_le _⟩ dX5_pump_8 (fun w1 H locs hw hP hD hS => ?_)
  have hw : _ = w1 := hw
  subst hw
  have hP : va_P D vwCl [oX x0 h o t1 x1 y1 z1, oH x1 x2 hf, aL cL x2 (gS s0 s1 s2 s3), oL s0 s01 s02 s03 (sf 0), aI cI s01 3 (sse 0), aI cI s02 7 (sto 0), aI cI s03 60 (sre 0), oL s1 s11 s12 s13 (sf 1), aI cI s11 3 (sse 1), aI cI s12 7 (sto 1), aI cI s13 60 (sre 1), oL s2 s21 s22 s23 (sf 2), aI cI s21 3 (sse 2), aI cI s22 7 (sto 2), aI cI s23 60 (sre 2), oL s3 s31 s32 s33 (sf 3), aI cI s31 3 (sse 3), aI cI s32 7 (sto 3), aI cI s33 60 (sre 3), oL h h1 h2 h3 f, aI cI h1 3 se, aI cI h2 7 to, aI cI h3 60 re, oP z1 pf, oT y1 y2 tf, aC cC y2 60 ch, oL o o1 o2 o3 f, aI cI o1 3 se, aI cI o2 7 to, aI cI o3 60 re, oK t1 kf] H := hP
  have hD : va_D A [oX x0 h o t1 x1 y1 z1, oH x1 x2 hf, aL cL x2 (gS s0 s1 s2 s3), oL s0 s01 s02 s03 (sf 0), aI cI s01 3 (sse 0), aI cI s02 7 (sto 0), aI cI s03 60 (sre 0), oL s1 s11 s12 s13 (sf 1), aI cI s11 3 (sse 1), aI cI s12 7 (sto 1), aI cI s13 60 (sre 1), oL s2 s21 s22 s23 (sf 2), aI cI s21 3 (sse 2), aI cI s22 7 (sto 2), aI cI s23 60 (sre 2), oL s3 s31 s32 s33 (sf 3), aI cI s31 3 (sse 3), aI cI s32 7 (sto 3), aI cI s33 60 (sre 3), oL h h1 h2 h3 f, aI cI h1 3 se, aI cI h2 7 to, aI cI h3 60 re, oP z1 pf, oT y1 y2 tf, aC cC y2 60 ch, oL o o1 o2 o3 f, aI cI o1 3 se, aI cI o2 7 to, aI cI o3 60 re, oK t1 kf] := hD
  refine lv_aload_n hx hb dX5_pump_11 rfl (lv_at hl 0 rfl) ?_
  refine lv_aload_n hx hb dX5_pump_12 rfl (lv_at hl 0 rfl) ?_
  refine ag_getX5 (v := .ref o) hx hb hG hown hK hP 0 1 rfl (by decide) k_177 rfl dX5_pump_13 ?_
  refine lv_iload_n hx hb dX5_pump_16 rfl (lv_at hl 1 rfl) ?_
  refine ag_callVi (As := [.int p1]) (rest := [.ref x0]) hx hb hml hown hG hK hN hA hP hD hS hl (ct_X1_setPump l D cI cC cL o o1 o2 o3 f se to re p1) fX1_setPump k_298 (ag_cut_1 [oX x0 h o t1 x1 y1 z1, oH x1 x2 hf, aL cL x2 (gS s0 s1 s2 s3), oL s0 s01 s02 s03 (sf 0), aI cI s01 3 (sse 0), aI cI s02 7 (sto 0), aI cI s03 60 (sre 0), oL s1 s11 s12 s13 (sf 1), aI cI s11 3 (sse 1), aI cI s12 7 (sto 1), aI cI s13 60 (sre 1), oL s2 s21 s22 s23 (sf 2), aI cI s21 3 (sse 2), aI cI s22 7 (sto 2), aI cI s23 60 (sre 2), oL s3 s31 s32 s33 (sf 3), aI cI s31 3 (sse 3), aI cI s32 7 (sto 3), aI cI s33 60 (sre 3), oL h h1 h2 h3 f, aI cI h1 3 se, aI cI h2 7 to, aI cI h3 60 re, oP z1 pf, oT y1 y2 tf, aC cC y2 60 ch] [oK t1 kf] rfl) (q0 := 26) rfl rfl rfl rfl (Nat.le_of_ble_eq_true rfl) ⟨Nat.le_of_ble_eq_true rfl, Nat.le_of_ble_eq_true rfl⟩ ⟨Nat.zero_le _, Nat.zero_le _⟩ dX5_pump_17 (fun r w1 H locs hw hP hD hS => ?_)
  obtain ⟨rfl, hw⟩ := hw
  generalize eg17_1 : sw0_X1_setPump f p1 = g17_1 at hw
  replace eg17_1 : gv17_1_X5_pump f p1 = g17_1 := (by rw [← eg17_1]; rfl)
  subst hw
  have hP : va_P D vwCl [oX x0 h o t1 x1 y1 z1, oH x1 x2 hf, aL cL x2 (gS s0 s1 s2 s3), oL s0 s01 s02 s03 (sf 0), aI cI s01 3 (sse 0), aI cI s02 7 (sto 0), aI cI s03 60 (sre 0), oL s1 s11 s12 s13 (sf 1), aI cI s11 3 (sse 1), aI cI s12 7 (sto 1), aI cI s13 60 (sre 1), oL s2 s21 s22 s23 (sf 2), aI cI s21 3 (sse 2), aI cI s22 7 (sto 2), aI cI s23 60 (sre 2), oL s3 s31 s32 s33 (sf 3), aI cI s31 3 (sse 3), aI cI s32 7 (sto 3), aI cI s33 60 (sre 3), oL h h1 h2 h3 f, aI cI h1 3 se, aI cI h2 7 to, aI cI h3 60 re, oP z1 pf, oT y1 y2 tf, aC cC y2 60 ch, oL o o1 o2 o3 g17_1, aI cI o1 3 se, aI cI o2 7 to, aI cI o3 60 re, oK t1 kf] H := hP
  have hD : va_D A [oX x0 h o t1 x1 y1 z1, oH x1 x2 hf, aL cL x2 (gS s0 s1 s2 s3), oL s0 s01 s02 s03 (sf 0), aI cI s01 3 (sse 0), aI cI s02 7 (sto 0), aI cI s03 60 (sre 0), oL s1 s11 s12 s13 (sf 1), aI cI s11 3 (sse 1), aI cI s12 7 (sto 1), aI cI s13 60 (sre 1), oL s2 s21 s22 s23 (sf 2), aI cI s21 3 (sse 2), aI cI s22 7 (sto 2), aI cI s23 60 (sre 2), oL s3 s31 s32 s33 (sf 3), aI cI s31 3 (sse 3), aI cI s32 7 (sto 3), aI cI s33 60 (sre 3), oL h h1 h2 h3 f, aI cI h1 3 se, aI cI h2 7 to, aI cI h3 60 re, oP z1 pf, oT y1 y2 tf, aC cC y2 60 ch, oL o o1 o2 o3 g17_1, aI cI o1 3 se, aI cI o2 7 to, aI cI o3 60 re, oK t1 kf] := hD
  refine ag_callVi (As := [.int (sr_X1_setPump f p1)]) (rest := []) hx hb hml hown hG hK hN hA hP hD hS hl (ct_X5_settle l D cI cC cL x0 h o t1 x1 y1 z1 x2 s0 s01 s02 s03 s1 s11 s12 s13 s2 s21 s22 s23 s3 s31 s32 s33 h1 h2 h3 y2 o1 o2 o3 hf f se to re pf tf ch g17_1 se to re kf (sr_X1_setPump f p1) sf sse sto sre) fX5_settle k_267 ag_cut_all (q0 := 0) rfl rfl rfl rfl (Nat.le_of_ble_eq_true rfl) ⟨Nat.le_of_ble_eq_true rfl, Nat.le_of_ble_eq_true rfl⟩ ⟨Nat.zero_le _, Nat.zero_le _⟩ dX5_pump_20 (fun r w1 H locs hw hP hD hS => ?_)
  obtain ⟨rfl, hw⟩ := hw
  generalize eg20_2 : sw1_X5_settle hf (sr_X1_setPump f p1) = g20_2 at hw
  replace eg20_2 : gv20_2_X5_pump hf f p1 = g20_2 := (by rw [← eg20_2]; rfl)
  generalize eg20_3 : fw_sf_X5_settle hf f (sr_X1_setPump f p1) sf = g20_3 at hw
  replace eg20_3 : gv20_3_X5_pump hf f p1 sf = g20_3 := (by rw [← eg20_3]; rfl)
  generalize eg20_4 : fw_sse_X5_settle hf se (sr_X1_setPump f p1) sse = g20_4 at hw
  replace eg20_4 : gv20_4_X5_pump hf f se p1 sse = g20_4 := (by rw [← eg20_4]; rfl)
  generalize eg20_5 : fw_sto_X5_settle hf to (sr_X1_setPump f p1) sto = g20_5 at hw
  replace eg20_5 : gv20_5_X5_pump hf f to p1 sto = g20_5 := (by rw [← eg20_5]; rfl)
  generalize eg20_6 : fw_sre_X5_settle hf re (sr_X1_setPump f p1) sre = g20_6 at hw
  replace eg20_6 : gv20_6_X5_pump hf f re p1 sre = g20_6 := (by rw [← eg20_6]; rfl)
  generalize eg20_7 : sw19_X5_settle f g17_1 (sr_X1_setPump f p1) = g20_7 at hw
  replace eg20_7 : gv20_7_X5_pump f p1 = g20_7 := (by rw [← eg20_7, ← eg17_1]; rfl)
  generalize eg20_8 : sw20_X5_settle se se (sr_X1_setPump f p1) = g20_8 at hw
  replace eg20_8 : gv20_8_X5_pump f se p1 = g20_8 := (by rw [← eg20_8]; rfl)
  generalize eg20_9 : sw21_X5_settle to to (sr_X1_setPump f p1) = g20_9 at hw
  replace eg20_9 : gv20_9_X5_pump f to p1 = g20_9 := (by rw [← eg20_9]; rfl)
  generalize eg20_10 : sw22_X5_settle re re (sr_X1_setPump f p1) = g20_10 at hw
  replace eg20_10 : gv20_10_X5_pump f re p1 = g20_10 := (by rw [← eg20_10]; rfl)
  subst hw
  have hP : va_P D vwCl [oX x0 h o t1 x1 y1 z1, oH x1 x2 g20_2, aL cL x2 (gS s0 s1 s2 s3), oL s0 s01 s02 s03 (g20_3 0), aI cI s01 3 (g20_4 0), aI cI s02 7 (g20_5 0), aI cI s03 60 (g20_6 0), oL s1 s11 s12 s13 (g20_3 1), aI cI s11 3 (g20_4 1), aI cI s12 7 (g20_5 1), aI cI s13 60 (g20_6 1), oL s2 s21 s22 s23 (g20_3 2), aI cI s21 3 (g20_4 2), aI cI s22 7 (g20_5 2), aI cI s23 60 (g20_6 2), oL s3 s31 s32 s33 (g20_3 3), aI cI s31 3 (g20_4 3), aI cI s32 7 (g20_5 3), aI cI s33 60 (g20_6 3), oL h h1 h2 h3 g20_7, aI cI h1 3 g20_8, aI cI h2 7 g20_9, aI cI h3 60 g20_10, oP z1 pf, oT y1 y2 tf, aC cC y2 60 ch, oL o o1 o2 o3 g17_1, aI cI o1 3 se, aI cI o2 7 to, aI cI o3 60 re, oK t1 kf] H := hP
  have hD : va_D A [oX x0 h o t1 x1 y1 z1, oH x1 x2 g20_2, aL cL x2 (gS s0 s1 s2 s3), oL s0 s01 s02 s03 (g20_3 0), aI cI s01 3 (g20_4 0), aI cI s02 7 (g20_5 0), aI cI s03 60 (g20_6 0), oL s1 s11 s12 s13 (g20_3 1), aI cI s11 3 (g20_4 1), aI cI s12 7 (g20_5 1), aI cI s13 60 (g20_6 1), oL s2 s21 s22 s23 (g20_3 2), aI cI s21 3 (g20_4 2), aI cI s22 7 (g20_5 2), aI cI s23 60 (g20_6 2), oL s3 s31 s32 s33 (g20_3 3), aI cI s31 3 (g20_4 3), aI cI s32 7 (g20_5 3), aI cI s33 60 (g20_6 3), oL h h1 h2 h3 g20_7, aI cI h1 3 g20_8, aI cI h2 7 g20_9, aI cI h3 60 g20_10, oP z1 pf, oT y1 y2 tf, aC cC y2 60 ch, oL o o1 o2 o3 g17_1, aI cI o1 3 se, aI cI o2 7 to, aI cI o3 60 re, oK t1 kf] := hD
  revert hP; revert hD; revert hS; revert hl
  subst eg20_10
  subst eg20_9
  subst eg20_8
  subst eg20_7
  subst eg20_6
  subst eg20_5
  subst eg20_4
  subst eg20_3
  subst eg20_2
  subst eg17_1
  intro hl hS hD hP
  exact ag_iret [x0, x1, x2, s0, s01, s02, s03, s1, s11, s12, s13, s2, s21, s22, s23, s3, s31, s32, s33, h, h1, h2, h3, z1, y1, y2, o, o1, o2, o3, t1] hx hb hr rfl hlocks hP hS rfl rfl ⟨rfl, (by show _ = _; rw [show fw_sf_X5_pump hf f p1 sf = (gv20_3_X5_pump hf f p1 sf) from rfl, show fw_sse_X5_pump hf f se p1 sse = (gv20_4_X5_pump hf f se p1 sse) from rfl, show fw_sto_X5_pump hf f to p1 sto = (gv20_5_X5_pump hf f to p1 sto) from rfl, show fw_sre_X5_pump hf f re p1 sre = (gv20_6_X5_pump hf f re p1 sre) from rfl, show sw1_X5_pump hf f p1 = (gv20_2_X5_pump hf f p1) from rfl, show sw19_X5_pump f p1 = (gv20_7_X5_pump f p1) from rfl, show sw20_X5_pump f se p1 = (gv20_8_X5_pump f se p1) from rfl, show sw21_X5_pump f to p1 = (gv20_9_X5_pump f to p1) from rfl, show sw22_X5_pump f re p1 = (gv20_10_X5_pump f re p1) from rfl, show sw26_X5_pump f p1 = (gv17_1_X5_pump f p1) from rfl, show sw27_X5_pump se = se from rfl, show sw28_X5_pump to = to from rfl, show sw29_X5_pump re = re from rfl])⟩ dX5_pump_23
def gv18_1_X5_birds (f : Nat → Int32) (p1 : Int32) (p2 : Int32) : Nat → Int32 := sw0_X1_setBirds f p1 p2
def gv21_2_X5_birds (hf : Nat → Int32) (p1 : Int32) (p2 : Int32) : Nat → Int32 := sw1_X5_settle hf (sr_X1_setBirds p1 p2)
def gv21_3_X5_birds (hf : Nat → Int32) (f : Nat → Int32) (p1 : Int32) (p2 : Int32) (sf : Nat → Nat → Int32) : Nat → Nat → Int32 := fw_sf_X5_settle hf f (sr_X1_setBirds p1 p2) sf
def gv21_4_X5_birds (hf : Nat → Int32) (se : Nat → Int32) (p1 : Int32) (p2 : Int32) (sse : Nat → Nat → Int32) : Nat → Nat → Int32 := fw_sse_X5_settle hf se (sr_X1_setBirds p1 p2) sse
def gv21_5_X5_birds (hf : Nat → Int32) (to : Nat → Int32) (p1 : Int32) (p2 : Int32) (sto : Nat → Nat → Int32) : Nat → Nat → Int32 := fw_sto_X5_settle hf to (sr_X1_setBirds p1 p2) sto
def gv21_6_X5_birds (hf : Nat → Int32) (re : Nat → Int32) (p1 : Int32) (p2 : Int32) (sre : Nat → Nat → Int32) : Nat → Nat → Int32 := fw_sre_X5_settle hf re (sr_X1_setBirds p1 p2) sre
def gv21_7_X5_birds (f : Nat → Int32) (p1 : Int32) (p2 : Int32) : Nat → Int32 := sw19_X5_settle f (gv18_1_X5_birds f p1 p2) (sr_X1_setBirds p1 p2)
def gv21_8_X5_birds (se : Nat → Int32) (p1 : Int32) (p2 : Int32) : Nat → Int32 := sw20_X5_settle se se (sr_X1_setBirds p1 p2)
def gv21_9_X5_birds (to : Nat → Int32) (p1 : Int32) (p2 : Int32) : Nat → Int32 := sw21_X5_settle to to (sr_X1_setBirds p1 p2)
def gv21_10_X5_birds (re : Nat → Int32) (p1 : Int32) (p2 : Int32) : Nat → Int32 := sw22_X5_settle re re (sr_X1_setBirds p1 p2)
def sr_X5_birds (p1 : Int32) (p2 : Int32) : Int32 := sr_X5_settle (sr_X1_setBirds p1 p2)
def fw_sf_X5_birds (hf : Nat → Int32) (f : Nat → Int32) (p1 : Int32) (p2 : Int32) (sf : Nat → Nat → Int32) : Nat → Nat → Int32 := (gv21_3_X5_birds hf f p1 p2 sf)
def fw_sse_X5_birds (hf : Nat → Int32) (se : Nat → Int32) (p1 : Int32) (p2 : Int32) (sse : Nat → Nat → Int32) : Nat → Nat → Int32 := (gv21_4_X5_birds hf se p1 p2 sse)
def fw_sto_X5_birds (hf : Nat → Int32) (to : Nat → Int32) (p1 : Int32) (p2 : Int32) (sto : Nat → Nat → Int32) : Nat → Nat → Int32 := (gv21_5_X5_birds hf to p1 p2 sto)
def fw_sre_X5_birds (hf : Nat → Int32) (re : Nat → Int32) (p1 : Int32) (p2 : Int32) (sre : Nat → Nat → Int32) : Nat → Nat → Int32 := (gv21_6_X5_birds hf re p1 p2 sre)
def sw1_X5_birds (hf : Nat → Int32) (p1 : Int32) (p2 : Int32) : Nat → Int32 := (gv21_2_X5_birds hf p1 p2)
def sw19_X5_birds (f : Nat → Int32) (p1 : Int32) (p2 : Int32) : Nat → Int32 := (gv21_7_X5_birds f p1 p2)
def sw20_X5_birds (se : Nat → Int32) (p1 : Int32) (p2 : Int32) : Nat → Int32 := (gv21_8_X5_birds se p1 p2)
def sw21_X5_birds (to : Nat → Int32) (p1 : Int32) (p2 : Int32) : Nat → Int32 := (gv21_9_X5_birds to p1 p2)
def sw22_X5_birds (re : Nat → Int32) (p1 : Int32) (p2 : Int32) : Nat → Int32 := (gv21_10_X5_birds re p1 p2)
def sw26_X5_birds (f : Nat → Int32) (p1 : Int32) (p2 : Int32) : Nat → Int32 := (gv18_1_X5_birds f p1 p2)
def sw27_X5_birds (se : Nat → Int32) : Nat → Int32 := se
def sw28_X5_birds (to : Nat → Int32) : Nat → Int32 := to
def sw29_X5_birds (re : Nat → Int32) : Nat → Int32 := re
abbrev po_X5_birds (cI cC cL : ClassId) (x0 h o t1 x1 y1 z1 x2 s0 s01 s02 s03 s1 s11 s12 s13 s2 s21 s22 s23 s3 s31 s32 s33 h1 h2 h3 y2 o1 o2 o3 : Nat) (hf f se to re pf tf ch of ose oto ore kf : Nat → Int32) (p1 : Int32) (p2 : Int32) (sf : Nat → Nat → Int32) (sse : Nat → Nat → Int32) (sto : Nat → Nat → Int32) (sre : Nat → Nat → Int32) : Int32 → va_W → Prop := fun r w' => sr_X5_birds p1 p2 = r ∧ [oX x0 h o t1 x1 y1 z1, oH x1 x2 (sw1_X5_birds hf p1 p2), aL cL x2 (gS s0 s1 s2 s3), oL s0 s01 s02 s03 (fw_sf_X5_birds hf f p1 p2 sf 0), aI cI s01 3 (fw_sse_X5_birds hf se p1 p2 sse 0), aI cI s02 7 (fw_sto_X5_birds hf to p1 p2 sto 0), aI cI s03 60 (fw_sre_X5_birds hf re p1 p2 sre 0), oL s1 s11 s12 s13 (fw_sf_X5_birds hf f p1 p2 sf 1), aI cI s11 3 (fw_sse_X5_birds hf se p1 p2 sse 1), aI cI s12 7 (fw_sto_X5_birds hf to p1 p2 sto 1), aI cI s13 60 (fw_sre_X5_birds hf re p1 p2 sre 1), oL s2 s21 s22 s23 (fw_sf_X5_birds hf f p1 p2 sf 2), aI cI s21 3 (fw_sse_X5_birds hf se p1 p2 sse 2), aI cI s22 7 (fw_sto_X5_birds hf to p1 p2 sto 2), aI cI s23 60 (fw_sre_X5_birds hf re p1 p2 sre 2), oL s3 s31 s32 s33 (fw_sf_X5_birds hf f p1 p2 sf 3), aI cI s31 3 (fw_sse_X5_birds hf se p1 p2 sse 3), aI cI s32 7 (fw_sto_X5_birds hf to p1 p2 sto 3), aI cI s33 60 (fw_sre_X5_birds hf re p1 p2 sre 3), oL h h1 h2 h3 (sw19_X5_birds f p1 p2), aI cI h1 3 (sw20_X5_birds se p1 p2), aI cI h2 7 (sw21_X5_birds to p1 p2), aI cI h3 60 (sw22_X5_birds re p1 p2), oP z1 pf, oT y1 y2 tf, aC cC y2 60 ch, oL o o1 o2 o3 (sw26_X5_birds f p1 p2), aI cI o1 3 (sw27_X5_birds se), aI cI o2 7 (sw28_X5_birds to), aI cI o3 60 (sw29_X5_birds re), oK t1 kf] = w'
set_option maxHeartbeats 4000000 in
set_option maxRecDepth 100000 in
theorem ct_X5_birds (l : Launch) (D : va_G) (cI cC cL : ClassId) (x0 h o t1 x1 y1 z1 x2 s0 s01 s02 s03 s1 s11 s12 s13 s2 s21 s22 s23 s3 s31 s32 s33 h1 h2 h3 y2 o1 o2 o3 : Nat) (hf f se to re pf tf ch of ose oto ore kf : Nat → Int32) (p1 : Int32) (p2 : Int32) (sf : Nat → Nat → Int32) (sse : Nat → Nat → Int32) (sto : Nat → Nat → Int32) (sre : Nat → Nat → Int32) : ag_MI l yX5_birds cX5_birds 3 .int 4 93 D cI cC cL [.ref x0, .int p1, .int p2] [oX x0 h o t1 x1 y1 z1, oH x1 x2 hf, aL cL x2 (gS s0 s1 s2 s3), oL s0 s01 s02 s03 (sf 0), aI cI s01 3 (sse 0), aI cI s02 7 (sto 0), aI cI s03 60 (sre 0), oL s1 s11 s12 s13 (sf 1), aI cI s11 3 (sse 1), aI cI s12 7 (sto 1), aI cI s13 60 (sre 1), oL s2 s21 s22 s23 (sf 2), aI cI s21 3 (sse 2), aI cI s22 7 (sto 2), aI cI s23 60 (sre 2), oL s3 s31 s32 s33 (sf 3), aI cI s31 3 (sse 3), aI cI s32 7 (sto 3), aI cI s33 60 (sre 3), oL h h1 h2 h3 f, aI cI h1 3 se, aI cI h2 7 to, aI cI h3 60 re, oP z1 pf, oT y1 y2 tf, aC cC y2 60 ch, oL o o1 o2 o3 of, aI cI o1 3 ose, aI cI o2 7 oto, aI cI o3 60 ore, oK t1 kf] (po_X5_birds cI cC cL x0 h o t1 x1 y1 z1 x2 s0 s01 s02 s03 s1 s11 s12 s13 s2 s21 s22 s23 s3 s31 s32 s33 h1 h2 h3 y2 o1 o2 o3 hf f se to re pf tf ch of ose oto ore kf p1 p2 sf sse sto sre) := by
  refine ag_MI.of (plainFor_of_name (by decide)) (Nat.le_of_ble_eq_true rfl) ?_
  intro p e s m below meth c hx hb hr hlocks hml hown hmn hG hK A hN hA H locs hP hD hS ls hl
  have hl : lv_has ls 3 [(0, .ref x0), (1, .int p1), (2, .int p2)] := hl
  refine lv_aload_n hx hb dX5_birds_0 rfl (lv_at hl 0 rfl) ?_
  refine ag_getX5 (v := .ref o) hx hb hG hown hK hP 0 1 rfl (by decide) k_177 rfl dX5_birds_1 ?_
  refine lv_aload_n hx hb dX5_birds_4 rfl (lv_at hl 0 rfl) ?_
  refine ag_getX5 (v := .ref h) hx hb hG hown hK hP 0 0 rfl (by decide) k_176 rfl dX5_birds_5 ?_
  refine ag_callVv (As := [.ref h]) (rest := []) hx hb hml hown hG hK hN hA hP hD hS hl (ct_X1_copyFrom l D cI cC cL o h o1 o2 o3 h1 h2 h3 of ose oto ore f se to re) fX1_copyFrom k_255 (ag_cut_2s 4 [oX x0 h o t1 x1 y1 z1, oH x1 x2 hf, aL cL x2 (gS s0 s1 s2 s3), oL s0 s01 s02 s03 (sf 0), aI cI s01 3 (sse 0), aI cI s02 7 (sto 0), aI cI s03 60 (sre 0), oL s1 s11 s12 s13 (sf 1), aI cI s11 3 (sse 1), aI cI s12 7 (sto 1), aI cI s13 60 (sre 1), oL s2 s21 s22 s23 (sf 2), aI cI s21 3 (sse 2), aI cI s22 7 (sto 2), aI cI s23 60 (sre 2), oL s3 s31 s32 s33 (sf 3), aI cI s31 3 (sse 3), aI cI s32 7 (sto 3), aI cI s33 60 (sre 3)] [oL o o1 o2 o3 of, aI cI o1 3 ose, aI cI o2 7 oto, aI cI o3 60 ore] [oP z1 pf, oT y1 y2 tf, aC cC y2 60 ch] [oL h h1 h2 h3 f, aI cI h1 3 se, aI cI h2 7 to, aI cI h3 60 re] [oK t1 kf] rfl rfl rfl) (q0 := 26) rfl rfl rfl rfl (Nat.le_of_ble_eq_true rfl) ⟨Nat.le_of_ble_eq_true rfl, Nat.le_of_ble_eq_true rfl⟩ ⟨Nat.zero_le _, Nat.zero_le _⟩ dX5_birds_8 (fun w1 H locs hw hP hD hS => ?_)
  have hw : _ = w1 := hw
  subst hw
  have hP : va_P D vwCl [oX x0 h o t1 x1 y1 z1, oH x1 x2 hf, aL cL x2 (gS s0 s1 s2 s3), oL s0 s01 s02 s03 (sf 0), aI cI s01 3 (sse 0), aI cI s02 7 (sto 0), aI cI s03 60 (sre 0), oL s1 s11 s12 s13 (sf 1), aI cI s11 3 (sse 1), aI cI s12 7 (sto 1), aI cI s13 60 (sre 1), oL s2 s21 s22 s23 (sf 2), aI cI s21 3 (sse 2), aI cI s22 7 (sto 2), aI cI s23 60 (sre 2), oL s3 s31 s32 s33 (sf 3), aI cI s31 3 (sse 3), aI cI s32 7 (sto 3), aI cI s33 60 (sre 3), oL h h1 h2 h3 f, aI cI h1 3 se, aI cI h2 7 to, aI cI h3 60 re, oP z1 pf, oT y1 y2 tf, aC cC y2 60 ch, oL o o1 o2 o3 f, aI cI o1 3 se, aI cI o2 7 to, aI cI o3 60 re, oK t1 kf] H := hP
  have hD : va_D A [oX x0 h o t1 x1 y1 z1, oH x1 x2 hf, aL cL x2 (gS s0 s1 s2 s3), oL s0 s01 s02 s03 (sf 0), aI cI s01 3 (sse 0), aI cI s02 7 (sto 0), aI cI s03 60 (sre 0), oL s1 s11 s12 s13 (sf 1), aI cI s11 3 (sse 1), aI cI s12 7 (sto 1), aI cI s13 60 (sre 1), oL s2 s21 s22 s23 (sf 2), aI cI s21 3 (sse 2), aI cI s22 7 (sto 2), aI cI s23 60 (sre 2), oL s3 s31 s32 s33 (sf 3), aI cI s31 3 (sse 3), aI cI s32 7 (sto 3), aI cI s33 60 (sre 3), oL h h1 h2 h3 f, aI cI h1 3 se, aI cI h2 7 to, aI cI h3 60 re, oP z1 pf, oT y1 y2 tf, aC cC y2 60 ch, oL o o1 o2 o3 f, aI cI o1 3 se, aI cI o2 7 to, aI cI o3 60 re, oK t1 kf] := hD
  refine lv_aload_n hx hb dX5_birds_11 rfl (lv_at hl 0 rfl) ?_
  refine lv_aload_n hx hb dX5_birds_12 rfl (lv_at hl 0 rfl) ?_
  refine ag_getX5 (v := .ref o) hx hb hG hown hK hP 0 1 rfl (by decide) k_177 rfl dX5_birds_13 ?_
  refine lv_iload_n hx hb dX5_birds_16 rfl (lv_at hl 1 rfl) ?_
  refine lv_iload_n hx hb dX5_birds_17 rfl (lv_at hl 2 rfl) ?_
  refine ag_callVi (As := [.int p1, .int p2]) (rest := [.ref x0]) hx hb hml hown hG hK hN hA hP hD hS hl (ct_X1_setBirds l D cI cC cL o o1 o2 o3 f se to re p1 p2) fX1_setBirds k_306 (ag_cut_1 [oX x0 h o t1 x1 y1 z1, oH x1 x2 hf, aL cL x2 (gS s0 s1 s2 s3), oL s0 s01 s02 s03 (sf 0), aI cI s01 3 (sse 0), aI cI s02 7 (sto 0), aI cI s03 60 (sre 0), oL s1 s11 s12 s13 (sf 1), aI cI s11 3 (sse 1), aI cI s12 7 (sto 1), aI cI s13 60 (sre 1), oL s2 s21 s22 s23 (sf 2), aI cI s21 3 (sse 2), aI cI s22 7 (sto 2), aI cI s23 60 (sre 2), oL s3 s31 s32 s33 (sf 3), aI cI s31 3 (sse 3), aI cI s32 7 (sto 3), aI cI s33 60 (sre 3), oL h h1 h2 h3 f, aI cI h1 3 se, aI cI h2 7 to, aI cI h3 60 re, oP z1 pf, oT y1 y2 tf, aC cC y2 60 ch] [oK t1 kf] rfl) (q0 := 26) rfl rfl rfl rfl (Nat.le_of_ble_eq_true rfl) ⟨Nat.le_of_ble_eq_true rfl, Nat.le_of_ble_eq_true rfl⟩ ⟨Nat.zero_le _, Nat.zero_le _⟩ dX5_birds_18 (fun r w1 H locs hw hP hD hS => ?_)
  obtain ⟨rfl, hw⟩ := hw
  generalize eg18_1 : sw0_X1_setBirds f p1 p2 = g18_1 at hw
  replace eg18_1 : gv18_1_X5_birds f p1 p2 = g18_1 := (by rw [← eg18_1]; rfl)
  subst hw
  have hP : va_P D vwCl [oX x0 h o t1 x1 y1 z1, oH x1 x2 hf, aL cL x2 (gS s0 s1 s2 s3), oL s0 s01 s02 s03 (sf 0), aI cI s01 3 (sse 0), aI cI s02 7 (sto 0), aI cI s03 60 (sre 0), oL s1 s11 s12 s13 (sf 1), aI cI s11 3 (sse 1), aI cI s12 7 (sto 1), aI cI s13 60 (sre 1), oL s2 s21 s22 s23 (sf 2), aI cI s21 3 (sse 2), aI cI s22 7 (sto 2), aI cI s23 60 (sre 2), oL s3 s31 s32 s33 (sf 3), aI cI s31 3 (sse 3), aI cI s32 7 (sto 3), aI cI s33 60 (sre 3), oL h h1 h2 h3 f, aI cI h1 3 se, aI cI h2 7 to, aI cI h3 60 re, oP z1 pf, oT y1 y2 tf, aC cC y2 60 ch, oL o o1 o2 o3 g18_1, aI cI o1 3 se, aI cI o2 7 to, aI cI o3 60 re, oK t1 kf] H := hP
  have hD : va_D A [oX x0 h o t1 x1 y1 z1, oH x1 x2 hf, aL cL x2 (gS s0 s1 s2 s3), oL s0 s01 s02 s03 (sf 0), aI cI s01 3 (sse 0), aI cI s02 7 (sto 0), aI cI s03 60 (sre 0), oL s1 s11 s12 s13 (sf 1), aI cI s11 3 (sse 1), aI cI s12 7 (sto 1), aI cI s13 60 (sre 1), oL s2 s21 s22 s23 (sf 2), aI cI s21 3 (sse 2), aI cI s22 7 (sto 2), aI cI s23 60 (sre 2), oL s3 s31 s32 s33 (sf 3), aI cI s31 3 (sse 3), aI cI s32 7 (sto 3), aI cI s33 60 (sre 3), oL h h1 h2 h3 f, aI cI h1 3 se, aI cI h2 7 to, aI cI h3 60 re, oP z1 pf, oT y1 y2 tf, aC cC y2 60 ch, oL o o1 o2 o3 g18_1, aI cI o1 3 se, aI cI o2 7 to, aI cI o3 60 re, oK t1 kf] := hD
  refine ag_callVi (As := [.int (sr_X1_setBirds p1 p2)]) (rest := []) hx hb hml hown hG hK hN hA hP hD hS hl (ct_X5_settle l D cI cC cL x0 h o t1 x1 y1 z1 x2 s0 s01 s02 s03 s1 s11 s12 s13 s2 s21 s22 s23 s3 s31 s32 s33 h1 h2 h3 y2 o1 o2 o3 hf f se to re pf tf ch g18_1 se to re kf (sr_X1_setBirds p1 p2) sf sse sto sre) fX5_settle k_267 ag_cut_all (q0 := 0) rfl rfl rfl rfl (Nat.le_of_ble_eq_true rfl) ⟨Nat.le_of_ble_eq_true rfl, Nat.le_of_ble_eq_true rfl⟩ ⟨Nat.zero_le _, Nat.zero_le _⟩ dX5_birds_21 (fun r w1 H locs hw hP hD hS => ?_)
  obtain ⟨rfl, hw⟩ := hw
  generalize eg21_2 : sw1_X5_settle hf (sr_X1_setBirds p1 p2) = g21_2 at hw
  replace eg21_2 : gv21_2_X5_birds hf p1 p2 = g21_2 := (by rw [← eg21_2]; rfl)
  generalize eg21_3 : fw_sf_X5_settle hf f (sr_X1_setBirds p1 p2) sf = g21_3 at hw
  replace eg21_3 : gv21_3_X5_birds hf f p1 p2 sf = g21_3 := (by rw [← eg21_3]; rfl)
  generalize eg21_4 : fw_sse_X5_settle hf se (sr_X1_setBirds p1 p2) sse = g21_4 at hw
  replace eg21_4 : gv21_4_X5_birds hf se p1 p2 sse = g21_4 := (by rw [← eg21_4]; rfl)
  generalize eg21_5 : fw_sto_X5_settle hf to (sr_X1_setBirds p1 p2) sto = g21_5 at hw
  replace eg21_5 : gv21_5_X5_birds hf to p1 p2 sto = g21_5 := (by rw [← eg21_5]; rfl)
  generalize eg21_6 : fw_sre_X5_settle hf re (sr_X1_setBirds p1 p2) sre = g21_6 at hw
  replace eg21_6 : gv21_6_X5_birds hf re p1 p2 sre = g21_6 := (by rw [← eg21_6]; rfl)
  generalize eg21_7 : sw19_X5_settle f g18_1 (sr_X1_setBirds p1 p2) = g21_7 at hw
  replace eg21_7 : gv21_7_X5_birds f p1 p2 = g21_7 := (by rw [← eg21_7, ← eg18_1]; rfl)
  generalize eg21_8 : sw20_X5_settle se se (sr_X1_setBirds p1 p2) = g21_8 at hw
  replace eg21_8 : gv21_8_X5_birds se p1 p2 = g21_8 := (by rw [← eg21_8]; rfl)
  generalize eg21_9 : sw21_X5_settle to to (sr_X1_setBirds p1 p2) = g21_9 at hw
  replace eg21_9 : gv21_9_X5_birds to p1 p2 = g21_9 := (by rw [← eg21_9]; rfl)
  generalize eg21_10 : sw22_X5_settle re re (sr_X1_setBirds p1 p2) = g21_10 at hw
  replace eg21_10 : gv21_10_X5_birds re p1 p2 = g21_10 := (by rw [← eg21_10]; rfl)
  subst hw
  have hP : va_P D vwCl [oX x0 h o t1 x1 y1 z1, oH x1 x2 g21_2, aL cL x2 (gS s0 s1 s2 s3), oL s0 s01 s02 s03 (g21_3 0), aI cI s01 3 (g21_4 0), aI cI s02 7 (g21_5 0), aI cI s03 60 (g21_6 0), oL s1 s11 s12 s13 (g21_3 1), aI cI s11 3 (g21_4 1), aI cI s12 7 (g21_5 1), aI cI s13 60 (g21_6 1), oL s2 s21 s22 s23 (g21_3 2), aI cI s21 3 (g21_4 2), aI cI s22 7 (g21_5 2), aI cI s23 60 (g21_6 2), oL s3 s31 s32 s33 (g21_3 3), aI cI s31 3 (g21_4 3), aI cI s32 7 (g21_5 3), aI cI s33 60 (g21_6 3), oL h h1 h2 h3 g21_7, aI cI h1 3 g21_8, aI cI h2 7 g21_9, aI cI h3 60 g21_10, oP z1 pf, oT y1 y2 tf, aC cC y2 60 ch, oL o o1 o2 o3 g18_1, aI cI o1 3 se, aI cI o2 7 to, aI cI o3 60 re, oK t1 kf] H := hP
  have hD : va_D A [oX x0 h o t1 x1 y1 z1, oH x1 x2 g21_2, aL cL x2 (gS s0 s1 s2 s3), oL s0 s01 s02 s03 (g21_3 0), aI cI s01 3 (g21_4 0), aI cI s02 7 (g21_5 0), aI cI s03 60 (g21_6 0), oL s1 s11 s12 s13 (g21_3 1), aI cI s11 3 (g21_4 1), aI cI s12 7 (g21_5 1), aI cI s13 60 (g21_6 1), oL s2 s21 s22 s23 (g21_3 2), aI cI s21 3 (g21_4 2), aI cI s22 7 (g21_5 2), aI cI s23 60 (g21_6 2), oL s3 s31 s32 s33 (g21_3 3), aI cI s31 3 (g21_4 3), aI cI s32 7 (g21_5 3), aI cI s33 60 (g21_6 3), oL h h1 h2 h3 g21_7, aI cI h1 3 g21_8, aI cI h2 7 g21_9, aI cI h3 60 g21_10, oP z1 pf, oT y1 y2 tf, aC cC y2 60 ch, oL o o1 o2 o3 g18_1, aI cI o1 3 se, aI cI o2 7 to, aI cI o3 60 re, oK t1 kf] := hD
  revert hP; revert hD; revert hS; revert hl
  subst eg21_10
  subst eg21_9
  subst eg21_8
  subst eg21_7
  subst eg21_6
  subst eg21_5
  subst eg21_4
  subst eg21_3
  subst eg21_2
  subst eg18_1
  intro hl hS hD hP
  exact ag_iret [x0, x1, x2, s0, s01, s02, s03, s1, s11, s12, s13, s2, s21, s22, s23, s3, s31, s32, s33, h, h1, h2, h3, z1, y1, y2, o, o1, o2, o3, t1] hx hb hr rfl hlocks hP hS rfl rfl ⟨rfl, (by show _ = _; rw [show fw_sf_X5_birds hf f p1 p2 sf = (gv21_3_X5_birds hf f p1 p2 sf) from rfl, show fw_sse_X5_birds hf se p1 p2 sse = (gv21_4_X5_birds hf se p1 p2 sse) from rfl, show fw_sto_X5_birds hf to p1 p2 sto = (gv21_5_X5_birds hf to p1 p2 sto) from rfl, show fw_sre_X5_birds hf re p1 p2 sre = (gv21_6_X5_birds hf re p1 p2 sre) from rfl, show sw1_X5_birds hf p1 p2 = (gv21_2_X5_birds hf p1 p2) from rfl, show sw19_X5_birds f p1 p2 = (gv21_7_X5_birds f p1 p2) from rfl, show sw20_X5_birds se p1 p2 = (gv21_8_X5_birds se p1 p2) from rfl, show sw21_X5_birds to p1 p2 = (gv21_9_X5_birds to p1 p2) from rfl, show sw22_X5_birds re p1 p2 = (gv21_10_X5_birds re p1 p2) from rfl, show sw26_X5_birds f p1 p2 = (gv18_1_X5_birds f p1 p2) from rfl, show sw27_X5_birds se = se from rfl, show sw28_X5_birds to = to from rfl, show sw29_X5_birds re = re from rfl])⟩ dX5_birds_24
def gv21_1_X5_run (f : Nat → Int32) (se : Nat → Int32) (to : Nat → Int32) (re : Nat → Int32) (kf : Nat → Int32) (p1 : Int32) : Nat → Int32 := sw0_X1_runTicks f se to re kf p1
def gv21_2_X5_run (f : Nat → Int32) (se : Nat → Int32) (to : Nat → Int32) (re : Nat → Int32) (kf : Nat → Int32) (p1 : Int32) : Nat → Int32 := sw2_X1_runTicks f se to re kf p1
def gv21_3_X5_run (f : Nat → Int32) (se : Nat → Int32) (to : Nat → Int32) (re : Nat → Int32) (kf : Nat → Int32) (p1 : Int32) : Nat → Int32 := sw3_X1_runTicks f se to re kf p1
def gv21_4_X5_run (f : Nat → Int32) (se : Nat → Int32) (to : Nat → Int32) (re : Nat → Int32) (kf : Nat → Int32) (p1 : Int32) : Nat → Int32 := sw4_X1_runTicks f se to re kf p1
def gv24_5_X5_run (hf : Nat → Int32) (f : Nat → Int32) (se : Nat → Int32) (to : Nat → Int32) (re : Nat → Int32) (kf : Nat → Int32) (p1 : Int32) : Nat → Int32 := sw1_X5_settle hf (sr_X1_runTicks f se to re kf p1)
def gv24_6_X5_run (hf : Nat → Int32) (f : Nat → Int32) (se : Nat → Int32) (to : Nat → Int32) (re : Nat → Int32) (kf : Nat → Int32) (p1 : Int32) (sf : Nat → Nat → Int32) : Nat → Nat → Int32 := fw_sf_X5_settle hf f (sr_X1_runTicks f se to re kf p1) sf
def gv24_7_X5_run (hf : Nat → Int32) (f : Nat → Int32) (se : Nat → Int32) (to : Nat → Int32) (re : Nat → Int32) (kf : Nat → Int32) (p1 : Int32) (sse : Nat → Nat → Int32) : Nat → Nat → Int32 := fw_sse_X5_settle hf se (sr_X1_runTicks f se to re kf p1) sse
def gv24_8_X5_run (hf : Nat → Int32) (f : Nat → Int32) (se : Nat → Int32) (to : Nat → Int32) (re : Nat → Int32) (kf : Nat → Int32) (p1 : Int32) (sto : Nat → Nat → Int32) : Nat → Nat → Int32 := fw_sto_X5_settle hf to (sr_X1_runTicks f se to re kf p1) sto
def gv24_9_X5_run (hf : Nat → Int32) (f : Nat → Int32) (se : Nat → Int32) (to : Nat → Int32) (re : Nat → Int32) (kf : Nat → Int32) (p1 : Int32) (sre : Nat → Nat → Int32) : Nat → Nat → Int32 := fw_sre_X5_settle hf re (sr_X1_runTicks f se to re kf p1) sre
def gv24_10_X5_run (f : Nat → Int32) (se : Nat → Int32) (to : Nat → Int32) (re : Nat → Int32) (kf : Nat → Int32) (p1 : Int32) : Nat → Int32 := sw19_X5_settle f (gv21_1_X5_run f se to re kf p1) (sr_X1_runTicks f se to re kf p1)
def gv24_11_X5_run (f : Nat → Int32) (se : Nat → Int32) (to : Nat → Int32) (re : Nat → Int32) (kf : Nat → Int32) (p1 : Int32) : Nat → Int32 := sw20_X5_settle se se (sr_X1_runTicks f se to re kf p1)
def gv24_12_X5_run (f : Nat → Int32) (se : Nat → Int32) (to : Nat → Int32) (re : Nat → Int32) (kf : Nat → Int32) (p1 : Int32) : Nat → Int32 := sw21_X5_settle to (gv21_2_X5_run f se to re kf p1) (sr_X1_runTicks f se to re kf p1)
def gv24_13_X5_run (f : Nat → Int32) (se : Nat → Int32) (to : Nat → Int32) (re : Nat → Int32) (kf : Nat → Int32) (p1 : Int32) : Nat → Int32 := sw22_X5_settle re (gv21_3_X5_run f se to re kf p1) (sr_X1_runTicks f se to re kf p1)
def sr_X5_run (f : Nat → Int32) (se : Nat → Int32) (to : Nat → Int32) (re : Nat → Int32) (kf : Nat → Int32) (p1 : Int32) : Int32 := sr_X5_settle (sr_X1_runTicks f se to re kf p1)
def fw_sf_X5_run (hf : Nat → Int32) (f : Nat → Int32) (se : Nat → Int32) (to : Nat → Int32) (re : Nat → Int32) (kf : Nat → Int32) (p1 : Int32) (sf : Nat → Nat → Int32) : Nat → Nat → Int32 := (gv24_6_X5_run hf f se to re kf p1 sf)
def fw_sse_X5_run (hf : Nat → Int32) (f : Nat → Int32) (se : Nat → Int32) (to : Nat → Int32) (re : Nat → Int32) (kf : Nat → Int32) (p1 : Int32) (sse : Nat → Nat → Int32) : Nat → Nat → Int32 := (gv24_7_X5_run hf f se to re kf p1 sse)
def fw_sto_X5_run (hf : Nat → Int32) (f : Nat → Int32) (se : Nat → Int32) (to : Nat → Int32) (re : Nat → Int32) (kf : Nat → Int32) (p1 : Int32) (sto : Nat → Nat → Int32) : Nat → Nat → Int32 := (gv24_8_X5_run hf f se to re kf p1 sto)
def fw_sre_X5_run (hf : Nat → Int32) (f : Nat → Int32) (se : Nat → Int32) (to : Nat → Int32) (re : Nat → Int32) (kf : Nat → Int32) (p1 : Int32) (sre : Nat → Nat → Int32) : Nat → Nat → Int32 := (gv24_9_X5_run hf f se to re kf p1 sre)
def sw1_X5_run (hf : Nat → Int32) (f : Nat → Int32) (se : Nat → Int32) (to : Nat → Int32) (re : Nat → Int32) (kf : Nat → Int32) (p1 : Int32) : Nat → Int32 := (gv24_5_X5_run hf f se to re kf p1)
def sw19_X5_run (f : Nat → Int32) (se : Nat → Int32) (to : Nat → Int32) (re : Nat → Int32) (kf : Nat → Int32) (p1 : Int32) : Nat → Int32 := (gv24_10_X5_run f se to re kf p1)
def sw20_X5_run (f : Nat → Int32) (se : Nat → Int32) (to : Nat → Int32) (re : Nat → Int32) (kf : Nat → Int32) (p1 : Int32) : Nat → Int32 := (gv24_11_X5_run f se to re kf p1)
def sw21_X5_run (f : Nat → Int32) (se : Nat → Int32) (to : Nat → Int32) (re : Nat → Int32) (kf : Nat → Int32) (p1 : Int32) : Nat → Int32 := (gv24_12_X5_run f se to re kf p1)
def sw22_X5_run (f : Nat → Int32) (se : Nat → Int32) (to : Nat → Int32) (re : Nat → Int32) (kf : Nat → Int32) (p1 : Int32) : Nat → Int32 := (gv24_13_X5_run f se to re kf p1)
def sw26_X5_run (f : Nat → Int32) (se : Nat → Int32) (to : Nat → Int32) (re : Nat → Int32) (kf : Nat → Int32) (p1 : Int32) : Nat → Int32 := (gv21_1_X5_run f se to re kf p1)
def sw27_X5_run (se : Nat → Int32) : Nat → Int32 := se
def sw28_X5_run (f : Nat → Int32) (se : Nat → Int32) (to : Nat → Int32) (re : Nat → Int32) (kf : Nat → Int32) (p1 : Int32) : Nat → Int32 := (gv21_2_X5_run f se to re kf p1)
def sw29_X5_run (f : Nat → Int32) (se : Nat → Int32) (to : Nat → Int32) (re : Nat → Int32) (kf : Nat → Int32) (p1 : Int32) : Nat → Int32 := (gv21_3_X5_run f se to re kf p1)
def sw30_X5_run (f : Nat → Int32) (se : Nat → Int32) (to : Nat → Int32) (re : Nat → Int32) (kf : Nat → Int32) (p1 : Int32) : Nat → Int32 := (gv21_4_X5_run f se to re kf p1)
abbrev po_X5_run (cI cC cL : ClassId) (x0 h o t1 x1 y1 z1 x2 s0 s01 s02 s03 s1 s11 s12 s13 s2 s21 s22 s23 s3 s31 s32 s33 h1 h2 h3 y2 o1 o2 o3 : Nat) (hf f se to re pf tf ch of ose oto ore kf : Nat → Int32) (p1 : Int32) (sf : Nat → Nat → Int32) (sse : Nat → Nat → Int32) (sto : Nat → Nat → Int32) (sre : Nat → Nat → Int32) : Int32 → va_W → Prop := fun r w' => sr_X5_run f se to re kf p1 = r ∧ [oX x0 h o t1 x1 y1 z1, oH x1 x2 (sw1_X5_run hf f se to re kf p1), aL cL x2 (gS s0 s1 s2 s3), oL s0 s01 s02 s03 (fw_sf_X5_run hf f se to re kf p1 sf 0), aI cI s01 3 (fw_sse_X5_run hf f se to re kf p1 sse 0), aI cI s02 7 (fw_sto_X5_run hf f se to re kf p1 sto 0), aI cI s03 60 (fw_sre_X5_run hf f se to re kf p1 sre 0), oL s1 s11 s12 s13 (fw_sf_X5_run hf f se to re kf p1 sf 1), aI cI s11 3 (fw_sse_X5_run hf f se to re kf p1 sse 1), aI cI s12 7 (fw_sto_X5_run hf f se to re kf p1 sto 1), aI cI s13 60 (fw_sre_X5_run hf f se to re kf p1 sre 1), oL s2 s21 s22 s23 (fw_sf_X5_run hf f se to re kf p1 sf 2), aI cI s21 3 (fw_sse_X5_run hf f se to re kf p1 sse 2), aI cI s22 7 (fw_sto_X5_run hf f se to re kf p1 sto 2), aI cI s23 60 (fw_sre_X5_run hf f se to re kf p1 sre 2), oL s3 s31 s32 s33 (fw_sf_X5_run hf f se to re kf p1 sf 3), aI cI s31 3 (fw_sse_X5_run hf f se to re kf p1 sse 3), aI cI s32 7 (fw_sto_X5_run hf f se to re kf p1 sto 3), aI cI s33 60 (fw_sre_X5_run hf f se to re kf p1 sre 3), oL h h1 h2 h3 (sw19_X5_run f se to re kf p1), aI cI h1 3 (sw20_X5_run f se to re kf p1), aI cI h2 7 (sw21_X5_run f se to re kf p1), aI cI h3 60 (sw22_X5_run f se to re kf p1), oP z1 pf, oT y1 y2 tf, aC cC y2 60 ch, oL o o1 o2 o3 (sw26_X5_run f se to re kf p1), aI cI o1 3 (sw27_X5_run se), aI cI o2 7 (sw28_X5_run f se to re kf p1), aI cI o3 60 (sw29_X5_run f se to re kf p1), oK t1 (sw30_X5_run f se to re kf p1)] = w'
set_option maxHeartbeats 4000000 in
set_option maxRecDepth 100000 in
theorem ct_X5_run (l : Launch) (D : va_G) (cI cC cL : ClassId) (x0 h o t1 x1 y1 z1 x2 s0 s01 s02 s03 s1 s11 s12 s13 s2 s21 s22 s23 s3 s31 s32 s33 h1 h2 h3 y2 o1 o2 o3 : Nat) (hf f se to re pf tf ch of ose oto ore kf : Nat → Int32) (p1 : Int32) (sf : Nat → Nat → Int32) (sse : Nat → Nat → Int32) (sto : Nat → Nat → Int32) (sre : Nat → Nat → Int32) : ag_MI l yX5_run cX5_run 2 .int 5 110 D cI cC cL [.ref x0, .int p1] [oX x0 h o t1 x1 y1 z1, oH x1 x2 hf, aL cL x2 (gS s0 s1 s2 s3), oL s0 s01 s02 s03 (sf 0), aI cI s01 3 (sse 0), aI cI s02 7 (sto 0), aI cI s03 60 (sre 0), oL s1 s11 s12 s13 (sf 1), aI cI s11 3 (sse 1), aI cI s12 7 (sto 1), aI cI s13 60 (sre 1), oL s2 s21 s22 s23 (sf 2), aI cI s21 3 (sse 2), aI cI s22 7 (sto 2), aI cI s23 60 (sre 2), oL s3 s31 s32 s33 (sf 3), aI cI s31 3 (sse 3), aI cI s32 7 (sto 3), aI cI s33 60 (sre 3), oL h h1 h2 h3 f, aI cI h1 3 se, aI cI h2 7 to, aI cI h3 60 re, oP z1 pf, oT y1 y2 tf, aC cC y2 60 ch, oL o o1 o2 o3 of, aI cI o1 3 ose, aI cI o2 7 oto, aI cI o3 60 ore, oK t1 kf] (po_X5_run cI cC cL x0 h o t1 x1 y1 z1 x2 s0 s01 s02 s03 s1 s11 s12 s13 s2 s21 s22 s23 s3 s31 s32 s33 h1 h2 h3 y2 o1 o2 o3 hf f se to re pf tf ch of ose oto ore kf p1 sf sse sto sre) := by
  refine ag_MI.of (plainFor_of_name (by decide)) (Nat.le_of_ble_eq_true rfl) ?_
  intro p e s m below meth c hx hb hr hlocks hml hown hmn hG hK A hN hA H locs hP hD hS ls hl
  have hl : lv_has ls 2 [(0, .ref x0), (1, .int p1)] := hl
  refine lv_aload_n hx hb dX5_run_0 rfl (lv_at hl 0 rfl) ?_
  refine ag_getX5 (v := .ref o) hx hb hG hown hK hP 0 1 rfl (by decide) k_177 rfl dX5_run_1 ?_
  refine lv_aload_n hx hb dX5_run_4 rfl (lv_at hl 0 rfl) ?_
  refine ag_getX5 (v := .ref h) hx hb hG hown hK hP 0 0 rfl (by decide) k_176 rfl dX5_run_5 ?_
  refine ag_callVv (As := [.ref h]) (rest := []) hx hb hml hown hG hK hN hA hP hD hS hl (ct_X1_copyFrom l D cI cC cL o h o1 o2 o3 h1 h2 h3 of ose oto ore f se to re) fX1_copyFrom k_255 (ag_cut_2s 4 [oX x0 h o t1 x1 y1 z1, oH x1 x2 hf, aL cL x2 (gS s0 s1 s2 s3), oL s0 s01 s02 s03 (sf 0), aI cI s01 3 (sse 0), aI cI s02 7 (sto 0), aI cI s03 60 (sre 0), oL s1 s11 s12 s13 (sf 1), aI cI s11 3 (sse 1), aI cI s12 7 (sto 1), aI cI s13 60 (sre 1), oL s2 s21 s22 s23 (sf 2), aI cI s21 3 (sse 2), aI cI s22 7 (sto 2), aI cI s23 60 (sre 2), oL s3 s31 s32 s33 (sf 3), aI cI s31 3 (sse 3), aI cI s32 7 (sto 3), aI cI s33 60 (sre 3)] [oL o o1 o2 o3 of, aI cI o1 3 ose, aI cI o2 7 oto, aI cI o3 60 ore] [oP z1 pf, oT y1 y2 tf, aC cC y2 60 ch] [oL h h1 h2 h3 f, aI cI h1 3 se, aI cI h2 7 to, aI cI h3 60 re] [oK t1 kf] rfl rfl rfl) (q0 := 26) rfl rfl rfl rfl (Nat.le_of_ble_eq_true rfl) ⟨Nat.le_of_ble_eq_true rfl, Nat.le_of_ble_eq_true rfl⟩ ⟨Nat.zero_le _, Nat.zero_le _⟩ dX5_run_8 (fun w1 H locs hw hP hD hS => ?_)
  have hw : _ = w1 := hw
  subst hw
  have hP : va_P D vwCl [oX x0 h o t1 x1 y1 z1, oH x1 x2 hf, aL cL x2 (gS s0 s1 s2 s3), oL s0 s01 s02 s03 (sf 0), aI cI s01 3 (sse 0), aI cI s02 7 (sto 0), aI cI s03 60 (sre 0), oL s1 s11 s12 s13 (sf 1), aI cI s11 3 (sse 1), aI cI s12 7 (sto 1), aI cI s13 60 (sre 1), oL s2 s21 s22 s23 (sf 2), aI cI s21 3 (sse 2), aI cI s22 7 (sto 2), aI cI s23 60 (sre 2), oL s3 s31 s32 s33 (sf 3), aI cI s31 3 (sse 3), aI cI s32 7 (sto 3), aI cI s33 60 (sre 3), oL h h1 h2 h3 f, aI cI h1 3 se, aI cI h2 7 to, aI cI h3 60 re, oP z1 pf, oT y1 y2 tf, aC cC y2 60 ch, oL o o1 o2 o3 f, aI cI o1 3 se, aI cI o2 7 to, aI cI o3 60 re, oK t1 kf] H := hP
  have hD : va_D A [oX x0 h o t1 x1 y1 z1, oH x1 x2 hf, aL cL x2 (gS s0 s1 s2 s3), oL s0 s01 s02 s03 (sf 0), aI cI s01 3 (sse 0), aI cI s02 7 (sto 0), aI cI s03 60 (sre 0), oL s1 s11 s12 s13 (sf 1), aI cI s11 3 (sse 1), aI cI s12 7 (sto 1), aI cI s13 60 (sre 1), oL s2 s21 s22 s23 (sf 2), aI cI s21 3 (sse 2), aI cI s22 7 (sto 2), aI cI s23 60 (sre 2), oL s3 s31 s32 s33 (sf 3), aI cI s31 3 (sse 3), aI cI s32 7 (sto 3), aI cI s33 60 (sre 3), oL h h1 h2 h3 f, aI cI h1 3 se, aI cI h2 7 to, aI cI h3 60 re, oP z1 pf, oT y1 y2 tf, aC cC y2 60 ch, oL o o1 o2 o3 f, aI cI o1 3 se, aI cI o2 7 to, aI cI o3 60 re, oK t1 kf] := hD
  refine lv_aload_n hx hb dX5_run_11 rfl (lv_at hl 0 rfl) ?_
  refine lv_aload_n hx hb dX5_run_12 rfl (lv_at hl 0 rfl) ?_
  refine ag_getX5 (v := .ref o) hx hb hG hown hK hP 0 1 rfl (by decide) k_177 rfl dX5_run_13 ?_
  refine lv_iload_n hx hb dX5_run_16 rfl (lv_at hl 1 rfl) ?_
  refine lv_aload_n hx hb dX5_run_17 rfl (lv_at hl 0 rfl) ?_
  refine ag_getX5 (v := .ref t1) hx hb hG hown hK hP 0 2 rfl (by decide) k_178 rfl dX5_run_18 ?_
  refine ag_callVi (As := [.int p1, .ref t1]) (rest := [.ref x0]) hx hb hml hown hG hK hN hA hP hD hS hl (ct_X1_runTicks l D cI cC cL o t1 o1 o2 o3 f se to re kf p1) fX1_runTicks k_336 (ag_cut_1 [oX x0 h o t1 x1 y1 z1, oH x1 x2 hf, aL cL x2 (gS s0 s1 s2 s3), oL s0 s01 s02 s03 (sf 0), aI cI s01 3 (sse 0), aI cI s02 7 (sto 0), aI cI s03 60 (sre 0), oL s1 s11 s12 s13 (sf 1), aI cI s11 3 (sse 1), aI cI s12 7 (sto 1), aI cI s13 60 (sre 1), oL s2 s21 s22 s23 (sf 2), aI cI s21 3 (sse 2), aI cI s22 7 (sto 2), aI cI s23 60 (sre 2), oL s3 s31 s32 s33 (sf 3), aI cI s31 3 (sse 3), aI cI s32 7 (sto 3), aI cI s33 60 (sre 3), oL h h1 h2 h3 f, aI cI h1 3 se, aI cI h2 7 to, aI cI h3 60 re, oP z1 pf, oT y1 y2 tf, aC cC y2 60 ch] [] rfl) (q0 := 26) rfl rfl rfl rfl (Nat.le_of_ble_eq_true rfl) ⟨Nat.le_of_ble_eq_true rfl, Nat.le_of_ble_eq_true rfl⟩ ⟨Nat.zero_le _, Nat.zero_le _⟩ dX5_run_21 (fun r w1 H locs hw hP hD hS => ?_)
  obtain ⟨rfl, hw⟩ := hw
  generalize eg21_1 : sw0_X1_runTicks f se to re kf p1 = g21_1 at hw
  replace eg21_1 : gv21_1_X5_run f se to re kf p1 = g21_1 := (by rw [← eg21_1]; rfl)
  generalize eg21_2 : sw2_X1_runTicks f se to re kf p1 = g21_2 at hw
  replace eg21_2 : gv21_2_X5_run f se to re kf p1 = g21_2 := (by rw [← eg21_2]; rfl)
  generalize eg21_3 : sw3_X1_runTicks f se to re kf p1 = g21_3 at hw
  replace eg21_3 : gv21_3_X5_run f se to re kf p1 = g21_3 := (by rw [← eg21_3]; rfl)
  generalize eg21_4 : sw4_X1_runTicks f se to re kf p1 = g21_4 at hw
  replace eg21_4 : gv21_4_X5_run f se to re kf p1 = g21_4 := (by rw [← eg21_4]; rfl)
  subst hw
  have hP : va_P D vwCl [oX x0 h o t1 x1 y1 z1, oH x1 x2 hf, aL cL x2 (gS s0 s1 s2 s3), oL s0 s01 s02 s03 (sf 0), aI cI s01 3 (sse 0), aI cI s02 7 (sto 0), aI cI s03 60 (sre 0), oL s1 s11 s12 s13 (sf 1), aI cI s11 3 (sse 1), aI cI s12 7 (sto 1), aI cI s13 60 (sre 1), oL s2 s21 s22 s23 (sf 2), aI cI s21 3 (sse 2), aI cI s22 7 (sto 2), aI cI s23 60 (sre 2), oL s3 s31 s32 s33 (sf 3), aI cI s31 3 (sse 3), aI cI s32 7 (sto 3), aI cI s33 60 (sre 3), oL h h1 h2 h3 f, aI cI h1 3 se, aI cI h2 7 to, aI cI h3 60 re, oP z1 pf, oT y1 y2 tf, aC cC y2 60 ch, oL o o1 o2 o3 g21_1, aI cI o1 3 se, aI cI o2 7 g21_2, aI cI o3 60 g21_3, oK t1 g21_4] H := hP
  have hD : va_D A [oX x0 h o t1 x1 y1 z1, oH x1 x2 hf, aL cL x2 (gS s0 s1 s2 s3), oL s0 s01 s02 s03 (sf 0), aI cI s01 3 (sse 0), aI cI s02 7 (sto 0), aI cI s03 60 (sre 0), oL s1 s11 s12 s13 (sf 1), aI cI s11 3 (sse 1), aI cI s12 7 (sto 1), aI cI s13 60 (sre 1), oL s2 s21 s22 s23 (sf 2), aI cI s21 3 (sse 2), aI cI s22 7 (sto 2), aI cI s23 60 (sre 2), oL s3 s31 s32 s33 (sf 3), aI cI s31 3 (sse 3), aI cI s32 7 (sto 3), aI cI s33 60 (sre 3), oL h h1 h2 h3 f, aI cI h1 3 se, aI cI h2 7 to, aI cI h3 60 re, oP z1 pf, oT y1 y2 tf, aC cC y2 60 ch, oL o o1 o2 o3 g21_1, aI cI o1 3 se, aI cI o2 7 g21_2, aI cI o3 60 g21_3, oK t1 g21_4] := hD
  refine ag_callVi (As := [.int (sr_X1_runTicks f se to re kf p1)]) (rest := []) hx hb hml hown hG hK hN hA hP hD hS hl (ct_X5_settle l D cI cC cL x0 h o t1 x1 y1 z1 x2 s0 s01 s02 s03 s1 s11 s12 s13 s2 s21 s22 s23 s3 s31 s32 s33 h1 h2 h3 y2 o1 o2 o3 hf f se to re pf tf ch g21_1 se g21_2 g21_3 g21_4 (sr_X1_runTicks f se to re kf p1) sf sse sto sre) fX5_settle k_267 ag_cut_all (q0 := 0) rfl rfl rfl rfl (Nat.le_of_ble_eq_true rfl) ⟨Nat.le_of_ble_eq_true rfl, Nat.le_of_ble_eq_true rfl⟩ ⟨Nat.zero_le _, Nat.zero_le _⟩ dX5_run_24 (fun r w1 H locs hw hP hD hS => ?_)
  obtain ⟨rfl, hw⟩ := hw
  generalize eg24_5 : sw1_X5_settle hf (sr_X1_runTicks f se to re kf p1) = g24_5 at hw
  replace eg24_5 : gv24_5_X5_run hf f se to re kf p1 = g24_5 := (by rw [← eg24_5]; rfl)
  generalize eg24_6 : fw_sf_X5_settle hf f (sr_X1_runTicks f se to re kf p1) sf = g24_6 at hw
  replace eg24_6 : gv24_6_X5_run hf f se to re kf p1 sf = g24_6 := (by rw [← eg24_6]; rfl)
  generalize eg24_7 : fw_sse_X5_settle hf se (sr_X1_runTicks f se to re kf p1) sse = g24_7 at hw
  replace eg24_7 : gv24_7_X5_run hf f se to re kf p1 sse = g24_7 := (by rw [← eg24_7]; rfl)
  generalize eg24_8 : fw_sto_X5_settle hf to (sr_X1_runTicks f se to re kf p1) sto = g24_8 at hw
  replace eg24_8 : gv24_8_X5_run hf f se to re kf p1 sto = g24_8 := (by rw [← eg24_8]; rfl)
  generalize eg24_9 : fw_sre_X5_settle hf re (sr_X1_runTicks f se to re kf p1) sre = g24_9 at hw
  replace eg24_9 : gv24_9_X5_run hf f se to re kf p1 sre = g24_9 := (by rw [← eg24_9]; rfl)
  generalize eg24_10 : sw19_X5_settle f g21_1 (sr_X1_runTicks f se to re kf p1) = g24_10 at hw
  replace eg24_10 : gv24_10_X5_run f se to re kf p1 = g24_10 := (by rw [← eg24_10, ← eg21_1]; rfl)
  generalize eg24_11 : sw20_X5_settle se se (sr_X1_runTicks f se to re kf p1) = g24_11 at hw
  replace eg24_11 : gv24_11_X5_run f se to re kf p1 = g24_11 := (by rw [← eg24_11]; rfl)
  generalize eg24_12 : sw21_X5_settle to g21_2 (sr_X1_runTicks f se to re kf p1) = g24_12 at hw
  replace eg24_12 : gv24_12_X5_run f se to re kf p1 = g24_12 := (by rw [← eg24_12, ← eg21_2]; rfl)
  generalize eg24_13 : sw22_X5_settle re g21_3 (sr_X1_runTicks f se to re kf p1) = g24_13 at hw
  replace eg24_13 : gv24_13_X5_run f se to re kf p1 = g24_13 := (by rw [← eg24_13, ← eg21_3]; rfl)
  subst hw
  have hP : va_P D vwCl [oX x0 h o t1 x1 y1 z1, oH x1 x2 g24_5, aL cL x2 (gS s0 s1 s2 s3), oL s0 s01 s02 s03 (g24_6 0), aI cI s01 3 (g24_7 0), aI cI s02 7 (g24_8 0), aI cI s03 60 (g24_9 0), oL s1 s11 s12 s13 (g24_6 1), aI cI s11 3 (g24_7 1), aI cI s12 7 (g24_8 1), aI cI s13 60 (g24_9 1), oL s2 s21 s22 s23 (g24_6 2), aI cI s21 3 (g24_7 2), aI cI s22 7 (g24_8 2), aI cI s23 60 (g24_9 2), oL s3 s31 s32 s33 (g24_6 3), aI cI s31 3 (g24_7 3), aI cI s32 7 (g24_8 3), aI cI s33 60 (g24_9 3), oL h h1 h2 h3 g24_10, aI cI h1 3 g24_11, aI cI h2 7 g24_12, aI cI h3 60 g24_13, oP z1 pf, oT y1 y2 tf, aC cC y2 60 ch, oL o o1 o2 o3 g21_1, aI cI o1 3 se, aI cI o2 7 g21_2, aI cI o3 60 g21_3, oK t1 g21_4] H := hP
  have hD : va_D A [oX x0 h o t1 x1 y1 z1, oH x1 x2 g24_5, aL cL x2 (gS s0 s1 s2 s3), oL s0 s01 s02 s03 (g24_6 0), aI cI s01 3 (g24_7 0), aI cI s02 7 (g24_8 0), aI cI s03 60 (g24_9 0), oL s1 s11 s12 s13 (g24_6 1), aI cI s11 3 (g24_7 1), aI cI s12 7 (g24_8 1), aI cI s13 60 (g24_9 1), oL s2 s21 s22 s23 (g24_6 2), aI cI s21 3 (g24_7 2), aI cI s22 7 (g24_8 2), aI cI s23 60 (g24_9 2), oL s3 s31 s32 s33 (g24_6 3), aI cI s31 3 (g24_7 3), aI cI s32 7 (g24_8 3), aI cI s33 60 (g24_9 3), oL h h1 h2 h3 g24_10, aI cI h1 3 g24_11, aI cI h2 7 g24_12, aI cI h3 60 g24_13, oP z1 pf, oT y1 y2 tf, aC cC y2 60 ch, oL o o1 o2 o3 g21_1, aI cI o1 3 se, aI cI o2 7 g21_2, aI cI o3 60 g21_3, oK t1 g21_4] := hD
  revert hP; revert hD; revert hS; revert hl
  subst eg24_13
  subst eg24_12
  subst eg24_11
  subst eg24_10
  subst eg24_9
  subst eg24_8
  subst eg24_7
  subst eg24_6
  subst eg24_5
  subst eg21_4
  subst eg21_3
  subst eg21_2
  subst eg21_1
  intro hl hS hD hP
  exact ag_iret [x0, x1, x2, s0, s01, s02, s03, s1, s11, s12, s13, s2, s21, s22, s23, s3, s31, s32, s33, h, h1, h2, h3, z1, y1, y2, o, o1, o2, o3, t1] hx hb hr rfl hlocks hP hS rfl rfl ⟨rfl, (by show _ = _; rw [show fw_sf_X5_run hf f se to re kf p1 sf = (gv24_6_X5_run hf f se to re kf p1 sf) from rfl, show fw_sse_X5_run hf f se to re kf p1 sse = (gv24_7_X5_run hf f se to re kf p1 sse) from rfl, show fw_sto_X5_run hf f se to re kf p1 sto = (gv24_8_X5_run hf f se to re kf p1 sto) from rfl, show fw_sre_X5_run hf f se to re kf p1 sre = (gv24_9_X5_run hf f se to re kf p1 sre) from rfl, show sw1_X5_run hf f se to re kf p1 = (gv24_5_X5_run hf f se to re kf p1) from rfl, show sw19_X5_run f se to re kf p1 = (gv24_10_X5_run f se to re kf p1) from rfl, show sw20_X5_run f se to re kf p1 = (gv24_11_X5_run f se to re kf p1) from rfl, show sw21_X5_run f se to re kf p1 = (gv24_12_X5_run f se to re kf p1) from rfl, show sw22_X5_run f se to re kf p1 = (gv24_13_X5_run f se to re kf p1) from rfl, show sw26_X5_run f se to re kf p1 = (gv21_1_X5_run f se to re kf p1) from rfl, show sw27_X5_run se = se from rfl, show sw28_X5_run f se to re kf p1 = (gv21_2_X5_run f se to re kf p1) from rfl, show sw29_X5_run f se to re kf p1 = (gv21_3_X5_run f se to re kf p1) from rfl, show sw30_X5_run f se to re kf p1 = (gv21_4_X5_run f se to re kf p1) from rfl])⟩ dX5_run_27
def gv17_1_X5_dredge (f : Nat → Int32) (p1 : Int32) : Nat → Int32 := sw0_X1_dredgeSilt f p1
def gv17_2_X5_dredge (f : Nat → Int32) (to : Nat → Int32) (p1 : Int32) : Nat → Int32 := sw2_X1_dredgeSilt f to p1
def gv20_3_X5_dredge (hf : Nat → Int32) (f : Nat → Int32) (p1 : Int32) : Nat → Int32 := sw1_X5_settle hf (sr_X1_dredgeSilt f p1)
def gv20_4_X5_dredge (hf : Nat → Int32) (f : Nat → Int32) (p1 : Int32) (sf : Nat → Nat → Int32) : Nat → Nat → Int32 := fw_sf_X5_settle hf f (sr_X1_dredgeSilt f p1) sf
def gv20_5_X5_dredge (hf : Nat → Int32) (f : Nat → Int32) (se : Nat → Int32) (p1 : Int32) (sse : Nat → Nat → Int32) : Nat → Nat → Int32 := fw_sse_X5_settle hf se (sr_X1_dredgeSilt f p1) sse
def gv20_6_X5_dredge (hf : Nat → Int32) (f : Nat → Int32) (to : Nat → Int32) (p1 : Int32) (sto : Nat → Nat → Int32) : Nat → Nat → Int32 := fw_sto_X5_settle hf to (sr_X1_dredgeSilt f p1) sto
def gv20_7_X5_dredge (hf : Nat → Int32) (f : Nat → Int32) (re : Nat → Int32) (p1 : Int32) (sre : Nat → Nat → Int32) : Nat → Nat → Int32 := fw_sre_X5_settle hf re (sr_X1_dredgeSilt f p1) sre
def gv20_8_X5_dredge (f : Nat → Int32) (p1 : Int32) : Nat → Int32 := sw19_X5_settle f (gv17_1_X5_dredge f p1) (sr_X1_dredgeSilt f p1)
def gv20_9_X5_dredge (f : Nat → Int32) (se : Nat → Int32) (p1 : Int32) : Nat → Int32 := sw20_X5_settle se se (sr_X1_dredgeSilt f p1)
def gv20_10_X5_dredge (f : Nat → Int32) (to : Nat → Int32) (p1 : Int32) : Nat → Int32 := sw21_X5_settle to (gv17_2_X5_dredge f to p1) (sr_X1_dredgeSilt f p1)
def gv20_11_X5_dredge (f : Nat → Int32) (re : Nat → Int32) (p1 : Int32) : Nat → Int32 := sw22_X5_settle re re (sr_X1_dredgeSilt f p1)
def sr_X5_dredge (f : Nat → Int32) (p1 : Int32) : Int32 := sr_X5_settle (sr_X1_dredgeSilt f p1)
def fw_sf_X5_dredge (hf : Nat → Int32) (f : Nat → Int32) (p1 : Int32) (sf : Nat → Nat → Int32) : Nat → Nat → Int32 := (gv20_4_X5_dredge hf f p1 sf)
def fw_sse_X5_dredge (hf : Nat → Int32) (f : Nat → Int32) (se : Nat → Int32) (p1 : Int32) (sse : Nat → Nat → Int32) : Nat → Nat → Int32 := (gv20_5_X5_dredge hf f se p1 sse)
def fw_sto_X5_dredge (hf : Nat → Int32) (f : Nat → Int32) (to : Nat → Int32) (p1 : Int32) (sto : Nat → Nat → Int32) : Nat → Nat → Int32 := (gv20_6_X5_dredge hf f to p1 sto)
def fw_sre_X5_dredge (hf : Nat → Int32) (f : Nat → Int32) (re : Nat → Int32) (p1 : Int32) (sre : Nat → Nat → Int32) : Nat → Nat → Int32 := (gv20_7_X5_dredge hf f re p1 sre)
def sw1_X5_dredge (hf : Nat → Int32) (f : Nat → Int32) (p1 : Int32) : Nat → Int32 := (gv20_3_X5_dredge hf f p1)
def sw19_X5_dredge (f : Nat → Int32) (p1 : Int32) : Nat → Int32 := (gv20_8_X5_dredge f p1)
def sw20_X5_dredge (f : Nat → Int32) (se : Nat → Int32) (p1 : Int32) : Nat → Int32 := (gv20_9_X5_dredge f se p1)
def sw21_X5_dredge (f : Nat → Int32) (to : Nat → Int32) (p1 : Int32) : Nat → Int32 := (gv20_10_X5_dredge f to p1)
def sw22_X5_dredge (f : Nat → Int32) (re : Nat → Int32) (p1 : Int32) : Nat → Int32 := (gv20_11_X5_dredge f re p1)
def sw26_X5_dredge (f : Nat → Int32) (p1 : Int32) : Nat → Int32 := (gv17_1_X5_dredge f p1)
def sw27_X5_dredge (se : Nat → Int32) : Nat → Int32 := se
def sw28_X5_dredge (f : Nat → Int32) (to : Nat → Int32) (p1 : Int32) : Nat → Int32 := (gv17_2_X5_dredge f to p1)
def sw29_X5_dredge (re : Nat → Int32) : Nat → Int32 := re
abbrev po_X5_dredge (cI cC cL : ClassId) (x0 h o t1 x1 y1 z1 x2 s0 s01 s02 s03 s1 s11 s12 s13 s2 s21 s22 s23 s3 s31 s32 s33 h1 h2 h3 y2 o1 o2 o3 : Nat) (hf f se to re pf tf ch of ose oto ore kf : Nat → Int32) (p1 : Int32) (sf : Nat → Nat → Int32) (sse : Nat → Nat → Int32) (sto : Nat → Nat → Int32) (sre : Nat → Nat → Int32) : Int32 → va_W → Prop := fun r w' => sr_X5_dredge f p1 = r ∧ [oX x0 h o t1 x1 y1 z1, oH x1 x2 (sw1_X5_dredge hf f p1), aL cL x2 (gS s0 s1 s2 s3), oL s0 s01 s02 s03 (fw_sf_X5_dredge hf f p1 sf 0), aI cI s01 3 (fw_sse_X5_dredge hf f se p1 sse 0), aI cI s02 7 (fw_sto_X5_dredge hf f to p1 sto 0), aI cI s03 60 (fw_sre_X5_dredge hf f re p1 sre 0), oL s1 s11 s12 s13 (fw_sf_X5_dredge hf f p1 sf 1), aI cI s11 3 (fw_sse_X5_dredge hf f se p1 sse 1), aI cI s12 7 (fw_sto_X5_dredge hf f to p1 sto 1), aI cI s13 60 (fw_sre_X5_dredge hf f re p1 sre 1), oL s2 s21 s22 s23 (fw_sf_X5_dredge hf f p1 sf 2), aI cI s21 3 (fw_sse_X5_dredge hf f se p1 sse 2), aI cI s22 7 (fw_sto_X5_dredge hf f to p1 sto 2), aI cI s23 60 (fw_sre_X5_dredge hf f re p1 sre 2), oL s3 s31 s32 s33 (fw_sf_X5_dredge hf f p1 sf 3), aI cI s31 3 (fw_sse_X5_dredge hf f se p1 sse 3), aI cI s32 7 (fw_sto_X5_dredge hf f to p1 sto 3), aI cI s33 60 (fw_sre_X5_dredge hf f re p1 sre 3), oL h h1 h2 h3 (sw19_X5_dredge f p1), aI cI h1 3 (sw20_X5_dredge f se p1), aI cI h2 7 (sw21_X5_dredge f to p1), aI cI h3 60 (sw22_X5_dredge f re p1), oP z1 pf, oT y1 y2 tf, aC cC y2 60 ch, oL o o1 o2 o3 (sw26_X5_dredge f p1), aI cI o1 3 (sw27_X5_dredge se), aI cI o2 7 (sw28_X5_dredge f to p1), aI cI o3 60 (sw29_X5_dredge re), oK t1 kf] = w'
set_option maxHeartbeats 4000000 in
set_option maxRecDepth 100000 in
theorem ct_X5_dredge (l : Launch) (D : va_G) (cI cC cL : ClassId) (x0 h o t1 x1 y1 z1 x2 s0 s01 s02 s03 s1 s11 s12 s13 s2 s21 s22 s23 s3 s31 s32 s33 h1 h2 h3 y2 o1 o2 o3 : Nat) (hf f se to re pf tf ch of ose oto ore kf : Nat → Int32) (p1 : Int32) (sf : Nat → Nat → Int32) (sse : Nat → Nat → Int32) (sto : Nat → Nat → Int32) (sre : Nat → Nat → Int32) : ag_MI l yX5_dredge cX5_dredge 2 .int 4 93 D cI cC cL [.ref x0, .int p1] [oX x0 h o t1 x1 y1 z1, oH x1 x2 hf, aL cL x2 (gS s0 s1 s2 s3), oL s0 s01 s02 s03 (sf 0), aI cI s01 3 (sse 0), aI cI s02 7 (sto 0), aI cI s03 60 (sre 0), oL s1 s11 s12 s13 (sf 1), aI cI s11 3 (sse 1), aI cI s12 7 (sto 1), aI cI s13 60 (sre 1), oL s2 s21 s22 s23 (sf 2), aI cI s21 3 (sse 2), aI cI s22 7 (sto 2), aI cI s23 60 (sre 2), oL s3 s31 s32 s33 (sf 3), aI cI s31 3 (sse 3), aI cI s32 7 (sto 3), aI cI s33 60 (sre 3), oL h h1 h2 h3 f, aI cI h1 3 se, aI cI h2 7 to, aI cI h3 60 re, oP z1 pf, oT y1 y2 tf, aC cC y2 60 ch, oL o o1 o2 o3 of, aI cI o1 3 ose, aI cI o2 7 oto, aI cI o3 60 ore, oK t1 kf] (po_X5_dredge cI cC cL x0 h o t1 x1 y1 z1 x2 s0 s01 s02 s03 s1 s11 s12 s13 s2 s21 s22 s23 s3 s31 s32 s33 h1 h2 h3 y2 o1 o2 o3 hf f se to re pf tf ch of ose oto ore kf p1 sf sse sto sre) := by
  refine ag_MI.of (plainFor_of_name (by decide)) (Nat.le_of_ble_eq_true rfl) ?_
  intro p e s m below meth c hx hb hr hlocks hml hown hmn hG hK A hN hA H locs hP hD hS ls hl
  have hl : lv_has ls 2 [(0, .ref x0), (1, .int p1)] := hl
  refine lv_aload_n hx hb dX5_dredge_0 rfl (lv_at hl 0 rfl) ?_
  refine ag_getX5 (v := .ref o) hx hb hG hown hK hP 0 1 rfl (by decide) k_177 rfl dX5_dredge_1 ?_
  refine lv_aload_n hx hb dX5_dredge_4 rfl (lv_at hl 0 rfl) ?_
  refine ag_getX5 (v := .ref h) hx hb hG hown hK hP 0 0 rfl (by decide) k_176 rfl dX5_dredge_5 ?_
  refine ag_callVv (As := [.ref h]) (rest := []) hx hb hml hown hG hK hN hA hP hD hS hl (ct_X1_copyFrom l D cI cC cL o h o1 o2 o3 h1 h2 h3 of ose oto ore f se to re) fX1_copyFrom k_255 (ag_cut_2s 4 [oX x0 h o t1 x1 y1 z1, oH x1 x2 hf, aL cL x2 (gS s0 s1 s2 s3), oL s0 s01 s02 s03 (sf 0), aI cI s01 3 (sse 0), aI cI s02 7 (sto 0), aI cI s03 60 (sre 0), oL s1 s11 s12 s13 (sf 1), aI cI s11 3 (sse 1), aI cI s12 7 (sto 1), aI cI s13 60 (sre 1), oL s2 s21 s22 s23 (sf 2), aI cI s21 3 (sse 2), aI cI s22 7 (sto 2), aI cI s23 60 (sre 2), oL s3 s31 s32 s33 (sf 3), aI cI s31 3 (sse 3), aI cI s32 7 (sto 3), aI cI s33 60 (sre 3)] [oL o o1 o2 o3 of, aI cI o1 3 ose, aI cI o2 7 oto, aI cI o3 60 ore] [oP z1 pf, oT y1 y2 tf, aC cC y2 60 ch] [oL h h1 h2 h3 f, aI cI h1 3 se, aI cI h2 7 to, aI cI h3 60 re] [oK t1 kf] rfl rfl rfl) (q0 := 26) rfl rfl rfl rfl (Nat.le_of_ble_eq_true rfl) ⟨Nat.le_of_ble_eq_true rfl, Nat.le_of_ble_eq_true rfl⟩ ⟨Nat.zero_le _, Nat.zero_le _⟩ dX5_dredge_8 (fun w1 H locs hw hP hD hS => ?_)
  have hw : _ = w1 := hw
  subst hw
  have hP : va_P D vwCl [oX x0 h o t1 x1 y1 z1, oH x1 x2 hf, aL cL x2 (gS s0 s1 s2 s3), oL s0 s01 s02 s03 (sf 0), aI cI s01 3 (sse 0), aI cI s02 7 (sto 0), aI cI s03 60 (sre 0), oL s1 s11 s12 s13 (sf 1), aI cI s11 3 (sse 1), aI cI s12 7 (sto 1), aI cI s13 60 (sre 1), oL s2 s21 s22 s23 (sf 2), aI cI s21 3 (sse 2), aI cI s22 7 (sto 2), aI cI s23 60 (sre 2), oL s3 s31 s32 s33 (sf 3), aI cI s31 3 (sse 3), aI cI s32 7 (sto 3), aI cI s33 60 (sre 3), oL h h1 h2 h3 f, aI cI h1 3 se, aI cI h2 7 to, aI cI h3 60 re, oP z1 pf, oT y1 y2 tf, aC cC y2 60 ch, oL o o1 o2 o3 f, aI cI o1 3 se, aI cI o2 7 to, aI cI o3 60 re, oK t1 kf] H := hP
  have hD : va_D A [oX x0 h o t1 x1 y1 z1, oH x1 x2 hf, aL cL x2 (gS s0 s1 s2 s3), oL s0 s01 s02 s03 (sf 0), aI cI s01 3 (sse 0), aI cI s02 7 (sto 0), aI cI s03 60 (sre 0), oL s1 s11 s12 s13 (sf 1), aI cI s11 3 (sse 1), aI cI s12 7 (sto 1), aI cI s13 60 (sre 1), oL s2 s21 s22 s23 (sf 2), aI cI s21 3 (sse 2), aI cI s22 7 (sto 2), aI cI s23 60 (sre 2), oL s3 s31 s32 s33 (sf 3), aI cI s31 3 (sse 3), aI cI s32 7 (sto 3), aI cI s33 60 (sre 3), oL h h1 h2 h3 f, aI cI h1 3 se, aI cI h2 7 to, aI cI h3 60 re, oP z1 pf, oT y1 y2 tf, aC cC y2 60 ch, oL o o1 o2 o3 f, aI cI o1 3 se, aI cI o2 7 to, aI cI o3 60 re, oK t1 kf] := hD
  refine lv_aload_n hx hb dX5_dredge_11 rfl (lv_at hl 0 rfl) ?_
  refine lv_aload_n hx hb dX5_dredge_12 rfl (lv_at hl 0 rfl) ?_
  refine ag_getX5 (v := .ref o) hx hb hG hown hK hP 0 1 rfl (by decide) k_177 rfl dX5_dredge_13 ?_
  refine lv_iload_n hx hb dX5_dredge_16 rfl (lv_at hl 1 rfl) ?_
  refine ag_callVi (As := [.int p1]) (rest := [.ref x0]) hx hb hml hown hG hK hN hA hP hD hS hl (ct_X1_dredgeSilt l D cI cC cL o o1 o2 o3 f se to re p1) fX1_dredgeSilt k_314 (ag_cut_1 [oX x0 h o t1 x1 y1 z1, oH x1 x2 hf, aL cL x2 (gS s0 s1 s2 s3), oL s0 s01 s02 s03 (sf 0), aI cI s01 3 (sse 0), aI cI s02 7 (sto 0), aI cI s03 60 (sre 0), oL s1 s11 s12 s13 (sf 1), aI cI s11 3 (sse 1), aI cI s12 7 (sto 1), aI cI s13 60 (sre 1), oL s2 s21 s22 s23 (sf 2), aI cI s21 3 (sse 2), aI cI s22 7 (sto 2), aI cI s23 60 (sre 2), oL s3 s31 s32 s33 (sf 3), aI cI s31 3 (sse 3), aI cI s32 7 (sto 3), aI cI s33 60 (sre 3), oL h h1 h2 h3 f, aI cI h1 3 se, aI cI h2 7 to, aI cI h3 60 re, oP z1 pf, oT y1 y2 tf, aC cC y2 60 ch] [oK t1 kf] rfl) (q0 := 26) rfl rfl rfl rfl (Nat.le_of_ble_eq_true rfl) ⟨Nat.le_of_ble_eq_true rfl, Nat.le_of_ble_eq_true rfl⟩ ⟨Nat.zero_le _, Nat.zero_le _⟩ dX5_dredge_17 (fun r w1 H locs hw hP hD hS => ?_)
  obtain ⟨rfl, hw⟩ := hw
  generalize eg17_1 : sw0_X1_dredgeSilt f p1 = g17_1 at hw
  replace eg17_1 : gv17_1_X5_dredge f p1 = g17_1 := (by rw [← eg17_1]; rfl)
  generalize eg17_2 : sw2_X1_dredgeSilt f to p1 = g17_2 at hw
  replace eg17_2 : gv17_2_X5_dredge f to p1 = g17_2 := (by rw [← eg17_2]; rfl)
  subst hw
  have hP : va_P D vwCl [oX x0 h o t1 x1 y1 z1, oH x1 x2 hf, aL cL x2 (gS s0 s1 s2 s3), oL s0 s01 s02 s03 (sf 0), aI cI s01 3 (sse 0), aI cI s02 7 (sto 0), aI cI s03 60 (sre 0), oL s1 s11 s12 s13 (sf 1), aI cI s11 3 (sse 1), aI cI s12 7 (sto 1), aI cI s13 60 (sre 1), oL s2 s21 s22 s23 (sf 2), aI cI s21 3 (sse 2), aI cI s22 7 (sto 2), aI cI s23 60 (sre 2), oL s3 s31 s32 s33 (sf 3), aI cI s31 3 (sse 3), aI cI s32 7 (sto 3), aI cI s33 60 (sre 3), oL h h1 h2 h3 f, aI cI h1 3 se, aI cI h2 7 to, aI cI h3 60 re, oP z1 pf, oT y1 y2 tf, aC cC y2 60 ch, oL o o1 o2 o3 g17_1, aI cI o1 3 se, aI cI o2 7 g17_2, aI cI o3 60 re, oK t1 kf] H := hP
  have hD : va_D A [oX x0 h o t1 x1 y1 z1, oH x1 x2 hf, aL cL x2 (gS s0 s1 s2 s3), oL s0 s01 s02 s03 (sf 0), aI cI s01 3 (sse 0), aI cI s02 7 (sto 0), aI cI s03 60 (sre 0), oL s1 s11 s12 s13 (sf 1), aI cI s11 3 (sse 1), aI cI s12 7 (sto 1), aI cI s13 60 (sre 1), oL s2 s21 s22 s23 (sf 2), aI cI s21 3 (sse 2), aI cI s22 7 (sto 2), aI cI s23 60 (sre 2), oL s3 s31 s32 s33 (sf 3), aI cI s31 3 (sse 3), aI cI s32 7 (sto 3), aI cI s33 60 (sre 3), oL h h1 h2 h3 f, aI cI h1 3 se, aI cI h2 7 to, aI cI h3 60 re, oP z1 pf, oT y1 y2 tf, aC cC y2 60 ch, oL o o1 o2 o3 g17_1, aI cI o1 3 se, aI cI o2 7 g17_2, aI cI o3 60 re, oK t1 kf] := hD
  refine ag_callVi (As := [.int (sr_X1_dredgeSilt f p1)]) (rest := []) hx hb hml hown hG hK hN hA hP hD hS hl (ct_X5_settle l D cI cC cL x0 h o t1 x1 y1 z1 x2 s0 s01 s02 s03 s1 s11 s12 s13 s2 s21 s22 s23 s3 s31 s32 s33 h1 h2 h3 y2 o1 o2 o3 hf f se to re pf tf ch g17_1 se g17_2 re kf (sr_X1_dredgeSilt f p1) sf sse sto sre) fX5_settle k_267 ag_cut_all (q0 := 0) rfl rfl rfl rfl (Nat.le_of_ble_eq_true rfl) ⟨Nat.le_of_ble_eq_true rfl, Nat.le_of_ble_eq_true rfl⟩ ⟨Nat.zero_le _, Nat.zero_le _⟩ dX5_dredge_20 (fun r w1 H locs hw hP hD hS => ?_)
  obtain ⟨rfl, hw⟩ := hw
  generalize eg20_3 : sw1_X5_settle hf (sr_X1_dredgeSilt f p1) = g20_3 at hw
  replace eg20_3 : gv20_3_X5_dredge hf f p1 = g20_3 := (by rw [← eg20_3]; rfl)
  generalize eg20_4 : fw_sf_X5_settle hf f (sr_X1_dredgeSilt f p1) sf = g20_4 at hw
  replace eg20_4 : gv20_4_X5_dredge hf f p1 sf = g20_4 := (by rw [← eg20_4]; rfl)
  generalize eg20_5 : fw_sse_X5_settle hf se (sr_X1_dredgeSilt f p1) sse = g20_5 at hw
  replace eg20_5 : gv20_5_X5_dredge hf f se p1 sse = g20_5 := (by rw [← eg20_5]; rfl)
  generalize eg20_6 : fw_sto_X5_settle hf to (sr_X1_dredgeSilt f p1) sto = g20_6 at hw
  replace eg20_6 : gv20_6_X5_dredge hf f to p1 sto = g20_6 := (by rw [← eg20_6]; rfl)
  generalize eg20_7 : fw_sre_X5_settle hf re (sr_X1_dredgeSilt f p1) sre = g20_7 at hw
  replace eg20_7 : gv20_7_X5_dredge hf f re p1 sre = g20_7 := (by rw [← eg20_7]; rfl)
  generalize eg20_8 : sw19_X5_settle f g17_1 (sr_X1_dredgeSilt f p1) = g20_8 at hw
  replace eg20_8 : gv20_8_X5_dredge f p1 = g20_8 := (by rw [← eg20_8, ← eg17_1]; rfl)
  generalize eg20_9 : sw20_X5_settle se se (sr_X1_dredgeSilt f p1) = g20_9 at hw
  replace eg20_9 : gv20_9_X5_dredge f se p1 = g20_9 := (by rw [← eg20_9]; rfl)
  generalize eg20_10 : sw21_X5_settle to g17_2 (sr_X1_dredgeSilt f p1) = g20_10 at hw
  replace eg20_10 : gv20_10_X5_dredge f to p1 = g20_10 := (by rw [← eg20_10, ← eg17_2]; rfl)
  generalize eg20_11 : sw22_X5_settle re re (sr_X1_dredgeSilt f p1) = g20_11 at hw
  replace eg20_11 : gv20_11_X5_dredge f re p1 = g20_11 := (by rw [← eg20_11]; rfl)
  subst hw
  have hP : va_P D vwCl [oX x0 h o t1 x1 y1 z1, oH x1 x2 g20_3, aL cL x2 (gS s0 s1 s2 s3), oL s0 s01 s02 s03 (g20_4 0), aI cI s01 3 (g20_5 0), aI cI s02 7 (g20_6 0), aI cI s03 60 (g20_7 0), oL s1 s11 s12 s13 (g20_4 1), aI cI s11 3 (g20_5 1), aI cI s12 7 (g20_6 1), aI cI s13 60 (g20_7 1), oL s2 s21 s22 s23 (g20_4 2), aI cI s21 3 (g20_5 2), aI cI s22 7 (g20_6 2), aI cI s23 60 (g20_7 2), oL s3 s31 s32 s33 (g20_4 3), aI cI s31 3 (g20_5 3), aI cI s32 7 (g20_6 3), aI cI s33 60 (g20_7 3), oL h h1 h2 h3 g20_8, aI cI h1 3 g20_9, aI cI h2 7 g20_10, aI cI h3 60 g20_11, oP z1 pf, oT y1 y2 tf, aC cC y2 60 ch, oL o o1 o2 o3 g17_1, aI cI o1 3 se, aI cI o2 7 g17_2, aI cI o3 60 re, oK t1 kf] H := hP
  have hD : va_D A [oX x0 h o t1 x1 y1 z1, oH x1 x2 g20_3, aL cL x2 (gS s0 s1 s2 s3), oL s0 s01 s02 s03 (g20_4 0), aI cI s01 3 (g20_5 0), aI cI s02 7 (g20_6 0), aI cI s03 60 (g20_7 0), oL s1 s11 s12 s13 (g20_4 1), aI cI s11 3 (g20_5 1), aI cI s12 7 (g20_6 1), aI cI s13 60 (g20_7 1), oL s2 s21 s22 s23 (g20_4 2), aI cI s21 3 (g20_5 2), aI cI s22 7 (g20_6 2), aI cI s23 60 (g20_7 2), oL s3 s31 s32 s33 (g20_4 3), aI cI s31 3 (g20_5 3), aI cI s32 7 (g20_6 3), aI cI s33 60 (g20_7 3), oL h h1 h2 h3 g20_8, aI cI h1 3 g20_9, aI cI h2 7 g20_10, aI cI h3 60 g20_11, oP z1 pf, oT y1 y2 tf, aC cC y2 60 ch, oL o o1 o2 o3 g17_1, aI cI o1 3 se, aI cI o2 7 g17_2, aI cI o3 60 re, oK t1 kf] := hD
  revert hP; revert hD; revert hS; revert hl
  subst eg20_11
  subst eg20_10
  subst eg20_9
  subst eg20_8
  subst eg20_7
  subst eg20_6
  subst eg20_5
  subst eg20_4
  subst eg20_3
  subst eg17_2
  subst eg17_1
  intro hl hS hD hP
  exact ag_iret [x0, x1, x2, s0, s01, s02, s03, s1, s11, s12, s13, s2, s21, s22, s23, s3, s31, s32, s33, h, h1, h2, h3, z1, y1, y2, o, o1, o2, o3, t1] hx hb hr rfl hlocks hP hS rfl rfl ⟨rfl, (by show _ = _; rw [show fw_sf_X5_dredge hf f p1 sf = (gv20_4_X5_dredge hf f p1 sf) from rfl, show fw_sse_X5_dredge hf f se p1 sse = (gv20_5_X5_dredge hf f se p1 sse) from rfl, show fw_sto_X5_dredge hf f to p1 sto = (gv20_6_X5_dredge hf f to p1 sto) from rfl, show fw_sre_X5_dredge hf f re p1 sre = (gv20_7_X5_dredge hf f re p1 sre) from rfl, show sw1_X5_dredge hf f p1 = (gv20_3_X5_dredge hf f p1) from rfl, show sw19_X5_dredge f p1 = (gv20_8_X5_dredge f p1) from rfl, show sw20_X5_dredge f se p1 = (gv20_9_X5_dredge f se p1) from rfl, show sw21_X5_dredge f to p1 = (gv20_10_X5_dredge f to p1) from rfl, show sw22_X5_dredge f re p1 = (gv20_11_X5_dredge f re p1) from rfl, show sw26_X5_dredge f p1 = (gv17_1_X5_dredge f p1) from rfl, show sw27_X5_dredge se = se from rfl, show sw28_X5_dredge f to p1 = (gv17_2_X5_dredge f to p1) from rfl, show sw29_X5_dredge re = re from rfl])⟩ dX5_dredge_23
def gv18_1_X5_set (se : Nat → Int32) (p1 : Int32) (p2 : Int32) : Nat → Int32 := sw1_X1_changeSetting se p1 p2
def gv21_2_X5_set (hf : Nat → Int32) (se : Nat → Int32) (p1 : Int32) (p2 : Int32) : Nat → Int32 := sw1_X5_settle hf (sr_X1_changeSetting se p1 p2)
def gv21_3_X5_set (hf : Nat → Int32) (f : Nat → Int32) (se : Nat → Int32) (p1 : Int32) (p2 : Int32) (sf : Nat → Nat → Int32) : Nat → Nat → Int32 := fw_sf_X5_settle hf f (sr_X1_changeSetting se p1 p2) sf
def gv21_4_X5_set (hf : Nat → Int32) (se : Nat → Int32) (p1 : Int32) (p2 : Int32) (sse : Nat → Nat → Int32) : Nat → Nat → Int32 := fw_sse_X5_settle hf se (sr_X1_changeSetting se p1 p2) sse
def gv21_5_X5_set (hf : Nat → Int32) (se : Nat → Int32) (to : Nat → Int32) (p1 : Int32) (p2 : Int32) (sto : Nat → Nat → Int32) : Nat → Nat → Int32 := fw_sto_X5_settle hf to (sr_X1_changeSetting se p1 p2) sto
def gv21_6_X5_set (hf : Nat → Int32) (se : Nat → Int32) (re : Nat → Int32) (p1 : Int32) (p2 : Int32) (sre : Nat → Nat → Int32) : Nat → Nat → Int32 := fw_sre_X5_settle hf re (sr_X1_changeSetting se p1 p2) sre
def gv21_7_X5_set (f : Nat → Int32) (se : Nat → Int32) (p1 : Int32) (p2 : Int32) : Nat → Int32 := sw19_X5_settle f f (sr_X1_changeSetting se p1 p2)
def gv21_8_X5_set (se : Nat → Int32) (p1 : Int32) (p2 : Int32) : Nat → Int32 := sw20_X5_settle se (gv18_1_X5_set se p1 p2) (sr_X1_changeSetting se p1 p2)
def gv21_9_X5_set (se : Nat → Int32) (to : Nat → Int32) (p1 : Int32) (p2 : Int32) : Nat → Int32 := sw21_X5_settle to to (sr_X1_changeSetting se p1 p2)
def gv21_10_X5_set (se : Nat → Int32) (re : Nat → Int32) (p1 : Int32) (p2 : Int32) : Nat → Int32 := sw22_X5_settle re re (sr_X1_changeSetting se p1 p2)
def sr_X5_set (se : Nat → Int32) (p1 : Int32) (p2 : Int32) : Int32 := sr_X5_settle (sr_X1_changeSetting se p1 p2)
def fw_sf_X5_set (hf : Nat → Int32) (f : Nat → Int32) (se : Nat → Int32) (p1 : Int32) (p2 : Int32) (sf : Nat → Nat → Int32) : Nat → Nat → Int32 := (gv21_3_X5_set hf f se p1 p2 sf)
def fw_sse_X5_set (hf : Nat → Int32) (se : Nat → Int32) (p1 : Int32) (p2 : Int32) (sse : Nat → Nat → Int32) : Nat → Nat → Int32 := (gv21_4_X5_set hf se p1 p2 sse)
def fw_sto_X5_set (hf : Nat → Int32) (se : Nat → Int32) (to : Nat → Int32) (p1 : Int32) (p2 : Int32) (sto : Nat → Nat → Int32) : Nat → Nat → Int32 := (gv21_5_X5_set hf se to p1 p2 sto)
def fw_sre_X5_set (hf : Nat → Int32) (se : Nat → Int32) (re : Nat → Int32) (p1 : Int32) (p2 : Int32) (sre : Nat → Nat → Int32) : Nat → Nat → Int32 := (gv21_6_X5_set hf se re p1 p2 sre)
def sw1_X5_set (hf : Nat → Int32) (se : Nat → Int32) (p1 : Int32) (p2 : Int32) : Nat → Int32 := (gv21_2_X5_set hf se p1 p2)
def sw19_X5_set (f : Nat → Int32) (se : Nat → Int32) (p1 : Int32) (p2 : Int32) : Nat → Int32 := (gv21_7_X5_set f se p1 p2)
def sw20_X5_set (se : Nat → Int32) (p1 : Int32) (p2 : Int32) : Nat → Int32 := (gv21_8_X5_set se p1 p2)
def sw21_X5_set (se : Nat → Int32) (to : Nat → Int32) (p1 : Int32) (p2 : Int32) : Nat → Int32 := (gv21_9_X5_set se to p1 p2)
def sw22_X5_set (se : Nat → Int32) (re : Nat → Int32) (p1 : Int32) (p2 : Int32) : Nat → Int32 := (gv21_10_X5_set se re p1 p2)
def sw26_X5_set (f : Nat → Int32) : Nat → Int32 := f
def sw27_X5_set (se : Nat → Int32) (p1 : Int32) (p2 : Int32) : Nat → Int32 := (gv18_1_X5_set se p1 p2)
def sw28_X5_set (to : Nat → Int32) : Nat → Int32 := to
def sw29_X5_set (re : Nat → Int32) : Nat → Int32 := re
abbrev po_X5_set (cI cC cL : ClassId) (x0 h o t1 x1 y1 z1 x2 s0 s01 s02 s03 s1 s11 s12 s13 s2 s21 s22 s23 s3 s31 s32 s33 h1 h2 h3 y2 o1 o2 o3 : Nat) (hf f se to re pf tf ch of ose oto ore kf : Nat → Int32) (p1 : Int32) (p2 : Int32) (sf : Nat → Nat → Int32) (sse : Nat → Nat → Int32) (sto : Nat → Nat → Int32) (sre : Nat → Nat → Int32) : Int32 → va_W → Prop := fun r w' => sr_X5_set se p1 p2 = r ∧ [oX x0 h o t1 x1 y1 z1, oH x1 x2 (sw1_X5_set hf se p1 p2), aL cL x2 (gS s0 s1 s2 s3), oL s0 s01 s02 s03 (fw_sf_X5_set hf f se p1 p2 sf 0), aI cI s01 3 (fw_sse_X5_set hf se p1 p2 sse 0), aI cI s02 7 (fw_sto_X5_set hf se to p1 p2 sto 0), aI cI s03 60 (fw_sre_X5_set hf se re p1 p2 sre 0), oL s1 s11 s12 s13 (fw_sf_X5_set hf f se p1 p2 sf 1), aI cI s11 3 (fw_sse_X5_set hf se p1 p2 sse 1), aI cI s12 7 (fw_sto_X5_set hf se to p1 p2 sto 1), aI cI s13 60 (fw_sre_X5_set hf se re p1 p2 sre 1), oL s2 s21 s22 s23 (fw_sf_X5_set hf f se p1 p2 sf 2), aI cI s21 3 (fw_sse_X5_set hf se p1 p2 sse 2), aI cI s22 7 (fw_sto_X5_set hf se to p1 p2 sto 2), aI cI s23 60 (fw_sre_X5_set hf se re p1 p2 sre 2), oL s3 s31 s32 s33 (fw_sf_X5_set hf f se p1 p2 sf 3), aI cI s31 3 (fw_sse_X5_set hf se p1 p2 sse 3), aI cI s32 7 (fw_sto_X5_set hf se to p1 p2 sto 3), aI cI s33 60 (fw_sre_X5_set hf se re p1 p2 sre 3), oL h h1 h2 h3 (sw19_X5_set f se p1 p2), aI cI h1 3 (sw20_X5_set se p1 p2), aI cI h2 7 (sw21_X5_set se to p1 p2), aI cI h3 60 (sw22_X5_set se re p1 p2), oP z1 pf, oT y1 y2 tf, aC cC y2 60 ch, oL o o1 o2 o3 (sw26_X5_set f), aI cI o1 3 (sw27_X5_set se p1 p2), aI cI o2 7 (sw28_X5_set to), aI cI o3 60 (sw29_X5_set re), oK t1 kf] = w'
set_option maxHeartbeats 4000000 in
set_option maxRecDepth 100000 in
theorem ct_X5_set (l : Launch) (D : va_G) (cI cC cL : ClassId) (x0 h o t1 x1 y1 z1 x2 s0 s01 s02 s03 s1 s11 s12 s13 s2 s21 s22 s23 s3 s31 s32 s33 h1 h2 h3 y2 o1 o2 o3 : Nat) (hf f se to re pf tf ch of ose oto ore kf : Nat → Int32) (p1 : Int32) (p2 : Int32) (sf : Nat → Nat → Int32) (sse : Nat → Nat → Int32) (sto : Nat → Nat → Int32) (sre : Nat → Nat → Int32) : ag_MI l yX5_set cX5_set 3 .int 4 93 D cI cC cL [.ref x0, .int p1, .int p2] [oX x0 h o t1 x1 y1 z1, oH x1 x2 hf, aL cL x2 (gS s0 s1 s2 s3), oL s0 s01 s02 s03 (sf 0), aI cI s01 3 (sse 0), aI cI s02 7 (sto 0), aI cI s03 60 (sre 0), oL s1 s11 s12 s13 (sf 1), aI cI s11 3 (sse 1), aI cI s12 7 (sto 1), aI cI s13 60 (sre 1), oL s2 s21 s22 s23 (sf 2), aI cI s21 3 (sse 2), aI cI s22 7 (sto 2), aI cI s23 60 (sre 2), oL s3 s31 s32 s33 (sf 3), aI cI s31 3 (sse 3), aI cI s32 7 (sto 3), aI cI s33 60 (sre 3), oL h h1 h2 h3 f, aI cI h1 3 se, aI cI h2 7 to, aI cI h3 60 re, oP z1 pf, oT y1 y2 tf, aC cC y2 60 ch, oL o o1 o2 o3 of, aI cI o1 3 ose, aI cI o2 7 oto, aI cI o3 60 ore, oK t1 kf] (po_X5_set cI cC cL x0 h o t1 x1 y1 z1 x2 s0 s01 s02 s03 s1 s11 s12 s13 s2 s21 s22 s23 s3 s31 s32 s33 h1 h2 h3 y2 o1 o2 o3 hf f se to re pf tf ch of ose oto ore kf p1 p2 sf sse sto sre) := by
  refine ag_MI.of (plainFor_of_name (by decide)) (Nat.le_of_ble_eq_true rfl) ?_
  intro p e s m below meth c hx hb hr hlocks hml hown hmn hG hK A hN hA H locs hP hD hS ls hl
  have hl : lv_has ls 3 [(0, .ref x0), (1, .int p1), (2, .int p2)] := hl
  refine lv_aload_n hx hb dX5_set_0 rfl (lv_at hl 0 rfl) ?_
  refine ag_getX5 (v := .ref o) hx hb hG hown hK hP 0 1 rfl (by decide) k_177 rfl dX5_set_1 ?_
  refine lv_aload_n hx hb dX5_set_4 rfl (lv_at hl 0 rfl) ?_
  refine ag_getX5 (v := .ref h) hx hb hG hown hK hP 0 0 rfl (by decide) k_176 rfl dX5_set_5 ?_
  refine ag_callVv (As := [.ref h]) (rest := []) hx hb hml hown hG hK hN hA hP hD hS hl (ct_X1_copyFrom l D cI cC cL o h o1 o2 o3 h1 h2 h3 of ose oto ore f se to re) fX1_copyFrom k_255 (ag_cut_2s 4 [oX x0 h o t1 x1 y1 z1, oH x1 x2 hf, aL cL x2 (gS s0 s1 s2 s3), oL s0 s01 s02 s03 (sf 0), aI cI s01 3 (sse 0), aI cI s02 7 (sto 0), aI cI s03 60 (sre 0), oL s1 s11 s12 s13 (sf 1), aI cI s11 3 (sse 1), aI cI s12 7 (sto 1), aI cI s13 60 (sre 1), oL s2 s21 s22 s23 (sf 2), aI cI s21 3 (sse 2), aI cI s22 7 (sto 2), aI cI s23 60 (sre 2), oL s3 s31 s32 s33 (sf 3), aI cI s31 3 (sse 3), aI cI s32 7 (sto 3), aI cI s33 60 (sre 3)] [oL o o1 o2 o3 of, aI cI o1 3 ose, aI cI o2 7 oto, aI cI o3 60 ore] [oP z1 pf, oT y1 y2 tf, aC cC y2 60 ch] [oL h h1 h2 h3 f, aI cI h1 3 se, aI cI h2 7 to, aI cI h3 60 re] [oK t1 kf] rfl rfl rfl) (q0 := 26) rfl rfl rfl rfl (Nat.le_of_ble_eq_true rfl) ⟨Nat.le_of_ble_eq_true rfl, Nat.le_of_ble_eq_true rfl⟩ ⟨Nat.zero_le _, Nat.zero_le _⟩ dX5_set_8 (fun w1 H locs hw hP hD hS => ?_)
  have hw : _ = w1 := hw
  subst hw
  have hP : va_P D vwCl [oX x0 h o t1 x1 y1 z1, oH x1 x2 hf, aL cL x2 (gS s0 s1 s2 s3), oL s0 s01 s02 s03 (sf 0), aI cI s01 3 (sse 0), aI cI s02 7 (sto 0), aI cI s03 60 (sre 0), oL s1 s11 s12 s13 (sf 1), aI cI s11 3 (sse 1), aI cI s12 7 (sto 1), aI cI s13 60 (sre 1), oL s2 s21 s22 s23 (sf 2), aI cI s21 3 (sse 2), aI cI s22 7 (sto 2), aI cI s23 60 (sre 2), oL s3 s31 s32 s33 (sf 3), aI cI s31 3 (sse 3), aI cI s32 7 (sto 3), aI cI s33 60 (sre 3), oL h h1 h2 h3 f, aI cI h1 3 se, aI cI h2 7 to, aI cI h3 60 re, oP z1 pf, oT y1 y2 tf, aC cC y2 60 ch, oL o o1 o2 o3 f, aI cI o1 3 se, aI cI o2 7 to, aI cI o3 60 re, oK t1 kf] H := hP
  have hD : va_D A [oX x0 h o t1 x1 y1 z1, oH x1 x2 hf, aL cL x2 (gS s0 s1 s2 s3), oL s0 s01 s02 s03 (sf 0), aI cI s01 3 (sse 0), aI cI s02 7 (sto 0), aI cI s03 60 (sre 0), oL s1 s11 s12 s13 (sf 1), aI cI s11 3 (sse 1), aI cI s12 7 (sto 1), aI cI s13 60 (sre 1), oL s2 s21 s22 s23 (sf 2), aI cI s21 3 (sse 2), aI cI s22 7 (sto 2), aI cI s23 60 (sre 2), oL s3 s31 s32 s33 (sf 3), aI cI s31 3 (sse 3), aI cI s32 7 (sto 3), aI cI s33 60 (sre 3), oL h h1 h2 h3 f, aI cI h1 3 se, aI cI h2 7 to, aI cI h3 60 re, oP z1 pf, oT y1 y2 tf, aC cC y2 60 ch, oL o o1 o2 o3 f, aI cI o1 3 se, aI cI o2 7 to, aI cI o3 60 re, oK t1 kf] := hD
  refine lv_aload_n hx hb dX5_set_11 rfl (lv_at hl 0 rfl) ?_
  refine lv_aload_n hx hb dX5_set_12 rfl (lv_at hl 0 rfl) ?_
  refine ag_getX5 (v := .ref o) hx hb hG hown hK hP 0 1 rfl (by decide) k_177 rfl dX5_set_13 ?_
  refine lv_iload_n hx hb dX5_set_16 rfl (lv_at hl 1 rfl) ?_
  refine lv_iload_n hx hb dX5_set_17 rfl (lv_at hl 2 rfl) ?_
  refine ag_callVi (As := [.int p1, .int p2]) (rest := [.ref x0]) hx hb hml hown hG hK hN hA hP hD hS hl (ct_X1_changeSetting l D cI cC cL o o1 o2 o3 f se to re p1 p2) fX1_changeSetting k_324 (ag_cut_1 [oX x0 h o t1 x1 y1 z1, oH x1 x2 hf, aL cL x2 (gS s0 s1 s2 s3), oL s0 s01 s02 s03 (sf 0), aI cI s01 3 (sse 0), aI cI s02 7 (sto 0), aI cI s03 60 (sre 0), oL s1 s11 s12 s13 (sf 1), aI cI s11 3 (sse 1), aI cI s12 7 (sto 1), aI cI s13 60 (sre 1), oL s2 s21 s22 s23 (sf 2), aI cI s21 3 (sse 2), aI cI s22 7 (sto 2), aI cI s23 60 (sre 2), oL s3 s31 s32 s33 (sf 3), aI cI s31 3 (sse 3), aI cI s32 7 (sto 3), aI cI s33 60 (sre 3), oL h h1 h2 h3 f, aI cI h1 3 se, aI cI h2 7 to, aI cI h3 60 re, oP z1 pf, oT y1 y2 tf, aC cC y2 60 ch] [oK t1 kf] rfl) (q0 := 26) rfl rfl rfl rfl (Nat.le_of_ble_eq_true rfl) ⟨Nat.le_of_ble_eq_true rfl, Nat.le_of_ble_eq_true rfl⟩ ⟨Nat.zero_le _, Nat.zero_le _⟩ dX5_set_18 (fun r w1 H locs hw hP hD hS => ?_)
  obtain ⟨rfl, hw⟩ := hw
  generalize eg18_1 : sw1_X1_changeSetting se p1 p2 = g18_1 at hw
  replace eg18_1 : gv18_1_X5_set se p1 p2 = g18_1 := (by rw [← eg18_1]; rfl)
  subst hw
  have hP : va_P D vwCl [oX x0 h o t1 x1 y1 z1, oH x1 x2 hf, aL cL x2 (gS s0 s1 s2 s3), oL s0 s01 s02 s03 (sf 0), aI cI s01 3 (sse 0), aI cI s02 7 (sto 0), aI cI s03 60 (sre 0), oL s1 s11 s12 s13 (sf 1), aI cI s11 3 (sse 1), aI cI s12 7 (sto 1), aI cI s13 60 (sre 1), oL s2 s21 s22 s23 (sf 2), aI cI s21 3 (sse 2), aI cI s22 7 (sto 2), aI cI s23 60 (sre 2), oL s3 s31 s32 s33 (sf 3), aI cI s31 3 (sse 3), aI cI s32 7 (sto 3), aI cI s33 60 (sre 3), oL h h1 h2 h3 f, aI cI h1 3 se, aI cI h2 7 to, aI cI h3 60 re, oP z1 pf, oT y1 y2 tf, aC cC y2 60 ch, oL o o1 o2 o3 f, aI cI o1 3 g18_1, aI cI o2 7 to, aI cI o3 60 re, oK t1 kf] H := hP
  have hD : va_D A [oX x0 h o t1 x1 y1 z1, oH x1 x2 hf, aL cL x2 (gS s0 s1 s2 s3), oL s0 s01 s02 s03 (sf 0), aI cI s01 3 (sse 0), aI cI s02 7 (sto 0), aI cI s03 60 (sre 0), oL s1 s11 s12 s13 (sf 1), aI cI s11 3 (sse 1), aI cI s12 7 (sto 1), aI cI s13 60 (sre 1), oL s2 s21 s22 s23 (sf 2), aI cI s21 3 (sse 2), aI cI s22 7 (sto 2), aI cI s23 60 (sre 2), oL s3 s31 s32 s33 (sf 3), aI cI s31 3 (sse 3), aI cI s32 7 (sto 3), aI cI s33 60 (sre 3), oL h h1 h2 h3 f, aI cI h1 3 se, aI cI h2 7 to, aI cI h3 60 re, oP z1 pf, oT y1 y2 tf, aC cC y2 60 ch, oL o o1 o2 o3 f, aI cI o1 3 g18_1, aI cI o2 7 to, aI cI o3 60 re, oK t1 kf] := hD
  refine ag_callVi (As := [.int (sr_X1_changeSetting se p1 p2)]) (rest := []) hx hb hml hown hG hK hN hA hP hD hS hl (ct_X5_settle l D cI cC cL x0 h o t1 x1 y1 z1 x2 s0 s01 s02 s03 s1 s11 s12 s13 s2 s21 s22 s23 s3 s31 s32 s33 h1 h2 h3 y2 o1 o2 o3 hf f se to re pf tf ch f g18_1 to re kf (sr_X1_changeSetting se p1 p2) sf sse sto sre) fX5_settle k_267 ag_cut_all (q0 := 0) rfl rfl rfl rfl (Nat.le_of_ble_eq_true rfl) ⟨Nat.le_of_ble_eq_true rfl, Nat.le_of_ble_eq_true rfl⟩ ⟨Nat.zero_le _, Nat.zero_le _⟩ dX5_set_21 (fun r w1 H locs hw hP hD hS => ?_)
  obtain ⟨rfl, hw⟩ := hw
  generalize eg21_2 : sw1_X5_settle hf (sr_X1_changeSetting se p1 p2) = g21_2 at hw
  replace eg21_2 : gv21_2_X5_set hf se p1 p2 = g21_2 := (by rw [← eg21_2]; rfl)
  generalize eg21_3 : fw_sf_X5_settle hf f (sr_X1_changeSetting se p1 p2) sf = g21_3 at hw
  replace eg21_3 : gv21_3_X5_set hf f se p1 p2 sf = g21_3 := (by rw [← eg21_3]; rfl)
  generalize eg21_4 : fw_sse_X5_settle hf se (sr_X1_changeSetting se p1 p2) sse = g21_4 at hw
  replace eg21_4 : gv21_4_X5_set hf se p1 p2 sse = g21_4 := (by rw [← eg21_4]; rfl)
  generalize eg21_5 : fw_sto_X5_settle hf to (sr_X1_changeSetting se p1 p2) sto = g21_5 at hw
  replace eg21_5 : gv21_5_X5_set hf se to p1 p2 sto = g21_5 := (by rw [← eg21_5]; rfl)
  generalize eg21_6 : fw_sre_X5_settle hf re (sr_X1_changeSetting se p1 p2) sre = g21_6 at hw
  replace eg21_6 : gv21_6_X5_set hf se re p1 p2 sre = g21_6 := (by rw [← eg21_6]; rfl)
  generalize eg21_7 : sw19_X5_settle f f (sr_X1_changeSetting se p1 p2) = g21_7 at hw
  replace eg21_7 : gv21_7_X5_set f se p1 p2 = g21_7 := (by rw [← eg21_7]; rfl)
  generalize eg21_8 : sw20_X5_settle se g18_1 (sr_X1_changeSetting se p1 p2) = g21_8 at hw
  replace eg21_8 : gv21_8_X5_set se p1 p2 = g21_8 := (by rw [← eg21_8, ← eg18_1]; rfl)
  generalize eg21_9 : sw21_X5_settle to to (sr_X1_changeSetting se p1 p2) = g21_9 at hw
  replace eg21_9 : gv21_9_X5_set se to p1 p2 = g21_9 := (by rw [← eg21_9]; rfl)
  generalize eg21_10 : sw22_X5_settle re re (sr_X1_changeSetting se p1 p2) = g21_10 at hw
  replace eg21_10 : gv21_10_X5_set se re p1 p2 = g21_10 := (by rw [← eg21_10]; rfl)
  subst hw
  have hP : va_P D vwCl [oX x0 h o t1 x1 y1 z1, oH x1 x2 g21_2, aL cL x2 (gS s0 s1 s2 s3), oL s0 s01 s02 s03 (g21_3 0), aI cI s01 3 (g21_4 0), aI cI s02 7 (g21_5 0), aI cI s03 60 (g21_6 0), oL s1 s11 s12 s13 (g21_3 1), aI cI s11 3 (g21_4 1), aI cI s12 7 (g21_5 1), aI cI s13 60 (g21_6 1), oL s2 s21 s22 s23 (g21_3 2), aI cI s21 3 (g21_4 2), aI cI s22 7 (g21_5 2), aI cI s23 60 (g21_6 2), oL s3 s31 s32 s33 (g21_3 3), aI cI s31 3 (g21_4 3), aI cI s32 7 (g21_5 3), aI cI s33 60 (g21_6 3), oL h h1 h2 h3 g21_7, aI cI h1 3 g21_8, aI cI h2 7 g21_9, aI cI h3 60 g21_10, oP z1 pf, oT y1 y2 tf, aC cC y2 60 ch, oL o o1 o2 o3 f, aI cI o1 3 g18_1, aI cI o2 7 to, aI cI o3 60 re, oK t1 kf] H := hP
  have hD : va_D A [oX x0 h o t1 x1 y1 z1, oH x1 x2 g21_2, aL cL x2 (gS s0 s1 s2 s3), oL s0 s01 s02 s03 (g21_3 0), aI cI s01 3 (g21_4 0), aI cI s02 7 (g21_5 0), aI cI s03 60 (g21_6 0), oL s1 s11 s12 s13 (g21_3 1), aI cI s11 3 (g21_4 1), aI cI s12 7 (g21_5 1), aI cI s13 60 (g21_6 1), oL s2 s21 s22 s23 (g21_3 2), aI cI s21 3 (g21_4 2), aI cI s22 7 (g21_5 2), aI cI s23 60 (g21_6 2), oL s3 s31 s32 s33 (g21_3 3), aI cI s31 3 (g21_4 3), aI cI s32 7 (g21_5 3), aI cI s33 60 (g21_6 3), oL h h1 h2 h3 g21_7, aI cI h1 3 g21_8, aI cI h2 7 g21_9, aI cI h3 60 g21_10, oP z1 pf, oT y1 y2 tf, aC cC y2 60 ch, oL o o1 o2 o3 f, aI cI o1 3 g18_1, aI cI o2 7 to, aI cI o3 60 re, oK t1 kf] := hD
  revert hP; revert hD; revert hS; revert hl
  subst eg21_10
  subst eg21_9
  subst eg21_8
  subst eg21_7
  subst eg21_6
  subst eg21_5
  subst eg21_4
  subst eg21_3
  subst eg21_2
  subst eg18_1
  intro hl hS hD hP
  exact ag_iret [x0, x1, x2, s0, s01, s02, s03, s1, s11, s12, s13, s2, s21, s22, s23, s3, s31, s32, s33, h, h1, h2, h3, z1, y1, y2, o, o1, o2, o3, t1] hx hb hr rfl hlocks hP hS rfl rfl ⟨rfl, (by show _ = _; rw [show fw_sf_X5_set hf f se p1 p2 sf = (gv21_3_X5_set hf f se p1 p2 sf) from rfl, show fw_sse_X5_set hf se p1 p2 sse = (gv21_4_X5_set hf se p1 p2 sse) from rfl, show fw_sto_X5_set hf se to p1 p2 sto = (gv21_5_X5_set hf se to p1 p2 sto) from rfl, show fw_sre_X5_set hf se re p1 p2 sre = (gv21_6_X5_set hf se re p1 p2 sre) from rfl, show sw1_X5_set hf se p1 p2 = (gv21_2_X5_set hf se p1 p2) from rfl, show sw19_X5_set f se p1 p2 = (gv21_7_X5_set f se p1 p2) from rfl, show sw20_X5_set se p1 p2 = (gv21_8_X5_set se p1 p2) from rfl, show sw21_X5_set se to p1 p2 = (gv21_9_X5_set se to p1 p2) from rfl, show sw22_X5_set se re p1 p2 = (gv21_10_X5_set se re p1 p2) from rfl, show sw26_X5_set f = f from rfl, show sw27_X5_set se p1 p2 = (gv18_1_X5_set se p1 p2) from rfl, show sw28_X5_set to = to from rfl, show sw29_X5_set re = re from rfl])⟩ dX5_set_24
end
section
/-! the class itself: loops -/
def bdL (re : Nat → Int32) (a : Nat) : Nat → Nat → Int32 × Int32 → Int32 × Int32
  | 0, _, x => x
  | n + 1, i, x => bdL re a n (i + 1) (if re (rs (nI (a + i)) + 0) ≤ x.2 then x.1 else nI (a + i), if re (rs (nI (a + i)) + 0) ≤ x.2 then x.2 else re (rs (nI (a + i)) + 0))
theorem bd_end {la : Int32} {b : Nat} (h : la = nI b - 1) (hb : b < 2 ^ 30) (k : Nat) (hk : k < 2 ^ 30) : la < nI k ↔ b ≤ k := by
  rw [h, Int32.lt_iff_toInt_lt, nI_toInt (by omega), Int32.toInt_sub, nI_toInt (by omega), show (1 : Int32).toInt = 1 from rfl, ag_bm (by omega) (by omega)]
  omega
def l57_1_X5_bestDay (re : Nat → Int32) (a : Nat) (i : Nat) (fo : Int32) (mo : Int32) : Int32 := if (re ((rs (nI (a + i))) + 0)) ≤ mo then fo else nI (a + i)
def l57_2_X5_bestDay (re : Nat → Int32) (a : Nat) (i : Nat) (mo : Int32) : Int32 := if (re ((rs (nI (a + i))) + 0)) ≤ mo then mo else re ((rs (nI (a + i))) + 0)
abbrev po_X5_bestDay (cI cC cL : ClassId) (x0 h o t1 x1 y1 z1 x2 s0 s01 s02 s03 s1 s11 s12 s13 s2 s21 s22 s23 s3 s31 s32 s33 h1 h2 h3 y2 o1 o2 o3 : Nat) (hf f se to re pf tf ch of ose oto ore kf : Nat → Int32) (sf : Nat → Nat → Int32) (sse : Nat → Nat → Int32) (sto : Nat → Nat → Int32) (sre : Nat → Nat → Int32) (a : Nat) (N : Nat) (hq : sr_X1_firstDay f = nI a ∧ sr_X1_lastDay f = nI (a + N) - 1 ∧ a + N < 2 ^ 30) : Int32 → va_W → Prop := fun r w' => (bdL re a N 0 ((-1000000004), (-1))).1 = r ∧ [oX x0 h o t1 x1 y1 z1, oH x1 x2 hf, aL cL x2 (gS s0 s1 s2 s3), oL s0 s01 s02 s03 (sf 0), aI cI s01 3 (sse 0), aI cI s02 7 (sto 0), aI cI s03 60 (sre 0), oL s1 s11 s12 s13 (sf 1), aI cI s11 3 (sse 1), aI cI s12 7 (sto 1), aI cI s13 60 (sre 1), oL s2 s21 s22 s23 (sf 2), aI cI s21 3 (sse 2), aI cI s22 7 (sto 2), aI cI s23 60 (sre 2), oL s3 s31 s32 s33 (sf 3), aI cI s31 3 (sse 3), aI cI s32 7 (sto 3), aI cI s33 60 (sre 3), oL h h1 h2 h3 f, aI cI h1 3 se, aI cI h2 7 to, aI cI h3 60 re, oP z1 pf, oT y1 y2 tf, aC cC y2 60 ch, oL o o1 o2 o3 of, aI cI o1 3 ose, aI cI o2 7 oto, aI cI o3 60 ore, oK t1 kf] = w'
set_option maxHeartbeats 4000000 in
set_option maxRecDepth 100000 in
theorem ct_X5_bestDay (l : Launch) (D : va_G) (cI cC cL : ClassId) (x0 h o t1 x1 y1 z1 x2 s0 s01 s02 s03 s1 s11 s12 s13 s2 s21 s22 s23 s3 s31 s32 s33 h1 h2 h3 y2 o1 o2 o3 : Nat) (hf f se to re pf tf ch of ose oto ore kf : Nat → Int32) (sf : Nat → Nat → Int32) (sse : Nat → Nat → Int32) (sto : Nat → Nat → Int32) (sre : Nat → Nat → Int32) (a : Nat) (N : Nat) (hq : sr_X1_firstDay f = nI a ∧ sr_X1_lastDay f = nI (a + N) - 1 ∧ a + N < 2 ^ 30) : ag_MI l yX5_bestDay cX5_bestDay 6 .int 3 62 D cI cC cL [.ref x0] [oX x0 h o t1 x1 y1 z1, oH x1 x2 hf, aL cL x2 (gS s0 s1 s2 s3), oL s0 s01 s02 s03 (sf 0), aI cI s01 3 (sse 0), aI cI s02 7 (sto 0), aI cI s03 60 (sre 0), oL s1 s11 s12 s13 (sf 1), aI cI s11 3 (sse 1), aI cI s12 7 (sto 1), aI cI s13 60 (sre 1), oL s2 s21 s22 s23 (sf 2), aI cI s21 3 (sse 2), aI cI s22 7 (sto 2), aI cI s23 60 (sre 2), oL s3 s31 s32 s33 (sf 3), aI cI s31 3 (sse 3), aI cI s32 7 (sto 3), aI cI s33 60 (sre 3), oL h h1 h2 h3 f, aI cI h1 3 se, aI cI h2 7 to, aI cI h3 60 re, oP z1 pf, oT y1 y2 tf, aC cC y2 60 ch, oL o o1 o2 o3 of, aI cI o1 3 ose, aI cI o2 7 oto, aI cI o3 60 ore, oK t1 kf] (po_X5_bestDay cI cC cL x0 h o t1 x1 y1 z1 x2 s0 s01 s02 s03 s1 s11 s12 s13 s2 s21 s22 s23 s3 s31 s32 s33 h1 h2 h3 y2 o1 o2 o3 hf f se to re pf tf ch of ose oto ore kf sf sse sto sre a N hq) := by
  refine ag_MI.of (plainFor_of_name (by decide)) (Nat.le_of_ble_eq_true rfl) ?_
  intro p e s m below meth c hx hb hr hlocks hml hown hmn hG hK A hN hA H locs hP hD hS ls hl
  have hl : lv_has ls 6 [(0, .ref x0)] := hl
  refine lv_ldc (v := (-1000000004)) hx hb hown (hG _ k_411) dX5_bestDay_0 ?_
  refine lv_istore_n (lv' := [(1, .int (-1000000004)), (0, .ref x0)]) hx hb dX5_bestDay_2 rfl hl (by decide) rfl (fun ls hl => ?_)
  refine lv_iconst (v := (-1)) hx hb dX5_bestDay_3 (by decide) ?_
  refine lv_istore_n (lv' := [(2, .int (-1)), (1, .int (-1000000004)), (0, .ref x0)]) hx hb dX5_bestDay_4 rfl hl (by decide) rfl (fun ls hl => ?_)
  refine lv_aload_n hx hb dX5_bestDay_5 rfl (lv_at hl 2 rfl) ?_
  refine ag_getX5 (v := .ref h) hx hb hG hown hK hP 0 0 rfl (by decide) k_176 rfl dX5_bestDay_6 ?_
  refine ag_callVi (As := []) (rest := []) hx hb hml hown hG hK hN hA hP hD hS hl (ct_X1_lastDay l D cI cC cL h h1 h2 h3 f se to re) fX1_lastDay k_224 (ag_cut_1 [oX x0 h o t1 x1 y1 z1, oH x1 x2 hf, aL cL x2 (gS s0 s1 s2 s3), oL s0 s01 s02 s03 (sf 0), aI cI s01 3 (sse 0), aI cI s02 7 (sto 0), aI cI s03 60 (sre 0), oL s1 s11 s12 s13 (sf 1), aI cI s11 3 (sse 1), aI cI s12 7 (sto 1), aI cI s13 60 (sre 1), oL s2 s21 s22 s23 (sf 2), aI cI s21 3 (sse 2), aI cI s22 7 (sto 2), aI cI s23 60 (sre 2), oL s3 s31 s32 s33 (sf 3), aI cI s31 3 (sse 3), aI cI s32 7 (sto 3), aI cI s33 60 (sre 3)] [oP z1 pf, oT y1 y2 tf, aC cC y2 60 ch, oL o o1 o2 o3 of, aI cI o1 3 ose, aI cI o2 7 oto, aI cI o3 60 ore, oK t1 kf] rfl) (q0 := 19) rfl rfl rfl rfl (Nat.le_of_ble_eq_true rfl) ⟨Nat.le_of_ble_eq_true rfl, Nat.le_of_ble_eq_true rfl⟩ ⟨Nat.zero_le _, Nat.zero_le _⟩ dX5_bestDay_9 (fun r w1 H locs hw hP hD hS => ?_)
  obtain ⟨rfl, hw⟩ := hw
  subst hw
  have hP : va_P D vwCl [oX x0 h o t1 x1 y1 z1, oH x1 x2 hf, aL cL x2 (gS s0 s1 s2 s3), oL s0 s01 s02 s03 (sf 0), aI cI s01 3 (sse 0), aI cI s02 7 (sto 0), aI cI s03 60 (sre 0), oL s1 s11 s12 s13 (sf 1), aI cI s11 3 (sse 1), aI cI s12 7 (sto 1), aI cI s13 60 (sre 1), oL s2 s21 s22 s23 (sf 2), aI cI s21 3 (sse 2), aI cI s22 7 (sto 2), aI cI s23 60 (sre 2), oL s3 s31 s32 s33 (sf 3), aI cI s31 3 (sse 3), aI cI s32 7 (sto 3), aI cI s33 60 (sre 3), oL h h1 h2 h3 f, aI cI h1 3 se, aI cI h2 7 to, aI cI h3 60 re, oP z1 pf, oT y1 y2 tf, aC cC y2 60 ch, oL o o1 o2 o3 of, aI cI o1 3 ose, aI cI o2 7 oto, aI cI o3 60 ore, oK t1 kf] H := hP
  have hD : va_D A [oX x0 h o t1 x1 y1 z1, oH x1 x2 hf, aL cL x2 (gS s0 s1 s2 s3), oL s0 s01 s02 s03 (sf 0), aI cI s01 3 (sse 0), aI cI s02 7 (sto 0), aI cI s03 60 (sre 0), oL s1 s11 s12 s13 (sf 1), aI cI s11 3 (sse 1), aI cI s12 7 (sto 1), aI cI s13 60 (sre 1), oL s2 s21 s22 s23 (sf 2), aI cI s21 3 (sse 2), aI cI s22 7 (sto 2), aI cI s23 60 (sre 2), oL s3 s31 s32 s33 (sf 3), aI cI s31 3 (sse 3), aI cI s32 7 (sto 3), aI cI s33 60 (sre 3), oL h h1 h2 h3 f, aI cI h1 3 se, aI cI h2 7 to, aI cI h3 60 re, oP z1 pf, oT y1 y2 tf, aC cC y2 60 ch, oL o o1 o2 o3 of, aI cI o1 3 ose, aI cI o2 7 oto, aI cI o3 60 ore, oK t1 kf] := hD
  refine lv_istore_n (lv' := [(3, .int (sr_X1_lastDay f)), (2, .int (-1)), (1, .int (-1000000004)), (0, .ref x0)]) hx hb dX5_bestDay_12 rfl hl (by decide) rfl (fun ls hl => ?_)
  refine lv_aload_n hx hb dX5_bestDay_13 rfl (lv_at hl 3 rfl) ?_
  refine ag_getX5 (v := .ref h) hx hb hG hown hK hP 0 0 rfl (by decide) k_176 rfl dX5_bestDay_14 ?_
  refine ag_callVi (As := []) (rest := []) hx hb hml hown hG hK hN hA hP hD hS hl (ct_X1_firstDay l D cI cC cL h h1 h2 h3 f se to re) fX1_firstDay k_231 (ag_cut_1 [oX x0 h o t1 x1 y1 z1, oH x1 x2 hf, aL cL x2 (gS s0 s1 s2 s3), oL s0 s01 s02 s03 (sf 0), aI cI s01 3 (sse 0), aI cI s02 7 (sto 0), aI cI s03 60 (sre 0), oL s1 s11 s12 s13 (sf 1), aI cI s11 3 (sse 1), aI cI s12 7 (sto 1), aI cI s13 60 (sre 1), oL s2 s21 s22 s23 (sf 2), aI cI s21 3 (sse 2), aI cI s22 7 (sto 2), aI cI s23 60 (sre 2), oL s3 s31 s32 s33 (sf 3), aI cI s31 3 (sse 3), aI cI s32 7 (sto 3), aI cI s33 60 (sre 3)] [oP z1 pf, oT y1 y2 tf, aC cC y2 60 ch, oL o o1 o2 o3 of, aI cI o1 3 ose, aI cI o2 7 oto, aI cI o3 60 ore, oK t1 kf] rfl) (q0 := 19) rfl rfl rfl rfl (Nat.le_of_ble_eq_true rfl) ⟨Nat.le_of_ble_eq_true rfl, Nat.le_of_ble_eq_true rfl⟩ ⟨Nat.zero_le _, Nat.zero_le _⟩ dX5_bestDay_17 (fun r w1 H locs hw hP hD hS => ?_)
  obtain ⟨rfl, hw⟩ := hw
  subst hw
  have hP : va_P D vwCl [oX x0 h o t1 x1 y1 z1, oH x1 x2 hf, aL cL x2 (gS s0 s1 s2 s3), oL s0 s01 s02 s03 (sf 0), aI cI s01 3 (sse 0), aI cI s02 7 (sto 0), aI cI s03 60 (sre 0), oL s1 s11 s12 s13 (sf 1), aI cI s11 3 (sse 1), aI cI s12 7 (sto 1), aI cI s13 60 (sre 1), oL s2 s21 s22 s23 (sf 2), aI cI s21 3 (sse 2), aI cI s22 7 (sto 2), aI cI s23 60 (sre 2), oL s3 s31 s32 s33 (sf 3), aI cI s31 3 (sse 3), aI cI s32 7 (sto 3), aI cI s33 60 (sre 3), oL h h1 h2 h3 f, aI cI h1 3 se, aI cI h2 7 to, aI cI h3 60 re, oP z1 pf, oT y1 y2 tf, aC cC y2 60 ch, oL o o1 o2 o3 of, aI cI o1 3 ose, aI cI o2 7 oto, aI cI o3 60 ore, oK t1 kf] H := hP
  have hD : va_D A [oX x0 h o t1 x1 y1 z1, oH x1 x2 hf, aL cL x2 (gS s0 s1 s2 s3), oL s0 s01 s02 s03 (sf 0), aI cI s01 3 (sse 0), aI cI s02 7 (sto 0), aI cI s03 60 (sre 0), oL s1 s11 s12 s13 (sf 1), aI cI s11 3 (sse 1), aI cI s12 7 (sto 1), aI cI s13 60 (sre 1), oL s2 s21 s22 s23 (sf 2), aI cI s21 3 (sse 2), aI cI s22 7 (sto 2), aI cI s23 60 (sre 2), oL s3 s31 s32 s33 (sf 3), aI cI s31 3 (sse 3), aI cI s32 7 (sto 3), aI cI s33 60 (sre 3), oL h h1 h2 h3 f, aI cI h1 3 se, aI cI h2 7 to, aI cI h3 60 re, oP z1 pf, oT y1 y2 tf, aC cC y2 60 ch, oL o o1 o2 o3 of, aI cI o1 3 ose, aI cI o2 7 oto, aI cI o3 60 ore, oK t1 kf] := hD
  refine lv_istore (lv' := [(4, .int (sr_X1_firstDay f)), (3, .int (sr_X1_lastDay f)), (2, .int (-1)), (1, .int (-1000000004)), (0, .ref x0)]) hx hb dX5_bestDay_20 hl (by decide) rfl (fun ls hl => ?_)
  rw [hq.1] at hl
  suffices L22 : ∀ (n : Nat) (i : Nat) (fo mo : Int32), (hi : i + n = N) → (hR : bdL re a n i (fo, mo) = bdL re a N 0 ((-1000000004), (-1))) → ∀ (H : Heap) (locs : List Loc) (ls : Array Slot), lv_has ls 6 [(0, .ref x0), (1, .int fo), (2, .int mo), (3, .int (sr_X1_lastDay f)), (4, .int (nI (a + i)))] → va_P D vwCl [oX x0 h o t1 x1 y1 z1, oH x1 x2 hf, aL cL x2 (gS s0 s1 s2 s3), oL s0 s01 s02 s03 (sf 0), aI cI s01 3 (sse 0), aI cI s02 7 (sto 0), aI cI s03 60 (sre 0), oL s1 s11 s12 s13 (sf 1), aI cI s11 3 (sse 1), aI cI s12 7 (sto 1), aI cI s13 60 (sre 1), oL s2 s21 s22 s23 (sf 2), aI cI s21 3 (sse 2), aI cI s22 7 (sto 2), aI cI s23 60 (sre 2), oL s3 s31 s32 s33 (sf 3), aI cI s31 3 (sse 3), aI cI s32 7 (sto 3), aI cI s33 60 (sre 3), oL h h1 h2 h3 f, aI cI h1 3 se, aI cI h2 7 to, aI cI h3 60 re, oP z1 pf, oT y1 y2 tf, aC cC y2 60 ch, oL o o1 o2 o3 of, aI cI o1 3 ose, aI cI o2 7 oto, aI cI o3 60 ore, oK t1 kf] H → va_D A [oX x0 h o t1 x1 y1 z1, oH x1 x2 hf, aL cL x2 (gS s0 s1 s2 s3), oL s0 s01 s02 s03 (sf 0), aI cI s01 3 (sse 0), aI cI s02 7 (sto 0), aI cI s03 60 (sre 0), oL s1 s11 s12 s13 (sf 1), aI cI s11 3 (sse 1), aI cI s12 7 (sto 1), aI cI s13 60 (sre 1), oL s2 s21 s22 s23 (sf 2), aI cI s21 3 (sse 2), aI cI s22 7 (sto 2), aI cI s23 60 (sre 2), oL s3 s31 s32 s33 (sf 3), aI cI s31 3 (sse 3), aI cI s32 7 (sto 3), aI cI s33 60 (sre 3), oL h h1 h2 h3 f, aI cI h1 3 se, aI cI h2 7 to, aI cI h3 60 re, oP z1 pf, oT y1 y2 tf, aC cC y2 60 ch, oL o o1 o2 o3 of, aI cI o1 3 ose, aI cI o2 7 oto, aI cI o3 60 ore, oK t1 kf] → va_S A s.heap H locs → W p l e (ag_rm 3 62) s m ([.ref x0] : List Value).toArray below meth c H locs 0 0 (MQ below (va_Qi (po_X5_bestDay cI cC cL x0 h o t1 x1 y1 z1 x2 s0 s01 s02 s03 s1 s11 s12 s13 s2 s21 s22 s23 s3 s31 s32 s33 h1 h2 h3 y2 o1 o2 o3 hf f se to re pf tf ch of ose oto ore kf sf sse sto sre a N hq) (ag_Out D [oX x0 h o t1 x1 y1 z1, oH x1 x2 hf, aL cL x2 (gS s0 s1 s2 s3), oL s0 s01 s02 s03 (sf 0), aI cI s01 3 (sse 0), aI cI s02 7 (sto 0), aI cI s03 60 (sre 0), oL s1 s11 s12 s13 (sf 1), aI cI s11 3 (sse 1), aI cI s12 7 (sto 1), aI cI s13 60 (sre 1), oL s2 s21 s22 s23 (sf 2), aI cI s21 3 (sse 2), aI cI s22 7 (sto 2), aI cI s23 60 (sre 2), oL s3 s31 s32 s33 (sf 3), aI cI s31 3 (sse 3), aI cI s32 7 (sto 3), aI cI s33 60 (sre 3), oL h h1 h2 h3 f, aI cI h1 3 se, aI cI h2 7 to, aI cI h3 60 re, oP z1 pf, oT y1 y2 tf, aC cC y2 60 ch, oL o o1 o2 o3 of, aI cI o1 3 ose, aI cI o2 7 oto, aI cI o3 60 ore, oK t1 kf]) A) ([.ref x0] : List Value).toArray s 0 0 A) (F0 m 22 ls []) from L22 N 0 (-1000000004) (-1) (by omega) rfl H locs ls (lv_sub hl [4, 3, 2, 1, 0] rfl) hP hD hS
  intro n
  induction n with
  | zero =>
    intro i fo mo hi hR H locs ls hl hP hD hS
    refine lv_iload hx hb dX5_bestDay_22 (lv_at hl 4 rfl) ?_
    refine lv_iload_n hx hb dX5_bestDay_24 rfl (lv_at hl 3 rfl) ?_
    refine lv_icmp_gt (tgt := 63) hx hb dX5_bestDay_25 (by decide) (fun _ => ?_) (fun h0 => absurd ((bd_end hq.2.1 hq.2.2 (a + i) (by omega)).mpr (by omega)) h0)
    refine lv_iload_n hx hb dX5_bestDay_63 rfl (lv_at hl 1 rfl) ?_
    exact ag_iret [x0, x1, x2, s0, s01, s02, s03, s1, s11, s12, s13, s2, s21, s22, s23, s3, s31, s32, s33, h, h1, h2, h3, z1, y1, y2, o, o1, o2, o3, t1] hx hb hr rfl hlocks hP hS rfl rfl ⟨(by rw [← hR]; rfl), rfl⟩ dX5_bestDay_64
  | succ n ih =>
    intro i fo mo hi hR H locs ls hl hP hD hS
    refine lv_iload hx hb dX5_bestDay_22 (lv_at hl 4 rfl) ?_
    refine lv_iload_n hx hb dX5_bestDay_24 rfl (lv_at hl 3 rfl) ?_
    refine lv_icmp_gt (tgt := 63) hx hb dX5_bestDay_25 (by decide) (fun h0 => absurd h0 (fun h => absurd ((bd_end hq.2.1 hq.2.2 (a + i) (by omega)).mp h) (by omega))) (fun _ => ?_)
    refine lv_aload_n hx hb dX5_bestDay_28 rfl (lv_at hl 0 rfl) ?_
    refine ag_getX5 (v := .ref h) hx hb hG hown hK hP 0 0 rfl (by decide) k_176 rfl dX5_bestDay_29 ?_
    refine ag_getX1 (v := .ref h3) hx hb hG hown hK hP 19 10 rfl (by decide) k_55 rfl dX5_bestDay_32 ?_
    refine lv_iload hx hb dX5_bestDay_35 (lv_at hl 4 rfl) ?_
    refine ag_callSi (As := [.int (nI (a + i))]) (rest := [.ref h3]) hx hb hml hown hG hK hN hA hP hD hS hl (ct_X5_recordStart l D cI cC cL (nI (a + i))) fX5_recordStart k_412 ag_cut_0 rfl (Nat.le_of_ble_eq_true rfl) ⟨Nat.le_of_ble_eq_true rfl, Nat.le_of_ble_eq_true rfl⟩ ⟨Nat.zero_le _, Nat.zero_le _⟩ dX5_bestDay_37 (fun r w1 H locs hw hP hD hS => ?_)
    obtain ⟨rfl, hw⟩ := hw
    subst hw
    have hP : va_P D vwCl [oX x0 h o t1 x1 y1 z1, oH x1 x2 hf, aL cL x2 (gS s0 s1 s2 s3), oL s0 s01 s02 s03 (sf 0), aI cI s01 3 (sse 0), aI cI s02 7 (sto 0), aI cI s03 60 (sre 0), oL s1 s11 s12 s13 (sf 1), aI cI s11 3 (sse 1), aI cI s12 7 (sto 1), aI cI s13 60 (sre 1), oL s2 s21 s22 s23 (sf 2), aI cI s21 3 (sse 2), aI cI s22 7 (sto 2), aI cI s23 60 (sre 2), oL s3 s31 s32 s33 (sf 3), aI cI s31 3 (sse 3), aI cI s32 7 (sto 3), aI cI s33 60 (sre 3), oL h h1 h2 h3 f, aI cI h1 3 se, aI cI h2 7 to, aI cI h3 60 re, oP z1 pf, oT y1 y2 tf, aC cC y2 60 ch, oL o o1 o2 o3 of, aI cI o1 3 ose, aI cI o2 7 oto, aI cI o3 60 ore, oK t1 kf] H := hP
    have hD : va_D A [oX x0 h o t1 x1 y1 z1, oH x1 x2 hf, aL cL x2 (gS s0 s1 s2 s3), oL s0 s01 s02 s03 (sf 0), aI cI s01 3 (sse 0), aI cI s02 7 (sto 0), aI cI s03 60 (sre 0), oL s1 s11 s12 s13 (sf 1), aI cI s11 3 (sse 1), aI cI s12 7 (sto 1), aI cI s13 60 (sre 1), oL s2 s21 s22 s23 (sf 2), aI cI s21 3 (sse 2), aI cI s22 7 (sto 2), aI cI s23 60 (sre 2), oL s3 s31 s32 s33 (sf 3), aI cI s31 3 (sse 3), aI cI s32 7 (sto 3), aI cI s33 60 (sre 3), oL h h1 h2 h3 f, aI cI h1 3 se, aI cI h2 7 to, aI cI h3 60 re, oP z1 pf, oT y1 y2 tf, aC cC y2 60 ch, oL o o1 o2 o3 of, aI cI o1 3 ose, aI cI o2 7 oto, aI cI o3 60 ore, oK t1 kf] := hD
    refine lv_iconst (v := 0) hx hb dX5_bestDay_40 (by decide) ?_
    refine lv_iadd hx hb dX5_bestDay_41 ?_
    refine ag_ild (k := (rs (nI (a + i))) + 0) (v := re ((rs (nI (a + i))) + 0)) hx hb hK hP 22 rfl ((congrArg (· + (0 : Int32)) (rs_eq (nI (a + i)))).trans (nI_add _ 0)) (by have := rs_le (nI (a + i)); omega) (Nat.le_of_ble_eq_true rfl) rfl dX5_bestDay_42 ?_
    refine lv_istore (lv' := [(5, .int (re ((rs (nI (a + i))) + 0))), (0, .ref x0), (1, .int fo), (2, .int mo), (3, .int (sr_X1_lastDay f)), (4, .int (nI (a + i)))]) hx hb dX5_bestDay_43 hl (by decide) rfl (fun ls hl => ?_)
    refine lv_iload hx hb dX5_bestDay_45 (lv_at hl 0 rfl) ?_
    refine lv_iload_n hx hb dX5_bestDay_47 rfl (lv_at hl 3 rfl) ?_
    have J57 : ∀ (ls : Array Slot), lv_has ls 6 [(0, .ref x0), (1, .int (l57_1_X5_bestDay re a i fo mo)), (2, .int (l57_2_X5_bestDay re a i mo)), (3, .int (sr_X1_lastDay f)), (4, .int (nI (a + i))), (5, .int (re ((rs (nI (a + i))) + 0)))] → W p l e (ag_rm 3 62) s m ([.ref x0] : List Value).toArray below meth c H locs 0 0 (MQ below (va_Qi (po_X5_bestDay cI cC cL x0 h o t1 x1 y1 z1 x2 s0 s01 s02 s03 s1 s11 s12 s13 s2 s21 s22 s23 s3 s31 s32 s33 h1 h2 h3 y2 o1 o2 o3 hf f se to re pf tf ch of ose oto ore kf sf sse sto sre a N hq) (ag_Out D [oX x0 h o t1 x1 y1 z1, oH x1 x2 hf, aL cL x2 (gS s0 s1 s2 s3), oL s0 s01 s02 s03 (sf 0), aI cI s01 3 (sse 0), aI cI s02 7 (sto 0), aI cI s03 60 (sre 0), oL s1 s11 s12 s13 (sf 1), aI cI s11 3 (sse 1), aI cI s12 7 (sto 1), aI cI s13 60 (sre 1), oL s2 s21 s22 s23 (sf 2), aI cI s21 3 (sse 2), aI cI s22 7 (sto 2), aI cI s23 60 (sre 2), oL s3 s31 s32 s33 (sf 3), aI cI s31 3 (sse 3), aI cI s32 7 (sto 3), aI cI s33 60 (sre 3), oL h h1 h2 h3 f, aI cI h1 3 se, aI cI h2 7 to, aI cI h3 60 re, oP z1 pf, oT y1 y2 tf, aC cC y2 60 ch, oL o o1 o2 o3 of, aI cI o1 3 ose, aI cI o2 7 oto, aI cI o3 60 ore, oK t1 kf]) A) ([.ref x0] : List Value).toArray s 0 0 A) (F0 m 57 ls []) := by
      intro ls hl
      refine lv_iinc (v := nI ((a + i) + 1)) (lv' := [(4, .int (nI ((a + i) + 1))), (0, .ref x0), (1, .int (l57_1_X5_bestDay re a i fo mo)), (2, .int (l57_2_X5_bestDay re a i mo)), (3, .int (sr_X1_lastDay f)), (5, .int (re ((rs (nI (a + i))) + 0)))]) hx hb dX5_bestDay_57 hl (k := 4) rfl (nI_1 (a + i)) (by decide) rfl (fun ls hl => ?_)
      refine lv_goto (tgt := 22) hx hb dX5_bestDay_60 (by decide) ?_
      exact ih (i + 1) (l57_1_X5_bestDay re a i fo mo) (l57_2_X5_bestDay re a i mo) (by omega) hR H locs ls (lv_sub hl [1, 2, 3, 4, 0] rfl) hP hD hS
    refine lv_icmp_le (tgt := 57) hx hb dX5_bestDay_48 (by decide) (fun c_48 => ?_) (fun c_48 => ?_)
    · simp only [l57_1_X5_bestDay, l57_2_X5_bestDay, if_pos c_48] at J57
      exact J57 _ (lv_sub hl [1, 2, 3, 4, 5, 0] rfl)
    · refine lv_iload hx hb dX5_bestDay_51 (lv_at hl 5 rfl) ?_
      refine lv_istore_n (lv' := [(1, .int (nI (a + i))), (5, .int (re ((rs (nI (a + i))) + 0))), (0, .ref x0), (2, .int mo), (3, .int (sr_X1_lastDay f)), (4, .int (nI (a + i)))]) hx hb dX5_bestDay_53 rfl hl (by decide) rfl (fun ls hl => ?_)
      refine lv_iload hx hb dX5_bestDay_54 (lv_at hl 1 rfl) ?_
      refine lv_istore_n (lv' := [(2, .int (re ((rs (nI (a + i))) + 0))), (1, .int (nI (a + i))), (5, .int (re ((rs (nI (a + i))) + 0))), (0, .ref x0), (3, .int (sr_X1_lastDay f)), (4, .int (nI (a + i)))]) hx hb dX5_bestDay_56 rfl hl (by decide) rfl (fun ls hl => ?_)
      simp only [l57_1_X5_bestDay, l57_2_X5_bestDay, if_neg c_48] at J57
      exact J57 _ (lv_sub hl [3, 1, 0, 4, 5, 2] rfl)
end
section
/-! new objects and arrays; contracts of constructors -/
abbrev nX0 (q : Nat) : Nat × va_E := (q, .inr (0, [.null, .int 0, .int 0]))
abbrev nX1 (q : Nat) : Nat × va_E := (q, .inr (1, [.int 0, .int 0, .int 0, .int 0, .int 0, .int 0, .int 0, .int 0, .null, .null, .null]))
abbrev nX2 (q : Nat) : Nat × va_E := (q, .inr (2, [.int 0, .int 0, .int 0, .int 0]))
abbrev nX3 (q : Nat) : Nat × va_E := (q, .inr (3, [.null, .int 0, .int 0, .int 0, .int 0, .int 0]))
abbrev nX4 (q : Nat) : Nat × va_E := (q, .inr (4, [.int 0, .int 0, .int 0, .int 0, .int 0, .int 0, .int 0]))
abbrev nX5 (q : Nat) : Nat × va_E := (q, .inr (5, [.null, .null, .null, .null, .null, .null]))
section AGN
variable {p : Program} {l : Launch} {e : Env} {R : Room} {s : State} {m : MethodId} {args : Array Value} {below : List Frame} {meth : Method} {c : Code} {H : Heap} {locs : List Loc} {cells slots : Nat} {Q : State → Prop}
variable {cc : ByteArray} {pc : Nat} {ls : Array Slot} {rest : List Value} {D : va_G} {A : Nat → Prop} {a : Nat} {cI cC cL : ClassId} {w : va_W} {H0 : Heap}
theorem ag_newX0 (hx : p.tables.exec = Jvm.exec) (hb : c.code = cc) (hG : ∀ w ∈ gW, w.before args s = true) {own : String} {index : Nat} (hown : s.vm.findClass own = some m.cls) (hcl : Cond.classLink own index RX0 ∈ gW) (hin : Cond.instantiable RX0 3 ∈ gW) (hini : Cond.initialized RX0 ∈ gW) (hK : va_K D vwCl (ag_T cI cC cL) s) (hP : va_P D vwCl w H) (hD : va_D A w) (hS : va_S A H0 H locs) (hA : ∀ q, H0.size ≤ q → A q) (hc : cells + 1 ≤ R.cells) (hs : slots + 3 ≤ R.slots) (hdg : decode cc pc = .ok (.new index, 3))
    (kk : ∀ (q : Nat) (H1 : Heap), va_P D vwCl (w ++ [nX0 q]) H1 → va_D A (w ++ [nX0 q]) → va_S A H0 H1 locs → W p l e R s m args below meth c H1 locs (cells + 1) (slots + 3) Q (F0 m (pc + 3) ls (.ref q :: rest))) : W p l e R s m args below meth c H locs cells slots Q (F0 m pc ls rest) :=
  va_new (T := TX0) (N := 3) (ci := 0) hx hb hG inX0 tyX0 tyX0_ok hown (hG _ hcl) (hG _ hin) (hG _ hini) hK hP hD hS hA rfl (by decide +kernel) hc hs hdg kk
theorem ag_newX1 (hx : p.tables.exec = Jvm.exec) (hb : c.code = cc) (hG : ∀ w ∈ gW, w.before args s = true) {own : String} {index : Nat} (hown : s.vm.findClass own = some m.cls) (hcl : Cond.classLink own index RX1 ∈ gW) (hin : Cond.instantiable RX1 11 ∈ gW) (hini : Cond.initialized RX1 ∈ gW) (hK : va_K D vwCl (ag_T cI cC cL) s) (hP : va_P D vwCl w H) (hD : va_D A w) (hS : va_S A H0 H locs) (hA : ∀ q, H0.size ≤ q → A q) (hc : cells + 1 ≤ R.cells) (hs : slots + 11 ≤ R.slots) (hdg : decode cc pc = .ok (.new index, 3))
    (kk : ∀ (q : Nat) (H1 : Heap), va_P D vwCl (w ++ [nX1 q]) H1 → va_D A (w ++ [nX1 q]) → va_S A H0 H1 locs → W p l e R s m args below meth c H1 locs (cells + 1) (slots + 11) Q (F0 m (pc + 3) ls (.ref q :: rest))) : W p l e R s m args below meth c H locs cells slots Q (F0 m pc ls rest) :=
  va_new (T := TX1) (N := 11) (ci := 1) hx hb hG inX1 tyX1 tyX1_ok hown (hG _ hcl) (hG _ hin) (hG _ hini) hK hP hD hS hA rfl (by decide +kernel) hc hs hdg kk
theorem ag_newX2 (hx : p.tables.exec = Jvm.exec) (hb : c.code = cc) (hG : ∀ w ∈ gW, w.before args s = true) {own : String} {index : Nat} (hown : s.vm.findClass own = some m.cls) (hcl : Cond.classLink own index RX2 ∈ gW) (hin : Cond.instantiable RX2 4 ∈ gW) (hini : Cond.initialized RX2 ∈ gW) (hK : va_K D vwCl (ag_T cI cC cL) s) (hP : va_P D vwCl w H) (hD : va_D A w) (hS : va_S A H0 H locs) (hA : ∀ q, H0.size ≤ q → A q) (hc : cells + 1 ≤ R.cells) (hs : slots + 4 ≤ R.slots) (hdg : decode cc pc = .ok (.new index, 3))
    (kk : ∀ (q : Nat) (H1 : Heap), va_P D vwCl (w ++ [nX2 q]) H1 → va_D A (w ++ [nX2 q]) → va_S A H0 H1 locs → W p l e R s m args below meth c H1 locs (cells + 1) (slots + 4) Q (F0 m (pc + 3) ls (.ref q :: rest))) : W p l e R s m args below meth c H locs cells slots Q (F0 m pc ls rest) :=
  va_new (T := TX2) (N := 4) (ci := 2) hx hb hG inX2 tyX2 tyX2_ok hown (hG _ hcl) (hG _ hin) (hG _ hini) hK hP hD hS hA rfl (by decide +kernel) hc hs hdg kk
theorem ag_newX3 (hx : p.tables.exec = Jvm.exec) (hb : c.code = cc) (hG : ∀ w ∈ gW, w.before args s = true) {own : String} {index : Nat} (hown : s.vm.findClass own = some m.cls) (hcl : Cond.classLink own index RX3 ∈ gW) (hin : Cond.instantiable RX3 6 ∈ gW) (hini : Cond.initialized RX3 ∈ gW) (hK : va_K D vwCl (ag_T cI cC cL) s) (hP : va_P D vwCl w H) (hD : va_D A w) (hS : va_S A H0 H locs) (hA : ∀ q, H0.size ≤ q → A q) (hc : cells + 1 ≤ R.cells) (hs : slots + 6 ≤ R.slots) (hdg : decode cc pc = .ok (.new index, 3))
    (kk : ∀ (q : Nat) (H1 : Heap), va_P D vwCl (w ++ [nX3 q]) H1 → va_D A (w ++ [nX3 q]) → va_S A H0 H1 locs → W p l e R s m args below meth c H1 locs (cells + 1) (slots + 6) Q (F0 m (pc + 3) ls (.ref q :: rest))) : W p l e R s m args below meth c H locs cells slots Q (F0 m pc ls rest) :=
  va_new (T := TX3) (N := 6) (ci := 3) hx hb hG inX3 tyX3 tyX3_ok hown (hG _ hcl) (hG _ hin) (hG _ hini) hK hP hD hS hA rfl (by decide +kernel) hc hs hdg kk
theorem ag_newX4 (hx : p.tables.exec = Jvm.exec) (hb : c.code = cc) (hG : ∀ w ∈ gW, w.before args s = true) {own : String} {index : Nat} (hown : s.vm.findClass own = some m.cls) (hcl : Cond.classLink own index RX4 ∈ gW) (hin : Cond.instantiable RX4 7 ∈ gW) (hini : Cond.initialized RX4 ∈ gW) (hK : va_K D vwCl (ag_T cI cC cL) s) (hP : va_P D vwCl w H) (hD : va_D A w) (hS : va_S A H0 H locs) (hA : ∀ q, H0.size ≤ q → A q) (hc : cells + 1 ≤ R.cells) (hs : slots + 7 ≤ R.slots) (hdg : decode cc pc = .ok (.new index, 3))
    (kk : ∀ (q : Nat) (H1 : Heap), va_P D vwCl (w ++ [nX4 q]) H1 → va_D A (w ++ [nX4 q]) → va_S A H0 H1 locs → W p l e R s m args below meth c H1 locs (cells + 1) (slots + 7) Q (F0 m (pc + 3) ls (.ref q :: rest))) : W p l e R s m args below meth c H locs cells slots Q (F0 m pc ls rest) :=
  va_new (T := TX4) (N := 7) (ci := 4) hx hb hG inX4 tyX4 tyX4_ok hown (hG _ hcl) (hG _ hin) (hG _ hini) hK hP hD hS hA rfl (by decide +kernel) hc hs hdg kk
theorem ag_newX5 (hx : p.tables.exec = Jvm.exec) (hb : c.code = cc) (hG : ∀ w ∈ gW, w.before args s = true) {own : String} {index : Nat} (hown : s.vm.findClass own = some m.cls) (hcl : Cond.classLink own index RX5 ∈ gW) (hin : Cond.instantiable RX5 6 ∈ gW) (hini : Cond.initialized RX5 ∈ gW) (hK : va_K D vwCl (ag_T cI cC cL) s) (hP : va_P D vwCl w H) (hD : va_D A w) (hS : va_S A H0 H locs) (hA : ∀ q, H0.size ≤ q → A q) (hc : cells + 1 ≤ R.cells) (hs : slots + 6 ≤ R.slots) (hdg : decode cc pc = .ok (.new index, 3))
    (kk : ∀ (q : Nat) (H1 : Heap), va_P D vwCl (w ++ [nX5 q]) H1 → va_D A (w ++ [nX5 q]) → va_S A H0 H1 locs → W p l e R s m args below meth c H1 locs (cells + 1) (slots + 6) Q (F0 m (pc + 3) ls (.ref q :: rest))) : W p l e R s m args below meth c H locs cells slots Q (F0 m pc ls rest) :=
  va_new (T := TX5) (N := 6) (ci := 5) hx hb hG inX5 tyX5 tyX5_ok hown (hG _ hcl) (hG _ hin) (hG _ hini) hK hP hD hS hA rfl (by decide +kernel) hc hs hdg kk
theorem ag_finX0 (hx : p.tables.exec = Jvm.exec) (hb : c.code = cc) (hG : ∀ w ∈ gW, w.before args s = true) {index : Nat} {fs : List Value} {v : Value} (hown : s.vm.findClass RX0 = some m.cls) (hmn : meth.name = "<init>") (hK : va_K D vwCl (ag_T cI cC cL) s) (hP : va_P D vwCl w H) (hD : va_D A w) (hS : va_S A H0 H locs) (q0 k : Nat) (he : w[q0]? = some (a, .inr (0, fs))) (hk : k < 3) (hlk : Cond.fieldLink RX0 index RX0 (TX0 k).2.1 (TX0 k).2.2.1 ∈ gW) (hfin : (TX0 k).2.2.2 = true) (hn : narrow (tyX0 k) v = v) (hfit : fits (tyX0 k) v = true) (hl : k < fs.length) (hdg : decode cc pc = .ok (.putfield index, 3))
    (kk : ∀ (H1 : Heap) (locs1 : List Loc), va_P D vwCl (w.set q0 (a, .inr (0, fs.set k v))) H1 → va_D A (w.set q0 (a, .inr (0, fs.set k v))) → va_S A H0 H1 locs1 → W p l e R s m args below meth c H1 locs1 cells slots Q (F0 m (pc + 3) ls rest)) : W p l e R s m args below meth c H locs cells slots Q (F0 m pc ls (v :: .ref a :: rest)) :=
  va_putF (T := TX0) (N := 3) hx hb hG inX0 tyX0 tyX0_ok nmX0 hown hK hP hD hS q0 he rfl k hk (hG _ hlk) (fun x h => (ownX0 k hk) ▸ h) hfin hmn (ownX0 k hk) (tyX0_ok k hk) hn hfit hl hdg kk
theorem ag_finX1 (hx : p.tables.exec = Jvm.exec) (hb : c.code = cc) (hG : ∀ w ∈ gW, w.before args s = true) {index : Nat} {fs : List Value} {v : Value} (hown : s.vm.findClass RX1 = some m.cls) (hmn : meth.name = "<init>") (hK : va_K D vwCl (ag_T cI cC cL) s) (hP : va_P D vwCl w H) (hD : va_D A w) (hS : va_S A H0 H locs) (q0 k : Nat) (he : w[q0]? = some (a, .inr (1, fs))) (hk : k < 11) (hlk : Cond.fieldLink RX1 index RX1 (TX1 k).2.1 (TX1 k).2.2.1 ∈ gW) (hfin : (TX1 k).2.2.2 = true) (hn : narrow (tyX1 k) v = v) (hfit : fits (tyX1 k) v = true) (hl : k < fs.length) (hdg : decode cc pc = .ok (.putfield index, 3))
    (kk : ∀ (H1 : Heap) (locs1 : List Loc), va_P D vwCl (w.set q0 (a, .inr (1, fs.set k v))) H1 → va_D A (w.set q0 (a, .inr (1, fs.set k v))) → va_S A H0 H1 locs1 → W p l e R s m args below meth c H1 locs1 cells slots Q (F0 m (pc + 3) ls rest)) : W p l e R s m args below meth c H locs cells slots Q (F0 m pc ls (v :: .ref a :: rest)) :=
  va_putF (T := TX1) (N := 11) hx hb hG inX1 tyX1 tyX1_ok nmX1 hown hK hP hD hS q0 he rfl k hk (hG _ hlk) (fun x h => (ownX1 k hk) ▸ h) hfin hmn (ownX1 k hk) (tyX1_ok k hk) hn hfit hl hdg kk
theorem ag_finX3 (hx : p.tables.exec = Jvm.exec) (hb : c.code = cc) (hG : ∀ w ∈ gW, w.before args s = true) {index : Nat} {fs : List Value} {v : Value} (hown : s.vm.findClass RX3 = some m.cls) (hmn : meth.name = "<init>") (hK : va_K D vwCl (ag_T cI cC cL) s) (hP : va_P D vwCl w H) (hD : va_D A w) (hS : va_S A H0 H locs) (q0 k : Nat) (he : w[q0]? = some (a, .inr (3, fs))) (hk : k < 6) (hlk : Cond.fieldLink RX3 index RX3 (TX3 k).2.1 (TX3 k).2.2.1 ∈ gW) (hfin : (TX3 k).2.2.2 = true) (hn : narrow (tyX3 k) v = v) (hfit : fits (tyX3 k) v = true) (hl : k < fs.length) (hdg : decode cc pc = .ok (.putfield index, 3))
    (kk : ∀ (H1 : Heap) (locs1 : List Loc), va_P D vwCl (w.set q0 (a, .inr (3, fs.set k v))) H1 → va_D A (w.set q0 (a, .inr (3, fs.set k v))) → va_S A H0 H1 locs1 → W p l e R s m args below meth c H1 locs1 cells slots Q (F0 m (pc + 3) ls rest)) : W p l e R s m args below meth c H locs cells slots Q (F0 m pc ls (v :: .ref a :: rest)) :=
  va_putF (T := TX3) (N := 6) hx hb hG inX3 tyX3 tyX3_ok nmX3 hown hK hP hD hS q0 he rfl k hk (hG _ hlk) (fun x h => (ownX3 k hk) ▸ h) hfin hmn (ownX3 k hk) (tyX3_ok k hk) hn hfit hl hdg kk
theorem ag_finX5 (hx : p.tables.exec = Jvm.exec) (hb : c.code = cc) (hG : ∀ w ∈ gW, w.before args s = true) {index : Nat} {fs : List Value} {v : Value} (hown : s.vm.findClass RX5 = some m.cls) (hmn : meth.name = "<init>") (hK : va_K D vwCl (ag_T cI cC cL) s) (hP : va_P D vwCl w H) (hD : va_D A w) (hS : va_S A H0 H locs) (q0 k : Nat) (he : w[q0]? = some (a, .inr (5, fs))) (hk : k < 6) (hlk : Cond.fieldLink RX5 index RX5 (TX5 k).2.1 (TX5 k).2.2.1 ∈ gW) (hfin : (TX5 k).2.2.2 = true) (hn : narrow (tyX5 k) v = v) (hfit : fits (tyX5 k) v = true) (hl : k < fs.length) (hdg : decode cc pc = .ok (.putfield index, 3))
    (kk : ∀ (H1 : Heap) (locs1 : List Loc), va_P D vwCl (w.set q0 (a, .inr (5, fs.set k v))) H1 → va_D A (w.set q0 (a, .inr (5, fs.set k v))) → va_S A H0 H1 locs1 → W p l e R s m args below meth c H1 locs1 cells slots Q (F0 m (pc + 3) ls rest)) : W p l e R s m args below meth c H locs cells slots Q (F0 m pc ls (v :: .ref a :: rest)) :=
  va_putF (T := TX5) (N := 6) hx hb hG inX5 tyX5 tyX5_ok nmX5 hown hK hP hD hS q0 he rfl k hk (hG _ hlk) (fun x h => (ownX5 k hk) ▸ h) hfin hmn (ownX5 k hk) (tyX5_ok k hk) hn hfit hl hdg kk
theorem ag_newaI (hx : p.tables.exec = Jvm.exec) (hb : c.code = cc) (hG : ∀ w ∈ gW, w.before args s = true) (hK : va_K D vwCl (ag_T cI cC cL) s) (hP : va_P D vwCl w H) (hD : va_D A w) (hS : va_S A H0 H locs) (hA : ∀ q, H0.size ≤ q → A q) {n : Int32} {N : Nat} (hn : n = nI N) (hN : N < 1000) (hc : cells + 1 ≤ R.cells) (hs : slots + N ≤ R.slots) (hdg : decode cc pc = .ok (.newarray .int, 2))
    (kk : ∀ (q : Nat) (H1 : Heap), va_P D vwCl (w ++ [aI cI q N (fun _ => 0)]) H1 → va_D A (w ++ [aI cI q N (fun _ => 0)]) → va_S A H0 H1 locs → W p l e R s m args below meth c H1 locs (cells + 1) (slots + N) Q (F0 m (pc + 2) ls (.ref q :: rest))) : W p l e R s m args below meth c H locs cells slots Q (F0 m pc ls (.int n :: rest)) := by
  subst hn
  have h9 : N * componentBytes .int ≤ 536870912 := Nat.le_trans (Nat.mul_le_mul_left N (by decide : componentBytes .int ≤ 8)) (by omega)
  refine va_newa (atype := .int) (ty := .int) (n := nI N) (N' := N) (a0 := (N, .inl (fun _ => 0))) hx hb (hG _ k_79) rfl hK hP hD hS hA (fun cA => rfl) (nI_pos (by omega)) (nI_clamp (by omega)) h9 hc hs hdg (fun q cA H1 hK1 hP1 hD1 hS1 => ?_)
  have e : cA = cI := by
    have h1 := (hK1.2 3 _ rfl).2
    have h2 := (hK1.2 0 _ rfl).2
    exact Option.some.inj (h1.symm.trans h2)
  subst e
  exact kk q H1 hP1 hD1 hS1
theorem ag_newaC (hx : p.tables.exec = Jvm.exec) (hb : c.code = cc) (hG : ∀ w ∈ gW, w.before args s = true) (hK : va_K D vwCl (ag_T cI cC cL) s) (hP : va_P D vwCl w H) (hD : va_D A w) (hS : va_S A H0 H locs) (hA : ∀ q, H0.size ≤ q → A q) {n : Int32} {N : Nat} (hn : n = nI N) (hN : N < 1000) (hc : cells + 1 ≤ R.cells) (hs : slots + N ≤ R.slots) (hdg : decode cc pc = .ok (.newarray .char, 2))
    (kk : ∀ (q : Nat) (H1 : Heap), va_P D vwCl (w ++ [aC cC q N (fun _ => 0)]) H1 → va_D A (w ++ [aC cC q N (fun _ => 0)]) → va_S A H0 H1 locs → W p l e R s m args below meth c H1 locs (cells + 1) (slots + N) Q (F0 m (pc + 2) ls (.ref q :: rest))) : W p l e R s m args below meth c H locs cells slots Q (F0 m pc ls (.int n :: rest)) := by
  subst hn
  have h9 : N * componentBytes .char ≤ 536870912 := Nat.le_trans (Nat.mul_le_mul_left N (by decide : componentBytes .char ≤ 8)) (by omega)
  refine va_newa (atype := .char) (ty := .char) (n := nI N) (N' := N) (a0 := (N, .inl (fun _ => 0))) hx hb (hG _ k_160) rfl hK hP hD hS hA (fun cA => rfl) (nI_pos (by omega)) (nI_clamp (by omega)) h9 hc hs hdg (fun q cA H1 hK1 hP1 hD1 hS1 => ?_)
  have e : cA = cC := by
    have h1 := (hK1.2 3 _ rfl).2
    have h2 := (hK1.2 1 _ rfl).2
    exact Option.some.inj (h1.symm.trans h2)
  subst e
  exact kk q H1 hP1 hD1 hS1
theorem ag_newL (hx : p.tables.exec = Jvm.exec) (hb : c.code = cc) (hG : ∀ w ∈ gW, w.before args s = true) {own : String} {index : Nat} (hown : s.vm.findClass own = some m.cls) (hcl : Cond.classLink own index RX1 ∈ gW) (hover : va_AO RX1 s) (hK : va_K D vwCl (ag_T cI cC cL) s) (hP : va_P D vwCl w H) (hD : va_D A w) (hS : va_S A H0 H locs) (hA : ∀ q, H0.size ≤ q → A q) (hc : cells + 1 ≤ R.cells) (hs : slots + 4 ≤ R.slots) (hdg : decode cc pc = .ok (.anewarray index, 3))
    (kk : ∀ (q : Nat) (H1 : Heap), va_P D vwCl (w ++ [aL cL q (fun _ => none)]) H1 → va_D A (w ++ [aL cL q (fun _ => none)]) → va_S A H0 H1 locs → W p l e R s m args below meth c H1 locs (cells + 1) (slots + 4) Q (F0 m (pc + 3) ls (.ref q :: rest))) : W p l e R s m args below meth c H locs cells slots Q (F0 m pc ls (.int 4 :: rest)) := by
  refine va_newq hx hb hown (hG _ hcl) hover hK hP hD hS hA (by decide) rfl (by decide) hc hs hdg (fun q cA H1 hK1 hP1 hD1 hS1 => ?_)
  have e : cA = cL := by
    obtain ⟨_, _, _, _, _, h1⟩ := (hK1.2 3 _ rfl).2
    obtain ⟨_, _, _, _, _, h2⟩ := (hK1.2 2 _ rfl).2
    exact Option.some.inj (h1.symm.trans h2)
  subst e
  exact kk q H1 hP1 hD1 hS1
end AGN
end
section
/-! contracts of constructors: one cell in, more out -/
def ag_MC (l : Launch) (y : MethodName) (code : ByteArray) (maxL : Nat) (fr lo mc ms : Nat) (D : va_G) (cI cC cL : ClassId) (av : List Value) (w : va_W) (post : va_W → Prop) : Prop :=
  ∀ sz : Nat, Met l y (.code y code maxL none :: gW) { frames := fr, cells := mc, slots := ms, locals := lo } (va_Pc av (fun U => ag_In D cI cC cL w sz U ∧ va_AO RX1 U)) (va_Qv post (fun w' t => va_P D vwCl w' t.heap ∧ va_D (va_A w sz) w') (va_A w sz)) mc ms (va_A w sz)
theorem ag_MC.of {l : Launch} {y : MethodName} {cc : ByteArray} {maxL : Nat} {fr lo mc ms : Nat} {D : va_G} {cI cC cL : ClassId} {av : List Value} {w : va_W} {post : va_W → Prop} (hy : plainFor y = true) (hav : (lg_sl av).length ≤ maxL)
    (h : ∀ (p : Program) (e : Env) (s : State) (m : MethodId) (below : List Frame) (meth : Method) (c : Code), p.tables.exec = Jvm.exec → c.code = cc → meth.sig.returnType = none → meth.locks = false → c.maxLocals = maxL → s.vm.findClass y.cls = some m.cls → meth.name = y.name →
      (∀ w ∈ gW, w.before av.toArray s = true) → va_K D vwCl (ag_T cI cC cL) s → va_AO RX1 s →
      ∀ A : Nat → Prop, ag_NZ A s → (∀ q, s.heap.size ≤ q → A q) → ∀ (H : Heap) (locs : List Loc), va_P D vwCl w H → va_D A w → va_S A s.heap H locs →
      ∀ ls : Array Slot, lv_has ls maxL (lv_args 0 av) → W p l e { frames := fr, cells := mc, slots := ms, locals := lo } s m av.toArray below meth c H locs 0 0 (MQ below (va_Qv post (fun w' t => va_P D vwCl w' t.heap ∧ va_D A w') A) av.toArray s mc ms A) (F0 m 0 ls [])) : ag_MC l y cc maxL fr lo mc ms D cI cC cL av w post := by
  intro sz
  refine ag_ofW (cc := cc) (maxL := maxL) (ret := none) hy rfl ?_
  intro p e s m args below meth c s₁ B hml hv
  obtain ⟨rfl, ⟨hsz, hP, hK, hD0, hN, hZ⟩, hO⟩ := hv
  have hts := atoms_spec (ws := .code y cc maxL none :: gW) B.pre
  subst hsz
  have hl := lv_entry av (n := maxL) hav
  rw [lg_entry_eq]
  exact h p e s m below meth c B.exec B.bytes B.returns B.notSynchronized hml (findClass_of_methodNamed B.named) (name_of_methodNamed B.named B.method).1 (fun w hw => hts w (List.mem_cons_of_mem _ hw)) hK hO _ ⟨hN, hZ⟩ (fun q hq => Or.inr hq) _ _ hP hD0.self va_S.rf _ hl
section AGC
variable {p : Program} {l : Launch} {e : Env} {R : Room} {s : State} {m : MethodId} {args : Array Value} {below : List Frame} {meth : Method} {c : Code} {H : Heap} {locs : List Loc} {cells slots : Nat} {Q : State → Prop}
variable {cc : ByteArray} {pc : Nat} {ls : Array Slot} {rest : List Value} {D : va_G} {A : Nat → Prop} {a : Nat} {cI cC cL : ClassId} {w : va_W} {H0 : Heap}
theorem ag_cjoin {pre : va_W} {q0 : Nat × va_E} {w1 : va_W} {H1 : Heap} (hA : ∀ q, H.size ≤ q → A q) (hP : va_P D vwCl (pre ++ [q0]) H) (hD : va_D A (pre ++ [q0])) (hk : ∀ q : Nat, q < H.size → ¬ va_A [q0] H.size q → H1[q]? = H[q]?) (hP1 : va_P D vwCl w1 H1) (hD1 : va_D (va_A [q0] H.size) w1) :
    va_P D vwCl (pre ++ w1) H1 ∧ va_D A (pre ++ w1) := by
  have hpre : ∀ (k : Nat) (z : Nat × va_E), pre[k]? = some z → (pre ++ [q0])[k]? = some z := fun k z hz => by
    rw [List.getElem?_append_left (List.getElem?_eq_some_iff.mp hz).1]; exact hz
  have hlast : (pre ++ [q0])[pre.length]? = some q0 := by rw [List.getElem?_append_right (Nat.le_refl _), Nat.sub_self]; rfl
  have hne : ∀ (k : Nat) (z : Nat × va_E), pre[k]? = some z → ¬ va_A [q0] H.size z.1 := by
    rintro k z hz (⟨j, e0, hj⟩ | hj)
    · have hj0 : j = 0 := by
        have := (List.getElem?_eq_some_iff.mp hj).1
        simp at this; omega
      subst hj0
      have hq : q0 = (z.1, e0) := Option.some.inj hj
      have hh := hD.1 k pre.length z q0 (hpre k z hz) hlast (by rw [hq])
      have := (List.getElem?_eq_some_iff.mp hz).1
      omega
    · have := (hP k z (hpre k z hz)).lt
      omega
  have hP0 : va_P D vwCl pre H := fun k z hz => hP k z (hpre k z hz)
  have hD0 : va_D A pre := ⟨fun i j x y hx hy hxy => hD.1 i j x y (hpre i x hx) (hpre j y hy) hxy, fun k z hz => hD.2 k z (hpre k z hz)⟩
  have hw1 : ∀ q, va_A [q0] H.size q → A q := by
    rintro q (⟨j, e0, hj⟩ | hj)
    · have hj0 : j = 0 := by
        have := (List.getElem?_eq_some_iff.mp hj).1
        simp at this; omega
      subst hj0
      have hq : q0 = (q, e0) := Option.some.inj hj
      have := hD.2 _ _ hlast
      rw [hq] at this
      exact this
    · exact hA q hj
  refine ⟨(hP0.kept (fun k z hz => hk z.1 (hP0 k z hz).lt (hne k z hz))).app hP1, hD0.app (hD1.weaken (fun _ q _ h => hw1 _ h)) (fun i j x y hx hy hxy => ?_)⟩
  exact hne i x hx (by rw [hxy]; exact hD1.2 j y hy)
theorem ag_callNC {own host : String} {index maxL fr lo mc ms nL : Nat} {y : MethodName} {code : ByteArray} {post : va_W → Prop} {pre : va_W} {b : Nat} {en : va_E} {lv : List (Nat × Value)}
    (hx : p.tables.exec = Jvm.exec) (hb : c.code = cc) (hml : c.maxLocals = nL) (hown : s.vm.findClass own = some m.cls) (hG : ∀ w ∈ gW, w.before args s = true) (hK : va_K D vwCl (ag_T cI cC cL) s) (hO : va_AO RX1 s) (hN : ag_NZ A s) (hA : ∀ q, s.heap.size ≤ q → A q) (hP : va_P D vwCl (pre ++ [(b, en)]) H) (hD : va_D A (pre ++ [(b, en)])) (hS : va_S A s.heap H locs) (hl : lv_has ls nL lv)
    (hM : ag_MC l y code maxL fr lo mc ms D cI cC cL [.ref b] [(b, en)] post) (f1 : Cond.code y code maxL none ∈ gW) (f2 : Cond.instanceMethod y ∈ gW) (f4 : Cond.initialized y.cls ∈ gW) (f5 : y.cls ≠ "java/lang/invoke/MethodHandle" ∧ y.cls ≠ "java/lang/invoke/VarHandle" ∧ (parseMethodDescriptor y.desc).map (fun d => d.parameters.length) = some 0) (f6 : y.name = "<init>") (hlk : va_Nw (.methodLinkNest own index y host) s)
    (hcat : (rest.map fun v => v.category).sum ≤ 8) (hR : fr + 1 ≤ R.frames ∧ 8 + (maxL + 11) + lo ≤ R.locals) (hz : cells + mc ≤ R.cells ∧ slots + ms ≤ R.slots)
    (hdg : decode cc pc = .ok (.invokespecial index, 3))
    (kk : ∀ (w1 : va_W) (H1 : Heap) (locs1 : List Loc), post w1 → va_P D vwCl (pre ++ w1) H1 → va_D A (pre ++ w1) → va_S A s.heap H1 locs1 → W p l e R s m args below meth c H1 locs1 (cells + mc) (slots + ms) Q (F0 m (pc + 3) ls rest)) :
    W p l e R s m args below meth c H locs cells slots Q (F0 m pc ls (.ref b :: rest)) := by
  have hlast : (pre ++ [(b, en)])[pre.length]? = some (b, en) := by rw [List.getElem?_append_right (Nat.le_refl _), Nat.sub_self]; rfl
  have hPc : va_P D vwCl [(b, en)] H := fun k z hz => by
    have h0 : k = 0 := by
      have := (List.getElem?_eq_some_iff.mp hz).1
      simp at this; omega
    subst h0
    cases hz
    exact hP _ _ hlast
  have hDc : va_D A [(b, en)] := ⟨fun i j x y hx hy _ => by
      have h1 := (List.getElem?_eq_some_iff.mp hx).1
      have h2 := (List.getElem?_eq_some_iff.mp hy).1
      simp at h1 h2; omega, fun k z hz => by
    have h0 : k = 0 := by
      have := (List.getElem?_eq_some_iff.mp hz).1
      simp at this; omega
    subst h0
    cases hz
    exact hD.2 _ _ hlast⟩
  have hFc : ∀ q, va_A [(b, en)] H.size q → A q := by
    rintro q (⟨k, e, h⟩ | h)
    · exact hDc.2 k _ h
    · exact hA q (Nat.le_trans hS.1 h)
  have hp := ag_preS (av := [.ref b]) hK hN hS hFc hPc hDc
  refine va_callv (va_runIN (As := []) (rest := rest) ⟨hx, hb, hml, hown, hG⟩ (hM H.size) ⟨va_cnB 0 hG (gW_good f1) rfl rfl rfl hlk (hG _ f4) f5 hR, f6, hG _ f2⟩ ⟨?_, ?_⟩ rfl rfl hl.1 rfl (lv_room hcat) hdg hz) hS (fun q _ h => hFc q h) hFc (fun u t H1 locs1 ht hvm hw hB hz1 hk1 hS1 => ?_)
  · exact fun a U g mk q => ⟨(ag_In_blind a U g mk ⟨q.1, q.2.1⟩).1, (ag_In_blind a U g mk ⟨q.1, q.2.1⟩).2, va_AO.moved (u := U) (U := U.calling g mk a) (Vm.Alike.refl U.vm) q.2.2⟩
  · exact fun U hU hW => ⟨(hp.2 U hU hW).1, (hp.2 U hU hW).2, hO.moved hW.alike⟩
  · obtain ⟨hP1, hD1⟩ := hB
    rw [ht] at hP1
    obtain ⟨g1, g2⟩ := ag_cjoin (fun q h => hA q (Nat.le_trans hS.1 h)) hP hD hk1 hP1 hD1
    exact kk u H1 locs1 hw g1 g2 hS1
theorem ag_cret {mc ms : Nat} {w' : va_W} {post : va_W → Prop} (hx : p.tables.exec = Jvm.exec) (hb : c.code = cc) (hr : meth.sig.returnType = none) (hlocks : meth.locks = false) (hP : va_P D vwCl w' H) (hD : va_D A w') (hS : va_S A s.heap H locs) (hpost : post w') (hdg : decode cc pc = .ok (.return_, 1)) :
    W p l e R s m args below meth c H locs mc ms (MQ below (va_Qv post (fun w' t => va_P D vwCl w' t.heap ∧ va_D A w') A) args s mc ms A) (F0 m pc ls []) :=
  W.vret hx hb hr (fun t ht hW => ⟨⟨w', rfl, hpost, by rw [ht]; exact hP, hD⟩, hS.F ht⟩) hS.2.2 hdg hlocks
end AGC
end
section
/-! the walks of constructors -/
theorem ag_arrL {D : va_G} {cl : List vw_C} {w : va_W} {H : Heap} (hP : va_P D cl w H) (k : Nat) {a n : Nat} {cA : ClassId} {f : Nat → Option Nat} (g : Nat → Option Nat) (hk : w[k]? = some (a, .inl (cA, n, .inr (.inr (.inr (.inr f)))))) (h : ∀ j, j < n → f j = g j) : va_P D cl (w.set k (a, .inl (cA, n, .inr (.inr (.inr (.inr g)))))) H := by
  intro i q hq
  by_cases hi : i = k
  · subst hi
    have hl : i < w.length := (List.getElem?_eq_some_iff.mp hk).1
    rw [List.getElem?_set_self hl] at hq
    cases hq
    have h0 := hP i _ hk
    show H[a]? = some (vp_cell cA (n, .inr (.inr (.inr (.inr g)))))
    have e : vp_cell cA (n, .inr (.inr (.inr (.inr g)))) = vp_cell cA (n, .inr (.inr (.inr (.inr f)))) := by
      show arrV cA n (fun j => va_rf (g j)) = arrV cA n (fun j => va_rf (f j))
      exact arrV_congr (fun j hj => by rw [h j hj])
    rw [e]
    exact h0
  · rw [List.getElem?_set_ne (Ne.symm hi)] at hq
    exact hP i q hq
abbrev po_X1_init (cI cC cL : ClassId) (x : Nat) : va_W → Prop := fun w' => ∃ q12 q36 q44 : Nat, [(x, .inr (1, [.int 0, .int 40000, .int 0, .int 0, .int 0, .int 0, .int 0, .int 0, .ref q12, .ref q36, .ref q44])), aI cI q12 3 (upd (upd (upd (fun _ => 0) 0 120) 1 40) 2 1500), aI cI q36 7 (fun _ => 0), aI cI q44 60 (fun _ => 0)] = w'
set_option maxHeartbeats 4000000 in
set_option maxRecDepth 100000 in
theorem ct_X1_init (l : Launch) (D : va_G) (cI cC cL : ClassId) (x : Nat) : ag_MC l yX1_init cX1_init 1 1 13 3 70 D cI cC cL [.ref x] [nX1 x] (po_X1_init cI cC cL x) := by
  refine ag_MC.of (plainFor_of_name (by decide)) (Nat.le_of_ble_eq_true rfl) ?_
  intro p e s m below meth c hx hb hr hlocks hml hown hmn hG hK hO A hN hA H locs hP hD hS ls hl
  have hl : lv_has ls 1 [(0, .ref x)] := hl
  refine lv_aload_n hx hb dX1_init_0 rfl (lv_at hl 0 rfl) ?_
  refine W.objInit hx hb hown (hG _ k_28) (hG _ k_21) (hG _ k_22) rfl (hl.1.trans hml.symm) rfl dX1_init_1 (Nat.le_of_ble_eq_true rfl) (Nat.le_of_ble_eq_true rfl) ?_
  refine W.eq (g2 := F0 m 4 ls []) rfl ?_
  refine lv_aload_n hx hb dX1_init_4 rfl (lv_at hl 0 rfl) ?_
  refine lv_ldc (v := 40000) hx hb hown (hG _ k_29) dX1_init_5 ?_
  refine ag_putX1 hx hb hG hown hK hP hD hS 0 1 rfl (by decide) k_32 (by decide) rfl rfl (Nat.le_of_ble_eq_true rfl) dX1_init_7 (fun H locs hP hD hS => ?_)
  have hP : va_P D vwCl [(x, .inr (1, [.int 0, .int 40000, .int 0, .int 0, .int 0, .int 0, .int 0, .int 0, .null, .null, .null]))] H := hP
  have hD : va_D A [(x, .inr (1, [.int 0, .int 40000, .int 0, .int 0, .int 0, .int 0, .int 0, .int 0, .null, .null, .null]))] := hD
  refine lv_aload_n hx hb dX1_init_10 rfl (lv_at hl 0 rfl) ?_
  refine lv_iconst (v := 3) hx hb dX1_init_11 (by decide) ?_
  refine ag_newaI (N := 3) hx hb hG hK hP hD hS hA rfl (by decide) (Nat.le_of_ble_eq_true rfl) (Nat.le_of_ble_eq_true rfl) dX1_init_12 (fun q12 H hP hD hS => ?_)
  have hP : va_P D vwCl [(x, .inr (1, [.int 0, .int 40000, .int 0, .int 0, .int 0, .int 0, .int 0, .int 0, .null, .null, .null])), aI cI q12 3 (fun _ => 0)] H := hP
  have hD : va_D A [(x, .inr (1, [.int 0, .int 40000, .int 0, .int 0, .int 0, .int 0, .int 0, .int 0, .null, .null, .null])), aI cI q12 3 (fun _ => 0)] := hD
  refine lv_dup hx hb dX1_init_14 rfl ?_
  refine lv_iconst (v := 0) hx hb dX1_init_15 (by decide) ?_
  refine lv_bipush (v := 120) hx hb dX1_init_16 (by decide) ?_
  refine ag_ist (k := 0) hx hb hK hP hD hS 1 rfl rfl (Nat.le_of_ble_eq_true rfl) (Nat.le_of_ble_eq_true rfl) dX1_init_18 (fun H locs hP hD hS => ?_)
  have hP : va_P D vwCl [(x, .inr (1, [.int 0, .int 40000, .int 0, .int 0, .int 0, .int 0, .int 0, .int 0, .null, .null, .null])), aI cI q12 3 (upd (fun _ => 0) 0 120)] H := hP
  have hD : va_D A [(x, .inr (1, [.int 0, .int 40000, .int 0, .int 0, .int 0, .int 0, .int 0, .int 0, .null, .null, .null])), aI cI q12 3 (upd (fun _ => 0) 0 120)] := hD
  refine lv_dup hx hb dX1_init_19 rfl ?_
  refine lv_iconst (v := 1) hx hb dX1_init_20 (by decide) ?_
  refine lv_bipush (v := 40) hx hb dX1_init_21 (by decide) ?_
  refine ag_ist (k := 1) hx hb hK hP hD hS 1 rfl rfl (Nat.le_of_ble_eq_true rfl) (Nat.le_of_ble_eq_true rfl) dX1_init_23 (fun H locs hP hD hS => ?_)
  have hP : va_P D vwCl [(x, .inr (1, [.int 0, .int 40000, .int 0, .int 0, .int 0, .int 0, .int 0, .int 0, .null, .null, .null])), aI cI q12 3 (upd (upd (fun _ => 0) 0 120) 1 40)] H := hP
  have hD : va_D A [(x, .inr (1, [.int 0, .int 40000, .int 0, .int 0, .int 0, .int 0, .int 0, .int 0, .null, .null, .null])), aI cI q12 3 (upd (upd (fun _ => 0) 0 120) 1 40)] := hD
  refine lv_dup hx hb dX1_init_24 rfl ?_
  refine lv_iconst (v := 2) hx hb dX1_init_25 (by decide) ?_
  refine lv_sipush (v := 1500) hx hb dX1_init_26 (by decide) ?_
  refine ag_ist (k := 2) hx hb hK hP hD hS 1 rfl rfl (Nat.le_of_ble_eq_true rfl) (Nat.le_of_ble_eq_true rfl) dX1_init_29 (fun H locs hP hD hS => ?_)
  have hP : va_P D vwCl [(x, .inr (1, [.int 0, .int 40000, .int 0, .int 0, .int 0, .int 0, .int 0, .int 0, .null, .null, .null])), aI cI q12 3 (upd (upd (upd (fun _ => 0) 0 120) 1 40) 2 1500)] H := hP
  have hD : va_D A [(x, .inr (1, [.int 0, .int 40000, .int 0, .int 0, .int 0, .int 0, .int 0, .int 0, .null, .null, .null])), aI cI q12 3 (upd (upd (upd (fun _ => 0) 0 120) 1 40) 2 1500)] := hD
  refine ag_finX1 hx hb hG hown hmn hK hP hD hS 0 8 rfl (by decide) k_49 (by decide) rfl rfl (Nat.le_of_ble_eq_true rfl) dX1_init_30 (fun H locs hP hD hS => ?_)
  have hP : va_P D vwCl [(x, .inr (1, [.int 0, .int 40000, .int 0, .int 0, .int 0, .int 0, .int 0, .int 0, .ref q12, .null, .null])), aI cI q12 3 (upd (upd (upd (fun _ => 0) 0 120) 1 40) 2 1500)] H := hP
  have hD : va_D A [(x, .inr (1, [.int 0, .int 40000, .int 0, .int 0, .int 0, .int 0, .int 0, .int 0, .ref q12, .null, .null])), aI cI q12 3 (upd (upd (upd (fun _ => 0) 0 120) 1 40) 2 1500)] := hD
  refine lv_aload_n hx hb dX1_init_33 rfl (lv_at hl 0 rfl) ?_
  refine lv_bipush (v := 7) hx hb dX1_init_34 (by decide) ?_
  refine ag_newaI (N := 7) hx hb hG hK hP hD hS hA rfl (by decide) (Nat.le_of_ble_eq_true rfl) (Nat.le_of_ble_eq_true rfl) dX1_init_36 (fun q36 H hP hD hS => ?_)
  have hP : va_P D vwCl [(x, .inr (1, [.int 0, .int 40000, .int 0, .int 0, .int 0, .int 0, .int 0, .int 0, .ref q12, .null, .null])), aI cI q12 3 (upd (upd (upd (fun _ => 0) 0 120) 1 40) 2 1500), aI cI q36 7 (fun _ => 0)] H := hP
  have hD : va_D A [(x, .inr (1, [.int 0, .int 40000, .int 0, .int 0, .int 0, .int 0, .int 0, .int 0, .ref q12, .null, .null])), aI cI q12 3 (upd (upd (upd (fun _ => 0) 0 120) 1 40) 2 1500), aI cI q36 7 (fun _ => 0)] := hD
  refine ag_finX1 hx hb hG hown hmn hK hP hD hS 0 9 rfl (by decide) k_52 (by decide) rfl rfl (Nat.le_of_ble_eq_true rfl) dX1_init_38 (fun H locs hP hD hS => ?_)
  have hP : va_P D vwCl [(x, .inr (1, [.int 0, .int 40000, .int 0, .int 0, .int 0, .int 0, .int 0, .int 0, .ref q12, .ref q36, .null])), aI cI q12 3 (upd (upd (upd (fun _ => 0) 0 120) 1 40) 2 1500), aI cI q36 7 (fun _ => 0)] H := hP
  have hD : va_D A [(x, .inr (1, [.int 0, .int 40000, .int 0, .int 0, .int 0, .int 0, .int 0, .int 0, .ref q12, .ref q36, .null])), aI cI q12 3 (upd (upd (upd (fun _ => 0) 0 120) 1 40) 2 1500), aI cI q36 7 (fun _ => 0)] := hD
  refine lv_aload_n hx hb dX1_init_41 rfl (lv_at hl 0 rfl) ?_
  refine lv_bipush (v := 60) hx hb dX1_init_42 (by decide) ?_
  refine ag_newaI (N := 60) hx hb hG hK hP hD hS hA rfl (by decide) (Nat.le_of_ble_eq_true rfl) (Nat.le_of_ble_eq_true rfl) dX1_init_44 (fun q44 H hP hD hS => ?_)
  have hP : va_P D vwCl [(x, .inr (1, [.int 0, .int 40000, .int 0, .int 0, .int 0, .int 0, .int 0, .int 0, .ref q12, .ref q36, .null])), aI cI q12 3 (upd (upd (upd (fun _ => 0) 0 120) 1 40) 2 1500), aI cI q36 7 (fun _ => 0), aI cI q44 60 (fun _ => 0)] H := hP
  have hD : va_D A [(x, .inr (1, [.int 0, .int 40000, .int 0, .int 0, .int 0, .int 0, .int 0, .int 0, .ref q12, .ref q36, .null])), aI cI q12 3 (upd (upd (upd (fun _ => 0) 0 120) 1 40) 2 1500), aI cI q36 7 (fun _ => 0), aI cI q44 60 (fun _ => 0)] := hD
  refine ag_finX1 hx hb hG hown hmn hK hP hD hS 0 10 rfl (by decide) k_54 (by decide) rfl rfl (Nat.le_of_ble_eq_true rfl) dX1_init_46 (fun H locs hP hD hS => ?_)
  have hP : va_P D vwCl [(x, .inr (1, [.int 0, .int 40000, .int 0, .int 0, .int 0, .int 0, .int 0, .int 0, .ref q12, .ref q36, .ref q44])), aI cI q12 3 (upd (upd (upd (fun _ => 0) 0 120) 1 40) 2 1500), aI cI q36 7 (fun _ => 0), aI cI q44 60 (fun _ => 0)] H := hP
  have hD : va_D A [(x, .inr (1, [.int 0, .int 40000, .int 0, .int 0, .int 0, .int 0, .int 0, .int 0, .ref q12, .ref q36, .ref q44])), aI cI q12 3 (upd (upd (upd (fun _ => 0) 0 120) 1 40) 2 1500), aI cI q36 7 (fun _ => 0), aI cI q44 60 (fun _ => 0)] := hD
  exact ag_cret hx hb hr hlocks hP hD hS ⟨q12, q36, q44, rfl⟩ dX1_init_49
abbrev po_X4_init (cI cC cL : ClassId) (x : Nat) : va_W → Prop := fun w' => [(x, .inr (4, [.int 0, .int 0, .int 0, .int 0, .int 0, .int 0, .int 0]))] = w'
set_option maxHeartbeats 4000000 in
set_option maxRecDepth 100000 in
theorem ct_X4_init (l : Launch) (D : va_G) (cI cC cL : ClassId) (x : Nat) : ag_MC l yX4_init cX4_init 1 1 13 0 0 D cI cC cL [.ref x] [nX4 x] (po_X4_init cI cC cL x) := by
  refine ag_MC.of (plainFor_of_name (by decide)) (Nat.le_of_ble_eq_true rfl) ?_
  intro p e s m below meth c hx hb hr hlocks hml hown hmn hG hK hO A hN hA H locs hP hD hS ls hl
  have hl : lv_has ls 1 [(0, .ref x)] := hl
  refine lv_aload_n hx hb dX4_init_0 rfl (lv_at hl 0 rfl) ?_
  refine W.objInit hx hb hown (hG _ k_85) (hG _ k_21) (hG _ k_22) rfl (hl.1.trans hml.symm) rfl dX4_init_1 (Nat.le_of_ble_eq_true rfl) (Nat.le_of_ble_eq_true rfl) ?_
  refine W.eq (g2 := F0 m 4 ls []) rfl ?_
  exact ag_cret hx hb hr hlocks hP hD hS rfl dX4_init_4
abbrev po_X3_init (cI cC cL : ClassId) (x : Nat) : va_W → Prop := fun w' => ∃ q7 : Nat, [(x, .inr (3, [.ref q7, .int 0, .int 0, .int 0, .int 0, .int 0])), aC cC q7 60 (fun _ => 0)] = w'
set_option maxHeartbeats 4000000 in
set_option maxRecDepth 100000 in
theorem ct_X3_init (l : Launch) (D : va_G) (cI cC cL : ClassId) (x : Nat) : ag_MC l yX3_init cX3_init 1 1 13 1 60 D cI cC cL [.ref x] [nX3 x] (po_X3_init cI cC cL x) := by
  refine ag_MC.of (plainFor_of_name (by decide)) (Nat.le_of_ble_eq_true rfl) ?_
  intro p e s m below meth c hx hb hr hlocks hml hown hmn hG hK hO A hN hA H locs hP hD hS ls hl
  have hl : lv_has ls 1 [(0, .ref x)] := hl
  refine lv_aload_n hx hb dX3_init_0 rfl (lv_at hl 0 rfl) ?_
  refine W.objInit hx hb hown (hG _ k_144) (hG _ k_21) (hG _ k_22) rfl (hl.1.trans hml.symm) rfl dX3_init_1 (Nat.le_of_ble_eq_true rfl) (Nat.le_of_ble_eq_true rfl) ?_
  refine W.eq (g2 := F0 m 4 ls []) rfl ?_
  refine lv_aload_n hx hb dX3_init_4 rfl (lv_at hl 0 rfl) ?_
  refine lv_bipush (v := 60) hx hb dX3_init_5 (by decide) ?_
  refine ag_newaC (N := 60) hx hb hG hK hP hD hS hA rfl (by decide) (Nat.le_of_ble_eq_true rfl) (Nat.le_of_ble_eq_true rfl) dX3_init_7 (fun q7 H hP hD hS => ?_)
  have hP : va_P D vwCl [(x, .inr (3, [.null, .int 0, .int 0, .int 0, .int 0, .int 0])), aC cC q7 60 (fun _ => 0)] H := hP
  have hD : va_D A [(x, .inr (3, [.null, .int 0, .int 0, .int 0, .int 0, .int 0])), aC cC q7 60 (fun _ => 0)] := hD
  refine ag_finX3 hx hb hG hown hmn hK hP hD hS 0 0 rfl (by decide) k_145 (by decide) rfl rfl (Nat.le_of_ble_eq_true rfl) dX3_init_9 (fun H locs hP hD hS => ?_)
  have hP : va_P D vwCl [(x, .inr (3, [.ref q7, .int 0, .int 0, .int 0, .int 0, .int 0])), aC cC q7 60 (fun _ => 0)] H := hP
  have hD : va_D A [(x, .inr (3, [.ref q7, .int 0, .int 0, .int 0, .int 0, .int 0])), aC cC q7 60 (fun _ => 0)] := hD
  exact ag_cret hx hb hr hlocks hP hD hS ⟨q7, rfl⟩ dX3_init_12
abbrev po_X2_init (cI cC cL : ClassId) (x : Nat) : va_W → Prop := fun w' => [(x, .inr (2, [.int 0, .int 0, .int 0, .int 0]))] = w'
set_option maxHeartbeats 4000000 in
set_option maxRecDepth 100000 in
theorem ct_X2_init (l : Launch) (D : va_G) (cI cC cL : ClassId) (x : Nat) : ag_MC l yX2_init cX2_init 1 1 13 0 0 D cI cC cL [.ref x] [nX2 x] (po_X2_init cI cC cL x) := by
  refine ag_MC.of (plainFor_of_name (by decide)) (Nat.le_of_ble_eq_true rfl) ?_
  intro p e s m below meth c hx hb hr hlocks hml hown hmn hG hK hO A hN hA H locs hP hD hS ls hl
  have hl : lv_has ls 1 [(0, .ref x)] := hl
  refine lv_aload_n hx hb dX2_init_0 rfl (lv_at hl 0 rfl) ?_
  refine W.objInit hx hb hown (hG _ k_166) (hG _ k_21) (hG _ k_22) rfl (hl.1.trans hml.symm) rfl dX2_init_1 (Nat.le_of_ble_eq_true rfl) (Nat.le_of_ble_eq_true rfl) ?_
  refine W.eq (g2 := F0 m 4 ls []) rfl ?_
  exact ag_cret hx hb hr hlocks hP hD hS rfl dX2_init_4
abbrev po_X0_init (cI cC cL : ClassId) (x : Nat) : va_W → Prop := fun w' => ∃ q6 q11 q12_q11 q36_q11 q44_q11 q21 q12_q21 q36_q21 q44_q21 q31 q12_q31 q36_q31 q44_q31 q41 q12_q41 q36_q41 q44_q41 : Nat, [(x, .inr (0, [.ref q6, .int 0, .int 0])), aL cL q6 (gS q11 q21 q31 q41), (q11, .inr (1, [.int 0, .int 40000, .int 0, .int 0, .int 0, .int 0, .int 0, .int 0, .ref q12_q11, .ref q36_q11, .ref q44_q11])), aI cI q12_q11 3 (upd (upd (upd (fun _ => 0) 0 120) 1 40) 2 1500), aI cI q36_q11 7 (fun _ => 0), aI cI q44_q11 60 (fun _ => 0), (q21, .inr (1, [.int 0, .int 40000, .int 0, .int 0, .int 0, .int 0, .int 0, .int 0, .ref q12_q21, .ref q36_q21, .ref q44_q21])), aI cI q12_q21 3 (upd (upd (upd (fun _ => 0) 0 120) 1 40) 2 1500), aI cI q36_q21 7 (fun _ => 0), aI cI q44_q21 60 (fun _ => 0), (q31, .inr (1, [.int 0, .int 40000, .int 0, .int 0, .int 0, .int 0, .int 0, .int 0, .ref q12_q31, .ref q36_q31, .ref q44_q31])), aI cI q12_q31 3 (upd (upd (upd (fun _ => 0) 0 120) 1 40) 2 1500), aI cI q36_q31 7 (fun _ => 0), aI cI q44_q31 60 (fun _ => 0), (q41, .inr (1, [.int 0, .int 40000, .int 0, .int 0, .int 0, .int 0, .int 0, .int 0, .ref q12_q41, .ref q36_q41, .ref q44_q41])), aI cI q12_q41 3 (upd (upd (upd (fun _ => 0) 0 120) 1 40) 2 1500), aI cI q36_q41 7 (fun _ => 0), aI cI q44_q41 60 (fun _ => 0)] = w'
set_option maxHeartbeats 4000000 in
set_option maxRecDepth 100000 in
theorem ct_X0_init (l : Launch) (D : va_G) (cI cC cL : ClassId) (x : Nat) : ag_MC l yX0_init cX0_init 1 2 33 17 328 D cI cC cL [.ref x] [nX0 x] (po_X0_init cI cC cL x) := by
  refine ag_MC.of (plainFor_of_name (by decide)) (Nat.le_of_ble_eq_true rfl) ?_
  intro p e s m below meth c hx hb hr hlocks hml hown hmn hG hK hO A hN hA H locs hP hD hS ls hl
  have hl : lv_has ls 1 [(0, .ref x)] := hl
  refine lv_aload_n hx hb dX0_init_0 rfl (lv_at hl 0 rfl) ?_
  refine W.objInit hx hb hown (hG _ k_124) (hG _ k_21) (hG _ k_22) rfl (hl.1.trans hml.symm) rfl dX0_init_1 (Nat.le_of_ble_eq_true rfl) (Nat.le_of_ble_eq_true rfl) ?_
  refine W.eq (g2 := F0 m 4 ls []) rfl ?_
  refine lv_aload_n hx hb dX0_init_4 rfl (lv_at hl 0 rfl) ?_
  refine lv_iconst (v := 4) hx hb dX0_init_5 (by decide) ?_
  refine ag_newL hx hb hG hown k_125 hO hK hP hD hS hA (Nat.le_of_ble_eq_true rfl) (Nat.le_of_ble_eq_true rfl) dX0_init_6 (fun q6 H hP hD hS => ?_)
  have hP : va_P D vwCl [(x, .inr (0, [.null, .int 0, .int 0])), aL cL q6 (fun _ => none)] H := hP
  have hD : va_D A [(x, .inr (0, [.null, .int 0, .int 0])), aL cL q6 (fun _ => none)] := hD
  refine lv_dup hx hb dX0_init_9 rfl ?_
  refine lv_iconst (v := 0) hx hb dX0_init_10 (by decide) ?_
  refine ag_newX1 hx hb hG hown k_125 k_24 k_8 hK hP hD hS hA (Nat.le_of_ble_eq_true rfl) (Nat.le_of_ble_eq_true rfl) dX0_init_11 (fun q11 H hP hD hS => ?_)
  have hP : va_P D vwCl [(x, .inr (0, [.null, .int 0, .int 0])), aL cL q6 (fun _ => none), (q11, .inr (1, [.int 0, .int 0, .int 0, .int 0, .int 0, .int 0, .int 0, .int 0, .null, .null, .null]))] H := hP
  have hD : va_D A [(x, .inr (0, [.null, .int 0, .int 0])), aL cL q6 (fun _ => none), (q11, .inr (1, [.int 0, .int 0, .int 0, .int 0, .int 0, .int 0, .int 0, .int 0, .null, .null, .null]))] := hD
  refine lv_dup hx hb dX0_init_14 rfl ?_
  refine ag_callNC (pre := [(x, .inr (0, [.null, .int 0, .int 0])), aL cL q6 (fun _ => none)]) hx hb hml hown hG hK hO hN hA hP hD hS hl (ct_X1_init l D cI cC cL q11) k_27 k_26 k_8 (by decide) rfl hN.1.2.2.2.1 (Nat.le_of_ble_eq_true rfl) ⟨Nat.le_of_ble_eq_true rfl, Nat.le_of_ble_eq_true rfl⟩ ⟨Nat.le_of_ble_eq_true rfl, Nat.le_of_ble_eq_true rfl⟩ dX0_init_15 (fun w1 H locs hw hP hD hS => ?_)
  obtain ⟨q12_q11, q36_q11, q44_q11, rfl⟩ := hw
  have hP : va_P D vwCl [(x, .inr (0, [.null, .int 0, .int 0])), aL cL q6 (fun _ => none), (q11, .inr (1, [.int 0, .int 40000, .int 0, .int 0, .int 0, .int 0, .int 0, .int 0, .ref q12_q11, .ref q36_q11, .ref q44_q11])), aI cI q12_q11 3 (upd (upd (upd (fun _ => 0) 0 120) 1 40) 2 1500), aI cI q36_q11 7 (fun _ => 0), aI cI q44_q11 60 (fun _ => 0)] H := hP
  have hD : va_D A [(x, .inr (0, [.null, .int 0, .int 0])), aL cL q6 (fun _ => none), (q11, .inr (1, [.int 0, .int 40000, .int 0, .int 0, .int 0, .int 0, .int 0, .int 0, .ref q12_q11, .ref q36_q11, .ref q44_q11])), aI cI q12_q11 3 (upd (upd (upd (fun _ => 0) 0 120) 1 40) 2 1500), aI cI q36_q11 7 (fun _ => 0), aI cI q44_q11 60 (fun _ => 0)] := hD
  refine va_astq hx hb hK hP hD hS 1 2 2 1 rfl rfl rfl rfl (vp_in_nI (n := 0) (N := 4) (by decide) (by decide)) dX0_init_18 (fun H locs hP hD hS => ?_)
  have hP : va_P D vwCl [(x, .inr (0, [.null, .int 0, .int 0])), aL cL q6 (va_up (fun _ => none) (0 : Int32).toNatClampNeg (some q11)), (q11, .inr (1, [.int 0, .int 40000, .int 0, .int 0, .int 0, .int 0, .int 0, .int 0, .ref q12_q11, .ref q36_q11, .ref q44_q11])), aI cI q12_q11 3 (upd (upd (upd (fun _ => 0) 0 120) 1 40) 2 1500), aI cI q36_q11 7 (fun _ => 0), aI cI q44_q11 60 (fun _ => 0)] H := hP
  have hD : va_D A [(x, .inr (0, [.null, .int 0, .int 0])), aL cL q6 (va_up (fun _ => none) (0 : Int32).toNatClampNeg (some q11)), (q11, .inr (1, [.int 0, .int 40000, .int 0, .int 0, .int 0, .int 0, .int 0, .int 0, .ref q12_q11, .ref q36_q11, .ref q44_q11])), aI cI q12_q11 3 (upd (upd (upd (fun _ => 0) 0 120) 1 40) 2 1500), aI cI q36_q11 7 (fun _ => 0), aI cI q44_q11 60 (fun _ => 0)] := hD
  refine lv_dup hx hb dX0_init_19 rfl ?_
  refine lv_iconst (v := 1) hx hb dX0_init_20 (by decide) ?_
  refine ag_newX1 hx hb hG hown k_125 k_24 k_8 hK hP hD hS hA (Nat.le_of_ble_eq_true rfl) (Nat.le_of_ble_eq_true rfl) dX0_init_21 (fun q21 H hP hD hS => ?_)
  have hP : va_P D vwCl [(x, .inr (0, [.null, .int 0, .int 0])), aL cL q6 (va_up (fun _ => none) (0 : Int32).toNatClampNeg (some q11)), (q11, .inr (1, [.int 0, .int 40000, .int 0, .int 0, .int 0, .int 0, .int 0, .int 0, .ref q12_q11, .ref q36_q11, .ref q44_q11])), aI cI q12_q11 3 (upd (upd (upd (fun _ => 0) 0 120) 1 40) 2 1500), aI cI q36_q11 7 (fun _ => 0), aI cI q44_q11 60 (fun _ => 0), (q21, .inr (1, [.int 0, .int 0, .int 0, .int 0, .int 0, .int 0, .int 0, .int 0, .null, .null, .null]))] H := hP
  have hD : va_D A [(x, .inr (0, [.null, .int 0, .int 0])), aL cL q6 (va_up (fun _ => none) (0 : Int32).toNatClampNeg (some q11)), (q11, .inr (1, [.int 0, .int 40000, .int 0, .int 0, .int 0, .int 0, .int 0, .int 0, .ref q12_q11, .ref q36_q11, .ref q44_q11])), aI cI q12_q11 3 (upd (upd (upd (fun _ => 0) 0 120) 1 40) 2 1500), aI cI q36_q11 7 (fun _ => 0), aI cI q44_q11 60 (fun _ => 0), (q21, .inr (1, [.int 0, .int 0, .int 0, .int 0, .int 0, .int 0, .int 0, .int 0, .null, .null, .null]))] := hD
  refine lv_dup hx hb dX0_init_24 rfl ?_
  refine ag_callNC (pre := [(x, .inr (0, [.null, .int 0, .int 0])), aL cL q6 (va_up (fun _ => none) (0 : Int32).toNatClampNeg (some q11)), (q11, .inr (1, [.int 0, .int 40000, .int 0, .int 0, .int 0, .int 0, .int 0, .int 0, .ref q12_q11, .ref q36_q11, .ref q44_q11])), aI cI q12_q11 3 (upd (upd (upd (fun _ => 0) 0 120) 1 40) 2 1500), aI cI q36_q11 7 (fun _ => 0), aI cI q44_q11 60 (fun _ => 0)]) hx hb hml hown hG hK hO hN hA hP hD hS hl (ct_X1_init l D cI cC cL q21) k_27 k_26 k_8 (by decide) rfl hN.1.2.2.2.1 (Nat.le_of_ble_eq_true rfl) ⟨Nat.le_of_ble_eq_true rfl, Nat.le_of_ble_eq_true rfl⟩ ⟨Nat.le_of_ble_eq_true rfl, Nat.le_of_ble_eq_true rfl⟩ dX0_init_25 (fun w1 H locs hw hP hD hS => ?_)
  obtain ⟨q12_q21, q36_q21, q44_q21, rfl⟩ := hw
  have hP : va_P D vwCl [(x, .inr (0, [.null, .int 0, .int 0])), aL cL q6 (va_up (fun _ => none) (0 : Int32).toNatClampNeg (some q11)), (q11, .inr (1, [.int 0, .int 40000, .int 0, .int 0, .int 0, .int 0, .int 0, .int 0, .ref q12_q11, .ref q36_q11, .ref q44_q11])), aI cI q12_q11 3 (upd (upd (upd (fun _ => 0) 0 120) 1 40) 2 1500), aI cI q36_q11 7 (fun _ => 0), aI cI q44_q11 60 (fun _ => 0), (q21, .inr (1, [.int 0, .int 40000, .int 0, .int 0, .int 0, .int 0, .int 0, .int 0, .ref q12_q21, .ref q36_q21, .ref q44_q21])), aI cI q12_q21 3 (upd (upd (upd (fun _ => 0) 0 120) 1 40) 2 1500), aI cI q36_q21 7 (fun _ => 0), aI cI q44_q21 60 (fun _ => 0)] H := hP
  have hD : va_D A [(x, .inr (0, [.null, .int 0, .int 0])), aL cL q6 (va_up (fun _ => none) (0 : Int32).toNatClampNeg (some q11)), (q11, .inr (1, [.int 0, .int 40000, .int 0, .int 0, .int 0, .int 0, .int 0, .int 0, .ref q12_q11, .ref q36_q11, .ref q44_q11])), aI cI q12_q11 3 (upd (upd (upd (fun _ => 0) 0 120) 1 40) 2 1500), aI cI q36_q11 7 (fun _ => 0), aI cI q44_q11 60 (fun _ => 0), (q21, .inr (1, [.int 0, .int 40000, .int 0, .int 0, .int 0, .int 0, .int 0, .int 0, .ref q12_q21, .ref q36_q21, .ref q44_q21])), aI cI q12_q21 3 (upd (upd (upd (fun _ => 0) 0 120) 1 40) 2 1500), aI cI q36_q21 7 (fun _ => 0), aI cI q44_q21 60 (fun _ => 0)] := hD
  refine va_astq hx hb hK hP hD hS 1 2 6 1 rfl rfl rfl rfl (vp_in_nI (n := 1) (N := 4) (by decide) (by decide)) dX0_init_28 (fun H locs hP hD hS => ?_)
  have hP : va_P D vwCl [(x, .inr (0, [.null, .int 0, .int 0])), aL cL q6 (va_up (va_up (fun _ => none) (0 : Int32).toNatClampNeg (some q11)) (1 : Int32).toNatClampNeg (some q21)), (q11, .inr (1, [.int 0, .int 40000, .int 0, .int 0, .int 0, .int 0, .int 0, .int 0, .ref q12_q11, .ref q36_q11, .ref q44_q11])), aI cI q12_q11 3 (upd (upd (upd (fun _ => 0) 0 120) 1 40) 2 1500), aI cI q36_q11 7 (fun _ => 0), aI cI q44_q11 60 (fun _ => 0), (q21, .inr (1, [.int 0, .int 40000, .int 0, .int 0, .int 0, .int 0, .int 0, .int 0, .ref q12_q21, .ref q36_q21, .ref q44_q21])), aI cI q12_q21 3 (upd (upd (upd (fun _ => 0) 0 120) 1 40) 2 1500), aI cI q36_q21 7 (fun _ => 0), aI cI q44_q21 60 (fun _ => 0)] H := hP
  have hD : va_D A [(x, .inr (0, [.null, .int 0, .int 0])), aL cL q6 (va_up (va_up (fun _ => none) (0 : Int32).toNatClampNeg (some q11)) (1 : Int32).toNatClampNeg (some q21)), (q11, .inr (1, [.int 0, .int 40000, .int 0, .int 0, .int 0, .int 0, .int 0, .int 0, .ref q12_q11, .ref q36_q11, .ref q44_q11])), aI cI q12_q11 3 (upd (upd (upd (fun _ => 0) 0 120) 1 40) 2 1500), aI cI q36_q11 7 (fun _ => 0), aI cI q44_q11 60 (fun _ => 0), (q21, .inr (1, [.int 0, .int 40000, .int 0, .int 0, .int 0, .int 0, .int 0, .int 0, .ref q12_q21, .ref q36_q21, .ref q44_q21])), aI cI q12_q21 3 (upd (upd (upd (fun _ => 0) 0 120) 1 40) 2 1500), aI cI q36_q21 7 (fun _ => 0), aI cI q44_q21 60 (fun _ => 0)] := hD
  refine lv_dup hx hb dX0_init_29 rfl ?_
  refine lv_iconst (v := 2) hx hb dX0_init_30 (by decide) ?_
  refine ag_newX1 hx hb hG hown k_125 k_24 k_8 hK hP hD hS hA (Nat.le_of_ble_eq_true rfl) (Nat.le_of_ble_eq_true rfl) dX0_init_31 (fun q31 H hP hD hS => ?_)
  have hP : va_P D vwCl [(x, .inr (0, [.null, .int 0, .int 0])), aL cL q6 (va_up (va_up (fun _ => none) (0 : Int32).toNatClampNeg (some q11)) (1 : Int32).toNatClampNeg (some q21)), (q11, .inr (1, [.int 0, .int 40000, .int 0, .int 0, .int 0, .int 0, .int 0, .int 0, .ref q12_q11, .ref q36_q11, .ref q44_q11])), aI cI q12_q11 3 (upd (upd (upd (fun _ => 0) 0 120) 1 40) 2 1500), aI cI q36_q11 7 (fun _ => 0), aI cI q44_q11 60 (fun _ => 0), (q21, .inr (1, [.int 0, .int 40000, .int 0, .int 0, .int 0, .int 0, .int 0, .int 0, .ref q12_q21, .ref q36_q21, .ref q44_q21])), aI cI q12_q21 3 (upd (upd (upd (fun _ => 0) 0 120) 1 40) 2 1500), aI cI q36_q21 7 (fun _ => 0), aI cI q44_q21 60 (fun _ => 0), (q31, .inr (1, [.int 0, .int 0, .int 0, .int 0, .int 0, .int 0, .int 0, .int 0, .null, .null, .null]))] H := hP
  have hD : va_D A [(x, .inr (0, [.null, .int 0, .int 0])), aL cL q6 (va_up (va_up (fun _ => none) (0 : Int32).toNatClampNeg (some q11)) (1 : Int32).toNatClampNeg (some q21)), (q11, .inr (1, [.int 0, .int 40000, .int 0, .int 0, .int 0, .int 0, .int 0, .int 0, .ref q12_q11, .ref q36_q11, .ref q44_q11])), aI cI q12_q11 3 (upd (upd (upd (fun _ => 0) 0 120) 1 40) 2 1500), aI cI q36_q11 7 (fun _ => 0), aI cI q44_q11 60 (fun _ => 0), (q21, .inr (1, [.int 0, .int 40000, .int 0, .int 0, .int 0, .int 0, .int 0, .int 0, .ref q12_q21, .ref q36_q21, .ref q44_q21])), aI cI q12_q21 3 (upd (upd (upd (fun _ => 0) 0 120) 1 40) 2 1500), aI cI q36_q21 7 (fun _ => 0), aI cI q44_q21 60 (fun _ => 0), (q31, .inr (1, [.int 0, .int 0, .int 0, .int 0, .int 0, .int 0, .int 0, .int 0, .null, .null, .null]))] := hD
  refine lv_dup hx hb dX0_init_34 rfl ?_
  refine ag_callNC (pre := [(x, .inr (0, [.null, .int 0, .int 0])), aL cL q6 (va_up (va_up (fun _ => none) (0 : Int32).toNatClampNeg (some q11)) (1 : Int32).toNatClampNeg (some q21)), (q11, .inr (1, [.int 0, .int 40000, .int 0, .int 0, .int 0, .int 0, .int 0, .int 0, .ref q12_q11, .ref q36_q11, .ref q44_q11])), aI cI q12_q11 3 (upd (upd (upd (fun _ => 0) 0 120) 1 40) 2 1500), aI cI q36_q11 7 (fun _ => 0), aI cI q44_q11 60 (fun _ => 0), (q21, .inr (1, [.int 0, .int 40000, .int 0, .int 0, .int 0, .int 0, .int 0, .int 0, .ref q12_q21, .ref q36_q21, .ref q44_q21])), aI cI q12_q21 3 (upd (upd (upd (fun _ => 0) 0 120) 1 40) 2 1500), aI cI q36_q21 7 (fun _ => 0), aI cI q44_q21 60 (fun _ => 0)]) hx hb hml hown hG hK hO hN hA hP hD hS hl (ct_X1_init l D cI cC cL q31) k_27 k_26 k_8 (by decide) rfl hN.1.2.2.2.1 (Nat.le_of_ble_eq_true rfl) ⟨Nat.le_of_ble_eq_true rfl, Nat.le_of_ble_eq_true rfl⟩ ⟨Nat.le_of_ble_eq_true rfl, Nat.le_of_ble_eq_true rfl⟩ dX0_init_35 (fun w1 H locs hw hP hD hS => ?_)
  obtain ⟨q12_q31, q36_q31, q44_q31, rfl⟩ := hw
  have hP : va_P D vwCl [(x, .inr (0, [.null, .int 0, .int 0])), aL cL q6 (va_up (va_up (fun _ => none) (0 : Int32).toNatClampNeg (some q11)) (1 : Int32).toNatClampNeg (some q21)), (q11, .inr (1, [.int 0, .int 40000, .int 0, .int 0, .int 0, .int 0, .int 0, .int 0, .ref q12_q11, .ref q36_q11, .ref q44_q11])), aI cI q12_q11 3 (upd (upd (upd (fun _ => 0) 0 120) 1 40) 2 1500), aI cI q36_q11 7 (fun _ => 0), aI cI q44_q11 60 (fun _ => 0), (q21, .inr (1, [.int 0, .int 40000, .int 0, .int 0, .int 0, .int 0, .int 0, .int 0, .ref q12_q21, .ref q36_q21, .ref q44_q21])), aI cI q12_q21 3 (upd (upd (upd (fun _ => 0) 0 120) 1 40) 2 1500), aI cI q36_q21 7 (fun _ => 0), aI cI q44_q21 60 (fun _ => 0), (q31, .inr (1, [.int 0, .int 40000, .int 0, .int 0, .int 0, .int 0, .int 0, .int 0, .ref q12_q31, .ref q36_q31, .ref q44_q31])), aI cI q12_q31 3 (upd (upd (upd (fun _ => 0) 0 120) 1 40) 2 1500), aI cI q36_q31 7 (fun _ => 0), aI cI q44_q31 60 (fun _ => 0)] H := hP
  have hD : va_D A [(x, .inr (0, [.null, .int 0, .int 0])), aL cL q6 (va_up (va_up (fun _ => none) (0 : Int32).toNatClampNeg (some q11)) (1 : Int32).toNatClampNeg (some q21)), (q11, .inr (1, [.int 0, .int 40000, .int 0, .int 0, .int 0, .int 0, .int 0, .int 0, .ref q12_q11, .ref q36_q11, .ref q44_q11])), aI cI q12_q11 3 (upd (upd (upd (fun _ => 0) 0 120) 1 40) 2 1500), aI cI q36_q11 7 (fun _ => 0), aI cI q44_q11 60 (fun _ => 0), (q21, .inr (1, [.int 0, .int 40000, .int 0, .int 0, .int 0, .int 0, .int 0, .int 0, .ref q12_q21, .ref q36_q21, .ref q44_q21])), aI cI q12_q21 3 (upd (upd (upd (fun _ => 0) 0 120) 1 40) 2 1500), aI cI q36_q21 7 (fun _ => 0), aI cI q44_q21 60 (fun _ => 0), (q31, .inr (1, [.int 0, .int 40000, .int 0, .int 0, .int 0, .int 0, .int 0, .int 0, .ref q12_q31, .ref q36_q31, .ref q44_q31])), aI cI q12_q31 3 (upd (upd (upd (fun _ => 0) 0 120) 1 40) 2 1500), aI cI q36_q31 7 (fun _ => 0), aI cI q44_q31 60 (fun _ => 0)] := hD
  refine va_astq hx hb hK hP hD hS 1 2 10 1 rfl rfl rfl rfl (vp_in_nI (n := 2) (N := 4) (by decide) (by decide)) dX0_init_38 (fun H locs hP hD hS => ?_)
  have hP : va_P D vwCl [(x, .inr (0, [.null, .int 0, .int 0])), aL cL q6 (va_up (va_up (va_up (fun _ => none) (0 : Int32).toNatClampNeg (some q11)) (1 : Int32).toNatClampNeg (some q21)) (2 : Int32).toNatClampNeg (some q31)), (q11, .inr (1, [.int 0, .int 40000, .int 0, .int 0, .int 0, .int 0, .int 0, .int 0, .ref q12_q11, .ref q36_q11, .ref q44_q11])), aI cI q12_q11 3 (upd (upd (upd (fun _ => 0) 0 120) 1 40) 2 1500), aI cI q36_q11 7 (fun _ => 0), aI cI q44_q11 60 (fun _ => 0), (q21, .inr (1, [.int 0, .int 40000, .int 0, .int 0, .int 0, .int 0, .int 0, .int 0, .ref q12_q21, .ref q36_q21, .ref q44_q21])), aI cI q12_q21 3 (upd (upd (upd (fun _ => 0) 0 120) 1 40) 2 1500), aI cI q36_q21 7 (fun _ => 0), aI cI q44_q21 60 (fun _ => 0), (q31, .inr (1, [.int 0, .int 40000, .int 0, .int 0, .int 0, .int 0, .int 0, .int 0, .ref q12_q31, .ref q36_q31, .ref q44_q31])), aI cI q12_q31 3 (upd (upd (upd (fun _ => 0) 0 120) 1 40) 2 1500), aI cI q36_q31 7 (fun _ => 0), aI cI q44_q31 60 (fun _ => 0)] H := hP
  have hD : va_D A [(x, .inr (0, [.null, .int 0, .int 0])), aL cL q6 (va_up (va_up (va_up (fun _ => none) (0 : Int32).toNatClampNeg (some q11)) (1 : Int32).toNatClampNeg (some q21)) (2 : Int32).toNatClampNeg (some q31)), (q11, .inr (1, [.int 0, .int 40000, .int 0, .int 0, .int 0, .int 0, .int 0, .int 0, .ref q12_q11, .ref q36_q11, .ref q44_q11])), aI cI q12_q11 3 (upd (upd (upd (fun _ => 0) 0 120) 1 40) 2 1500), aI cI q36_q11 7 (fun _ => 0), aI cI q44_q11 60 (fun _ => 0), (q21, .inr (1, [.int 0, .int 40000, .int 0, .int 0, .int 0, .int 0, .int 0, .int 0, .ref q12_q21, .ref q36_q21, .ref q44_q21])), aI cI q12_q21 3 (upd (upd (upd (fun _ => 0) 0 120) 1 40) 2 1500), aI cI q36_q21 7 (fun _ => 0), aI cI q44_q21 60 (fun _ => 0), (q31, .inr (1, [.int 0, .int 40000, .int 0, .int 0, .int 0, .int 0, .int 0, .int 0, .ref q12_q31, .ref q36_q31, .ref q44_q31])), aI cI q12_q31 3 (upd (upd (upd (fun _ => 0) 0 120) 1 40) 2 1500), aI cI q36_q31 7 (fun _ => 0), aI cI q44_q31 60 (fun _ => 0)] := hD
  refine lv_dup hx hb dX0_init_39 rfl ?_
  refine lv_iconst (v := 3) hx hb dX0_init_40 (by decide) ?_
  refine ag_newX1 hx hb hG hown k_125 k_24 k_8 hK hP hD hS hA (Nat.le_of_ble_eq_true rfl) (Nat.le_of_ble_eq_true rfl) dX0_init_41 (fun q41 H hP hD hS => ?_)
  have hP : va_P D vwCl [(x, .inr (0, [.null, .int 0, .int 0])), aL cL q6 (va_up (va_up (va_up (fun _ => none) (0 : Int32).toNatClampNeg (some q11)) (1 : Int32).toNatClampNeg (some q21)) (2 : Int32).toNatClampNeg (some q31)), (q11, .inr (1, [.int 0, .int 40000, .int 0, .int 0, .int 0, .int 0, .int 0, .int 0, .ref q12_q11, .ref q36_q11, .ref q44_q11])), aI cI q12_q11 3 (upd (upd (upd (fun _ => 0) 0 120) 1 40) 2 1500), aI cI q36_q11 7 (fun _ => 0), aI cI q44_q11 60 (fun _ => 0), (q21, .inr (1, [.int 0, .int 40000, .int 0, .int 0, .int 0, .int 0, .int 0, .int 0, .ref q12_q21, .ref q36_q21, .ref q44_q21])), aI cI q12_q21 3 (upd (upd (upd (fun _ => 0) 0 120) 1 40) 2 1500), aI cI q36_q21 7 (fun _ => 0), aI cI q44_q21 60 (fun _ => 0), (q31, .inr (1, [.int 0, .int 40000, .int 0, .int 0, .int 0, .int 0, .int 0, .int 0, .ref q12_q31, .ref q36_q31, .ref q44_q31])), aI cI q12_q31 3 (upd (upd (upd (fun _ => 0) 0 120) 1 40) 2 1500), aI cI q36_q31 7 (fun _ => 0), aI cI q44_q31 60 (fun _ => 0), (q41, .inr (1, [.int 0, .int 0, .int 0, .int 0, .int 0, .int 0, .int 0, .int 0, .null, .null, .null]))] H := hP
  have hD : va_D A [(x, .inr (0, [.null, .int 0, .int 0])), aL cL q6 (va_up (va_up (va_up (fun _ => none) (0 : Int32).toNatClampNeg (some q11)) (1 : Int32).toNatClampNeg (some q21)) (2 : Int32).toNatClampNeg (some q31)), (q11, .inr (1, [.int 0, .int 40000, .int 0, .int 0, .int 0, .int 0, .int 0, .int 0, .ref q12_q11, .ref q36_q11, .ref q44_q11])), aI cI q12_q11 3 (upd (upd (upd (fun _ => 0) 0 120) 1 40) 2 1500), aI cI q36_q11 7 (fun _ => 0), aI cI q44_q11 60 (fun _ => 0), (q21, .inr (1, [.int 0, .int 40000, .int 0, .int 0, .int 0, .int 0, .int 0, .int 0, .ref q12_q21, .ref q36_q21, .ref q44_q21])), aI cI q12_q21 3 (upd (upd (upd (fun _ => 0) 0 120) 1 40) 2 1500), aI cI q36_q21 7 (fun _ => 0), aI cI q44_q21 60 (fun _ => 0), (q31, .inr (1, [.int 0, .int 40000, .int 0, .int 0, .int 0, .int 0, .int 0, .int 0, .ref q12_q31, .ref q36_q31, .ref q44_q31])), aI cI q12_q31 3 (upd (upd (upd (fun _ => 0) 0 120) 1 40) 2 1500), aI cI q36_q31 7 (fun _ => 0), aI cI q44_q31 60 (fun _ => 0), (q41, .inr (1, [.int 0, .int 0, .int 0, .int 0, .int 0, .int 0, .int 0, .int 0, .null, .null, .null]))] := hD
  refine lv_dup hx hb dX0_init_44 rfl ?_
  refine ag_callNC (pre := [(x, .inr (0, [.null, .int 0, .int 0])), aL cL q6 (va_up (va_up (va_up (fun _ => none) (0 : Int32).toNatClampNeg (some q11)) (1 : Int32).toNatClampNeg (some q21)) (2 : Int32).toNatClampNeg (some q31)), (q11, .inr (1, [.int 0, .int 40000, .int 0, .int 0, .int 0, .int 0, .int 0, .int 0, .ref q12_q11, .ref q36_q11, .ref q44_q11])), aI cI q12_q11 3 (upd (upd (upd (fun _ => 0) 0 120) 1 40) 2 1500), aI cI q36_q11 7 (fun _ => 0), aI cI q44_q11 60 (fun _ => 0), (q21, .inr (1, [.int 0, .int 40000, .int 0, .int 0, .int 0, .int 0, .int 0, .int 0, .ref q12_q21, .ref q36_q21, .ref q44_q21])), aI cI q12_q21 3 (upd (upd (upd (fun _ => 0) 0 120) 1 40) 2 1500), aI cI q36_q21 7 (fun _ => 0), aI cI q44_q21 60 (fun _ => 0), (q31, .inr (1, [.int 0, .int 40000, .int 0, .int 0, .int 0, .int 0, .int 0, .int 0, .ref q12_q31, .ref q36_q31, .ref q44_q31])), aI cI q12_q31 3 (upd (upd (upd (fun _ => 0) 0 120) 1 40) 2 1500), aI cI q36_q31 7 (fun _ => 0), aI cI q44_q31 60 (fun _ => 0)]) hx hb hml hown hG hK hO hN hA hP hD hS hl (ct_X1_init l D cI cC cL q41) k_27 k_26 k_8 (by decide) rfl hN.1.2.2.2.1 (Nat.le_of_ble_eq_true rfl) ⟨Nat.le_of_ble_eq_true rfl, Nat.le_of_ble_eq_true rfl⟩ ⟨Nat.le_of_ble_eq_true rfl, Nat.le_of_ble_eq_true rfl⟩ dX0_init_45 (fun w1 H locs hw hP hD hS => ?_)
  obtain ⟨q12_q41, q36_q41, q44_q41, rfl⟩ := hw
  have hP : va_P D vwCl [(x, .inr (0, [.null, .int 0, .int 0])), aL cL q6 (va_up (va_up (va_up (fun _ => none) (0 : Int32).toNatClampNeg (some q11)) (1 : Int32).toNatClampNeg (some q21)) (2 : Int32).toNatClampNeg (some q31)), (q11, .inr (1, [.int 0, .int 40000, .int 0, .int 0, .int 0, .int 0, .int 0, .int 0, .ref q12_q11, .ref q36_q11, .ref q44_q11])), aI cI q12_q11 3 (upd (upd (upd (fun _ => 0) 0 120) 1 40) 2 1500), aI cI q36_q11 7 (fun _ => 0), aI cI q44_q11 60 (fun _ => 0), (q21, .inr (1, [.int 0, .int 40000, .int 0, .int 0, .int 0, .int 0, .int 0, .int 0, .ref q12_q21, .ref q36_q21, .ref q44_q21])), aI cI q12_q21 3 (upd (upd (upd (fun _ => 0) 0 120) 1 40) 2 1500), aI cI q36_q21 7 (fun _ => 0), aI cI q44_q21 60 (fun _ => 0), (q31, .inr (1, [.int 0, .int 40000, .int 0, .int 0, .int 0, .int 0, .int 0, .int 0, .ref q12_q31, .ref q36_q31, .ref q44_q31])), aI cI q12_q31 3 (upd (upd (upd (fun _ => 0) 0 120) 1 40) 2 1500), aI cI q36_q31 7 (fun _ => 0), aI cI q44_q31 60 (fun _ => 0), (q41, .inr (1, [.int 0, .int 40000, .int 0, .int 0, .int 0, .int 0, .int 0, .int 0, .ref q12_q41, .ref q36_q41, .ref q44_q41])), aI cI q12_q41 3 (upd (upd (upd (fun _ => 0) 0 120) 1 40) 2 1500), aI cI q36_q41 7 (fun _ => 0), aI cI q44_q41 60 (fun _ => 0)] H := hP
  have hD : va_D A [(x, .inr (0, [.null, .int 0, .int 0])), aL cL q6 (va_up (va_up (va_up (fun _ => none) (0 : Int32).toNatClampNeg (some q11)) (1 : Int32).toNatClampNeg (some q21)) (2 : Int32).toNatClampNeg (some q31)), (q11, .inr (1, [.int 0, .int 40000, .int 0, .int 0, .int 0, .int 0, .int 0, .int 0, .ref q12_q11, .ref q36_q11, .ref q44_q11])), aI cI q12_q11 3 (upd (upd (upd (fun _ => 0) 0 120) 1 40) 2 1500), aI cI q36_q11 7 (fun _ => 0), aI cI q44_q11 60 (fun _ => 0), (q21, .inr (1, [.int 0, .int 40000, .int 0, .int 0, .int 0, .int 0, .int 0, .int 0, .ref q12_q21, .ref q36_q21, .ref q44_q21])), aI cI q12_q21 3 (upd (upd (upd (fun _ => 0) 0 120) 1 40) 2 1500), aI cI q36_q21 7 (fun _ => 0), aI cI q44_q21 60 (fun _ => 0), (q31, .inr (1, [.int 0, .int 40000, .int 0, .int 0, .int 0, .int 0, .int 0, .int 0, .ref q12_q31, .ref q36_q31, .ref q44_q31])), aI cI q12_q31 3 (upd (upd (upd (fun _ => 0) 0 120) 1 40) 2 1500), aI cI q36_q31 7 (fun _ => 0), aI cI q44_q31 60 (fun _ => 0), (q41, .inr (1, [.int 0, .int 40000, .int 0, .int 0, .int 0, .int 0, .int 0, .int 0, .ref q12_q41, .ref q36_q41, .ref q44_q41])), aI cI q12_q41 3 (upd (upd (upd (fun _ => 0) 0 120) 1 40) 2 1500), aI cI q36_q41 7 (fun _ => 0), aI cI q44_q41 60 (fun _ => 0)] := hD
  refine va_astq hx hb hK hP hD hS 1 2 14 1 rfl rfl rfl rfl (vp_in_nI (n := 3) (N := 4) (by decide) (by decide)) dX0_init_48 (fun H locs hP hD hS => ?_)
  have hP : va_P D vwCl [(x, .inr (0, [.null, .int 0, .int 0])), aL cL q6 (va_up (va_up (va_up (va_up (fun _ => none) (0 : Int32).toNatClampNeg (some q11)) (1 : Int32).toNatClampNeg (some q21)) (2 : Int32).toNatClampNeg (some q31)) (3 : Int32).toNatClampNeg (some q41)), (q11, .inr (1, [.int 0, .int 40000, .int 0, .int 0, .int 0, .int 0, .int 0, .int 0, .ref q12_q11, .ref q36_q11, .ref q44_q11])), aI cI q12_q11 3 (upd (upd (upd (fun _ => 0) 0 120) 1 40) 2 1500), aI cI q36_q11 7 (fun _ => 0), aI cI q44_q11 60 (fun _ => 0), (q21, .inr (1, [.int 0, .int 40000, .int 0, .int 0, .int 0, .int 0, .int 0, .int 0, .ref q12_q21, .ref q36_q21, .ref q44_q21])), aI cI q12_q21 3 (upd (upd (upd (fun _ => 0) 0 120) 1 40) 2 1500), aI cI q36_q21 7 (fun _ => 0), aI cI q44_q21 60 (fun _ => 0), (q31, .inr (1, [.int 0, .int 40000, .int 0, .int 0, .int 0, .int 0, .int 0, .int 0, .ref q12_q31, .ref q36_q31, .ref q44_q31])), aI cI q12_q31 3 (upd (upd (upd (fun _ => 0) 0 120) 1 40) 2 1500), aI cI q36_q31 7 (fun _ => 0), aI cI q44_q31 60 (fun _ => 0), (q41, .inr (1, [.int 0, .int 40000, .int 0, .int 0, .int 0, .int 0, .int 0, .int 0, .ref q12_q41, .ref q36_q41, .ref q44_q41])), aI cI q12_q41 3 (upd (upd (upd (fun _ => 0) 0 120) 1 40) 2 1500), aI cI q36_q41 7 (fun _ => 0), aI cI q44_q41 60 (fun _ => 0)] H := hP
  have hD : va_D A [(x, .inr (0, [.null, .int 0, .int 0])), aL cL q6 (va_up (va_up (va_up (va_up (fun _ => none) (0 : Int32).toNatClampNeg (some q11)) (1 : Int32).toNatClampNeg (some q21)) (2 : Int32).toNatClampNeg (some q31)) (3 : Int32).toNatClampNeg (some q41)), (q11, .inr (1, [.int 0, .int 40000, .int 0, .int 0, .int 0, .int 0, .int 0, .int 0, .ref q12_q11, .ref q36_q11, .ref q44_q11])), aI cI q12_q11 3 (upd (upd (upd (fun _ => 0) 0 120) 1 40) 2 1500), aI cI q36_q11 7 (fun _ => 0), aI cI q44_q11 60 (fun _ => 0), (q21, .inr (1, [.int 0, .int 40000, .int 0, .int 0, .int 0, .int 0, .int 0, .int 0, .ref q12_q21, .ref q36_q21, .ref q44_q21])), aI cI q12_q21 3 (upd (upd (upd (fun _ => 0) 0 120) 1 40) 2 1500), aI cI q36_q21 7 (fun _ => 0), aI cI q44_q21 60 (fun _ => 0), (q31, .inr (1, [.int 0, .int 40000, .int 0, .int 0, .int 0, .int 0, .int 0, .int 0, .ref q12_q31, .ref q36_q31, .ref q44_q31])), aI cI q12_q31 3 (upd (upd (upd (fun _ => 0) 0 120) 1 40) 2 1500), aI cI q36_q31 7 (fun _ => 0), aI cI q44_q31 60 (fun _ => 0), (q41, .inr (1, [.int 0, .int 40000, .int 0, .int 0, .int 0, .int 0, .int 0, .int 0, .ref q12_q41, .ref q36_q41, .ref q44_q41])), aI cI q12_q41 3 (upd (upd (upd (fun _ => 0) 0 120) 1 40) 2 1500), aI cI q36_q41 7 (fun _ => 0), aI cI q44_q41 60 (fun _ => 0)] := hD
  refine ag_finX0 hx hb hG hown hmn hK hP hD hS 0 0 rfl (by decide) k_128 (by decide) rfl rfl (Nat.le_of_ble_eq_true rfl) dX0_init_49 (fun H locs hP hD hS => ?_)
  have hP : va_P D vwCl [(x, .inr (0, [.ref q6, .int 0, .int 0])), aL cL q6 (va_up (va_up (va_up (va_up (fun _ => none) (0 : Int32).toNatClampNeg (some q11)) (1 : Int32).toNatClampNeg (some q21)) (2 : Int32).toNatClampNeg (some q31)) (3 : Int32).toNatClampNeg (some q41)), (q11, .inr (1, [.int 0, .int 40000, .int 0, .int 0, .int 0, .int 0, .int 0, .int 0, .ref q12_q11, .ref q36_q11, .ref q44_q11])), aI cI q12_q11 3 (upd (upd (upd (fun _ => 0) 0 120) 1 40) 2 1500), aI cI q36_q11 7 (fun _ => 0), aI cI q44_q11 60 (fun _ => 0), (q21, .inr (1, [.int 0, .int 40000, .int 0, .int 0, .int 0, .int 0, .int 0, .int 0, .ref q12_q21, .ref q36_q21, .ref q44_q21])), aI cI q12_q21 3 (upd (upd (upd (fun _ => 0) 0 120) 1 40) 2 1500), aI cI q36_q21 7 (fun _ => 0), aI cI q44_q21 60 (fun _ => 0), (q31, .inr (1, [.int 0, .int 40000, .int 0, .int 0, .int 0, .int 0, .int 0, .int 0, .ref q12_q31, .ref q36_q31, .ref q44_q31])), aI cI q12_q31 3 (upd (upd (upd (fun _ => 0) 0 120) 1 40) 2 1500), aI cI q36_q31 7 (fun _ => 0), aI cI q44_q31 60 (fun _ => 0), (q41, .inr (1, [.int 0, .int 40000, .int 0, .int 0, .int 0, .int 0, .int 0, .int 0, .ref q12_q41, .ref q36_q41, .ref q44_q41])), aI cI q12_q41 3 (upd (upd (upd (fun _ => 0) 0 120) 1 40) 2 1500), aI cI q36_q41 7 (fun _ => 0), aI cI q44_q41 60 (fun _ => 0)] H := hP
  have hD : va_D A [(x, .inr (0, [.ref q6, .int 0, .int 0])), aL cL q6 (va_up (va_up (va_up (va_up (fun _ => none) (0 : Int32).toNatClampNeg (some q11)) (1 : Int32).toNatClampNeg (some q21)) (2 : Int32).toNatClampNeg (some q31)) (3 : Int32).toNatClampNeg (some q41)), (q11, .inr (1, [.int 0, .int 40000, .int 0, .int 0, .int 0, .int 0, .int 0, .int 0, .ref q12_q11, .ref q36_q11, .ref q44_q11])), aI cI q12_q11 3 (upd (upd (upd (fun _ => 0) 0 120) 1 40) 2 1500), aI cI q36_q11 7 (fun _ => 0), aI cI q44_q11 60 (fun _ => 0), (q21, .inr (1, [.int 0, .int 40000, .int 0, .int 0, .int 0, .int 0, .int 0, .int 0, .ref q12_q21, .ref q36_q21, .ref q44_q21])), aI cI q12_q21 3 (upd (upd (upd (fun _ => 0) 0 120) 1 40) 2 1500), aI cI q36_q21 7 (fun _ => 0), aI cI q44_q21 60 (fun _ => 0), (q31, .inr (1, [.int 0, .int 40000, .int 0, .int 0, .int 0, .int 0, .int 0, .int 0, .ref q12_q31, .ref q36_q31, .ref q44_q31])), aI cI q12_q31 3 (upd (upd (upd (fun _ => 0) 0 120) 1 40) 2 1500), aI cI q36_q31 7 (fun _ => 0), aI cI q44_q31 60 (fun _ => 0), (q41, .inr (1, [.int 0, .int 40000, .int 0, .int 0, .int 0, .int 0, .int 0, .int 0, .ref q12_q41, .ref q36_q41, .ref q44_q41])), aI cI q12_q41 3 (upd (upd (upd (fun _ => 0) 0 120) 1 40) 2 1500), aI cI q36_q41 7 (fun _ => 0), aI cI q44_q41 60 (fun _ => 0)] := hD
  have hP : va_P D vwCl [(x, .inr (0, [.ref q6, .int 0, .int 0])), aL cL q6 (gS q11 q21 q31 q41), (q11, .inr (1, [.int 0, .int 40000, .int 0, .int 0, .int 0, .int 0, .int 0, .int 0, .ref q12_q11, .ref q36_q11, .ref q44_q11])), aI cI q12_q11 3 (upd (upd (upd (fun _ => 0) 0 120) 1 40) 2 1500), aI cI q36_q11 7 (fun _ => 0), aI cI q44_q11 60 (fun _ => 0), (q21, .inr (1, [.int 0, .int 40000, .int 0, .int 0, .int 0, .int 0, .int 0, .int 0, .ref q12_q21, .ref q36_q21, .ref q44_q21])), aI cI q12_q21 3 (upd (upd (upd (fun _ => 0) 0 120) 1 40) 2 1500), aI cI q36_q21 7 (fun _ => 0), aI cI q44_q21 60 (fun _ => 0), (q31, .inr (1, [.int 0, .int 40000, .int 0, .int 0, .int 0, .int 0, .int 0, .int 0, .ref q12_q31, .ref q36_q31, .ref q44_q31])), aI cI q12_q31 3 (upd (upd (upd (fun _ => 0) 0 120) 1 40) 2 1500), aI cI q36_q31 7 (fun _ => 0), aI cI q44_q31 60 (fun _ => 0), (q41, .inr (1, [.int 0, .int 40000, .int 0, .int 0, .int 0, .int 0, .int 0, .int 0, .ref q12_q41, .ref q36_q41, .ref q44_q41])), aI cI q12_q41 3 (upd (upd (upd (fun _ => 0) 0 120) 1 40) 2 1500), aI cI q36_q41 7 (fun _ => 0), aI cI q44_q41 60 (fun _ => 0)] H := ag_arrL hP 1 (gS q11 q21 q31 q41) rfl (fun j hj => by rcases j with _ | _ | _ | _ | j; all_goals first | rfl | omega)
  have hD : va_D A [(x, .inr (0, [.ref q6, .int 0, .int 0])), aL cL q6 (gS q11 q21 q31 q41), (q11, .inr (1, [.int 0, .int 40000, .int 0, .int 0, .int 0, .int 0, .int 0, .int 0, .ref q12_q11, .ref q36_q11, .ref q44_q11])), aI cI q12_q11 3 (upd (upd (upd (fun _ => 0) 0 120) 1 40) 2 1500), aI cI q36_q11 7 (fun _ => 0), aI cI q44_q11 60 (fun _ => 0), (q21, .inr (1, [.int 0, .int 40000, .int 0, .int 0, .int 0, .int 0, .int 0, .int 0, .ref q12_q21, .ref q36_q21, .ref q44_q21])), aI cI q12_q21 3 (upd (upd (upd (fun _ => 0) 0 120) 1 40) 2 1500), aI cI q36_q21 7 (fun _ => 0), aI cI q44_q21 60 (fun _ => 0), (q31, .inr (1, [.int 0, .int 40000, .int 0, .int 0, .int 0, .int 0, .int 0, .int 0, .ref q12_q31, .ref q36_q31, .ref q44_q31])), aI cI q12_q31 3 (upd (upd (upd (fun _ => 0) 0 120) 1 40) 2 1500), aI cI q36_q31 7 (fun _ => 0), aI cI q44_q31 60 (fun _ => 0), (q41, .inr (1, [.int 0, .int 40000, .int 0, .int 0, .int 0, .int 0, .int 0, .int 0, .ref q12_q41, .ref q36_q41, .ref q44_q41])), aI cI q12_q41 3 (upd (upd (upd (fun _ => 0) 0 120) 1 40) 2 1500), aI cI q36_q41 7 (fun _ => 0), aI cI q44_q41 60 (fun _ => 0)] := ag_arrD hD 1 rfl
  exact ag_cret hx hb hr hlocks hP hD hS ⟨q6, q11, q12_q11, q36_q11, q44_q11, q21, q12_q21, q36_q21, q44_q21, q31, q12_q31, q36_q31, q44_q31, q41, q12_q41, q36_q41, q44_q41, rfl⟩ dX0_init_52
abbrev po_X5_init (cI cC cL : ClassId) (x : Nat) : va_W → Prop := fun w' => ∃ q5 q12_q5 q36_q5 q44_q5 q16 q12_q16 q36_q16 q44_q16 q27 q38 q6_q38 q11_q38 q12_q11_q38 q36_q11_q38 q44_q11_q38 q21_q38 q12_q21_q38 q36_q21_q38 q44_q21_q38 q31_q38 q12_q31_q38 q36_q31_q38 q44_q31_q38 q41_q38 q12_q41_q38 q36_q41_q38 q44_q41_q38 q49 q7_q49 q60 : Nat, [(x, .inr (5, [.ref q5, .ref q16, .ref q27, .ref q38, .ref q49, .ref q60])), (q5, .inr (1, [.int 0, .int 40000, .int 0, .int 0, .int 0, .int 0, .int 0, .int 0, .ref q12_q5, .ref q36_q5, .ref q44_q5])), aI cI q12_q5 3 (upd (upd (upd (fun _ => 0) 0 120) 1 40) 2 1500), aI cI q36_q5 7 (fun _ => 0), aI cI q44_q5 60 (fun _ => 0), (q16, .inr (1, [.int 0, .int 40000, .int 0, .int 0, .int 0, .int 0, .int 0, .int 0, .ref q12_q16, .ref q36_q16, .ref q44_q16])), aI cI q12_q16 3 (upd (upd (upd (fun _ => 0) 0 120) 1 40) 2 1500), aI cI q36_q16 7 (fun _ => 0), aI cI q44_q16 60 (fun _ => 0), (q27, .inr (4, [.int 0, .int 0, .int 0, .int 0, .int 0, .int 0, .int 0])), (q38, .inr (0, [.ref q6_q38, .int 0, .int 0])), aL cL q6_q38 (gS q11_q38 q21_q38 q31_q38 q41_q38), (q11_q38, .inr (1, [.int 0, .int 40000, .int 0, .int 0, .int 0, .int 0, .int 0, .int 0, .ref q12_q11_q38, .ref q36_q11_q38, .ref q44_q11_q38])), aI cI q12_q11_q38 3 (upd (upd (upd (fun _ => 0) 0 120) 1 40) 2 1500), aI cI q36_q11_q38 7 (fun _ => 0), aI cI q44_q11_q38 60 (fun _ => 0), (q21_q38, .inr (1, [.int 0, .int 40000, .int 0, .int 0, .int 0, .int 0, .int 0, .int 0, .ref q12_q21_q38, .ref q36_q21_q38, .ref q44_q21_q38])), aI cI q12_q21_q38 3 (upd (upd (upd (fun _ => 0) 0 120) 1 40) 2 1500), aI cI q36_q21_q38 7 (fun _ => 0), aI cI q44_q21_q38 60 (fun _ => 0), (q31_q38, .inr (1, [.int 0, .int 40000, .int 0, .int 0, .int 0, .int 0, .int 0, .int 0, .ref q12_q31_q38, .ref q36_q31_q38, .ref q44_q31_q38])), aI cI q12_q31_q38 3 (upd (upd (upd (fun _ => 0) 0 120) 1 40) 2 1500), aI cI q36_q31_q38 7 (fun _ => 0), aI cI q44_q31_q38 60 (fun _ => 0), (q41_q38, .inr (1, [.int 0, .int 40000, .int 0, .int 0, .int 0, .int 0, .int 0, .int 0, .ref q12_q41_q38, .ref q36_q41_q38, .ref q44_q41_q38])), aI cI q12_q41_q38 3 (upd (upd (upd (fun _ => 0) 0 120) 1 40) 2 1500), aI cI q36_q41_q38 7 (fun _ => 0), aI cI q44_q41_q38 60 (fun _ => 0), (q49, .inr (3, [.ref q7_q49, .int 0, .int 0, .int 0, .int 0, .int 0])), aC cC q7_q49 60 (fun _ => 0), (q60, .inr (2, [.int 0, .int 0, .int 0, .int 0]))] = w'
set_option maxHeartbeats 4000000 in
set_option maxRecDepth 100000 in
theorem ct_X5_init (l : Launch) (D : va_G) (cI cC cL : ClassId) (x : Nat) : ag_MC l yX5_init cX5_init 1 3 53 30 570 D cI cC cL [.ref x] [nX5 x] (po_X5_init cI cC cL x) := by
  refine ag_MC.of (plainFor_of_name (by decide)) (Nat.le_of_ble_eq_true rfl) ?_
  intro p e s m below meth c hx hb hr hlocks hml hown hmn hG hK hO A hN hA H locs hP hD hS ls hl
  have hl : lv_has ls 1 [(0, .ref x)] := hl
  refine lv_aload_n hx hb dX5_init_0 rfl (lv_at hl 0 rfl) ?_
  refine W.objInit hx hb hown (hG _ k_20) (hG _ k_21) (hG _ k_22) rfl (hl.1.trans hml.symm) rfl dX5_init_1 (Nat.le_of_ble_eq_true rfl) (Nat.le_of_ble_eq_true rfl) ?_
  refine W.eq (g2 := F0 m 4 ls []) rfl ?_
  refine lv_aload_n hx hb dX5_init_4 rfl (lv_at hl 0 rfl) ?_
  refine ag_newX1 hx hb hG hown k_23 k_24 k_8 hK hP hD hS hA (Nat.le_of_ble_eq_true rfl) (Nat.le_of_ble_eq_true rfl) dX5_init_5 (fun q5 H hP hD hS => ?_)
  have hP : va_P D vwCl [(x, .inr (5, [.null, .null, .null, .null, .null, .null])), (q5, .inr (1, [.int 0, .int 0, .int 0, .int 0, .int 0, .int 0, .int 0, .int 0, .null, .null, .null]))] H := hP
  have hD : va_D A [(x, .inr (5, [.null, .null, .null, .null, .null, .null])), (q5, .inr (1, [.int 0, .int 0, .int 0, .int 0, .int 0, .int 0, .int 0, .int 0, .null, .null, .null]))] := hD
  refine lv_dup hx hb dX5_init_8 rfl ?_
  refine ag_callNC (pre := [(x, .inr (5, [.null, .null, .null, .null, .null, .null]))]) hx hb hml hown hG hK hO hN hA hP hD hS hl (ct_X1_init l D cI cC cL q5) k_27 k_26 k_8 (by decide) rfl hN.1.1 (Nat.le_of_ble_eq_true rfl) ⟨Nat.le_of_ble_eq_true rfl, Nat.le_of_ble_eq_true rfl⟩ ⟨Nat.le_of_ble_eq_true rfl, Nat.le_of_ble_eq_true rfl⟩ dX5_init_9 (fun w1 H locs hw hP hD hS => ?_)
  obtain ⟨q12_q5, q36_q5, q44_q5, rfl⟩ := hw
  have hP : va_P D vwCl [(x, .inr (5, [.null, .null, .null, .null, .null, .null])), (q5, .inr (1, [.int 0, .int 40000, .int 0, .int 0, .int 0, .int 0, .int 0, .int 0, .ref q12_q5, .ref q36_q5, .ref q44_q5])), aI cI q12_q5 3 (upd (upd (upd (fun _ => 0) 0 120) 1 40) 2 1500), aI cI q36_q5 7 (fun _ => 0), aI cI q44_q5 60 (fun _ => 0)] H := hP
  have hD : va_D A [(x, .inr (5, [.null, .null, .null, .null, .null, .null])), (q5, .inr (1, [.int 0, .int 40000, .int 0, .int 0, .int 0, .int 0, .int 0, .int 0, .ref q12_q5, .ref q36_q5, .ref q44_q5])), aI cI q12_q5 3 (upd (upd (upd (fun _ => 0) 0 120) 1 40) 2 1500), aI cI q36_q5 7 (fun _ => 0), aI cI q44_q5 60 (fun _ => 0)] := hD
  refine ag_finX5 hx hb hG hown hmn hK hP hD hS 0 0 rfl (by decide) k_176 (by decide) rfl rfl (Nat.le_of_ble_eq_true rfl) dX5_init_12 (fun H locs hP hD hS => ?_)
  have hP : va_P D vwCl [(x, .inr (5, [.ref q5, .null, .null, .null, .null, .null])), (q5, .inr (1, [.int 0, .int 40000, .int 0, .int 0, .int 0, .int 0, .int 0, .int 0, .ref q12_q5, .ref q36_q5, .ref q44_q5])), aI cI q12_q5 3 (upd (upd (upd (fun _ => 0) 0 120) 1 40) 2 1500), aI cI q36_q5 7 (fun _ => 0), aI cI q44_q5 60 (fun _ => 0)] H := hP
  have hD : va_D A [(x, .inr (5, [.ref q5, .null, .null, .null, .null, .null])), (q5, .inr (1, [.int 0, .int 40000, .int 0, .int 0, .int 0, .int 0, .int 0, .int 0, .ref q12_q5, .ref q36_q5, .ref q44_q5])), aI cI q12_q5 3 (upd (upd (upd (fun _ => 0) 0 120) 1 40) 2 1500), aI cI q36_q5 7 (fun _ => 0), aI cI q44_q5 60 (fun _ => 0)] := hD
  refine lv_aload_n hx hb dX5_init_15 rfl (lv_at hl 0 rfl) ?_
  refine ag_newX1 hx hb hG hown k_23 k_24 k_8 hK hP hD hS hA (Nat.le_of_ble_eq_true rfl) (Nat.le_of_ble_eq_true rfl) dX5_init_16 (fun q16 H hP hD hS => ?_)
  have hP : va_P D vwCl [(x, .inr (5, [.ref q5, .null, .null, .null, .null, .null])), (q5, .inr (1, [.int 0, .int 40000, .int 0, .int 0, .int 0, .int 0, .int 0, .int 0, .ref q12_q5, .ref q36_q5, .ref q44_q5])), aI cI q12_q5 3 (upd (upd (upd (fun _ => 0) 0 120) 1 40) 2 1500), aI cI q36_q5 7 (fun _ => 0), aI cI q44_q5 60 (fun _ => 0), (q16, .inr (1, [.int 0, .int 0, .int 0, .int 0, .int 0, .int 0, .int 0, .int 0, .null, .null, .null]))] H := hP
  have hD : va_D A [(x, .inr (5, [.ref q5, .null, .null, .null, .null, .null])), (q5, .inr (1, [.int 0, .int 40000, .int 0, .int 0, .int 0, .int 0, .int 0, .int 0, .ref q12_q5, .ref q36_q5, .ref q44_q5])), aI cI q12_q5 3 (upd (upd (upd (fun _ => 0) 0 120) 1 40) 2 1500), aI cI q36_q5 7 (fun _ => 0), aI cI q44_q5 60 (fun _ => 0), (q16, .inr (1, [.int 0, .int 0, .int 0, .int 0, .int 0, .int 0, .int 0, .int 0, .null, .null, .null]))] := hD
  refine lv_dup hx hb dX5_init_19 rfl ?_
  refine ag_callNC (pre := [(x, .inr (5, [.ref q5, .null, .null, .null, .null, .null])), (q5, .inr (1, [.int 0, .int 40000, .int 0, .int 0, .int 0, .int 0, .int 0, .int 0, .ref q12_q5, .ref q36_q5, .ref q44_q5])), aI cI q12_q5 3 (upd (upd (upd (fun _ => 0) 0 120) 1 40) 2 1500), aI cI q36_q5 7 (fun _ => 0), aI cI q44_q5 60 (fun _ => 0)]) hx hb hml hown hG hK hO hN hA hP hD hS hl (ct_X1_init l D cI cC cL q16) k_27 k_26 k_8 (by decide) rfl hN.1.1 (Nat.le_of_ble_eq_true rfl) ⟨Nat.le_of_ble_eq_true rfl, Nat.le_of_ble_eq_true rfl⟩ ⟨Nat.le_of_ble_eq_true rfl, Nat.le_of_ble_eq_true rfl⟩ dX5_init_20 (fun w1 H locs hw hP hD hS => ?_)
  obtain ⟨q12_q16, q36_q16, q44_q16, rfl⟩ := hw
  have hP : va_P D vwCl [(x, .inr (5, [.ref q5, .null, .null, .null, .null, .null])), (q5, .inr (1, [.int 0, .int 40000, .int 0, .int 0, .int 0, .int 0, .int 0, .int 0, .ref q12_q5, .ref q36_q5, .ref q44_q5])), aI cI q12_q5 3 (upd (upd (upd (fun _ => 0) 0 120) 1 40) 2 1500), aI cI q36_q5 7 (fun _ => 0), aI cI q44_q5 60 (fun _ => 0), (q16, .inr (1, [.int 0, .int 40000, .int 0, .int 0, .int 0, .int 0, .int 0, .int 0, .ref q12_q16, .ref q36_q16, .ref q44_q16])), aI cI q12_q16 3 (upd (upd (upd (fun _ => 0) 0 120) 1 40) 2 1500), aI cI q36_q16 7 (fun _ => 0), aI cI q44_q16 60 (fun _ => 0)] H := hP
  have hD : va_D A [(x, .inr (5, [.ref q5, .null, .null, .null, .null, .null])), (q5, .inr (1, [.int 0, .int 40000, .int 0, .int 0, .int 0, .int 0, .int 0, .int 0, .ref q12_q5, .ref q36_q5, .ref q44_q5])), aI cI q12_q5 3 (upd (upd (upd (fun _ => 0) 0 120) 1 40) 2 1500), aI cI q36_q5 7 (fun _ => 0), aI cI q44_q5 60 (fun _ => 0), (q16, .inr (1, [.int 0, .int 40000, .int 0, .int 0, .int 0, .int 0, .int 0, .int 0, .ref q12_q16, .ref q36_q16, .ref q44_q16])), aI cI q12_q16 3 (upd (upd (upd (fun _ => 0) 0 120) 1 40) 2 1500), aI cI q36_q16 7 (fun _ => 0), aI cI q44_q16 60 (fun _ => 0)] := hD
  refine ag_finX5 hx hb hG hown hmn hK hP hD hS 0 1 rfl (by decide) k_177 (by decide) rfl rfl (Nat.le_of_ble_eq_true rfl) dX5_init_23 (fun H locs hP hD hS => ?_)
  have hP : va_P D vwCl [(x, .inr (5, [.ref q5, .ref q16, .null, .null, .null, .null])), (q5, .inr (1, [.int 0, .int 40000, .int 0, .int 0, .int 0, .int 0, .int 0, .int 0, .ref q12_q5, .ref q36_q5, .ref q44_q5])), aI cI q12_q5 3 (upd (upd (upd (fun _ => 0) 0 120) 1 40) 2 1500), aI cI q36_q5 7 (fun _ => 0), aI cI q44_q5 60 (fun _ => 0), (q16, .inr (1, [.int 0, .int 40000, .int 0, .int 0, .int 0, .int 0, .int 0, .int 0, .ref q12_q16, .ref q36_q16, .ref q44_q16])), aI cI q12_q16 3 (upd (upd (upd (fun _ => 0) 0 120) 1 40) 2 1500), aI cI q36_q16 7 (fun _ => 0), aI cI q44_q16 60 (fun _ => 0)] H := hP
  have hD : va_D A [(x, .inr (5, [.ref q5, .ref q16, .null, .null, .null, .null])), (q5, .inr (1, [.int 0, .int 40000, .int 0, .int 0, .int 0, .int 0, .int 0, .int 0, .ref q12_q5, .ref q36_q5, .ref q44_q5])), aI cI q12_q5 3 (upd (upd (upd (fun _ => 0) 0 120) 1 40) 2 1500), aI cI q36_q5 7 (fun _ => 0), aI cI q44_q5 60 (fun _ => 0), (q16, .inr (1, [.int 0, .int 40000, .int 0, .int 0, .int 0, .int 0, .int 0, .int 0, .ref q12_q16, .ref q36_q16, .ref q44_q16])), aI cI q12_q16 3 (upd (upd (upd (fun _ => 0) 0 120) 1 40) 2 1500), aI cI q36_q16 7 (fun _ => 0), aI cI q44_q16 60 (fun _ => 0)] := hD
  refine lv_aload_n hx hb dX5_init_26 rfl (lv_at hl 0 rfl) ?_
  refine ag_newX4 hx hb hG hown k_80 k_81 k_9 hK hP hD hS hA (Nat.le_of_ble_eq_true rfl) (Nat.le_of_ble_eq_true rfl) dX5_init_27 (fun q27 H hP hD hS => ?_)
  have hP : va_P D vwCl [(x, .inr (5, [.ref q5, .ref q16, .null, .null, .null, .null])), (q5, .inr (1, [.int 0, .int 40000, .int 0, .int 0, .int 0, .int 0, .int 0, .int 0, .ref q12_q5, .ref q36_q5, .ref q44_q5])), aI cI q12_q5 3 (upd (upd (upd (fun _ => 0) 0 120) 1 40) 2 1500), aI cI q36_q5 7 (fun _ => 0), aI cI q44_q5 60 (fun _ => 0), (q16, .inr (1, [.int 0, .int 40000, .int 0, .int 0, .int 0, .int 0, .int 0, .int 0, .ref q12_q16, .ref q36_q16, .ref q44_q16])), aI cI q12_q16 3 (upd (upd (upd (fun _ => 0) 0 120) 1 40) 2 1500), aI cI q36_q16 7 (fun _ => 0), aI cI q44_q16 60 (fun _ => 0), (q27, .inr (4, [.int 0, .int 0, .int 0, .int 0, .int 0, .int 0, .int 0]))] H := hP
  have hD : va_D A [(x, .inr (5, [.ref q5, .ref q16, .null, .null, .null, .null])), (q5, .inr (1, [.int 0, .int 40000, .int 0, .int 0, .int 0, .int 0, .int 0, .int 0, .ref q12_q5, .ref q36_q5, .ref q44_q5])), aI cI q12_q5 3 (upd (upd (upd (fun _ => 0) 0 120) 1 40) 2 1500), aI cI q36_q5 7 (fun _ => 0), aI cI q44_q5 60 (fun _ => 0), (q16, .inr (1, [.int 0, .int 40000, .int 0, .int 0, .int 0, .int 0, .int 0, .int 0, .ref q12_q16, .ref q36_q16, .ref q44_q16])), aI cI q12_q16 3 (upd (upd (upd (fun _ => 0) 0 120) 1 40) 2 1500), aI cI q36_q16 7 (fun _ => 0), aI cI q44_q16 60 (fun _ => 0), (q27, .inr (4, [.int 0, .int 0, .int 0, .int 0, .int 0, .int 0, .int 0]))] := hD
  refine lv_dup hx hb dX5_init_30 rfl ?_
  refine ag_callNC (pre := [(x, .inr (5, [.ref q5, .ref q16, .null, .null, .null, .null])), (q5, .inr (1, [.int 0, .int 40000, .int 0, .int 0, .int 0, .int 0, .int 0, .int 0, .ref q12_q5, .ref q36_q5, .ref q44_q5])), aI cI q12_q5 3 (upd (upd (upd (fun _ => 0) 0 120) 1 40) 2 1500), aI cI q36_q5 7 (fun _ => 0), aI cI q44_q5 60 (fun _ => 0), (q16, .inr (1, [.int 0, .int 40000, .int 0, .int 0, .int 0, .int 0, .int 0, .int 0, .ref q12_q16, .ref q36_q16, .ref q44_q16])), aI cI q12_q16 3 (upd (upd (upd (fun _ => 0) 0 120) 1 40) 2 1500), aI cI q36_q16 7 (fun _ => 0), aI cI q44_q16 60 (fun _ => 0)]) hx hb hml hown hG hK hO hN hA hP hD hS hl (ct_X4_init l D cI cC cL q27) k_84 k_83 k_9 (by decide) rfl hN.1.2.1 (Nat.le_of_ble_eq_true rfl) ⟨Nat.le_of_ble_eq_true rfl, Nat.le_of_ble_eq_true rfl⟩ ⟨Nat.le_of_ble_eq_true rfl, Nat.le_of_ble_eq_true rfl⟩ dX5_init_31 (fun w1 H locs hw hP hD hS => ?_)
  obtain rfl := hw
  have hP : va_P D vwCl [(x, .inr (5, [.ref q5, .ref q16, .null, .null, .null, .null])), (q5, .inr (1, [.int 0, .int 40000, .int 0, .int 0, .int 0, .int 0, .int 0, .int 0, .ref q12_q5, .ref q36_q5, .ref q44_q5])), aI cI q12_q5 3 (upd (upd (upd (fun _ => 0) 0 120) 1 40) 2 1500), aI cI q36_q5 7 (fun _ => 0), aI cI q44_q5 60 (fun _ => 0), (q16, .inr (1, [.int 0, .int 40000, .int 0, .int 0, .int 0, .int 0, .int 0, .int 0, .ref q12_q16, .ref q36_q16, .ref q44_q16])), aI cI q12_q16 3 (upd (upd (upd (fun _ => 0) 0 120) 1 40) 2 1500), aI cI q36_q16 7 (fun _ => 0), aI cI q44_q16 60 (fun _ => 0), (q27, .inr (4, [.int 0, .int 0, .int 0, .int 0, .int 0, .int 0, .int 0]))] H := hP
  have hD : va_D A [(x, .inr (5, [.ref q5, .ref q16, .null, .null, .null, .null])), (q5, .inr (1, [.int 0, .int 40000, .int 0, .int 0, .int 0, .int 0, .int 0, .int 0, .ref q12_q5, .ref q36_q5, .ref q44_q5])), aI cI q12_q5 3 (upd (upd (upd (fun _ => 0) 0 120) 1 40) 2 1500), aI cI q36_q5 7 (fun _ => 0), aI cI q44_q5 60 (fun _ => 0), (q16, .inr (1, [.int 0, .int 40000, .int 0, .int 0, .int 0, .int 0, .int 0, .int 0, .ref q12_q16, .ref q36_q16, .ref q44_q16])), aI cI q12_q16 3 (upd (upd (upd (fun _ => 0) 0 120) 1 40) 2 1500), aI cI q36_q16 7 (fun _ => 0), aI cI q44_q16 60 (fun _ => 0), (q27, .inr (4, [.int 0, .int 0, .int 0, .int 0, .int 0, .int 0, .int 0]))] := hD
  refine ag_finX5 hx hb hG hown hmn hK hP hD hS 0 2 rfl (by decide) k_178 (by decide) rfl rfl (Nat.le_of_ble_eq_true rfl) dX5_init_34 (fun H locs hP hD hS => ?_)
  have hP : va_P D vwCl [(x, .inr (5, [.ref q5, .ref q16, .ref q27, .null, .null, .null])), (q5, .inr (1, [.int 0, .int 40000, .int 0, .int 0, .int 0, .int 0, .int 0, .int 0, .ref q12_q5, .ref q36_q5, .ref q44_q5])), aI cI q12_q5 3 (upd (upd (upd (fun _ => 0) 0 120) 1 40) 2 1500), aI cI q36_q5 7 (fun _ => 0), aI cI q44_q5 60 (fun _ => 0), (q16, .inr (1, [.int 0, .int 40000, .int 0, .int 0, .int 0, .int 0, .int 0, .int 0, .ref q12_q16, .ref q36_q16, .ref q44_q16])), aI cI q12_q16 3 (upd (upd (upd (fun _ => 0) 0 120) 1 40) 2 1500), aI cI q36_q16 7 (fun _ => 0), aI cI q44_q16 60 (fun _ => 0), (q27, .inr (4, [.int 0, .int 0, .int 0, .int 0, .int 0, .int 0, .int 0]))] H := hP
  have hD : va_D A [(x, .inr (5, [.ref q5, .ref q16, .ref q27, .null, .null, .null])), (q5, .inr (1, [.int 0, .int 40000, .int 0, .int 0, .int 0, .int 0, .int 0, .int 0, .ref q12_q5, .ref q36_q5, .ref q44_q5])), aI cI q12_q5 3 (upd (upd (upd (fun _ => 0) 0 120) 1 40) 2 1500), aI cI q36_q5 7 (fun _ => 0), aI cI q44_q5 60 (fun _ => 0), (q16, .inr (1, [.int 0, .int 40000, .int 0, .int 0, .int 0, .int 0, .int 0, .int 0, .ref q12_q16, .ref q36_q16, .ref q44_q16])), aI cI q12_q16 3 (upd (upd (upd (fun _ => 0) 0 120) 1 40) 2 1500), aI cI q36_q16 7 (fun _ => 0), aI cI q44_q16 60 (fun _ => 0), (q27, .inr (4, [.int 0, .int 0, .int 0, .int 0, .int 0, .int 0, .int 0]))] := hD
  refine lv_aload_n hx hb dX5_init_37 rfl (lv_at hl 0 rfl) ?_
  refine ag_newX0 hx hb hG hown k_119 k_120 k_10 hK hP hD hS hA (Nat.le_of_ble_eq_true rfl) (Nat.le_of_ble_eq_true rfl) dX5_init_38 (fun q38 H hP hD hS => ?_)
  have hP : va_P D vwCl [(x, .inr (5, [.ref q5, .ref q16, .ref q27, .null, .null, .null])), (q5, .inr (1, [.int 0, .int 40000, .int 0, .int 0, .int 0, .int 0, .int 0, .int 0, .ref q12_q5, .ref q36_q5, .ref q44_q5])), aI cI q12_q5 3 (upd (upd (upd (fun _ => 0) 0 120) 1 40) 2 1500), aI cI q36_q5 7 (fun _ => 0), aI cI q44_q5 60 (fun _ => 0), (q16, .inr (1, [.int 0, .int 40000, .int 0, .int 0, .int 0, .int 0, .int 0, .int 0, .ref q12_q16, .ref q36_q16, .ref q44_q16])), aI cI q12_q16 3 (upd (upd (upd (fun _ => 0) 0 120) 1 40) 2 1500), aI cI q36_q16 7 (fun _ => 0), aI cI q44_q16 60 (fun _ => 0), (q27, .inr (4, [.int 0, .int 0, .int 0, .int 0, .int 0, .int 0, .int 0])), (q38, .inr (0, [.null, .int 0, .int 0]))] H := hP
  have hD : va_D A [(x, .inr (5, [.ref q5, .ref q16, .ref q27, .null, .null, .null])), (q5, .inr (1, [.int 0, .int 40000, .int 0, .int 0, .int 0, .int 0, .int 0, .int 0, .ref q12_q5, .ref q36_q5, .ref q44_q5])), aI cI q12_q5 3 (upd (upd (upd (fun _ => 0) 0 120) 1 40) 2 1500), aI cI q36_q5 7 (fun _ => 0), aI cI q44_q5 60 (fun _ => 0), (q16, .inr (1, [.int 0, .int 40000, .int 0, .int 0, .int 0, .int 0, .int 0, .int 0, .ref q12_q16, .ref q36_q16, .ref q44_q16])), aI cI q12_q16 3 (upd (upd (upd (fun _ => 0) 0 120) 1 40) 2 1500), aI cI q36_q16 7 (fun _ => 0), aI cI q44_q16 60 (fun _ => 0), (q27, .inr (4, [.int 0, .int 0, .int 0, .int 0, .int 0, .int 0, .int 0])), (q38, .inr (0, [.null, .int 0, .int 0]))] := hD
  refine lv_dup hx hb dX5_init_41 rfl ?_
  refine ag_callNC (pre := [(x, .inr (5, [.ref q5, .ref q16, .ref q27, .null, .null, .null])), (q5, .inr (1, [.int 0, .int 40000, .int 0, .int 0, .int 0, .int 0, .int 0, .int 0, .ref q12_q5, .ref q36_q5, .ref q44_q5])), aI cI q12_q5 3 (upd (upd (upd (fun _ => 0) 0 120) 1 40) 2 1500), aI cI q36_q5 7 (fun _ => 0), aI cI q44_q5 60 (fun _ => 0), (q16, .inr (1, [.int 0, .int 40000, .int 0, .int 0, .int 0, .int 0, .int 0, .int 0, .ref q12_q16, .ref q36_q16, .ref q44_q16])), aI cI q12_q16 3 (upd (upd (upd (fun _ => 0) 0 120) 1 40) 2 1500), aI cI q36_q16 7 (fun _ => 0), aI cI q44_q16 60 (fun _ => 0), (q27, .inr (4, [.int 0, .int 0, .int 0, .int 0, .int 0, .int 0, .int 0]))]) hx hb hml hown hG hK hO hN hA hP hD hS hl (ct_X0_init l D cI cC cL q38) k_123 k_122 k_10 (by decide) rfl hN.1.2.2.1 (Nat.le_of_ble_eq_true rfl) ⟨Nat.le_of_ble_eq_true rfl, Nat.le_of_ble_eq_true rfl⟩ ⟨Nat.le_of_ble_eq_true rfl, Nat.le_of_ble_eq_true rfl⟩ dX5_init_42 (fun w1 H locs hw hP hD hS => ?_)
  obtain ⟨q6_q38, q11_q38, q12_q11_q38, q36_q11_q38, q44_q11_q38, q21_q38, q12_q21_q38, q36_q21_q38, q44_q21_q38, q31_q38, q12_q31_q38, q36_q31_q38, q44_q31_q38, q41_q38, q12_q41_q38, q36_q41_q38, q44_q41_q38, rfl⟩ := hw
  have hP : va_P D vwCl [(x, .inr (5, [.ref q5, .ref q16, .ref q27, .null, .null, .null])), (q5, .inr (1, [.int 0, .int 40000, .int 0, .int 0, .int 0, .int 0, .int 0, .int 0, .ref q12_q5, .ref q36_q5, .ref q44_q5])), aI cI q12_q5 3 (upd (upd (upd (fun _ => 0) 0 120) 1 40) 2 1500), aI cI q36_q5 7 (fun _ => 0), aI cI q44_q5 60 (fun _ => 0), (q16, .inr (1, [.int 0, .int 40000, .int 0, .int 0, .int 0, .int 0, .int 0, .int 0, .ref q12_q16, .ref q36_q16, .ref q44_q16])), aI cI q12_q16 3 (upd (upd (upd (fun _ => 0) 0 120) 1 40) 2 1500), aI cI q36_q16 7 (fun _ => 0), aI cI q44_q16 60 (fun _ => 0), (q27, .inr (4, [.int 0, .int 0, .int 0, .int 0, .int 0, .int 0, .int 0])), (q38, .inr (0, [.ref q6_q38, .int 0, .int 0])), aL cL q6_q38 (gS q11_q38 q21_q38 q31_q38 q41_q38), (q11_q38, .inr (1, [.int 0, .int 40000, .int 0, .int 0, .int 0, .int 0, .int 0, .int 0, .ref q12_q11_q38, .ref q36_q11_q38, .ref q44_q11_q38])), aI cI q12_q11_q38 3 (upd (upd (upd (fun _ => 0) 0 120) 1 40) 2 1500), aI cI q36_q11_q38 7 (fun _ => 0), aI cI q44_q11_q38 60 (fun _ => 0), (q21_q38, .inr (1, [.int 0, .int 40000, .int 0, .int 0, .int 0, .int 0, .int 0, .int 0, .ref q12_q21_q38, .ref q36_q21_q38, .ref q44_q21_q38])), aI cI q12_q21_q38 3 (upd (upd (upd (fun _ => 0) 0 120) 1 40) 2 1500), aI cI q36_q21_q38 7 (fun _ => 0), aI cI q44_q21_q38 60 (fun _ => 0), (q31_q38, .inr (1, [.int 0, .int 40000, .int 0, .int 0, .int 0, .int 0, .int 0, .int 0, .ref q12_q31_q38, .ref q36_q31_q38, .ref q44_q31_q38])), aI cI q12_q31_q38 3 (upd (upd (upd (fun _ => 0) 0 120) 1 40) 2 1500), aI cI q36_q31_q38 7 (fun _ => 0), aI cI q44_q31_q38 60 (fun _ => 0), (q41_q38, .inr (1, [.int 0, .int 40000, .int 0, .int 0, .int 0, .int 0, .int 0, .int 0, .ref q12_q41_q38, .ref q36_q41_q38, .ref q44_q41_q38])), aI cI q12_q41_q38 3 (upd (upd (upd (fun _ => 0) 0 120) 1 40) 2 1500), aI cI q36_q41_q38 7 (fun _ => 0), aI cI q44_q41_q38 60 (fun _ => 0)] H := hP
  have hD : va_D A [(x, .inr (5, [.ref q5, .ref q16, .ref q27, .null, .null, .null])), (q5, .inr (1, [.int 0, .int 40000, .int 0, .int 0, .int 0, .int 0, .int 0, .int 0, .ref q12_q5, .ref q36_q5, .ref q44_q5])), aI cI q12_q5 3 (upd (upd (upd (fun _ => 0) 0 120) 1 40) 2 1500), aI cI q36_q5 7 (fun _ => 0), aI cI q44_q5 60 (fun _ => 0), (q16, .inr (1, [.int 0, .int 40000, .int 0, .int 0, .int 0, .int 0, .int 0, .int 0, .ref q12_q16, .ref q36_q16, .ref q44_q16])), aI cI q12_q16 3 (upd (upd (upd (fun _ => 0) 0 120) 1 40) 2 1500), aI cI q36_q16 7 (fun _ => 0), aI cI q44_q16 60 (fun _ => 0), (q27, .inr (4, [.int 0, .int 0, .int 0, .int 0, .int 0, .int 0, .int 0])), (q38, .inr (0, [.ref q6_q38, .int 0, .int 0])), aL cL q6_q38 (gS q11_q38 q21_q38 q31_q38 q41_q38), (q11_q38, .inr (1, [.int 0, .int 40000, .int 0, .int 0, .int 0, .int 0, .int 0, .int 0, .ref q12_q11_q38, .ref q36_q11_q38, .ref q44_q11_q38])), aI cI q12_q11_q38 3 (upd (upd (upd (fun _ => 0) 0 120) 1 40) 2 1500), aI cI q36_q11_q38 7 (fun _ => 0), aI cI q44_q11_q38 60 (fun _ => 0), (q21_q38, .inr (1, [.int 0, .int 40000, .int 0, .int 0, .int 0, .int 0, .int 0, .int 0, .ref q12_q21_q38, .ref q36_q21_q38, .ref q44_q21_q38])), aI cI q12_q21_q38 3 (upd (upd (upd (fun _ => 0) 0 120) 1 40) 2 1500), aI cI q36_q21_q38 7 (fun _ => 0), aI cI q44_q21_q38 60 (fun _ => 0), (q31_q38, .inr (1, [.int 0, .int 40000, .int 0, .int 0, .int 0, .int 0, .int 0, .int 0, .ref q12_q31_q38, .ref q36_q31_q38, .ref q44_q31_q38])), aI cI q12_q31_q38 3 (upd (upd (upd (fun _ => 0) 0 120) 1 40) 2 1500), aI cI q36_q31_q38 7 (fun _ => 0), aI cI q44_q31_q38 60 (fun _ => 0), (q41_q38, .inr (1, [.int 0, .int 40000, .int 0, .int 0, .int 0, .int 0, .int 0, .int 0, .ref q12_q41_q38, .ref q36_q41_q38, .ref q44_q41_q38])), aI cI q12_q41_q38 3 (upd (upd (upd (fun _ => 0) 0 120) 1 40) 2 1500), aI cI q36_q41_q38 7 (fun _ => 0), aI cI q44_q41_q38 60 (fun _ => 0)] := hD
  refine ag_finX5 hx hb hG hown hmn hK hP hD hS 0 3 rfl (by decide) k_179 (by decide) rfl rfl (Nat.le_of_ble_eq_true rfl) dX5_init_45 (fun H locs hP hD hS => ?_)
  have hP : va_P D vwCl [(x, .inr (5, [.ref q5, .ref q16, .ref q27, .ref q38, .null, .null])), (q5, .inr (1, [.int 0, .int 40000, .int 0, .int 0, .int 0, .int 0, .int 0, .int 0, .ref q12_q5, .ref q36_q5, .ref q44_q5])), aI cI q12_q5 3 (upd (upd (upd (fun _ => 0) 0 120) 1 40) 2 1500), aI cI q36_q5 7 (fun _ => 0), aI cI q44_q5 60 (fun _ => 0), (q16, .inr (1, [.int 0, .int 40000, .int 0, .int 0, .int 0, .int 0, .int 0, .int 0, .ref q12_q16, .ref q36_q16, .ref q44_q16])), aI cI q12_q16 3 (upd (upd (upd (fun _ => 0) 0 120) 1 40) 2 1500), aI cI q36_q16 7 (fun _ => 0), aI cI q44_q16 60 (fun _ => 0), (q27, .inr (4, [.int 0, .int 0, .int 0, .int 0, .int 0, .int 0, .int 0])), (q38, .inr (0, [.ref q6_q38, .int 0, .int 0])), aL cL q6_q38 (gS q11_q38 q21_q38 q31_q38 q41_q38), (q11_q38, .inr (1, [.int 0, .int 40000, .int 0, .int 0, .int 0, .int 0, .int 0, .int 0, .ref q12_q11_q38, .ref q36_q11_q38, .ref q44_q11_q38])), aI cI q12_q11_q38 3 (upd (upd (upd (fun _ => 0) 0 120) 1 40) 2 1500), aI cI q36_q11_q38 7 (fun _ => 0), aI cI q44_q11_q38 60 (fun _ => 0), (q21_q38, .inr (1, [.int 0, .int 40000, .int 0, .int 0, .int 0, .int 0, .int 0, .int 0, .ref q12_q21_q38, .ref q36_q21_q38, .ref q44_q21_q38])), aI cI q12_q21_q38 3 (upd (upd (upd (fun _ => 0) 0 120) 1 40) 2 1500), aI cI q36_q21_q38 7 (fun _ => 0), aI cI q44_q21_q38 60 (fun _ => 0), (q31_q38, .inr (1, [.int 0, .int 40000, .int 0, .int 0, .int 0, .int 0, .int 0, .int 0, .ref q12_q31_q38, .ref q36_q31_q38, .ref q44_q31_q38])), aI cI q12_q31_q38 3 (upd (upd (upd (fun _ => 0) 0 120) 1 40) 2 1500), aI cI q36_q31_q38 7 (fun _ => 0), aI cI q44_q31_q38 60 (fun _ => 0), (q41_q38, .inr (1, [.int 0, .int 40000, .int 0, .int 0, .int 0, .int 0, .int 0, .int 0, .ref q12_q41_q38, .ref q36_q41_q38, .ref q44_q41_q38])), aI cI q12_q41_q38 3 (upd (upd (upd (fun _ => 0) 0 120) 1 40) 2 1500), aI cI q36_q41_q38 7 (fun _ => 0), aI cI q44_q41_q38 60 (fun _ => 0)] H := hP
  have hD : va_D A [(x, .inr (5, [.ref q5, .ref q16, .ref q27, .ref q38, .null, .null])), (q5, .inr (1, [.int 0, .int 40000, .int 0, .int 0, .int 0, .int 0, .int 0, .int 0, .ref q12_q5, .ref q36_q5, .ref q44_q5])), aI cI q12_q5 3 (upd (upd (upd (fun _ => 0) 0 120) 1 40) 2 1500), aI cI q36_q5 7 (fun _ => 0), aI cI q44_q5 60 (fun _ => 0), (q16, .inr (1, [.int 0, .int 40000, .int 0, .int 0, .int 0, .int 0, .int 0, .int 0, .ref q12_q16, .ref q36_q16, .ref q44_q16])), aI cI q12_q16 3 (upd (upd (upd (fun _ => 0) 0 120) 1 40) 2 1500), aI cI q36_q16 7 (fun _ => 0), aI cI q44_q16 60 (fun _ => 0), (q27, .inr (4, [.int 0, .int 0, .int 0, .int 0, .int 0, .int 0, .int 0])), (q38, .inr (0, [.ref q6_q38, .int 0, .int 0])), aL cL q6_q38 (gS q11_q38 q21_q38 q31_q38 q41_q38), (q11_q38, .inr (1, [.int 0, .int 40000, .int 0, .int 0, .int 0, .int 0, .int 0, .int 0, .ref q12_q11_q38, .ref q36_q11_q38, .ref q44_q11_q38])), aI cI q12_q11_q38 3 (upd (upd (upd (fun _ => 0) 0 120) 1 40) 2 1500), aI cI q36_q11_q38 7 (fun _ => 0), aI cI q44_q11_q38 60 (fun _ => 0), (q21_q38, .inr (1, [.int 0, .int 40000, .int 0, .int 0, .int 0, .int 0, .int 0, .int 0, .ref q12_q21_q38, .ref q36_q21_q38, .ref q44_q21_q38])), aI cI q12_q21_q38 3 (upd (upd (upd (fun _ => 0) 0 120) 1 40) 2 1500), aI cI q36_q21_q38 7 (fun _ => 0), aI cI q44_q21_q38 60 (fun _ => 0), (q31_q38, .inr (1, [.int 0, .int 40000, .int 0, .int 0, .int 0, .int 0, .int 0, .int 0, .ref q12_q31_q38, .ref q36_q31_q38, .ref q44_q31_q38])), aI cI q12_q31_q38 3 (upd (upd (upd (fun _ => 0) 0 120) 1 40) 2 1500), aI cI q36_q31_q38 7 (fun _ => 0), aI cI q44_q31_q38 60 (fun _ => 0), (q41_q38, .inr (1, [.int 0, .int 40000, .int 0, .int 0, .int 0, .int 0, .int 0, .int 0, .ref q12_q41_q38, .ref q36_q41_q38, .ref q44_q41_q38])), aI cI q12_q41_q38 3 (upd (upd (upd (fun _ => 0) 0 120) 1 40) 2 1500), aI cI q36_q41_q38 7 (fun _ => 0), aI cI q44_q41_q38 60 (fun _ => 0)] := hD
  refine lv_aload_n hx hb dX5_init_48 rfl (lv_at hl 0 rfl) ?_
  refine ag_newX3 hx hb hG hown k_139 k_140 k_11 hK hP hD hS hA (Nat.le_of_ble_eq_true rfl) (Nat.le_of_ble_eq_true rfl) dX5_init_49 (fun q49 H hP hD hS => ?_)
  have hP : va_P D vwCl [(x, .inr (5, [.ref q5, .ref q16, .ref q27, .ref q38, .null, .null])), (q5, .inr (1, [.int 0, .int 40000, .int 0, .int 0, .int 0, .int 0, .int 0, .int 0, .ref q12_q5, .ref q36_q5, .ref q44_q5])), aI cI q12_q5 3 (upd (upd (upd (fun _ => 0) 0 120) 1 40) 2 1500), aI cI q36_q5 7 (fun _ => 0), aI cI q44_q5 60 (fun _ => 0), (q16, .inr (1, [.int 0, .int 40000, .int 0, .int 0, .int 0, .int 0, .int 0, .int 0, .ref q12_q16, .ref q36_q16, .ref q44_q16])), aI cI q12_q16 3 (upd (upd (upd (fun _ => 0) 0 120) 1 40) 2 1500), aI cI q36_q16 7 (fun _ => 0), aI cI q44_q16 60 (fun _ => 0), (q27, .inr (4, [.int 0, .int 0, .int 0, .int 0, .int 0, .int 0, .int 0])), (q38, .inr (0, [.ref q6_q38, .int 0, .int 0])), aL cL q6_q38 (gS q11_q38 q21_q38 q31_q38 q41_q38), (q11_q38, .inr (1, [.int 0, .int 40000, .int 0, .int 0, .int 0, .int 0, .int 0, .int 0, .ref q12_q11_q38, .ref q36_q11_q38, .ref q44_q11_q38])), aI cI q12_q11_q38 3 (upd (upd (upd (fun _ => 0) 0 120) 1 40) 2 1500), aI cI q36_q11_q38 7 (fun _ => 0), aI cI q44_q11_q38 60 (fun _ => 0), (q21_q38, .inr (1, [.int 0, .int 40000, .int 0, .int 0, .int 0, .int 0, .int 0, .int 0, .ref q12_q21_q38, .ref q36_q21_q38, .ref q44_q21_q38])), aI cI q12_q21_q38 3 (upd (upd (upd (fun _ => 0) 0 120) 1 40) 2 1500), aI cI q36_q21_q38 7 (fun _ => 0), aI cI q44_q21_q38 60 (fun _ => 0), (q31_q38, .inr (1, [.int 0, .int 40000, .int 0, .int 0, .int 0, .int 0, .int 0, .int 0, .ref q12_q31_q38, .ref q36_q31_q38, .ref q44_q31_q38])), aI cI q12_q31_q38 3 (upd (upd (upd (fun _ => 0) 0 120) 1 40) 2 1500), aI cI q36_q31_q38 7 (fun _ => 0), aI cI q44_q31_q38 60 (fun _ => 0), (q41_q38, .inr (1, [.int 0, .int 40000, .int 0, .int 0, .int 0, .int 0, .int 0, .int 0, .ref q12_q41_q38, .ref q36_q41_q38, .ref q44_q41_q38])), aI cI q12_q41_q38 3 (upd (upd (upd (fun _ => 0) 0 120) 1 40) 2 1500), aI cI q36_q41_q38 7 (fun _ => 0), aI cI q44_q41_q38 60 (fun _ => 0), (q49, .inr (3, [.null, .int 0, .int 0, .int 0, .int 0, .int 0]))] H := hP
  have hD : va_D A [(x, .inr (5, [.ref q5, .ref q16, .ref q27, .ref q38, .null, .null])), (q5, .inr (1, [.int 0, .int 40000, .int 0, .int 0, .int 0, .int 0, .int 0, .int 0, .ref q12_q5, .ref q36_q5, .ref q44_q5])), aI cI q12_q5 3 (upd (upd (upd (fun _ => 0) 0 120) 1 40) 2 1500), aI cI q36_q5 7 (fun _ => 0), aI cI q44_q5 60 (fun _ => 0), (q16, .inr (1, [.int 0, .int 40000, .int 0, .int 0, .int 0, .int 0, .int 0, .int 0, .ref q12_q16, .ref q36_q16, .ref q44_q16])), aI cI q12_q16 3 (upd (upd (upd (fun _ => 0) 0 120) 1 40) 2 1500), aI cI q36_q16 7 (fun _ => 0), aI cI q44_q16 60 (fun _ => 0), (q27, .inr (4, [.int 0, .int 0, .int 0, .int 0, .int 0, .int 0, .int 0])), (q38, .inr (0, [.ref q6_q38, .int 0, .int 0])), aL cL q6_q38 (gS q11_q38 q21_q38 q31_q38 q41_q38), (q11_q38, .inr (1, [.int 0, .int 40000, .int 0, .int 0, .int 0, .int 0, .int 0, .int 0, .ref q12_q11_q38, .ref q36_q11_q38, .ref q44_q11_q38])), aI cI q12_q11_q38 3 (upd (upd (upd (fun _ => 0) 0 120) 1 40) 2 1500), aI cI q36_q11_q38 7 (fun _ => 0), aI cI q44_q11_q38 60 (fun _ => 0), (q21_q38, .inr (1, [.int 0, .int 40000, .int 0, .int 0, .int 0, .int 0, .int 0, .int 0, .ref q12_q21_q38, .ref q36_q21_q38, .ref q44_q21_q38])), aI cI q12_q21_q38 3 (upd (upd (upd (fun _ => 0) 0 120) 1 40) 2 1500), aI cI q36_q21_q38 7 (fun _ => 0), aI cI q44_q21_q38 60 (fun _ => 0), (q31_q38, .inr (1, [.int 0, .int 40000, .int 0, .int 0, .int 0, .int 0, .int 0, .int 0, .ref q12_q31_q38, .ref q36_q31_q38, .ref q44_q31_q38])), aI cI q12_q31_q38 3 (upd (upd (upd (fun _ => 0) 0 120) 1 40) 2 1500), aI cI q36_q31_q38 7 (fun _ => 0), aI cI q44_q31_q38 60 (fun _ => 0), (q41_q38, .inr (1, [.int 0, .int 40000, .int 0, .int 0, .int 0, .int 0, .int 0, .int 0, .ref q12_q41_q38, .ref q36_q41_q38, .ref q44_q41_q38])), aI cI q12_q41_q38 3 (upd (upd (upd (fun _ => 0) 0 120) 1 40) 2 1500), aI cI q36_q41_q38 7 (fun _ => 0), aI cI q44_q41_q38 60 (fun _ => 0), (q49, .inr (3, [.null, .int 0, .int 0, .int 0, .int 0, .int 0]))] := hD
  refine lv_dup hx hb dX5_init_52 rfl ?_
  refine ag_callNC (pre := [(x, .inr (5, [.ref q5, .ref q16, .ref q27, .ref q38, .null, .null])), (q5, .inr (1, [.int 0, .int 40000, .int 0, .int 0, .int 0, .int 0, .int 0, .int 0, .ref q12_q5, .ref q36_q5, .ref q44_q5])), aI cI q12_q5 3 (upd (upd (upd (fun _ => 0) 0 120) 1 40) 2 1500), aI cI q36_q5 7 (fun _ => 0), aI cI q44_q5 60 (fun _ => 0), (q16, .inr (1, [.int 0, .int 40000, .int 0, .int 0, .int 0, .int 0, .int 0, .int 0, .ref q12_q16, .ref q36_q16, .ref q44_q16])), aI cI q12_q16 3 (upd (upd (upd (fun _ => 0) 0 120) 1 40) 2 1500), aI cI q36_q16 7 (fun _ => 0), aI cI q44_q16 60 (fun _ => 0), (q27, .inr (4, [.int 0, .int 0, .int 0, .int 0, .int 0, .int 0, .int 0])), (q38, .inr (0, [.ref q6_q38, .int 0, .int 0])), aL cL q6_q38 (gS q11_q38 q21_q38 q31_q38 q41_q38), (q11_q38, .inr (1, [.int 0, .int 40000, .int 0, .int 0, .int 0, .int 0, .int 0, .int 0, .ref q12_q11_q38, .ref q36_q11_q38, .ref q44_q11_q38])), aI cI q12_q11_q38 3 (upd (upd (upd (fun _ => 0) 0 120) 1 40) 2 1500), aI cI q36_q11_q38 7 (fun _ => 0), aI cI q44_q11_q38 60 (fun _ => 0), (q21_q38, .inr (1, [.int 0, .int 40000, .int 0, .int 0, .int 0, .int 0, .int 0, .int 0, .ref q12_q21_q38, .ref q36_q21_q38, .ref q44_q21_q38])), aI cI q12_q21_q38 3 (upd (upd (upd (fun _ => 0) 0 120) 1 40) 2 1500), aI cI q36_q21_q38 7 (fun _ => 0), aI cI q44_q21_q38 60 (fun _ => 0), (q31_q38, .inr (1, [.int 0, .int 40000, .int 0, .int 0, .int 0, .int 0, .int 0, .int 0, .ref q12_q31_q38, .ref q36_q31_q38, .ref q44_q31_q38])), aI cI q12_q31_q38 3 (upd (upd (upd (fun _ => 0) 0 120) 1 40) 2 1500), aI cI q36_q31_q38 7 (fun _ => 0), aI cI q44_q31_q38 60 (fun _ => 0), (q41_q38, .inr (1, [.int 0, .int 40000, .int 0, .int 0, .int 0, .int 0, .int 0, .int 0, .ref q12_q41_q38, .ref q36_q41_q38, .ref q44_q41_q38])), aI cI q12_q41_q38 3 (upd (upd (upd (fun _ => 0) 0 120) 1 40) 2 1500), aI cI q36_q41_q38 7 (fun _ => 0), aI cI q44_q41_q38 60 (fun _ => 0)]) hx hb hml hown hG hK hO hN hA hP hD hS hl (ct_X3_init l D cI cC cL q49) k_143 k_142 k_11 (by decide) rfl hN.1.2.2.2.2.1 (Nat.le_of_ble_eq_true rfl) ⟨Nat.le_of_ble_eq_true rfl, Nat.le_of_ble_eq_true rfl⟩ ⟨Nat.le_of_ble_eq_true rfl, Nat.le_of_ble_eq_true rfl⟩ dX5_init_53 (fun w1 H locs hw hP hD hS => ?_)
  obtain ⟨q7_q49, rfl⟩ := hw
  have hP : va_P D vwCl [(x, .inr (5, [.ref q5, .ref q16, .ref q27, .ref q38, .null, .null])), (q5, .inr (1, [.int 0, .int 40000, .int 0, .int 0, .int 0, .int 0, .int 0, .int 0, .ref q12_q5, .ref q36_q5, .ref q44_q5])), aI cI q12_q5 3 (upd (upd (upd (fun _ => 0) 0 120) 1 40) 2 1500), aI cI q36_q5 7 (fun _ => 0), aI cI q44_q5 60 (fun _ => 0), (q16, .inr (1, [.int 0, .int 40000, .int 0, .int 0, .int 0, .int 0, .int 0, .int 0, .ref q12_q16, .ref q36_q16, .ref q44_q16])), aI cI q12_q16 3 (upd (upd (upd (fun _ => 0) 0 120) 1 40) 2 1500), aI cI q36_q16 7 (fun _ => 0), aI cI q44_q16 60 (fun _ => 0), (q27, .inr (4, [.int 0, .int 0, .int 0, .int 0, .int 0, .int 0, .int 0])), (q38, .inr (0, [.ref q6_q38, .int 0, .int 0])), aL cL q6_q38 (gS q11_q38 q21_q38 q31_q38 q41_q38), (q11_q38, .inr (1, [.int 0, .int 40000, .int 0, .int 0, .int 0, .int 0, .int 0, .int 0, .ref q12_q11_q38, .ref q36_q11_q38, .ref q44_q11_q38])), aI cI q12_q11_q38 3 (upd (upd (upd (fun _ => 0) 0 120) 1 40) 2 1500), aI cI q36_q11_q38 7 (fun _ => 0), aI cI q44_q11_q38 60 (fun _ => 0), (q21_q38, .inr (1, [.int 0, .int 40000, .int 0, .int 0, .int 0, .int 0, .int 0, .int 0, .ref q12_q21_q38, .ref q36_q21_q38, .ref q44_q21_q38])), aI cI q12_q21_q38 3 (upd (upd (upd (fun _ => 0) 0 120) 1 40) 2 1500), aI cI q36_q21_q38 7 (fun _ => 0), aI cI q44_q21_q38 60 (fun _ => 0), (q31_q38, .inr (1, [.int 0, .int 40000, .int 0, .int 0, .int 0, .int 0, .int 0, .int 0, .ref q12_q31_q38, .ref q36_q31_q38, .ref q44_q31_q38])), aI cI q12_q31_q38 3 (upd (upd (upd (fun _ => 0) 0 120) 1 40) 2 1500), aI cI q36_q31_q38 7 (fun _ => 0), aI cI q44_q31_q38 60 (fun _ => 0), (q41_q38, .inr (1, [.int 0, .int 40000, .int 0, .int 0, .int 0, .int 0, .int 0, .int 0, .ref q12_q41_q38, .ref q36_q41_q38, .ref q44_q41_q38])), aI cI q12_q41_q38 3 (upd (upd (upd (fun _ => 0) 0 120) 1 40) 2 1500), aI cI q36_q41_q38 7 (fun _ => 0), aI cI q44_q41_q38 60 (fun _ => 0), (q49, .inr (3, [.ref q7_q49, .int 0, .int 0, .int 0, .int 0, .int 0])), aC cC q7_q49 60 (fun _ => 0)] H := hP
  have hD : va_D A [(x, .inr (5, [.ref q5, .ref q16, .ref q27, .ref q38, .null, .null])), (q5, .inr (1, [.int 0, .int 40000, .int 0, .int 0, .int 0, .int 0, .int 0, .int 0, .ref q12_q5, .ref q36_q5, .ref q44_q5])), aI cI q12_q5 3 (upd (upd (upd (fun _ => 0) 0 120) 1 40) 2 1500), aI cI q36_q5 7 (fun _ => 0), aI cI q44_q5 60 (fun _ => 0), (q16, .inr (1, [.int 0, .int 40000, .int 0, .int 0, .int 0, .int 0, .int 0, .int 0, .ref q12_q16, .ref q36_q16, .ref q44_q16])), aI cI q12_q16 3 (upd (upd (upd (fun _ => 0) 0 120) 1 40) 2 1500), aI cI q36_q16 7 (fun _ => 0), aI cI q44_q16 60 (fun _ => 0), (q27, .inr (4, [.int 0, .int 0, .int 0, .int 0, .int 0, .int 0, .int 0])), (q38, .inr (0, [.ref q6_q38, .int 0, .int 0])), aL cL q6_q38 (gS q11_q38 q21_q38 q31_q38 q41_q38), (q11_q38, .inr (1, [.int 0, .int 40000, .int 0, .int 0, .int 0, .int 0, .int 0, .int 0, .ref q12_q11_q38, .ref q36_q11_q38, .ref q44_q11_q38])), aI cI q12_q11_q38 3 (upd (upd (upd (fun _ => 0) 0 120) 1 40) 2 1500), aI cI q36_q11_q38 7 (fun _ => 0), aI cI q44_q11_q38 60 (fun _ => 0), (q21_q38, .inr (1, [.int 0, .int 40000, .int 0, .int 0, .int 0, .int 0, .int 0, .int 0, .ref q12_q21_q38, .ref q36_q21_q38, .ref q44_q21_q38])), aI cI q12_q21_q38 3 (upd (upd (upd (fun _ => 0) 0 120) 1 40) 2 1500), aI cI q36_q21_q38 7 (fun _ => 0), aI cI q44_q21_q38 60 (fun _ => 0), (q31_q38, .inr (1, [.int 0, .int 40000, .int 0, .int 0, .int 0, .int 0, .int 0, .int 0, .ref q12_q31_q38, .ref q36_q31_q38, .ref q44_q31_q38])), aI cI q12_q31_q38 3 (upd (upd (upd (fun _ => 0) 0 120) 1 40) 2 1500), aI cI q36_q31_q38 7 (fun _ => 0), aI cI q44_q31_q38 60 (fun _ => 0), (q41_q38, .inr (1, [.int 0, .int 40000, .int 0, .int 0, .int 0, .int 0, .int 0, .int 0, .ref q12_q41_q38, .ref q36_q41_q38, .ref q44_q41_q38])), aI cI q12_q41_q38 3 (upd (upd (upd (fun _ => 0) 0 120) 1 40) 2 1500), aI cI q36_q41_q38 7 (fun _ => 0), aI cI q44_q41_q38 60 (fun _ => 0), (q49, .inr (3, [.ref q7_q49, .int 0, .int 0, .int 0, .int 0, .int 0])), aC cC q7_q49 60 (fun _ => 0)] := hD
  refine ag_finX5 hx hb hG hown hmn hK hP hD hS 0 4 rfl (by decide) k_180 (by decide) rfl rfl (Nat.le_of_ble_eq_true rfl) dX5_init_56 (fun H locs hP hD hS => ?_)
  have hP : va_P D vwCl [(x, .inr (5, [.ref q5, .ref q16, .ref q27, .ref q38, .ref q49, .null])), (q5, .inr (1, [.int 0, .int 40000, .int 0, .int 0, .int 0, .int 0, .int 0, .int 0, .ref q12_q5, .ref q36_q5, .ref q44_q5])), aI cI q12_q5 3 (upd (upd (upd (fun _ => 0) 0 120) 1 40) 2 1500), aI cI q36_q5 7 (fun _ => 0), aI cI q44_q5 60 (fun _ => 0), (q16, .inr (1, [.int 0, .int 40000, .int 0, .int 0, .int 0, .int 0, .int 0, .int 0, .ref q12_q16, .ref q36_q16, .ref q44_q16])), aI cI q12_q16 3 (upd (upd (upd (fun _ => 0) 0 120) 1 40) 2 1500), aI cI q36_q16 7 (fun _ => 0), aI cI q44_q16 60 (fun _ => 0), (q27, .inr (4, [.int 0, .int 0, .int 0, .int 0, .int 0, .int 0, .int 0])), (q38, .inr (0, [.ref q6_q38, .int 0, .int 0])), aL cL q6_q38 (gS q11_q38 q21_q38 q31_q38 q41_q38), (q11_q38, .inr (1, [.int 0, .int 40000, .int 0, .int 0, .int 0, .int 0, .int 0, .int 0, .ref q12_q11_q38, .ref q36_q11_q38, .ref q44_q11_q38])), aI cI q12_q11_q38 3 (upd (upd (upd (fun _ => 0) 0 120) 1 40) 2 1500), aI cI q36_q11_q38 7 (fun _ => 0), aI cI q44_q11_q38 60 (fun _ => 0), (q21_q38, .inr (1, [.int 0, .int 40000, .int 0, .int 0, .int 0, .int 0, .int 0, .int 0, .ref q12_q21_q38, .ref q36_q21_q38, .ref q44_q21_q38])), aI cI q12_q21_q38 3 (upd (upd (upd (fun _ => 0) 0 120) 1 40) 2 1500), aI cI q36_q21_q38 7 (fun _ => 0), aI cI q44_q21_q38 60 (fun _ => 0), (q31_q38, .inr (1, [.int 0, .int 40000, .int 0, .int 0, .int 0, .int 0, .int 0, .int 0, .ref q12_q31_q38, .ref q36_q31_q38, .ref q44_q31_q38])), aI cI q12_q31_q38 3 (upd (upd (upd (fun _ => 0) 0 120) 1 40) 2 1500), aI cI q36_q31_q38 7 (fun _ => 0), aI cI q44_q31_q38 60 (fun _ => 0), (q41_q38, .inr (1, [.int 0, .int 40000, .int 0, .int 0, .int 0, .int 0, .int 0, .int 0, .ref q12_q41_q38, .ref q36_q41_q38, .ref q44_q41_q38])), aI cI q12_q41_q38 3 (upd (upd (upd (fun _ => 0) 0 120) 1 40) 2 1500), aI cI q36_q41_q38 7 (fun _ => 0), aI cI q44_q41_q38 60 (fun _ => 0), (q49, .inr (3, [.ref q7_q49, .int 0, .int 0, .int 0, .int 0, .int 0])), aC cC q7_q49 60 (fun _ => 0)] H := hP
  have hD : va_D A [(x, .inr (5, [.ref q5, .ref q16, .ref q27, .ref q38, .ref q49, .null])), (q5, .inr (1, [.int 0, .int 40000, .int 0, .int 0, .int 0, .int 0, .int 0, .int 0, .ref q12_q5, .ref q36_q5, .ref q44_q5])), aI cI q12_q5 3 (upd (upd (upd (fun _ => 0) 0 120) 1 40) 2 1500), aI cI q36_q5 7 (fun _ => 0), aI cI q44_q5 60 (fun _ => 0), (q16, .inr (1, [.int 0, .int 40000, .int 0, .int 0, .int 0, .int 0, .int 0, .int 0, .ref q12_q16, .ref q36_q16, .ref q44_q16])), aI cI q12_q16 3 (upd (upd (upd (fun _ => 0) 0 120) 1 40) 2 1500), aI cI q36_q16 7 (fun _ => 0), aI cI q44_q16 60 (fun _ => 0), (q27, .inr (4, [.int 0, .int 0, .int 0, .int 0, .int 0, .int 0, .int 0])), (q38, .inr (0, [.ref q6_q38, .int 0, .int 0])), aL cL q6_q38 (gS q11_q38 q21_q38 q31_q38 q41_q38), (q11_q38, .inr (1, [.int 0, .int 40000, .int 0, .int 0, .int 0, .int 0, .int 0, .int 0, .ref q12_q11_q38, .ref q36_q11_q38, .ref q44_q11_q38])), aI cI q12_q11_q38 3 (upd (upd (upd (fun _ => 0) 0 120) 1 40) 2 1500), aI cI q36_q11_q38 7 (fun _ => 0), aI cI q44_q11_q38 60 (fun _ => 0), (q21_q38, .inr (1, [.int 0, .int 40000, .int 0, .int 0, .int 0, .int 0, .int 0, .int 0, .ref q12_q21_q38, .ref q36_q21_q38, .ref q44_q21_q38])), aI cI q12_q21_q38 3 (upd (upd (upd (fun _ => 0) 0 120) 1 40) 2 1500), aI cI q36_q21_q38 7 (fun _ => 0), aI cI q44_q21_q38 60 (fun _ => 0), (q31_q38, .inr (1, [.int 0, .int 40000, .int 0, .int 0, .int 0, .int 0, .int 0, .int 0, .ref q12_q31_q38, .ref q36_q31_q38, .ref q44_q31_q38])), aI cI q12_q31_q38 3 (upd (upd (upd (fun _ => 0) 0 120) 1 40) 2 1500), aI cI q36_q31_q38 7 (fun _ => 0), aI cI q44_q31_q38 60 (fun _ => 0), (q41_q38, .inr (1, [.int 0, .int 40000, .int 0, .int 0, .int 0, .int 0, .int 0, .int 0, .ref q12_q41_q38, .ref q36_q41_q38, .ref q44_q41_q38])), aI cI q12_q41_q38 3 (upd (upd (upd (fun _ => 0) 0 120) 1 40) 2 1500), aI cI q36_q41_q38 7 (fun _ => 0), aI cI q44_q41_q38 60 (fun _ => 0), (q49, .inr (3, [.ref q7_q49, .int 0, .int 0, .int 0, .int 0, .int 0])), aC cC q7_q49 60 (fun _ => 0)] := hD
  refine lv_aload_n hx hb dX5_init_59 rfl (lv_at hl 0 rfl) ?_
  refine ag_newX2 hx hb hG hown k_161 k_162 k_12 hK hP hD hS hA (Nat.le_of_ble_eq_true rfl) (Nat.le_of_ble_eq_true rfl) dX5_init_60 (fun q60 H hP hD hS => ?_)
  have hP : va_P D vwCl [(x, .inr (5, [.ref q5, .ref q16, .ref q27, .ref q38, .ref q49, .null])), (q5, .inr (1, [.int 0, .int 40000, .int 0, .int 0, .int 0, .int 0, .int 0, .int 0, .ref q12_q5, .ref q36_q5, .ref q44_q5])), aI cI q12_q5 3 (upd (upd (upd (fun _ => 0) 0 120) 1 40) 2 1500), aI cI q36_q5 7 (fun _ => 0), aI cI q44_q5 60 (fun _ => 0), (q16, .inr (1, [.int 0, .int 40000, .int 0, .int 0, .int 0, .int 0, .int 0, .int 0, .ref q12_q16, .ref q36_q16, .ref q44_q16])), aI cI q12_q16 3 (upd (upd (upd (fun _ => 0) 0 120) 1 40) 2 1500), aI cI q36_q16 7 (fun _ => 0), aI cI q44_q16 60 (fun _ => 0), (q27, .inr (4, [.int 0, .int 0, .int 0, .int 0, .int 0, .int 0, .int 0])), (q38, .inr (0, [.ref q6_q38, .int 0, .int 0])), aL cL q6_q38 (gS q11_q38 q21_q38 q31_q38 q41_q38), (q11_q38, .inr (1, [.int 0, .int 40000, .int 0, .int 0, .int 0, .int 0, .int 0, .int 0, .ref q12_q11_q38, .ref q36_q11_q38, .ref q44_q11_q38])), aI cI q12_q11_q38 3 (upd (upd (upd (fun _ => 0) 0 120) 1 40) 2 1500), aI cI q36_q11_q38 7 (fun _ => 0), aI cI q44_q11_q38 60 (fun _ => 0), (q21_q38, .inr (1, [.int 0, .int 40000, .int 0, .int 0, .int 0, .int 0, .int 0, .int 0, .ref q12_q21_q38, .ref q36_q21_q38, .ref q44_q21_q38])), aI cI q12_q21_q38 3 (upd (upd (upd (fun _ => 0) 0 120) 1 40) 2 1500), aI cI q36_q21_q38 7 (fun _ => 0), aI cI q44_q21_q38 60 (fun _ => 0), (q31_q38, .inr (1, [.int 0, .int 40000, .int 0, .int 0, .int 0, .int 0, .int 0, .int 0, .ref q12_q31_q38, .ref q36_q31_q38, .ref q44_q31_q38])), aI cI q12_q31_q38 3 (upd (upd (upd (fun _ => 0) 0 120) 1 40) 2 1500), aI cI q36_q31_q38 7 (fun _ => 0), aI cI q44_q31_q38 60 (fun _ => 0), (q41_q38, .inr (1, [.int 0, .int 40000, .int 0, .int 0, .int 0, .int 0, .int 0, .int 0, .ref q12_q41_q38, .ref q36_q41_q38, .ref q44_q41_q38])), aI cI q12_q41_q38 3 (upd (upd (upd (fun _ => 0) 0 120) 1 40) 2 1500), aI cI q36_q41_q38 7 (fun _ => 0), aI cI q44_q41_q38 60 (fun _ => 0), (q49, .inr (3, [.ref q7_q49, .int 0, .int 0, .int 0, .int 0, .int 0])), aC cC q7_q49 60 (fun _ => 0), (q60, .inr (2, [.int 0, .int 0, .int 0, .int 0]))] H := hP
  have hD : va_D A [(x, .inr (5, [.ref q5, .ref q16, .ref q27, .ref q38, .ref q49, .null])), (q5, .inr (1, [.int 0, .int 40000, .int 0, .int 0, .int 0, .int 0, .int 0, .int 0, .ref q12_q5, .ref q36_q5, .ref q44_q5])), aI cI q12_q5 3 (upd (upd (upd (fun _ => 0) 0 120) 1 40) 2 1500), aI cI q36_q5 7 (fun _ => 0), aI cI q44_q5 60 (fun _ => 0), (q16, .inr (1, [.int 0, .int 40000, .int 0, .int 0, .int 0, .int 0, .int 0, .int 0, .ref q12_q16, .ref q36_q16, .ref q44_q16])), aI cI q12_q16 3 (upd (upd (upd (fun _ => 0) 0 120) 1 40) 2 1500), aI cI q36_q16 7 (fun _ => 0), aI cI q44_q16 60 (fun _ => 0), (q27, .inr (4, [.int 0, .int 0, .int 0, .int 0, .int 0, .int 0, .int 0])), (q38, .inr (0, [.ref q6_q38, .int 0, .int 0])), aL cL q6_q38 (gS q11_q38 q21_q38 q31_q38 q41_q38), (q11_q38, .inr (1, [.int 0, .int 40000, .int 0, .int 0, .int 0, .int 0, .int 0, .int 0, .ref q12_q11_q38, .ref q36_q11_q38, .ref q44_q11_q38])), aI cI q12_q11_q38 3 (upd (upd (upd (fun _ => 0) 0 120) 1 40) 2 1500), aI cI q36_q11_q38 7 (fun _ => 0), aI cI q44_q11_q38 60 (fun _ => 0), (q21_q38, .inr (1, [.int 0, .int 40000, .int 0, .int 0, .int 0, .int 0, .int 0, .int 0, .ref q12_q21_q38, .ref q36_q21_q38, .ref q44_q21_q38])), aI cI q12_q21_q38 3 (upd (upd (upd (fun _ => 0) 0 120) 1 40) 2 1500), aI cI q36_q21_q38 7 (fun _ => 0), aI cI q44_q21_q38 60 (fun _ => 0), (q31_q38, .inr (1, [.int 0, .int 40000, .int 0, .int 0, .int 0, .int 0, .int 0, .int 0, .ref q12_q31_q38, .ref q36_q31_q38, .ref q44_q31_q38])), aI cI q12_q31_q38 3 (upd (upd (upd (fun _ => 0) 0 120) 1 40) 2 1500), aI cI q36_q31_q38 7 (fun _ => 0), aI cI q44_q31_q38 60 (fun _ => 0), (q41_q38, .inr (1, [.int 0, .int 40000, .int 0, .int 0, .int 0, .int 0, .int 0, .int 0, .ref q12_q41_q38, .ref q36_q41_q38, .ref q44_q41_q38])), aI cI q12_q41_q38 3 (upd (upd (upd (fun _ => 0) 0 120) 1 40) 2 1500), aI cI q36_q41_q38 7 (fun _ => 0), aI cI q44_q41_q38 60 (fun _ => 0), (q49, .inr (3, [.ref q7_q49, .int 0, .int 0, .int 0, .int 0, .int 0])), aC cC q7_q49 60 (fun _ => 0), (q60, .inr (2, [.int 0, .int 0, .int 0, .int 0]))] := hD
  refine lv_dup hx hb dX5_init_63 rfl ?_
  refine ag_callNC (pre := [(x, .inr (5, [.ref q5, .ref q16, .ref q27, .ref q38, .ref q49, .null])), (q5, .inr (1, [.int 0, .int 40000, .int 0, .int 0, .int 0, .int 0, .int 0, .int 0, .ref q12_q5, .ref q36_q5, .ref q44_q5])), aI cI q12_q5 3 (upd (upd (upd (fun _ => 0) 0 120) 1 40) 2 1500), aI cI q36_q5 7 (fun _ => 0), aI cI q44_q5 60 (fun _ => 0), (q16, .inr (1, [.int 0, .int 40000, .int 0, .int 0, .int 0, .int 0, .int 0, .int 0, .ref q12_q16, .ref q36_q16, .ref q44_q16])), aI cI q12_q16 3 (upd (upd (upd (fun _ => 0) 0 120) 1 40) 2 1500), aI cI q36_q16 7 (fun _ => 0), aI cI q44_q16 60 (fun _ => 0), (q27, .inr (4, [.int 0, .int 0, .int 0, .int 0, .int 0, .int 0, .int 0])), (q38, .inr (0, [.ref q6_q38, .int 0, .int 0])), aL cL q6_q38 (gS q11_q38 q21_q38 q31_q38 q41_q38), (q11_q38, .inr (1, [.int 0, .int 40000, .int 0, .int 0, .int 0, .int 0, .int 0, .int 0, .ref q12_q11_q38, .ref q36_q11_q38, .ref q44_q11_q38])), aI cI q12_q11_q38 3 (upd (upd (upd (fun _ => 0) 0 120) 1 40) 2 1500), aI cI q36_q11_q38 7 (fun _ => 0), aI cI q44_q11_q38 60 (fun _ => 0), (q21_q38, .inr (1, [.int 0, .int 40000, .int 0, .int 0, .int 0, .int 0, .int 0, .int 0, .ref q12_q21_q38, .ref q36_q21_q38, .ref q44_q21_q38])), aI cI q12_q21_q38 3 (upd (upd (upd (fun _ => 0) 0 120) 1 40) 2 1500), aI cI q36_q21_q38 7 (fun _ => 0), aI cI q44_q21_q38 60 (fun _ => 0), (q31_q38, .inr (1, [.int 0, .int 40000, .int 0, .int 0, .int 0, .int 0, .int 0, .int 0, .ref q12_q31_q38, .ref q36_q31_q38, .ref q44_q31_q38])), aI cI q12_q31_q38 3 (upd (upd (upd (fun _ => 0) 0 120) 1 40) 2 1500), aI cI q36_q31_q38 7 (fun _ => 0), aI cI q44_q31_q38 60 (fun _ => 0), (q41_q38, .inr (1, [.int 0, .int 40000, .int 0, .int 0, .int 0, .int 0, .int 0, .int 0, .ref q12_q41_q38, .ref q36_q41_q38, .ref q44_q41_q38])), aI cI q12_q41_q38 3 (upd (upd (upd (fun _ => 0) 0 120) 1 40) 2 1500), aI cI q36_q41_q38 7 (fun _ => 0), aI cI q44_q41_q38 60 (fun _ => 0), (q49, .inr (3, [.ref q7_q49, .int 0, .int 0, .int 0, .int 0, .int 0])), aC cC q7_q49 60 (fun _ => 0)]) hx hb hml hown hG hK hO hN hA hP hD hS hl (ct_X2_init l D cI cC cL q60) k_165 k_164 k_12 (by decide) rfl hN.1.2.2.2.2.2.1 (Nat.le_of_ble_eq_true rfl) ⟨Nat.le_of_ble_eq_true rfl, Nat.le_of_ble_eq_true rfl⟩ ⟨Nat.le_of_ble_eq_true rfl, Nat.le_of_ble_eq_true rfl⟩ dX5_init_64 (fun w1 H locs hw hP hD hS => ?_)
  obtain rfl := hw
  have hP : va_P D vwCl [(x, .inr (5, [.ref q5, .ref q16, .ref q27, .ref q38, .ref q49, .null])), (q5, .inr (1, [.int 0, .int 40000, .int 0, .int 0, .int 0, .int 0, .int 0, .int 0, .ref q12_q5, .ref q36_q5, .ref q44_q5])), aI cI q12_q5 3 (upd (upd (upd (fun _ => 0) 0 120) 1 40) 2 1500), aI cI q36_q5 7 (fun _ => 0), aI cI q44_q5 60 (fun _ => 0), (q16, .inr (1, [.int 0, .int 40000, .int 0, .int 0, .int 0, .int 0, .int 0, .int 0, .ref q12_q16, .ref q36_q16, .ref q44_q16])), aI cI q12_q16 3 (upd (upd (upd (fun _ => 0) 0 120) 1 40) 2 1500), aI cI q36_q16 7 (fun _ => 0), aI cI q44_q16 60 (fun _ => 0), (q27, .inr (4, [.int 0, .int 0, .int 0, .int 0, .int 0, .int 0, .int 0])), (q38, .inr (0, [.ref q6_q38, .int 0, .int 0])), aL cL q6_q38 (gS q11_q38 q21_q38 q31_q38 q41_q38), (q11_q38, .inr (1, [.int 0, .int 40000, .int 0, .int 0, .int 0, .int 0, .int 0, .int 0, .ref q12_q11_q38, .ref q36_q11_q38, .ref q44_q11_q38])), aI cI q12_q11_q38 3 (upd (upd (upd (fun _ => 0) 0 120) 1 40) 2 1500), aI cI q36_q11_q38 7 (fun _ => 0), aI cI q44_q11_q38 60 (fun _ => 0), (q21_q38, .inr (1, [.int 0, .int 40000, .int 0, .int 0, .int 0, .int 0, .int 0, .int 0, .ref q12_q21_q38, .ref q36_q21_q38, .ref q44_q21_q38])), aI cI q12_q21_q38 3 (upd (upd (upd (fun _ => 0) 0 120) 1 40) 2 1500), aI cI q36_q21_q38 7 (fun _ => 0), aI cI q44_q21_q38 60 (fun _ => 0), (q31_q38, .inr (1, [.int 0, .int 40000, .int 0, .int 0, .int 0, .int 0, .int 0, .int 0, .ref q12_q31_q38, .ref q36_q31_q38, .ref q44_q31_q38])), aI cI q12_q31_q38 3 (upd (upd (upd (fun _ => 0) 0 120) 1 40) 2 1500), aI cI q36_q31_q38 7 (fun _ => 0), aI cI q44_q31_q38 60 (fun _ => 0), (q41_q38, .inr (1, [.int 0, .int 40000, .int 0, .int 0, .int 0, .int 0, .int 0, .int 0, .ref q12_q41_q38, .ref q36_q41_q38, .ref q44_q41_q38])), aI cI q12_q41_q38 3 (upd (upd (upd (fun _ => 0) 0 120) 1 40) 2 1500), aI cI q36_q41_q38 7 (fun _ => 0), aI cI q44_q41_q38 60 (fun _ => 0), (q49, .inr (3, [.ref q7_q49, .int 0, .int 0, .int 0, .int 0, .int 0])), aC cC q7_q49 60 (fun _ => 0), (q60, .inr (2, [.int 0, .int 0, .int 0, .int 0]))] H := hP
  have hD : va_D A [(x, .inr (5, [.ref q5, .ref q16, .ref q27, .ref q38, .ref q49, .null])), (q5, .inr (1, [.int 0, .int 40000, .int 0, .int 0, .int 0, .int 0, .int 0, .int 0, .ref q12_q5, .ref q36_q5, .ref q44_q5])), aI cI q12_q5 3 (upd (upd (upd (fun _ => 0) 0 120) 1 40) 2 1500), aI cI q36_q5 7 (fun _ => 0), aI cI q44_q5 60 (fun _ => 0), (q16, .inr (1, [.int 0, .int 40000, .int 0, .int 0, .int 0, .int 0, .int 0, .int 0, .ref q12_q16, .ref q36_q16, .ref q44_q16])), aI cI q12_q16 3 (upd (upd (upd (fun _ => 0) 0 120) 1 40) 2 1500), aI cI q36_q16 7 (fun _ => 0), aI cI q44_q16 60 (fun _ => 0), (q27, .inr (4, [.int 0, .int 0, .int 0, .int 0, .int 0, .int 0, .int 0])), (q38, .inr (0, [.ref q6_q38, .int 0, .int 0])), aL cL q6_q38 (gS q11_q38 q21_q38 q31_q38 q41_q38), (q11_q38, .inr (1, [.int 0, .int 40000, .int 0, .int 0, .int 0, .int 0, .int 0, .int 0, .ref q12_q11_q38, .ref q36_q11_q38, .ref q44_q11_q38])), aI cI q12_q11_q38 3 (upd (upd (upd (fun _ => 0) 0 120) 1 40) 2 1500), aI cI q36_q11_q38 7 (fun _ => 0), aI cI q44_q11_q38 60 (fun _ => 0), (q21_q38, .inr (1, [.int 0, .int 40000, .int 0, .int 0, .int 0, .int 0, .int 0, .int 0, .ref q12_q21_q38, .ref q36_q21_q38, .ref q44_q21_q38])), aI cI q12_q21_q38 3 (upd (upd (upd (fun _ => 0) 0 120) 1 40) 2 1500), aI cI q36_q21_q38 7 (fun _ => 0), aI cI q44_q21_q38 60 (fun _ => 0), (q31_q38, .inr (1, [.int 0, .int 40000, .int 0, .int 0, .int 0, .int 0, .int 0, .int 0, .ref q12_q31_q38, .ref q36_q31_q38, .ref q44_q31_q38])), aI cI q12_q31_q38 3 (upd (upd (upd (fun _ => 0) 0 120) 1 40) 2 1500), aI cI q36_q31_q38 7 (fun _ => 0), aI cI q44_q31_q38 60 (fun _ => 0), (q41_q38, .inr (1, [.int 0, .int 40000, .int 0, .int 0, .int 0, .int 0, .int 0, .int 0, .ref q12_q41_q38, .ref q36_q41_q38, .ref q44_q41_q38])), aI cI q12_q41_q38 3 (upd (upd (upd (fun _ => 0) 0 120) 1 40) 2 1500), aI cI q36_q41_q38 7 (fun _ => 0), aI cI q44_q41_q38 60 (fun _ => 0), (q49, .inr (3, [.ref q7_q49, .int 0, .int 0, .int 0, .int 0, .int 0])), aC cC q7_q49 60 (fun _ => 0), (q60, .inr (2, [.int 0, .int 0, .int 0, .int 0]))] := hD
  refine ag_finX5 hx hb hG hown hmn hK hP hD hS 0 5 rfl (by decide) k_181 (by decide) rfl rfl (Nat.le_of_ble_eq_true rfl) dX5_init_67 (fun H locs hP hD hS => ?_)
  have hP : va_P D vwCl [(x, .inr (5, [.ref q5, .ref q16, .ref q27, .ref q38, .ref q49, .ref q60])), (q5, .inr (1, [.int 0, .int 40000, .int 0, .int 0, .int 0, .int 0, .int 0, .int 0, .ref q12_q5, .ref q36_q5, .ref q44_q5])), aI cI q12_q5 3 (upd (upd (upd (fun _ => 0) 0 120) 1 40) 2 1500), aI cI q36_q5 7 (fun _ => 0), aI cI q44_q5 60 (fun _ => 0), (q16, .inr (1, [.int 0, .int 40000, .int 0, .int 0, .int 0, .int 0, .int 0, .int 0, .ref q12_q16, .ref q36_q16, .ref q44_q16])), aI cI q12_q16 3 (upd (upd (upd (fun _ => 0) 0 120) 1 40) 2 1500), aI cI q36_q16 7 (fun _ => 0), aI cI q44_q16 60 (fun _ => 0), (q27, .inr (4, [.int 0, .int 0, .int 0, .int 0, .int 0, .int 0, .int 0])), (q38, .inr (0, [.ref q6_q38, .int 0, .int 0])), aL cL q6_q38 (gS q11_q38 q21_q38 q31_q38 q41_q38), (q11_q38, .inr (1, [.int 0, .int 40000, .int 0, .int 0, .int 0, .int 0, .int 0, .int 0, .ref q12_q11_q38, .ref q36_q11_q38, .ref q44_q11_q38])), aI cI q12_q11_q38 3 (upd (upd (upd (fun _ => 0) 0 120) 1 40) 2 1500), aI cI q36_q11_q38 7 (fun _ => 0), aI cI q44_q11_q38 60 (fun _ => 0), (q21_q38, .inr (1, [.int 0, .int 40000, .int 0, .int 0, .int 0, .int 0, .int 0, .int 0, .ref q12_q21_q38, .ref q36_q21_q38, .ref q44_q21_q38])), aI cI q12_q21_q38 3 (upd (upd (upd (fun _ => 0) 0 120) 1 40) 2 1500), aI cI q36_q21_q38 7 (fun _ => 0), aI cI q44_q21_q38 60 (fun _ => 0), (q31_q38, .inr (1, [.int 0, .int 40000, .int 0, .int 0, .int 0, .int 0, .int 0, .int 0, .ref q12_q31_q38, .ref q36_q31_q38, .ref q44_q31_q38])), aI cI q12_q31_q38 3 (upd (upd (upd (fun _ => 0) 0 120) 1 40) 2 1500), aI cI q36_q31_q38 7 (fun _ => 0), aI cI q44_q31_q38 60 (fun _ => 0), (q41_q38, .inr (1, [.int 0, .int 40000, .int 0, .int 0, .int 0, .int 0, .int 0, .int 0, .ref q12_q41_q38, .ref q36_q41_q38, .ref q44_q41_q38])), aI cI q12_q41_q38 3 (upd (upd (upd (fun _ => 0) 0 120) 1 40) 2 1500), aI cI q36_q41_q38 7 (fun _ => 0), aI cI q44_q41_q38 60 (fun _ => 0), (q49, .inr (3, [.ref q7_q49, .int 0, .int 0, .int 0, .int 0, .int 0])), aC cC q7_q49 60 (fun _ => 0), (q60, .inr (2, [.int 0, .int 0, .int 0, .int 0]))] H := hP
  have hD : va_D A [(x, .inr (5, [.ref q5, .ref q16, .ref q27, .ref q38, .ref q49, .ref q60])), (q5, .inr (1, [.int 0, .int 40000, .int 0, .int 0, .int 0, .int 0, .int 0, .int 0, .ref q12_q5, .ref q36_q5, .ref q44_q5])), aI cI q12_q5 3 (upd (upd (upd (fun _ => 0) 0 120) 1 40) 2 1500), aI cI q36_q5 7 (fun _ => 0), aI cI q44_q5 60 (fun _ => 0), (q16, .inr (1, [.int 0, .int 40000, .int 0, .int 0, .int 0, .int 0, .int 0, .int 0, .ref q12_q16, .ref q36_q16, .ref q44_q16])), aI cI q12_q16 3 (upd (upd (upd (fun _ => 0) 0 120) 1 40) 2 1500), aI cI q36_q16 7 (fun _ => 0), aI cI q44_q16 60 (fun _ => 0), (q27, .inr (4, [.int 0, .int 0, .int 0, .int 0, .int 0, .int 0, .int 0])), (q38, .inr (0, [.ref q6_q38, .int 0, .int 0])), aL cL q6_q38 (gS q11_q38 q21_q38 q31_q38 q41_q38), (q11_q38, .inr (1, [.int 0, .int 40000, .int 0, .int 0, .int 0, .int 0, .int 0, .int 0, .ref q12_q11_q38, .ref q36_q11_q38, .ref q44_q11_q38])), aI cI q12_q11_q38 3 (upd (upd (upd (fun _ => 0) 0 120) 1 40) 2 1500), aI cI q36_q11_q38 7 (fun _ => 0), aI cI q44_q11_q38 60 (fun _ => 0), (q21_q38, .inr (1, [.int 0, .int 40000, .int 0, .int 0, .int 0, .int 0, .int 0, .int 0, .ref q12_q21_q38, .ref q36_q21_q38, .ref q44_q21_q38])), aI cI q12_q21_q38 3 (upd (upd (upd (fun _ => 0) 0 120) 1 40) 2 1500), aI cI q36_q21_q38 7 (fun _ => 0), aI cI q44_q21_q38 60 (fun _ => 0), (q31_q38, .inr (1, [.int 0, .int 40000, .int 0, .int 0, .int 0, .int 0, .int 0, .int 0, .ref q12_q31_q38, .ref q36_q31_q38, .ref q44_q31_q38])), aI cI q12_q31_q38 3 (upd (upd (upd (fun _ => 0) 0 120) 1 40) 2 1500), aI cI q36_q31_q38 7 (fun _ => 0), aI cI q44_q31_q38 60 (fun _ => 0), (q41_q38, .inr (1, [.int 0, .int 40000, .int 0, .int 0, .int 0, .int 0, .int 0, .int 0, .ref q12_q41_q38, .ref q36_q41_q38, .ref q44_q41_q38])), aI cI q12_q41_q38 3 (upd (upd (upd (fun _ => 0) 0 120) 1 40) 2 1500), aI cI q36_q41_q38 7 (fun _ => 0), aI cI q44_q41_q38 60 (fun _ => 0), (q49, .inr (3, [.ref q7_q49, .int 0, .int 0, .int 0, .int 0, .int 0])), aC cC q7_q49 60 (fun _ => 0), (q60, .inr (2, [.int 0, .int 0, .int 0, .int 0]))] := hD
  exact ag_cret hx hb hr hlocks hP hD hS ⟨q5, q12_q5, q36_q5, q44_q5, q16, q12_q16, q36_q16, q44_q16, q27, q38, q6_q38, q11_q38, q12_q11_q38, q36_q11_q38, q44_q11_q38, q21_q38, q12_q21_q38, q36_q21_q38, q44_q21_q38, q31_q38, q12_q31_q38, q36_q31_q38, q44_q31_q38, q41_q38, q12_q41_q38, q36_q41_q38, q44_q41_q38, q49, q7_q49, q60, rfl⟩ dX5_init_70
end
section
/-! the law: its small methods -/
theorem fL_cell : ag_fS yL_cell cL_cell 2 (some .int) 2 := ⟨k_241, k_240, k_6, by decide, by decide, by decide +kernel⟩
theorem fL_low : ag_fS yL_low cL_low 2 (some .int) 2 := ⟨k_245, k_244, k_6, by decide, by decide, by decide +kernel⟩
theorem fL_sea : ag_fS yL_sea cL_sea 4 (some .int) 1 := ⟨k_389, k_388, k_6, by decide, by decide, by decide +kernel⟩
theorem fL_level : ag_fS yL_level cL_level 1 (some .int) 1 := ⟨k_392, k_391, k_6, by decide, by decide, by decide +kernel⟩
theorem fL_size : ag_fS yL_size cL_size 1 (some .int) 1 := ⟨k_398, k_397, k_6, by decide, by decide, by decide +kernel⟩
theorem fL_birds : ag_fS yL_birds cL_birds 1 (some .boolean) 1 := ⟨k_395, k_394, k_6, by decide, by decide, by decide +kernel⟩
theorem fL_weigh : ag_fS yL_weigh cL_weigh 6 none 2 := ⟨k_386, k_385, k_6, by decide, by decide, by decide +kernel⟩
theorem fL_run : ag_fS yL_run cL_run 9 none 4 := ⟨k_383, k_382, k_6, by decide, by decide, by decide +kernel⟩
theorem fL_acts : ag_fS yL_acts cL_acts 9 (some .boolean) 5 := ⟨k_249, k_248, k_6, by decide, by decide, by decide +kernel⟩
theorem fL_areRecords : ag_fS yL_areRecords cL_areRecords 12 (some .boolean) 4 := ⟨k_405, k_404, k_6, by decide, by decide, by decide +kernel⟩
theorem fL_isSo : ag_fS yL_isSo cL_isSo 7 (some .boolean) 4 := ⟨k_402, k_401, k_6, by decide, by decide, by decide +kernel⟩
def sr_L_low (p1 : Int32) (p2 : Int32) : Int32 := (p1 &&& 2147483647) - (p1 &&& 2147483647) / p2 * p2
abbrev po_L_low (cI cC cL : ClassId) (p1 : Int32) (p2 : Int32) (hz : ¬ p2 = 0) : Int32 → va_W → Prop := fun r w' => sr_L_low p1 p2 = r ∧ [] = w'
set_option maxHeartbeats 4000000 in
set_option maxRecDepth 100000 in
theorem ct_L_low (l : Launch) (D : va_G) (cI cC cL : ClassId) (p1 : Int32) (p2 : Int32) (hz : ¬ p2 = 0) : ag_MI l yL_low cL_low 2 .int 0 0 D cI cC cL [.int p1, .int p2] [] (po_L_low cI cC cL p1 p2 hz) := by
  refine ag_MI.of (plainFor_of_name (by decide)) (Nat.le_of_ble_eq_true rfl) ?_
  intro p e s m below meth c hx hb hr hlocks hml hown hmn hG hK A hN hA H locs hP hD hS ls hl
  have hl : lv_has ls 2 [(0, .int p1), (1, .int p2)] := hl
  refine lv_iload_n hx hb dL_low_0 rfl (lv_at hl 0 rfl) ?_
  refine lv_ldc (v := 2147483647) hx hb hown (hG _ k_246) dL_low_1 ?_
  refine lv_iand hx hb dL_low_3 ?_
  refine lv_iload_n hx hb dL_low_4 rfl (lv_at hl 1 rfl) ?_
  refine lv_irem hx hb dL_low_5 hz ?_
  exact ag_iret [] hx hb hr rfl hlocks hP hS rfl rfl ⟨rfl, rfl⟩ dL_low_6
def j31_0_L_sea (p1 : Int32) : Int32 := if ((p1 / 144) - (p1 / 144) / 14 * 14) ≤ 7 then 7 - ((p1 / 144) - (p1 / 144) / 14 * 14) else ((p1 / 144) - (p1 / 144) / 14 * 14) - 7
def sr_L_sea (p1 : Int32) : Int32 := if 37 ≤ (p1 - p1 / 74 * 74) then (200 + (20 * (j31_0_L_sea p1))) - (((2 * (200 + (20 * (j31_0_L_sea p1)))) * ((p1 - p1 / 74 * 74) - 37)) / 37) else (((2 * (200 + (20 * (j31_0_L_sea p1)))) * (p1 - p1 / 74 * 74)) / 37) - (200 + (20 * (j31_0_L_sea p1)))
abbrev po_L_sea (cI cC cL : ClassId) (p1 : Int32) : Int32 → va_W → Prop := fun r w' => sr_L_sea p1 = r ∧ [] = w'
set_option maxHeartbeats 4000000 in
set_option maxRecDepth 100000 in
theorem ct_L_sea (l : Launch) (D : va_G) (cI cC cL : ClassId) (p1 : Int32) : ag_MI l yL_sea cL_sea 4 .int 0 0 D cI cC cL [.int p1] [] (po_L_sea cI cC cL p1) := by
  refine ag_MI.of (plainFor_of_name (by decide)) (Nat.le_of_ble_eq_true rfl) ?_
  intro p e s m below meth c hx hb hr hlocks hml hown hmn hG hK A hN hA H locs hP hD hS ls hl
  have hl : lv_has ls 4 [(0, .int p1)] := hl
  refine lv_iload_n hx hb dL_sea_0 rfl (lv_at hl 0 rfl) ?_
  refine lv_sipush (v := 144) hx hb dL_sea_1 (by decide) ?_
  refine lv_idiv hx hb dL_sea_4 (by decide) ?_
  refine lv_bipush (v := 14) hx hb dL_sea_5 (by decide) ?_
  refine lv_irem hx hb dL_sea_7 (by decide) ?_
  refine lv_istore_n (lv' := [(1, .int ((p1 / 144) - (p1 / 144) / 14 * 14)), (0, .int p1)]) hx hb dL_sea_8 rfl hl (by decide) rfl (fun ls hl => ?_)
  refine lv_sipush (v := 200) hx hb dL_sea_9 (by decide) ?_
  refine lv_bipush (v := 20) hx hb dL_sea_12 (by decide) ?_
  refine lv_iload_n hx hb dL_sea_14 rfl (lv_at hl 0 rfl) ?_
  refine lv_bipush (v := 7) hx hb dL_sea_15 (by decide) ?_
  have J31 : ∀ (ls : Array Slot), lv_has ls 4 [(0, .int p1), (1, .int ((p1 / 144) - (p1 / 144) / 14 * 14))] → W p l e (ag_rm 0 0) s m ([.int p1] : List Value).toArray below meth c H locs 0 0 (MQ below (va_Qi (po_L_sea cI cC cL p1) (ag_Out D []) A) ([.int p1] : List Value).toArray s 0 0 A) (F0 m 31 ls [.int (j31_0_L_sea p1), .int 20, .int 200]) := by
    intro ls hl
    refine lv_imul hx hb dL_sea_31 ?_
    refine lv_iadd hx hb dL_sea_32 ?_
    refine lv_istore_n (lv' := [(2, .int (200 + (20 * (j31_0_L_sea p1)))), (0, .int p1), (1, .int ((p1 / 144) - (p1 / 144) / 14 * 14))]) hx hb dL_sea_33 rfl hl (by decide) rfl (fun ls hl => ?_)
    refine lv_iload_n hx hb dL_sea_34 rfl (lv_at hl 1 rfl) ?_
    refine lv_bipush (v := 74) hx hb dL_sea_35 (by decide) ?_
    refine lv_irem hx hb dL_sea_37 (by decide) ?_
    refine lv_istore_n (lv' := [(3, .int (p1 - p1 / 74 * 74)), (2, .int (200 + (20 * (j31_0_L_sea p1)))), (0, .int p1), (1, .int ((p1 / 144) - (p1 / 144) / 14 * 14))]) hx hb dL_sea_38 rfl hl (by decide) rfl (fun ls hl => ?_)
    refine lv_iload_n hx hb dL_sea_39 rfl (lv_at hl 0 rfl) ?_
    refine lv_bipush (v := 37) hx hb dL_sea_40 (by decide) ?_
    refine lv_icmp_ge (tgt := 58) hx hb dL_sea_42 (by decide) (fun c_42 => ?_) (fun c_42 => ?_)
    · refine lv_iload_n hx hb dL_sea_58 rfl (lv_at hl 1 rfl) ?_
      refine lv_iconst (v := 2) hx hb dL_sea_59 (by decide) ?_
      refine lv_iload_n hx hb dL_sea_60 rfl (lv_at hl 1 rfl) ?_
      refine lv_imul hx hb dL_sea_61 ?_
      refine lv_iload_n hx hb dL_sea_62 rfl (lv_at hl 0 rfl) ?_
      refine lv_bipush (v := 37) hx hb dL_sea_63 (by decide) ?_
      refine lv_isub hx hb dL_sea_65 ?_
      refine lv_imul hx hb dL_sea_66 ?_
      refine lv_bipush (v := 37) hx hb dL_sea_67 (by decide) ?_
      refine lv_idiv hx hb dL_sea_69 (by decide) ?_
      refine lv_isub hx hb dL_sea_70 ?_
      exact ag_iret [] hx hb hr rfl hlocks hP hS rfl rfl ⟨(by unfold sr_L_sea; rw [if_pos c_42]), rfl⟩ dL_sea_71
    · refine lv_iconst (v := 2) hx hb dL_sea_45 (by decide) ?_
      refine lv_iload_n hx hb dL_sea_46 rfl (lv_at hl 1 rfl) ?_
      refine lv_imul hx hb dL_sea_47 ?_
      refine lv_iload_n hx hb dL_sea_48 rfl (lv_at hl 0 rfl) ?_
      refine lv_imul hx hb dL_sea_49 ?_
      refine lv_bipush (v := 37) hx hb dL_sea_50 (by decide) ?_
      refine lv_idiv hx hb dL_sea_52 (by decide) ?_
      refine lv_iload_n hx hb dL_sea_53 rfl (lv_at hl 1 rfl) ?_
      refine lv_isub hx hb dL_sea_54 ?_
      refine lv_goto (tgt := 71) hx hb dL_sea_55 (by decide) ?_
      exact ag_iret [] hx hb hr rfl hlocks hP hS rfl rfl ⟨(by unfold sr_L_sea; rw [if_neg c_42]), rfl⟩ dL_sea_71
  refine lv_icmp_le (tgt := 27) hx hb dL_sea_17 (by decide) (fun c_17 => ?_) (fun c_17 => ?_)
  · refine lv_bipush (v := 7) hx hb dL_sea_27 (by decide) ?_
    refine lv_iload_n hx hb dL_sea_29 rfl (lv_at hl 0 rfl) ?_
    refine lv_isub hx hb dL_sea_30 ?_
    simp only [j31_0_L_sea, if_pos c_17] at J31
    exact J31 _ (lv_sub hl [1, 0] rfl)
  · refine lv_iload_n hx hb dL_sea_20 rfl (lv_at hl 0 rfl) ?_
    refine lv_bipush (v := 7) hx hb dL_sea_21 (by decide) ?_
    refine lv_isub hx hb dL_sea_23 ?_
    refine lv_goto (tgt := 31) hx hb dL_sea_24 (by decide) ?_
    simp only [j31_0_L_sea, if_neg c_17] at J31
    exact J31 _ (lv_sub hl [1, 0] rfl)
def sr_L_level (ug : Nat → Int32) : Int32 := (((ug 1) + (ug 2)) / 100) - 400
abbrev po_L_level (cI cC cL : ClassId) (ag : Nat) (ug : Nat → Int32) : Int32 → va_W → Prop := fun r w' => sr_L_level ug = r ∧ [aI cI ag 18 ug] = w'
set_option maxHeartbeats 4000000 in
set_option maxRecDepth 100000 in
theorem ct_L_level (l : Launch) (D : va_G) (cI cC cL : ClassId) (ag : Nat) (ug : Nat → Int32) : ag_MI l yL_level cL_level 1 .int 0 0 D cI cC cL [.ref ag] [aI cI ag 18 ug] (po_L_level cI cC cL ag ug) := by
  refine ag_MI.of (plainFor_of_name (by decide)) (Nat.le_of_ble_eq_true rfl) ?_
  intro p e s m below meth c hx hb hr hlocks hml hown hmn hG hK A hN hA H locs hP hD hS ls hl
  have hl : lv_has ls 1 [(0, .ref ag)] := hl
  refine lv_aload_n hx hb dL_level_0 rfl (lv_at hl 0 rfl) ?_
  refine lv_iconst (v := 1) hx hb dL_level_1 (by decide) ?_
  refine ag_ild (k := 1) (v := ug 1) hx hb hK hP 0 rfl rfl (Nat.le_of_ble_eq_true rfl) (Nat.le_of_ble_eq_true rfl) rfl dL_level_2 ?_
  refine lv_aload_n hx hb dL_level_3 rfl (lv_at hl 0 rfl) ?_
  refine lv_iconst (v := 2) hx hb dL_level_4 (by decide) ?_
  refine ag_ild (k := 2) (v := ug 2) hx hb hK hP 0 rfl rfl (Nat.le_of_ble_eq_true rfl) (Nat.le_of_ble_eq_true rfl) rfl dL_level_5 ?_
  refine lv_iadd hx hb dL_level_6 ?_
  refine lv_bipush (v := 100) hx hb dL_level_7 (by decide) ?_
  refine lv_idiv hx hb dL_level_9 (by decide) ?_
  refine lv_sipush (v := 400) hx hb dL_level_10 (by decide) ?_
  refine lv_isub hx hb dL_level_13 ?_
  exact ag_iret [ag] hx hb hr rfl hlocks hP hS rfl rfl ⟨rfl, rfl⟩ dL_level_14
def sr_L_size (p1 : Int32) : Int32 := if p1 ≤ 0 then -p1 else p1
abbrev po_L_size (cI cC cL : ClassId) (p1 : Int32) : Int32 → va_W → Prop := fun r w' => sr_L_size p1 = r ∧ [] = w'
set_option maxHeartbeats 4000000 in
set_option maxRecDepth 100000 in
theorem ct_L_size (l : Launch) (D : va_G) (cI cC cL : ClassId) (p1 : Int32) : ag_MI l yL_size cL_size 1 .int 0 0 D cI cC cL [.int p1] [] (po_L_size cI cC cL p1) := by
  refine ag_MI.of (plainFor_of_name (by decide)) (Nat.le_of_ble_eq_true rfl) ?_
  intro p e s m below meth c hx hb hr hlocks hml hown hmn hG hK A hN hA H locs hP hD hS ls hl
  have hl : lv_has ls 1 [(0, .int p1)] := hl
  refine lv_iload_n hx hb dL_size_0 rfl (lv_at hl 0 rfl) ?_
  refine lv_if_le (tgt := 8) hx hb dL_size_1 (by decide) (fun c_1 => ?_) (fun c_1 => ?_)
  · refine lv_iload_n hx hb dL_size_8 rfl (lv_at hl 0 rfl) ?_
    refine lv_ineg hx hb dL_size_9 ?_
    exact ag_iret [] hx hb hr rfl hlocks hP hS rfl rfl ⟨(by unfold sr_L_size; rw [if_pos c_1]), rfl⟩ dL_size_10
  · refine lv_iload_n hx hb dL_size_4 rfl (lv_at hl 0 rfl) ?_
    refine lv_goto (tgt := 10) hx hb dL_size_5 (by decide) ?_
    exact ag_iret [] hx hb hr rfl hlocks hP hS rfl rfl ⟨(by unfold sr_L_size; rw [if_neg c_1]), rfl⟩ dL_size_10
def sr_L_birds (ug : Nat → Int32) : Int32 := if ((ug 0) - (ug 0) / 144 * 144) < (ug 6) then 0 else if (ug 7) ≤ ((ug 0) - (ug 0) / 144 * 144) then 0 else 1
abbrev po_L_birds (cI cC cL : ClassId) (ag : Nat) (ug : Nat → Int32) : Int32 → va_W → Prop := fun r w' => sr_L_birds ug = r ∧ [aI cI ag 18 ug] = w'
set_option maxHeartbeats 4000000 in
set_option maxRecDepth 100000 in
theorem ct_L_birds (l : Launch) (D : va_G) (cI cC cL : ClassId) (ag : Nat) (ug : Nat → Int32) : ag_MI l yL_birds cL_birds 1 .boolean 0 0 D cI cC cL [.ref ag] [aI cI ag 18 ug] (po_L_birds cI cC cL ag ug) := by
  refine ag_MI.of (plainFor_of_name (by decide)) (Nat.le_of_ble_eq_true rfl) ?_
  intro p e s m below meth c hx hb hr hlocks hml hown hmn hG hK A hN hA H locs hP hD hS ls hl
  have hl : lv_has ls 1 [(0, .ref ag)] := hl
  refine lv_aload_n hx hb dL_birds_0 rfl (lv_at hl 0 rfl) ?_
  refine lv_iconst (v := 0) hx hb dL_birds_1 (by decide) ?_
  refine ag_ild (k := 0) (v := ug 0) hx hb hK hP 0 rfl rfl (Nat.le_of_ble_eq_true rfl) (Nat.le_of_ble_eq_true rfl) rfl dL_birds_2 ?_
  refine lv_sipush (v := 144) hx hb dL_birds_3 (by decide) ?_
  refine lv_irem hx hb dL_birds_6 (by decide) ?_
  refine lv_aload_n hx hb dL_birds_7 rfl (lv_at hl 0 rfl) ?_
  refine lv_bipush (v := 6) hx hb dL_birds_8 (by decide) ?_
  refine ag_ild (k := 6) (v := ug 6) hx hb hK hP 0 rfl rfl (Nat.le_of_ble_eq_true rfl) (Nat.le_of_ble_eq_true rfl) rfl dL_birds_10 ?_
  refine lv_icmp_lt (tgt := 32) hx hb dL_birds_11 (by decide) (fun c_11 => ?_) (fun c_11 => ?_)
  · refine lv_iconst (v := 0) hx hb dL_birds_32 (by decide) ?_
    exact ag_iret [ag] hx hb hr (by decide) hlocks hP hS rfl rfl ⟨(by unfold sr_L_birds; rw [if_pos c_11]), rfl⟩ dL_birds_33
  · refine lv_aload_n hx hb dL_birds_14 rfl (lv_at hl 0 rfl) ?_
    refine lv_iconst (v := 0) hx hb dL_birds_15 (by decide) ?_
    refine ag_ild (k := 0) (v := ug 0) hx hb hK hP 0 rfl rfl (Nat.le_of_ble_eq_true rfl) (Nat.le_of_ble_eq_true rfl) rfl dL_birds_16 ?_
    refine lv_sipush (v := 144) hx hb dL_birds_17 (by decide) ?_
    refine lv_irem hx hb dL_birds_20 (by decide) ?_
    refine lv_aload_n hx hb dL_birds_21 rfl (lv_at hl 0 rfl) ?_
    refine lv_bipush (v := 7) hx hb dL_birds_22 (by decide) ?_
    refine ag_ild (k := 7) (v := ug 7) hx hb hK hP 0 rfl rfl (Nat.le_of_ble_eq_true rfl) (Nat.le_of_ble_eq_true rfl) rfl dL_birds_24 ?_
    refine lv_icmp_ge (tgt := 32) hx hb dL_birds_25 (by decide) (fun c_25 => ?_) (fun c_25 => ?_)
    · refine lv_iconst (v := 0) hx hb dL_birds_32 (by decide) ?_
      exact ag_iret [ag] hx hb hr (by decide) hlocks hP hS rfl rfl ⟨(by unfold sr_L_birds; rw [if_neg c_11, if_pos c_25]), rfl⟩ dL_birds_33
    · refine lv_iconst (v := 1) hx hb dL_birds_28 (by decide) ?_
      refine lv_goto (tgt := 33) hx hb dL_birds_29 (by decide) ?_
      exact ag_iret [ag] hx hb hr (by decide) hlocks hP hS rfl rfl ⟨(by unfold sr_L_birds; rw [if_neg c_11, if_neg c_25]), rfl⟩ dL_birds_33
def j32_0_L_weigh (ug : Nat → Int32) : Int32 := if (sr_L_birds ug) = 0 then (2 * (ug 3)) * ((sr_L_sea (ug 0)) - (sr_L_level ug)) else 0
def xv32_1_L_weigh (ug : Nat → Int32) : Int32 := j32_0_L_weigh ug
def j55_0_L_weigh (ug : Nat → Int32) : Int32 := if (ug 8) ≤ (sr_L_size ((sr_L_sea (ug 0)) - (sr_L_level ug))) then (ug 4) * ((sr_L_sea (ug 0)) - (sr_L_level ug)) else 0
def xv55_2_L_weigh (ug : Nat → Int32) : Int32 := j55_0_L_weigh ug
def j83_0_L_weigh (ug : Nat → Int32) : Int32 := if (sr_L_birds ug) = 0 then if (sr_L_size ((sr_L_sea (ug 0)) - (sr_L_level ug))) ≤ (ug 9) then ug 5 else 0 else 0
def xv83_3_L_weigh (ug : Nat → Int32) : Int32 := j83_0_L_weigh ug
def xv100_4_L_weigh (ug : Nat → Int32) : Int32 := ((sr_L_size (xv55_2_L_weigh ug)) * (sr_L_size ((sr_L_sea (ug 0)) - (sr_L_level ug)))) / 100
def xv120_5_L_weigh (ug : Nat → Int32) : Int32 := ((sr_L_size (xv83_3_L_weigh ug)) * (20 + (sr_L_size ((sr_L_sea (ug 0)) - (sr_L_level ug))))) / 100
def j159_0_L_weigh (ug : Nat → Int32) : Int32 := if ((((ug 1) + (xv32_1_L_weigh ug)) + (xv55_2_L_weigh ug)) + (xv83_3_L_weigh ug)) ≤ 80000 then if 0 ≤ ((((ug 1) + (xv32_1_L_weigh ug)) + (xv55_2_L_weigh ug)) + (xv83_3_L_weigh ug)) then (((ug 1) + (xv32_1_L_weigh ug)) + (xv55_2_L_weigh ug)) + (xv83_3_L_weigh ug) else 0 else 80000
def xv163_6_L_weigh (ug : Nat → Int32) : Int32 := (j159_0_L_weigh ug) - (ug 1)
def j250_0_L_weigh (ug : Nat → Int32) : Int32 := if ((sr_L_size (xv163_6_L_weigh ug)) / 20) ≤ (ug 2) then (sr_L_size (xv163_6_L_weigh ug)) / 20 else ug 2
def j251_0_L_weigh (ug : Nat → Int32) : Int32 := if (xv163_6_L_weigh ug) ≤ 0 then if (xv163_6_L_weigh ug) ≤ (-(ug 10)) then -(j250_0_L_weigh ug) else 0 else if ((ug 2) + ((xv163_6_L_weigh ug) / 50)) ≤ 20000 then (xv163_6_L_weigh ug) / 50 else 20000 - (ug 2)
def xv251_7_L_weigh (ug : Nat → Int32) : Int32 := j251_0_L_weigh ug
def sw1_L_weigh (ug : Nat → Int32) (uf : Nat → Int32) : Nat → Int32 := upd (upd (upd (upd (upd (upd (upd uf 0 (xv32_1_L_weigh ug)) 1 (xv55_2_L_weigh ug)) 2 (xv83_3_L_weigh ug)) 4 (xv100_4_L_weigh ug)) 5 (xv120_5_L_weigh ug)) 3 (xv163_6_L_weigh ug)) 6 (xv251_7_L_weigh ug)
abbrev po_L_weigh (cI cC cL : ClassId) (ag af : Nat) (ug uf : Nat → Int32) : va_W → Prop := fun w' => [aI cI ag 18 ug, aI cI af 7 (sw1_L_weigh ug uf)] = w'
set_option maxHeartbeats 4000000 in
set_option maxRecDepth 100000 in
theorem ct_L_weigh (l : Launch) (D : va_G) (cI cC cL : ClassId) (ag af : Nat) (ug uf : Nat → Int32) : ag_MV l yL_weigh cL_weigh 6 1 23 D cI cC cL [.ref ag, .ref af] [aI cI ag 18 ug, aI cI af 7 uf] (po_L_weigh cI cC cL ag af ug uf) := by
  refine ag_MV.of (plainFor_of_name (by decide)) (Nat.le_of_ble_eq_true rfl) ?_
  intro p e s m below meth c hx hb hr hlocks hml hown hmn hG hK A hN hA H locs hP hD hS ls hl
  have hl : lv_has ls 6 [(0, .ref ag), (1, .ref af)] := hl
  refine lv_aload_n hx hb dL_weigh_0 rfl (lv_at hl 0 rfl) ?_
  refine lv_iconst (v := 0) hx hb dL_weigh_1 (by decide) ?_
  refine ag_ild (k := 0) (v := ug 0) hx hb hK hP 0 rfl rfl (Nat.le_of_ble_eq_true rfl) (Nat.le_of_ble_eq_true rfl) rfl dL_weigh_2 ?_
  refine ag_callSi (As := [.int (ug 0)]) (rest := []) hx hb hml hown hG hK hN hA hP hD hS hl (ct_L_sea l D cI cC cL (ug 0)) fL_sea k_387 ag_cut_0 rfl (Nat.le_of_ble_eq_true rfl) ⟨Nat.le_of_ble_eq_true rfl, Nat.le_of_ble_eq_true rfl⟩ ⟨Nat.zero_le _, Nat.zero_le _⟩ dL_weigh_3 (fun r w1 H locs hw hP hD hS => ?_)
  obtain ⟨rfl, hw⟩ := hw
  subst hw
  have hP : va_P D vwCl [aI cI ag 18 ug, aI cI af 7 uf] H := hP
  have hD : va_D A [aI cI ag 18 ug, aI cI af 7 uf] := hD
  refine lv_aload_n hx hb dL_weigh_6 rfl (lv_at hl 0 rfl) ?_
  refine ag_callSi (As := [.ref ag]) (rest := [.int (sr_L_sea (ug 0))]) hx hb hml hown hG hK hN hA hP hD hS hl (ct_L_level l D cI cC cL ag ug) fL_level k_390 (ag_cut_1 [] [aI cI af 7 uf] rfl) rfl (Nat.le_of_ble_eq_true rfl) ⟨Nat.le_of_ble_eq_true rfl, Nat.le_of_ble_eq_true rfl⟩ ⟨Nat.zero_le _, Nat.zero_le _⟩ dL_weigh_7 (fun r w1 H locs hw hP hD hS => ?_)
  obtain ⟨rfl, hw⟩ := hw
  subst hw
  have hP : va_P D vwCl [aI cI ag 18 ug, aI cI af 7 uf] H := hP
  have hD : va_D A [aI cI ag 18 ug, aI cI af 7 uf] := hD
  refine lv_isub hx hb dL_weigh_10 ?_
  refine lv_istore_n (lv' := [(2, .int ((sr_L_sea (ug 0)) - (sr_L_level ug))), (0, .ref ag), (1, .ref af)]) hx hb dL_weigh_11 rfl hl (by decide) rfl (fun ls hl => ?_)
  refine lv_aload_n hx hb dL_weigh_12 rfl (lv_at hl 2 rfl) ?_
  refine lv_iconst (v := 0) hx hb dL_weigh_13 (by decide) ?_
  refine lv_aload_n hx hb dL_weigh_14 rfl (lv_at hl 1 rfl) ?_
  refine ag_callSi (As := [.ref ag]) (rest := [.int 0, .ref af]) hx hb hml hown hG hK hN hA hP hD hS hl (ct_L_birds l D cI cC cL ag ug) fL_birds k_393 (ag_cut_1 [] [aI cI af 7 uf] rfl) rfl (Nat.le_of_ble_eq_true rfl) ⟨Nat.le_of_ble_eq_true rfl, Nat.le_of_ble_eq_true rfl⟩ ⟨Nat.zero_le _, Nat.zero_le _⟩ dL_weigh_15 (fun r w1 H locs hw hP hD hS => ?_)
  obtain ⟨rfl, hw⟩ := hw
  subst hw
  have hP : va_P D vwCl [aI cI ag 18 ug, aI cI af 7 uf] H := hP
  have hD : va_D A [aI cI ag 18 ug, aI cI af 7 uf] := hD
  have J32 : ∀ (ls : Array Slot), lv_has ls 6 [(0, .ref ag), (1, .ref af), (2, .int ((sr_L_sea (ug 0)) - (sr_L_level ug)))] → W p l e (ag_rm 1 23) s m ([.ref ag, .ref af] : List Value).toArray below meth c H locs 0 0 (MQ below (va_Qv (po_L_weigh cI cC cL ag af ug uf) (ag_Out D [aI cI ag 18 ug, aI cI af 7 uf]) A) ([.ref ag, .ref af] : List Value).toArray s 0 0 A) (F0 m 32 ls [.int (j32_0_L_weigh ug), .int 0, .ref af]) := by
    intro ls hl
    refine ag_topn (v := xv32_1_L_weigh ug) rfl (fun x32_1 ex32_1 => ?_)
    refine ag_ist (k := 0) hx hb hK hP hD hS 1 rfl rfl (Nat.le_of_ble_eq_true rfl) (Nat.le_of_ble_eq_true rfl) dL_weigh_32 (fun H locs hP hD hS => ?_)
    have hP : va_P D vwCl [aI cI ag 18 ug, aI cI af 7 (upd uf 0 x32_1)] H := hP
    have hD : va_D A [aI cI ag 18 ug, aI cI af 7 (upd uf 0 x32_1)] := hD
    refine lv_aload_n hx hb dL_weigh_33 rfl (lv_at hl 1 rfl) ?_
    refine lv_iconst (v := 1) hx hb dL_weigh_34 (by decide) ?_
    refine lv_iload_n hx hb dL_weigh_35 rfl (lv_at hl 2 rfl) ?_
    refine ag_callSi (As := [.int ((sr_L_sea (ug 0)) - (sr_L_level ug))]) (rest := [.int 1, .ref af]) hx hb hml hown hG hK hN hA hP hD hS hl (ct_L_size l D cI cC cL ((sr_L_sea (ug 0)) - (sr_L_level ug))) fL_size k_396 ag_cut_0 rfl (Nat.le_of_ble_eq_true rfl) ⟨Nat.le_of_ble_eq_true rfl, Nat.le_of_ble_eq_true rfl⟩ ⟨Nat.zero_le _, Nat.zero_le _⟩ dL_weigh_36 (fun r w1 H locs hw hP hD hS => ?_)
    obtain ⟨rfl, hw⟩ := hw
    subst hw
    have hP : va_P D vwCl [aI cI ag 18 ug, aI cI af 7 (upd uf 0 x32_1)] H := hP
    have hD : va_D A [aI cI ag 18 ug, aI cI af 7 (upd uf 0 x32_1)] := hD
    refine lv_aload_n hx hb dL_weigh_39 rfl (lv_at hl 0 rfl) ?_
    refine lv_bipush (v := 8) hx hb dL_weigh_40 (by decide) ?_
    refine ag_ild (k := 8) (v := ug 8) hx hb hK hP 0 rfl rfl (Nat.le_of_ble_eq_true rfl) (Nat.le_of_ble_eq_true rfl) rfl dL_weigh_42 ?_
    have J55 : ∀ (ls : Array Slot), lv_has ls 6 [(0, .ref ag), (1, .ref af), (2, .int ((sr_L_sea (ug 0)) - (sr_L_level ug)))] → W p l e (ag_rm 1 23) s m ([.ref ag, .ref af] : List Value).toArray below meth c H locs 0 0 (MQ below (va_Qv (po_L_weigh cI cC cL ag af ug uf) (ag_Out D [aI cI ag 18 ug, aI cI af 7 uf]) A) ([.ref ag, .ref af] : List Value).toArray s 0 0 A) (F0 m 55 ls [.int (j55_0_L_weigh ug), .int 1, .ref af]) := by
      intro ls hl
      refine ag_topn (v := xv55_2_L_weigh ug) rfl (fun x55_2 ex55_2 => ?_)
      refine ag_ist (k := 1) hx hb hK hP hD hS 1 rfl rfl (Nat.le_of_ble_eq_true rfl) (Nat.le_of_ble_eq_true rfl) dL_weigh_55 (fun H locs hP hD hS => ?_)
      have hP : va_P D vwCl [aI cI ag 18 ug, aI cI af 7 (upd (upd uf 0 x32_1) 1 x55_2)] H := hP
      have hD : va_D A [aI cI ag 18 ug, aI cI af 7 (upd (upd uf 0 x32_1) 1 x55_2)] := hD
      refine lv_aload_n hx hb dL_weigh_56 rfl (lv_at hl 1 rfl) ?_
      refine lv_iconst (v := 2) hx hb dL_weigh_57 (by decide) ?_
      refine lv_aload_n hx hb dL_weigh_58 rfl (lv_at hl 0 rfl) ?_
      refine ag_callSi (As := [.ref ag]) (rest := [.int 2, .ref af]) hx hb hml hown hG hK hN hA hP hD hS hl (ct_L_birds l D cI cC cL ag ug) fL_birds k_393 (ag_cut_1 [] [aI cI af 7 (upd (upd uf 0 x32_1) 1 x55_2)] rfl) rfl (Nat.le_of_ble_eq_true rfl) ⟨Nat.le_of_ble_eq_true rfl, Nat.le_of_ble_eq_true rfl⟩ ⟨Nat.zero_le _, Nat.zero_le _⟩ dL_weigh_59 (fun r w1 H locs hw hP hD hS => ?_)
      obtain ⟨rfl, hw⟩ := hw
      subst hw
      have hP : va_P D vwCl [aI cI ag 18 ug, aI cI af 7 (upd (upd uf 0 x32_1) 1 x55_2)] H := hP
      have hD : va_D A [aI cI ag 18 ug, aI cI af 7 (upd (upd uf 0 x32_1) 1 x55_2)] := hD
      have J83 : ∀ (H : Heap) (locs : List Loc), va_P D vwCl [aI cI ag 18 ug, aI cI af 7 (upd (upd uf 0 x32_1) 1 x55_2)] H → va_D A [aI cI ag 18 ug, aI cI af 7 (upd (upd uf 0 x32_1) 1 x55_2)] → va_S A s.heap H locs → ∀ (ls : Array Slot), lv_has ls 6 [(0, .ref ag), (1, .ref af), (2, .int ((sr_L_sea (ug 0)) - (sr_L_level ug)))] → W p l e (ag_rm 1 23) s m ([.ref ag, .ref af] : List Value).toArray below meth c H locs 0 0 (MQ below (va_Qv (po_L_weigh cI cC cL ag af ug uf) (ag_Out D [aI cI ag 18 ug, aI cI af 7 uf]) A) ([.ref ag, .ref af] : List Value).toArray s 0 0 A) (F0 m 83 ls [.int (j83_0_L_weigh ug), .int 2, .ref af]) := by
        intro H locs hP hD hS ls hl
        refine ag_topn (v := xv83_3_L_weigh ug) rfl (fun x83_3 ex83_3 => ?_)
        refine ag_ist (k := 2) hx hb hK hP hD hS 1 rfl rfl (Nat.le_of_ble_eq_true rfl) (Nat.le_of_ble_eq_true rfl) dL_weigh_83 (fun H locs hP hD hS => ?_)
        have hP : va_P D vwCl [aI cI ag 18 ug, aI cI af 7 (upd (upd (upd uf 0 x32_1) 1 x55_2) 2 x83_3)] H := hP
        have hD : va_D A [aI cI ag 18 ug, aI cI af 7 (upd (upd (upd uf 0 x32_1) 1 x55_2) 2 x83_3)] := hD
        refine lv_aload_n hx hb dL_weigh_84 rfl (lv_at hl 1 rfl) ?_
        refine lv_iconst (v := 4) hx hb dL_weigh_85 (by decide) ?_
        refine lv_aload_n hx hb dL_weigh_86 rfl (lv_at hl 1 rfl) ?_
        refine lv_iconst (v := 1) hx hb dL_weigh_87 (by decide) ?_
        refine ag_ild (k := 1) (v := x55_2) hx hb hK hP 1 rfl rfl (Nat.le_of_ble_eq_true rfl) (Nat.le_of_ble_eq_true rfl) rfl dL_weigh_88 ?_
        refine ag_callSi (As := [.int x55_2]) (rest := [.int 4, .ref af]) hx hb hml hown hG hK hN hA hP hD hS hl (ct_L_size l D cI cC cL x55_2) fL_size k_396 ag_cut_0 rfl (Nat.le_of_ble_eq_true rfl) ⟨Nat.le_of_ble_eq_true rfl, Nat.le_of_ble_eq_true rfl⟩ ⟨Nat.zero_le _, Nat.zero_le _⟩ dL_weigh_89 (fun r w1 H locs hw hP hD hS => ?_)
        obtain ⟨rfl, hw⟩ := hw
        subst hw
        have hP : va_P D vwCl [aI cI ag 18 ug, aI cI af 7 (upd (upd (upd uf 0 x32_1) 1 x55_2) 2 x83_3)] H := hP
        have hD : va_D A [aI cI ag 18 ug, aI cI af 7 (upd (upd (upd uf 0 x32_1) 1 x55_2) 2 x83_3)] := hD
        refine lv_iload_n hx hb dL_weigh_92 rfl (lv_at hl 2 rfl) ?_
        refine ag_callSi (As := [.int ((sr_L_sea (ug 0)) - (sr_L_level ug))]) (rest := [.int (sr_L_size x55_2), .int 4, .ref af]) hx hb hml hown hG hK hN hA hP hD hS hl (ct_L_size l D cI cC cL ((sr_L_sea (ug 0)) - (sr_L_level ug))) fL_size k_396 ag_cut_0 rfl (Nat.le_of_ble_eq_true rfl) ⟨Nat.le_of_ble_eq_true rfl, Nat.le_of_ble_eq_true rfl⟩ ⟨Nat.zero_le _, Nat.zero_le _⟩ dL_weigh_93 (fun r w1 H locs hw hP hD hS => ?_)
        obtain ⟨rfl, hw⟩ := hw
        subst hw
        have hP : va_P D vwCl [aI cI ag 18 ug, aI cI af 7 (upd (upd (upd uf 0 x32_1) 1 x55_2) 2 x83_3)] H := hP
        have hD : va_D A [aI cI ag 18 ug, aI cI af 7 (upd (upd (upd uf 0 x32_1) 1 x55_2) 2 x83_3)] := hD
        refine lv_imul hx hb dL_weigh_96 ?_
        refine lv_bipush (v := 100) hx hb dL_weigh_97 (by decide) ?_
        refine lv_idiv hx hb dL_weigh_99 (by decide) ?_
        refine ag_topn (v := xv100_4_L_weigh ug) (by rw [← ex55_2]; rfl) (fun x100_4 ex100_4 => ?_)
        refine ag_ist (k := 4) hx hb hK hP hD hS 1 rfl rfl (Nat.le_of_ble_eq_true rfl) (Nat.le_of_ble_eq_true rfl) dL_weigh_100 (fun H locs hP hD hS => ?_)
        have hP : va_P D vwCl [aI cI ag 18 ug, aI cI af 7 (upd (upd (upd (upd uf 0 x32_1) 1 x55_2) 2 x83_3) 4 x100_4)] H := hP
        have hD : va_D A [aI cI ag 18 ug, aI cI af 7 (upd (upd (upd (upd uf 0 x32_1) 1 x55_2) 2 x83_3) 4 x100_4)] := hD
        refine lv_aload_n hx hb dL_weigh_101 rfl (lv_at hl 1 rfl) ?_
        refine lv_iconst (v := 5) hx hb dL_weigh_102 (by decide) ?_
        refine lv_aload_n hx hb dL_weigh_103 rfl (lv_at hl 1 rfl) ?_
        refine lv_iconst (v := 2) hx hb dL_weigh_104 (by decide) ?_
        refine ag_ild (k := 2) (v := x83_3) hx hb hK hP 1 rfl rfl (Nat.le_of_ble_eq_true rfl) (Nat.le_of_ble_eq_true rfl) rfl dL_weigh_105 ?_
        refine ag_callSi (As := [.int x83_3]) (rest := [.int 5, .ref af]) hx hb hml hown hG hK hN hA hP hD hS hl (ct_L_size l D cI cC cL x83_3) fL_size k_396 ag_cut_0 rfl (Nat.le_of_ble_eq_true rfl) ⟨Nat.le_of_ble_eq_true rfl, Nat.le_of_ble_eq_true rfl⟩ ⟨Nat.zero_le _, Nat.zero_le _⟩ dL_weigh_106 (fun r w1 H locs hw hP hD hS => ?_)
        obtain ⟨rfl, hw⟩ := hw
        subst hw
        have hP : va_P D vwCl [aI cI ag 18 ug, aI cI af 7 (upd (upd (upd (upd uf 0 x32_1) 1 x55_2) 2 x83_3) 4 x100_4)] H := hP
        have hD : va_D A [aI cI ag 18 ug, aI cI af 7 (upd (upd (upd (upd uf 0 x32_1) 1 x55_2) 2 x83_3) 4 x100_4)] := hD
        refine lv_bipush (v := 20) hx hb dL_weigh_109 (by decide) ?_
        refine lv_iload_n hx hb dL_weigh_111 rfl (lv_at hl 2 rfl) ?_
        refine ag_callSi (As := [.int ((sr_L_sea (ug 0)) - (sr_L_level ug))]) (rest := [.int 20, .int (sr_L_size x83_3), .int 5, .ref af]) hx hb hml hown hG hK hN hA hP hD hS hl (ct_L_size l D cI cC cL ((sr_L_sea (ug 0)) - (sr_L_level ug))) fL_size k_396 ag_cut_0 rfl (Nat.le_of_ble_eq_true rfl) ⟨Nat.le_of_ble_eq_true rfl, Nat.le_of_ble_eq_true rfl⟩ ⟨Nat.zero_le _, Nat.zero_le _⟩ dL_weigh_112 (fun r w1 H locs hw hP hD hS => ?_)
        obtain ⟨rfl, hw⟩ := hw
        subst hw
        have hP : va_P D vwCl [aI cI ag 18 ug, aI cI af 7 (upd (upd (upd (upd uf 0 x32_1) 1 x55_2) 2 x83_3) 4 x100_4)] H := hP
        have hD : va_D A [aI cI ag 18 ug, aI cI af 7 (upd (upd (upd (upd uf 0 x32_1) 1 x55_2) 2 x83_3) 4 x100_4)] := hD
        refine lv_iadd hx hb dL_weigh_115 ?_
        refine lv_imul hx hb dL_weigh_116 ?_
        refine lv_bipush (v := 100) hx hb dL_weigh_117 (by decide) ?_
        refine lv_idiv hx hb dL_weigh_119 (by decide) ?_
        refine ag_topn (v := xv120_5_L_weigh ug) (by rw [← ex83_3]; rfl) (fun x120_5 ex120_5 => ?_)
        refine ag_ist (k := 5) hx hb hK hP hD hS 1 rfl rfl (Nat.le_of_ble_eq_true rfl) (Nat.le_of_ble_eq_true rfl) dL_weigh_120 (fun H locs hP hD hS => ?_)
        have hP : va_P D vwCl [aI cI ag 18 ug, aI cI af 7 (upd (upd (upd (upd (upd uf 0 x32_1) 1 x55_2) 2 x83_3) 4 x100_4) 5 x120_5)] H := hP
        have hD : va_D A [aI cI ag 18 ug, aI cI af 7 (upd (upd (upd (upd (upd uf 0 x32_1) 1 x55_2) 2 x83_3) 4 x100_4) 5 x120_5)] := hD
        refine lv_aload_n hx hb dL_weigh_121 rfl (lv_at hl 0 rfl) ?_
        refine lv_iconst (v := 1) hx hb dL_weigh_122 (by decide) ?_
        refine ag_ild (k := 1) (v := ug 1) hx hb hK hP 0 rfl rfl (Nat.le_of_ble_eq_true rfl) (Nat.le_of_ble_eq_true rfl) rfl dL_weigh_123 ?_
        refine lv_aload_n hx hb dL_weigh_124 rfl (lv_at hl 1 rfl) ?_
        refine lv_iconst (v := 0) hx hb dL_weigh_125 (by decide) ?_
        refine ag_ild (k := 0) (v := x32_1) hx hb hK hP 1 rfl rfl (Nat.le_of_ble_eq_true rfl) (Nat.le_of_ble_eq_true rfl) rfl dL_weigh_126 ?_
        refine lv_iadd hx hb dL_weigh_127 ?_
        refine lv_aload_n hx hb dL_weigh_128 rfl (lv_at hl 1 rfl) ?_
        refine lv_iconst (v := 1) hx hb dL_weigh_129 (by decide) ?_
        refine ag_ild (k := 1) (v := x55_2) hx hb hK hP 1 rfl rfl (Nat.le_of_ble_eq_true rfl) (Nat.le_of_ble_eq_true rfl) rfl dL_weigh_130 ?_
        refine lv_iadd hx hb dL_weigh_131 ?_
        refine lv_aload_n hx hb dL_weigh_132 rfl (lv_at hl 1 rfl) ?_
        refine lv_iconst (v := 2) hx hb dL_weigh_133 (by decide) ?_
        refine ag_ild (k := 2) (v := x83_3) hx hb hK hP 1 rfl rfl (Nat.le_of_ble_eq_true rfl) (Nat.le_of_ble_eq_true rfl) rfl dL_weigh_134 ?_
        refine lv_iadd hx hb dL_weigh_135 ?_
        refine lv_istore_n (lv' := [(3, .int ((((ug 1) + x32_1) + x55_2) + x83_3)), (0, .ref ag), (1, .ref af), (2, .int ((sr_L_sea (ug 0)) - (sr_L_level ug)))]) hx hb dL_weigh_136 rfl hl (by decide) rfl (fun ls hl => ?_)
        refine lv_aload_n hx hb dL_weigh_137 rfl (lv_at hl 2 rfl) ?_
        refine lv_iconst (v := 3) hx hb dL_weigh_138 (by decide) ?_
        refine lv_iload_n hx hb dL_weigh_139 rfl (lv_at hl 0 rfl) ?_
        refine lv_ldc (v := 80000) hx hb hown (hG _ k_399) dL_weigh_140 ?_
        have J159 : ∀ (ls : Array Slot), lv_has ls 6 [(0, .ref ag), (1, .ref af), (2, .int ((sr_L_sea (ug 0)) - (sr_L_level ug))), (3, .int ((((ug 1) + x32_1) + x55_2) + x83_3))] → W p l e (ag_rm 1 23) s m ([.ref ag, .ref af] : List Value).toArray below meth c H locs 0 0 (MQ below (va_Qv (po_L_weigh cI cC cL ag af ug uf) (ag_Out D [aI cI ag 18 ug, aI cI af 7 uf]) A) ([.ref ag, .ref af] : List Value).toArray s 0 0 A) (F0 m 159 ls [.int (j159_0_L_weigh ug), .int 3, .ref af]) := by
          intro ls hl
          refine lv_aload_n hx hb dL_weigh_159 rfl (lv_at hl 0 rfl) ?_
          refine lv_iconst (v := 1) hx hb dL_weigh_160 (by decide) ?_
          refine ag_ild (k := 1) (v := ug 1) hx hb hK hP 0 rfl rfl (Nat.le_of_ble_eq_true rfl) (Nat.le_of_ble_eq_true rfl) rfl dL_weigh_161 ?_
          refine lv_isub hx hb dL_weigh_162 ?_
          refine ag_topn (v := xv163_6_L_weigh ug) rfl (fun x163_6 ex163_6 => ?_)
          refine ag_ist (k := 3) hx hb hK hP hD hS 1 rfl rfl (Nat.le_of_ble_eq_true rfl) (Nat.le_of_ble_eq_true rfl) dL_weigh_163 (fun H locs hP hD hS => ?_)
          have hP : va_P D vwCl [aI cI ag 18 ug, aI cI af 7 (upd (upd (upd (upd (upd (upd uf 0 x32_1) 1 x55_2) 2 x83_3) 4 x100_4) 5 x120_5) 3 x163_6)] H := hP
          have hD : va_D A [aI cI ag 18 ug, aI cI af 7 (upd (upd (upd (upd (upd (upd uf 0 x32_1) 1 x55_2) 2 x83_3) 4 x100_4) 5 x120_5) 3 x163_6)] := hD
          refine lv_aload_n hx hb dL_weigh_164 rfl (lv_at hl 1 rfl) ?_
          refine lv_iconst (v := 3) hx hb dL_weigh_165 (by decide) ?_
          refine ag_ild (k := 3) (v := x163_6) hx hb hK hP 1 rfl rfl (Nat.le_of_ble_eq_true rfl) (Nat.le_of_ble_eq_true rfl) rfl dL_weigh_166 ?_
          refine lv_bipush (v := 50) hx hb dL_weigh_167 (by decide) ?_
          refine lv_idiv hx hb dL_weigh_169 (by decide) ?_
          refine lv_istore (lv' := [(4, .int (x163_6 / 50)), (0, .ref ag), (1, .ref af), (2, .int ((sr_L_sea (ug 0)) - (sr_L_level ug))), (3, .int ((((ug 1) + x32_1) + x55_2) + x83_3))]) hx hb dL_weigh_170 hl (by decide) rfl (fun ls hl => ?_)
          refine lv_aload_n hx hb dL_weigh_172 rfl (lv_at hl 2 rfl) ?_
          refine lv_iconst (v := 3) hx hb dL_weigh_173 (by decide) ?_
          refine ag_ild (k := 3) (v := x163_6) hx hb hK hP 1 rfl rfl (Nat.le_of_ble_eq_true rfl) (Nat.le_of_ble_eq_true rfl) rfl dL_weigh_174 ?_
          refine ag_callSi (As := [.int x163_6]) (rest := []) hx hb hml hown hG hK hN hA hP hD hS hl (ct_L_size l D cI cC cL x163_6) fL_size k_396 ag_cut_0 rfl (Nat.le_of_ble_eq_true rfl) ⟨Nat.le_of_ble_eq_true rfl, Nat.le_of_ble_eq_true rfl⟩ ⟨Nat.zero_le _, Nat.zero_le _⟩ dL_weigh_175 (fun r w1 H locs hw hP hD hS => ?_)
          obtain ⟨rfl, hw⟩ := hw
          subst hw
          have hP : va_P D vwCl [aI cI ag 18 ug, aI cI af 7 (upd (upd (upd (upd (upd (upd uf 0 x32_1) 1 x55_2) 2 x83_3) 4 x100_4) 5 x120_5) 3 x163_6)] H := hP
          have hD : va_D A [aI cI ag 18 ug, aI cI af 7 (upd (upd (upd (upd (upd (upd uf 0 x32_1) 1 x55_2) 2 x83_3) 4 x100_4) 5 x120_5) 3 x163_6)] := hD
          refine lv_bipush (v := 20) hx hb dL_weigh_178 (by decide) ?_
          refine lv_idiv hx hb dL_weigh_180 (by decide) ?_
          refine lv_istore (lv' := [(5, .int ((sr_L_size x163_6) / 20)), (4, .int (x163_6 / 50)), (0, .ref ag), (1, .ref af), (2, .int ((sr_L_sea (ug 0)) - (sr_L_level ug))), (3, .int ((((ug 1) + x32_1) + x55_2) + x83_3))]) hx hb dL_weigh_181 hl (by decide) rfl (fun ls hl => ?_)
          refine lv_aload_n hx hb dL_weigh_183 rfl (lv_at hl 3 rfl) ?_
          refine lv_bipush (v := 6) hx hb dL_weigh_184 (by decide) ?_
          refine lv_aload_n hx hb dL_weigh_186 rfl (lv_at hl 3 rfl) ?_
          refine lv_iconst (v := 3) hx hb dL_weigh_187 (by decide) ?_
          refine ag_ild (k := 3) (v := x163_6) hx hb hK hP 1 rfl rfl (Nat.le_of_ble_eq_true rfl) (Nat.le_of_ble_eq_true rfl) rfl dL_weigh_188 ?_
          have J251 : ∀ (ls : Array Slot), lv_has ls 6 [(0, .ref ag), (1, .ref af), (2, .int ((sr_L_sea (ug 0)) - (sr_L_level ug))), (3, .int ((((ug 1) + x32_1) + x55_2) + x83_3)), (4, .int (x163_6 / 50)), (5, .int ((sr_L_size x163_6) / 20))] → W p l e (ag_rm 1 23) s m ([.ref ag, .ref af] : List Value).toArray below meth c H locs 0 0 (MQ below (va_Qv (po_L_weigh cI cC cL ag af ug uf) (ag_Out D [aI cI ag 18 ug, aI cI af 7 uf]) A) ([.ref ag, .ref af] : List Value).toArray s 0 0 A) (F0 m 251 ls [.int (j251_0_L_weigh ug), .int 6, .ref af]) := by
            intro ls hl
            refine ag_topn (v := xv251_7_L_weigh ug) rfl (fun x251_7 ex251_7 => ?_)
            refine ag_ist (k := 6) hx hb hK hP hD hS 1 rfl rfl (Nat.le_of_ble_eq_true rfl) (Nat.le_of_ble_eq_true rfl) dL_weigh_251 (fun H locs hP hD hS => ?_)
            have hP : va_P D vwCl [aI cI ag 18 ug, aI cI af 7 (upd (upd (upd (upd (upd (upd (upd uf 0 x32_1) 1 x55_2) 2 x83_3) 4 x100_4) 5 x120_5) 3 x163_6) 6 x251_7)] H := hP
            have hD : va_D A [aI cI ag 18 ug, aI cI af 7 (upd (upd (upd (upd (upd (upd (upd uf 0 x32_1) 1 x55_2) 2 x83_3) 4 x100_4) 5 x120_5) 3 x163_6) 6 x251_7)] := hD
            revert hP; revert hD; revert hS; revert hl
            subst ex251_7
            subst ex163_6
            subst ex120_5
            subst ex100_4
            subst ex83_3
            subst ex55_2
            subst ex32_1
            intro hl hS hD hP
            exact ag_vret [ag, af] hx hb hr hlocks hP hS rfl rfl (by show _ = _; rw [show sw1_L_weigh ug uf = upd (upd (upd (upd (upd (upd (upd uf 0 (xv32_1_L_weigh ug)) 1 (xv55_2_L_weigh ug)) 2 (xv83_3_L_weigh ug)) 4 (xv100_4_L_weigh ug)) 5 (xv120_5_L_weigh ug)) 3 (xv163_6_L_weigh ug)) 6 (xv251_7_L_weigh ug) from rfl]) dL_weigh_252
          refine lv_if_le (tgt := 219) hx hb dL_weigh_189 (by decide) (fun c_189 => ?_) (fun c_189 => ?_)
          · refine lv_aload_n hx hb dL_weigh_219 rfl (lv_at hl 3 rfl) ?_
            refine lv_iconst (v := 3) hx hb dL_weigh_220 (by decide) ?_
            refine ag_ild (k := 3) (v := x163_6) hx hb hK hP 1 rfl rfl (Nat.le_of_ble_eq_true rfl) (Nat.le_of_ble_eq_true rfl) rfl dL_weigh_221 ?_
            refine lv_aload_n hx hb dL_weigh_222 rfl (lv_at hl 2 rfl) ?_
            refine lv_bipush (v := 10) hx hb dL_weigh_223 (by decide) ?_
            refine ag_ild (k := 10) (v := ug 10) hx hb hK hP 0 rfl rfl (Nat.le_of_ble_eq_true rfl) (Nat.le_of_ble_eq_true rfl) rfl dL_weigh_225 ?_
            refine lv_ineg hx hb dL_weigh_226 ?_
            refine lv_icmp_le (tgt := 234) hx hb dL_weigh_227 (by decide) (fun c_227 => ?_) (fun c_227 => ?_)
            · refine lv_iload hx hb dL_weigh_234 (lv_at hl 0 rfl) ?_
              refine lv_aload_n hx hb dL_weigh_236 rfl (lv_at hl 2 rfl) ?_
              refine lv_iconst (v := 2) hx hb dL_weigh_237 (by decide) ?_
              refine ag_ild (k := 2) (v := ug 2) hx hb hK hP 0 rfl rfl (Nat.le_of_ble_eq_true rfl) (Nat.le_of_ble_eq_true rfl) rfl dL_weigh_238 ?_
              have J250 : ∀ (ls : Array Slot), lv_has ls 6 [(0, .ref ag), (1, .ref af), (2, .int ((sr_L_sea (ug 0)) - (sr_L_level ug))), (3, .int ((((ug 1) + x32_1) + x55_2) + x83_3)), (4, .int (x163_6 / 50)), (5, .int ((sr_L_size x163_6) / 20))] → W p l e (ag_rm 1 23) s m ([.ref ag, .ref af] : List Value).toArray below meth c H locs 0 0 (MQ below (va_Qv (po_L_weigh cI cC cL ag af ug uf) (ag_Out D [aI cI ag 18 ug, aI cI af 7 uf]) A) ([.ref ag, .ref af] : List Value).toArray s 0 0 A) (F0 m 250 ls [.int (j250_0_L_weigh ug), .int 6, .ref af]) := by
                intro ls hl
                refine lv_ineg hx hb dL_weigh_250 ?_
                revert hP; revert hD; revert hS; revert hl
                subst ex163_6
                subst ex120_5
                subst ex100_4
                subst ex83_3
                subst ex55_2
                subst ex32_1
                intro hl hS hD hP
                simp only [j251_0_L_weigh, if_pos c_189, if_pos c_227] at J251
                exact J251 _ (lv_sub hl [0, 1, 2, 3, 4, 5] rfl)
              refine lv_icmp_le (tgt := 248) hx hb dL_weigh_239 (by decide) (fun c_239 => ?_) (fun c_239 => ?_)
              · refine lv_iload hx hb dL_weigh_248 (lv_at hl 0 rfl) ?_
                revert hP; revert hD; revert hS; revert hl
                subst ex163_6
                subst ex120_5
                subst ex100_4
                subst ex83_3
                subst ex55_2
                subst ex32_1
                intro hl hS hD hP
                simp only [j250_0_L_weigh, if_pos c_239] at J250
                exact J250 _ (lv_sub hl [2, 3, 4, 5, 1, 0] rfl)
              · refine lv_aload_n hx hb dL_weigh_242 rfl (lv_at hl 2 rfl) ?_
                refine lv_iconst (v := 2) hx hb dL_weigh_243 (by decide) ?_
                refine ag_ild (k := 2) (v := ug 2) hx hb hK hP 0 rfl rfl (Nat.le_of_ble_eq_true rfl) (Nat.le_of_ble_eq_true rfl) rfl dL_weigh_244 ?_
                refine lv_goto (tgt := 250) hx hb dL_weigh_245 (by decide) ?_
                revert hP; revert hD; revert hS; revert hl
                subst ex163_6
                subst ex120_5
                subst ex100_4
                subst ex83_3
                subst ex55_2
                subst ex32_1
                intro hl hS hD hP
                simp only [j250_0_L_weigh, if_neg c_239] at J250
                exact J250 _ (lv_sub hl [2, 3, 4, 5, 1, 0] rfl)
            · refine lv_iconst (v := 0) hx hb dL_weigh_230 (by decide) ?_
              refine lv_goto (tgt := 251) hx hb dL_weigh_231 (by decide) ?_
              revert hP; revert hD; revert hS; revert hl
              subst ex163_6
              subst ex120_5
              subst ex100_4
              subst ex83_3
              subst ex55_2
              subst ex32_1
              intro hl hS hD hP
              simp only [j251_0_L_weigh, if_pos c_189, if_neg c_227] at J251
              exact J251 _ (lv_sub hl [2, 3, 4, 5, 1, 0] rfl)
          · refine lv_aload_n hx hb dL_weigh_192 rfl (lv_at hl 2 rfl) ?_
            refine lv_iconst (v := 2) hx hb dL_weigh_193 (by decide) ?_
            refine ag_ild (k := 2) (v := ug 2) hx hb hK hP 0 rfl rfl (Nat.le_of_ble_eq_true rfl) (Nat.le_of_ble_eq_true rfl) rfl dL_weigh_194 ?_
            refine lv_iload hx hb dL_weigh_195 (lv_at hl 1 rfl) ?_
            refine lv_iadd hx hb dL_weigh_197 ?_
            refine lv_sipush (v := 20000) hx hb dL_weigh_198 (by decide) ?_
            refine lv_icmp_le (tgt := 214) hx hb dL_weigh_201 (by decide) (fun c_201 => ?_) (fun c_201 => ?_)
            · refine lv_iload hx hb dL_weigh_214 (lv_at hl 1 rfl) ?_
              refine lv_goto (tgt := 251) hx hb dL_weigh_216 (by decide) ?_
              revert hP; revert hD; revert hS; revert hl
              subst ex163_6
              subst ex120_5
              subst ex100_4
              subst ex83_3
              subst ex55_2
              subst ex32_1
              intro hl hS hD hP
              simp only [j251_0_L_weigh, if_neg c_189, if_pos c_201] at J251
              exact J251 _ (lv_sub hl [2, 3, 4, 5, 1, 0] rfl)
            · refine lv_sipush (v := 20000) hx hb dL_weigh_204 (by decide) ?_
              refine lv_aload_n hx hb dL_weigh_207 rfl (lv_at hl 2 rfl) ?_
              refine lv_iconst (v := 2) hx hb dL_weigh_208 (by decide) ?_
              refine ag_ild (k := 2) (v := ug 2) hx hb hK hP 0 rfl rfl (Nat.le_of_ble_eq_true rfl) (Nat.le_of_ble_eq_true rfl) rfl dL_weigh_209 ?_
              refine lv_isub hx hb dL_weigh_210 ?_
              refine lv_goto (tgt := 251) hx hb dL_weigh_211 (by decide) ?_
              revert hP; revert hD; revert hS; revert hl
              subst ex163_6
              subst ex120_5
              subst ex100_4
              subst ex83_3
              subst ex55_2
              subst ex32_1
              intro hl hS hD hP
              simp only [j251_0_L_weigh, if_neg c_189, if_neg c_201] at J251
              exact J251 _ (lv_sub hl [2, 3, 4, 5, 1, 0] rfl)
        refine lv_icmp_le (tgt := 150) hx hb dL_weigh_142 (by decide) (fun c_142 => ?_) (fun c_142 => ?_)
        · refine lv_iload_n hx hb dL_weigh_150 rfl (lv_at hl 0 rfl) ?_
          refine lv_if_ge (tgt := 158) hx hb dL_weigh_151 (by decide) (fun c_151 => ?_) (fun c_151 => ?_)
          · refine lv_iload_n hx hb dL_weigh_158 rfl (lv_at hl 0 rfl) ?_
            revert hP; revert hD; revert hS; revert hl
            subst ex120_5
            subst ex100_4
            subst ex83_3
            subst ex55_2
            subst ex32_1
            intro hl hS hD hP
            simp only [j159_0_L_weigh, if_pos c_142, if_pos c_151] at J159
            exact J159 _ (lv_sub hl [1, 2, 3, 0] rfl)
          · refine lv_iconst (v := 0) hx hb dL_weigh_154 (by decide) ?_
            refine lv_goto (tgt := 159) hx hb dL_weigh_155 (by decide) ?_
            revert hP; revert hD; revert hS; revert hl
            subst ex120_5
            subst ex100_4
            subst ex83_3
            subst ex55_2
            subst ex32_1
            intro hl hS hD hP
            simp only [j159_0_L_weigh, if_pos c_142, if_neg c_151] at J159
            exact J159 _ (lv_sub hl [1, 2, 3, 0] rfl)
        · refine lv_ldc (v := 80000) hx hb hown (hG _ k_399) dL_weigh_145 ?_
          refine lv_goto (tgt := 159) hx hb dL_weigh_147 (by decide) ?_
          revert hP; revert hD; revert hS; revert hl
          subst ex120_5
          subst ex100_4
          subst ex83_3
          subst ex55_2
          subst ex32_1
          intro hl hS hD hP
          simp only [j159_0_L_weigh, if_neg c_142] at J159
          exact J159 _ (lv_sub hl [1, 2, 3, 0] rfl)
      refine lv_if_ne (tgt := 76) hx hb dL_weigh_62 (by decide) (fun c_62 => ?_) (fun c_62 => ?_)
      · refine lv_iconst (v := 0) hx hb dL_weigh_76 (by decide) ?_
        refine lv_goto (tgt := 83) hx hb dL_weigh_77 (by decide) ?_
        revert hP; revert hD; revert hS; revert hl
        subst ex55_2
        subst ex32_1
        intro hl hS hD hP
        simp only [j83_0_L_weigh, if_neg c_62] at J83
        exact J83 H locs hP hD hS _ (lv_sub hl [0, 1, 2] rfl)
      · refine lv_iload_n hx hb dL_weigh_65 rfl (lv_at hl 2 rfl) ?_
        refine ag_callSi (As := [.int ((sr_L_sea (ug 0)) - (sr_L_level ug))]) (rest := [.int 2, .ref af]) hx hb hml hown hG hK hN hA hP hD hS hl (ct_L_size l D cI cC cL ((sr_L_sea (ug 0)) - (sr_L_level ug))) fL_size k_396 ag_cut_0 rfl (Nat.le_of_ble_eq_true rfl) ⟨Nat.le_of_ble_eq_true rfl, Nat.le_of_ble_eq_true rfl⟩ ⟨Nat.zero_le _, Nat.zero_le _⟩ dL_weigh_66 (fun r w1 H locs hw hP hD hS => ?_)
        obtain ⟨rfl, hw⟩ := hw
        subst hw
        have hP : va_P D vwCl [aI cI ag 18 ug, aI cI af 7 (upd (upd uf 0 x32_1) 1 x55_2)] H := hP
        have hD : va_D A [aI cI ag 18 ug, aI cI af 7 (upd (upd uf 0 x32_1) 1 x55_2)] := hD
        refine lv_aload_n hx hb dL_weigh_69 rfl (lv_at hl 0 rfl) ?_
        refine lv_bipush (v := 9) hx hb dL_weigh_70 (by decide) ?_
        refine ag_ild (k := 9) (v := ug 9) hx hb hK hP 0 rfl rfl (Nat.le_of_ble_eq_true rfl) (Nat.le_of_ble_eq_true rfl) rfl dL_weigh_72 ?_
        refine lv_icmp_le (tgt := 80) hx hb dL_weigh_73 (by decide) (fun c_73 => ?_) (fun c_73 => ?_)
        · refine lv_aload_n hx hb dL_weigh_80 rfl (lv_at hl 0 rfl) ?_
          refine lv_iconst (v := 5) hx hb dL_weigh_81 (by decide) ?_
          refine ag_ild (k := 5) (v := ug 5) hx hb hK hP 0 rfl rfl (Nat.le_of_ble_eq_true rfl) (Nat.le_of_ble_eq_true rfl) rfl dL_weigh_82 ?_
          revert hP; revert hD; revert hS; revert hl
          subst ex55_2
          subst ex32_1
          intro hl hS hD hP
          simp only [j83_0_L_weigh, if_pos c_62, if_pos c_73] at J83
          exact J83 H locs hP hD hS _ (lv_sub hl [0, 1, 2] rfl)
        · refine lv_iconst (v := 0) hx hb dL_weigh_76 (by decide) ?_
          refine lv_goto (tgt := 83) hx hb dL_weigh_77 (by decide) ?_
          revert hP; revert hD; revert hS; revert hl
          subst ex55_2
          subst ex32_1
          intro hl hS hD hP
          simp only [j83_0_L_weigh, if_pos c_62, if_neg c_73] at J83
          exact J83 H locs hP hD hS _ (lv_sub hl [0, 1, 2] rfl)
    refine lv_icmp_ge (tgt := 50) hx hb dL_weigh_43 (by decide) (fun c_43 => ?_) (fun c_43 => ?_)
    · refine lv_aload_n hx hb dL_weigh_50 rfl (lv_at hl 0 rfl) ?_
      refine lv_iconst (v := 4) hx hb dL_weigh_51 (by decide) ?_
      refine ag_ild (k := 4) (v := ug 4) hx hb hK hP 0 rfl rfl (Nat.le_of_ble_eq_true rfl) (Nat.le_of_ble_eq_true rfl) rfl dL_weigh_52 ?_
      refine lv_iload_n hx hb dL_weigh_53 rfl (lv_at hl 2 rfl) ?_
      refine lv_imul hx hb dL_weigh_54 ?_
      revert hP; revert hD; revert hS; revert hl
      subst ex32_1
      intro hl hS hD hP
      simp only [j55_0_L_weigh, if_pos c_43] at J55
      exact J55 _ (lv_sub hl [0, 1, 2] rfl)
    · refine lv_iconst (v := 0) hx hb dL_weigh_46 (by decide) ?_
      refine lv_goto (tgt := 55) hx hb dL_weigh_47 (by decide) ?_
      revert hP; revert hD; revert hS; revert hl
      subst ex32_1
      intro hl hS hD hP
      simp only [j55_0_L_weigh, if_neg c_43] at J55
      exact J55 _ (lv_sub hl [0, 1, 2] rfl)
  refine lv_if_eq (tgt := 25) hx hb dL_weigh_18 (by decide) (fun c_18 => ?_) (fun c_18 => ?_)
  · refine lv_iconst (v := 2) hx hb dL_weigh_25 (by decide) ?_
    refine lv_aload_n hx hb dL_weigh_26 rfl (lv_at hl 1 rfl) ?_
    refine lv_iconst (v := 3) hx hb dL_weigh_27 (by decide) ?_
    refine ag_ild (k := 3) (v := ug 3) hx hb hK hP 0 rfl rfl (Nat.le_of_ble_eq_true rfl) (Nat.le_of_ble_eq_true rfl) rfl dL_weigh_28 ?_
    refine lv_imul hx hb dL_weigh_29 ?_
    refine lv_iload_n hx hb dL_weigh_30 rfl (lv_at hl 0 rfl) ?_
    refine lv_imul hx hb dL_weigh_31 ?_
    simp only [j32_0_L_weigh, if_pos c_18] at J32
    exact J32 _ (lv_sub hl [1, 2, 0] rfl)
  · refine lv_iconst (v := 0) hx hb dL_weigh_21 (by decide) ?_
    refine lv_goto (tgt := 32) hx hb dL_weigh_22 (by decide) ?_
    simp only [j32_0_L_weigh, if_neg c_18] at J32
    exact J32 _ (lv_sub hl [1, 2, 0] rfl)
end
section
/-! contracts of methods that make cells which are let go: so many cells of so many slots -/
abbrev ag_rn (fr lo mc ms : Nat) : Room := { frames := fr, cells := mc, slots := ms, locals := lo }
def ag_MIn (l : Launch) (y : MethodName) (code : ByteArray) (maxL : Nat) (ret : FieldType) (fr lo mc ms : Nat) (D : va_G) (cI cC cL : ClassId) (av : List Value) (w : va_W) (post : Int32 → va_W → Prop) : Prop :=
  ∀ sz : Nat, Met l y (.code y code maxL (some ret) :: gW) (ag_rn fr lo mc ms) (va_Pc av (ag_In D cI cC cL w sz)) (va_Qi post (ag_Out D w) (va_A w sz)) mc ms (va_A w sz)
def ag_MVn (l : Launch) (y : MethodName) (code : ByteArray) (maxL : Nat) (fr lo mc ms : Nat) (D : va_G) (cI cC cL : ClassId) (av : List Value) (w : va_W) (post : va_W → Prop) : Prop :=
  ∀ sz : Nat, Met l y (.code y code maxL none :: gW) (ag_rn fr lo mc ms) (va_Pc av (ag_In D cI cC cL w sz)) (va_Qv post (ag_Out D w) (va_A w sz)) mc ms (va_A w sz)
theorem ag_MIn.of {l : Launch} {y : MethodName} {cc : ByteArray} {maxL : Nat} {ret : FieldType} {fr lo mc ms : Nat} {D : va_G} {cI cC cL : ClassId} {av : List Value} {w : va_W} {post : Int32 → va_W → Prop} (hy : plainFor y = true) (hav : (lg_sl av).length ≤ maxL)
    (h : ag_Body l y.cls cc maxL (some ret) y.name (ag_rn fr lo mc ms) D cI cC cL av w (fun A => va_Qi post (ag_Out D w) A) mc ms) : ag_MIn l y cc maxL ret fr lo mc ms D cI cC cL av w post := fun _ => ag_body hy hav h
theorem ag_MVn.of {l : Launch} {y : MethodName} {cc : ByteArray} {maxL : Nat} {fr lo mc ms : Nat} {D : va_G} {cI cC cL : ClassId} {av : List Value} {w : va_W} {post : va_W → Prop} (hy : plainFor y = true) (hav : (lg_sl av).length ≤ maxL)
    (h : ag_Body l y.cls cc maxL none y.name (ag_rn fr lo mc ms) D cI cC cL av w (fun A => va_Qv post (ag_Out D w) A) mc ms) : ag_MVn l y cc maxL fr lo mc ms D cI cC cL av w post := fun _ => ag_body hy hav h
section AGK
variable {p : Program} {l : Launch} {e : Env} {R : Room} {s : State} {m : MethodId} {args : Array Value} {below : List Frame} {meth : Method} {c : Code} {H : Heap} {locs : List Loc} {cells slots : Nat} {Q : State → Prop}
variable {cc : ByteArray} {pc : Nat} {ls : Array Slot} {rest : List Value} {D : va_G} {A : Nat → Prop} {a : Nat} {cI cC cL : ClassId} {w : va_W} {H0 : Heap}
theorem ag_callSin {own : String} {index maxL fr lo mc ms nL : Nat} {y : MethodName} {code : ByteArray} {ret : FieldType} {post : Int32 → va_W → Prop} {wc : va_W} {As : List Value} {st0 : List Value} {lv : List (Nat × Value)}
    (hx : p.tables.exec = Jvm.exec) (hb : c.code = cc) (hml : c.maxLocals = nL) (hown : s.vm.findClass own = some m.cls) (hG : ∀ w ∈ gW, w.before args s = true) (hK : va_K D vwCl (ag_T cI cC cL) s) (hN : ag_NZ A s) (hA : ∀ q, s.heap.size ≤ q → A q) (hP : va_P D vwCl w H) (hD : va_D A w) (hS : va_S A s.heap H locs) (hl : lv_has ls nL lv)
    (hM : ag_MIn l y code maxL ret fr lo mc ms D cI cC cL As wc post) (hf : ag_fS y code maxL (some ret) As.length) (hlk : Cond.methodLink own index y ∈ gW) {put : va_W → va_W} (hcut : ag_cut w wc put)
    (hst : st0 = As.reverse ++ rest) (hcat : (rest.map fun v => v.category).sum ≤ 8) (hR : fr + 1 ≤ R.frames ∧ 8 + (maxL + 11) + lo ≤ R.locals) (hz : cells + mc ≤ R.cells ∧ slots + ms ≤ R.slots)
    (hdg : decode cc pc = .ok (.invokestatic index, 3))
    (kk : ∀ (r : Int32) (w1 : va_W) (H1 : Heap) (locs1 : List Loc), post r w1 → va_P D vwCl (put w1) H1 → va_D A (put w1) → va_S A s.heap H1 locs1 → W p l e R s m args below meth c H1 locs1 (cells + mc) (slots + ms) Q (F0 m (pc + 3) ls (.int r :: rest))) :
    W p l e R s m args below meth c H locs cells slots Q (F0 m pc ls st0) := by
  subst hst
  obtain ⟨f1, f2, f4, f5, f6, f7⟩ := hf
  obtain ⟨hPc, hDc, hjoin⟩ := hcut D vwCl A H hP hD
  have hFc : ∀ q, va_A wc H.size q → A q := by
    rintro q (⟨k, e, h⟩ | h)
    · exact hDc.2 k _ h
    · exact hA q (Nat.le_trans hS.1 h)
  have hp := ag_preS (av := As) hK hN hS hFc hPc hDc
  refine va_calli (va_runS (As := As) (rest := rest) ⟨hx, hb, hml, hown, hG⟩ (hM H.size) ⟨callB_of As.length hG (gW_good f1) rfl rfl rfl (hG _ f4) (hG _ hlk) ⟨f5, f6, f7⟩ hR, hG _ f2⟩ hp rfl rfl hl.1 rfl (lv_room hcat) hdg hz) hS (fun q _ h => hFc q h) hFc (fun r u t H1 locs1 ht hvm hw hB hz1 hk1 hS1 => ?_)
  obtain ⟨hP1, ha⟩ := hB
  rw [ht] at hP1
  obtain ⟨g1, g2⟩ := hjoin H1 u hk1 hP1 ha
  exact kk r u H1 locs1 hw g1 g2 hS1
theorem ag_callSvn {own : String} {index maxL fr lo mc ms nL : Nat} {y : MethodName} {code : ByteArray} {post : va_W → Prop} {wc : va_W} {As : List Value} {st0 : List Value} {lv : List (Nat × Value)}
    (hx : p.tables.exec = Jvm.exec) (hb : c.code = cc) (hml : c.maxLocals = nL) (hown : s.vm.findClass own = some m.cls) (hG : ∀ w ∈ gW, w.before args s = true) (hK : va_K D vwCl (ag_T cI cC cL) s) (hN : ag_NZ A s) (hA : ∀ q, s.heap.size ≤ q → A q) (hP : va_P D vwCl w H) (hD : va_D A w) (hS : va_S A s.heap H locs) (hl : lv_has ls nL lv)
    (hM : ag_MVn l y code maxL fr lo mc ms D cI cC cL As wc post) (hf : ag_fS y code maxL none As.length) (hlk : Cond.methodLink own index y ∈ gW) {put : va_W → va_W} (hcut : ag_cut w wc put)
    (hst : st0 = As.reverse ++ rest) (hcat : (rest.map fun v => v.category).sum ≤ 8) (hR : fr + 1 ≤ R.frames ∧ 8 + (maxL + 11) + lo ≤ R.locals) (hz : cells + mc ≤ R.cells ∧ slots + ms ≤ R.slots)
    (hdg : decode cc pc = .ok (.invokestatic index, 3))
    (kk : ∀ (w1 : va_W) (H1 : Heap) (locs1 : List Loc), post w1 → va_P D vwCl (put w1) H1 → va_D A (put w1) → va_S A s.heap H1 locs1 → W p l e R s m args below meth c H1 locs1 (cells + mc) (slots + ms) Q (F0 m (pc + 3) ls rest)) :
    W p l e R s m args below meth c H locs cells slots Q (F0 m pc ls st0) := by
  subst hst
  obtain ⟨f1, f2, f4, f5, f6, f7⟩ := hf
  obtain ⟨hPc, hDc, hjoin⟩ := hcut D vwCl A H hP hD
  have hFc : ∀ q, va_A wc H.size q → A q := by
    rintro q (⟨k, e, h⟩ | h)
    · exact hDc.2 k _ h
    · exact hA q (Nat.le_trans hS.1 h)
  have hp := ag_preS (av := As) hK hN hS hFc hPc hDc
  refine va_callv (va_runS (As := As) (rest := rest) ⟨hx, hb, hml, hown, hG⟩ (hM H.size) ⟨callB_of As.length hG (gW_good f1) rfl rfl rfl (hG _ f4) (hG _ hlk) ⟨f5, f6, f7⟩ hR, hG _ f2⟩ hp rfl rfl hl.1 rfl (lv_room hcat) hdg hz) hS (fun q _ h => hFc q h) hFc (fun u t H1 locs1 ht hvm hw hB hz1 hk1 hS1 => ?_)
  obtain ⟨hP1, ha⟩ := hB
  rw [ht] at hP1
  obtain ⟨g1, g2⟩ := hjoin H1 u hk1 hP1 ha
  exact kk u H1 locs1 hw g1 g2 hS1
theorem ag_iretn {w0 w' : va_W} (as : List Nat) {mc ms : Nat} {post : Int32 → va_W → Prop} {r : Int32} {ty : FieldType} (hx : p.tables.exec = Jvm.exec) (hb : c.code = cc) (hr : meth.sig.returnType = some ty) (hn : narrow ty (.int r) = .int r) (hlocks : meth.locks = false) (hP : va_P D vwCl w' H) (hS : va_S A s.heap H locs) (ha : w'.map Prod.fst = as) (ha2 : w0.map Prod.fst = as) (hpost : post r w') (hdg : decode cc pc = .ok (.ireturn, 1)) :
    W p l e R s m args below meth c H locs mc ms (MQ below (va_Qi post (ag_Out D w0) A) args s mc ms A) (F0 m pc ls [.int r]) :=
  W.zret hx hb hr hn (fun t ht hW => ⟨⟨r, w', rfl, hpost, by rw [ht]; exact hP, ha.trans ha2.symm⟩, hS.F ht⟩) hS.2.2 hdg hlocks
theorem ag_vretn {w0 w' : va_W} (as : List Nat) {mc ms : Nat} {post : va_W → Prop} (hx : p.tables.exec = Jvm.exec) (hb : c.code = cc) (hr : meth.sig.returnType = none) (hlocks : meth.locks = false) (hP : va_P D vwCl w' H) (hS : va_S A s.heap H locs) (ha : w'.map Prod.fst = as) (ha2 : w0.map Prod.fst = as) (hpost : post w') (hdg : decode cc pc = .ok (.return_, 1)) :
    W p l e R s m args below meth c H locs mc ms (MQ below (va_Qv post (ag_Out D w0) A) args s mc ms A) (F0 m pc ls []) :=
  W.vret hx hb hr (fun t ht hW => ⟨⟨w', rfl, hpost, by rw [ht]; exact hP, ha.trans ha2.symm⟩, hS.F ht⟩) hS.2.2 hdg hlocks
/-- another word for the number on top -/
theorem ag_tope {x : Int32} (v : Int32) (h : x = v) (k : W p l e R s m args below meth c H locs cells slots Q (F0 m pc ls (.int v :: rest))) : W p l e R s m args below meth c H locs cells slots Q (F0 m pc ls (.int x :: rest)) := by
  subst h
  exact k
end AGK
end
section
/-! whole numbers and the machine's: sums, products, what a tick brings -/
theorem i_add {x y : Int32} {a b : Int} (hx : x.toInt = a) (hy : y.toInt = b) (h1 : -2147483648 ≤ a + b) (h2 : a + b < 2147483648) : (x + y).toInt = a + b := by
  rw [Int32.toInt_add, hx, hy, ag_bm h1 h2]
theorem i_sub {x y : Int32} {a b : Int} (hx : x.toInt = a) (hy : y.toInt = b) (h1 : -2147483648 ≤ a - b) (h2 : a - b < 2147483648) : (x - y).toInt = a - b := by
  rw [Int32.toInt_sub, hx, hy, ag_bm h1 h2]
theorem i_mul {x y : Int32} {a b : Int} (hx : x.toInt = a) (hy : y.toInt = b) (h1 : -2147483648 ≤ a * b) (h2 : a * b < 2147483648) : (x * y).toInt = a * b := by
  rw [Int32.toInt_mul, hx, hy, ag_bm h1 h2]
theorem i_neg {x : Int32} {a : Int} (hx : x.toInt = a) (h1 : -2147483648 ≤ -a) (h2 : -a < 2147483648) : (-x).toInt = -a := by
  rw [Int32.toInt_neg, hx, ag_bm h1 h2]
theorem i_lit (n : Nat) (h : n < 2 ^ 31) : (nI n).toInt = (n : Int) := nI_toInt h
theorem i_eq {x y : Int32} {a b : Int} (hx : x.toInt = a) (hy : y.toInt = b) (h : a = b) : x = y := Int32.toInt_inj.mp (by rw [hx, hy, h])
theorem i_nat {x : Int32} {a : Int} {n : Nat} (hx : x.toInt = a) (h : a = n) (hn : n < 2 ^ 31) : x = nI n := Int32.toInt_inj.mp (by rw [hx, nI_toInt hn, h])
theorem i_mulb {g z : Int} {n m : Nat} (hg : g.natAbs ≤ n) (hz : z.natAbs ≤ m) : (g * z).natAbs ≤ n * m := by
  rw [Int.natAbs_mul]; exact Nat.mul_le_mul hg hz
theorem i_abs {x : Int32} {a : Int} {n : Nat} (hx : x.toInt = a) (hn : a.natAbs ≤ n) (h : n < 2 ^ 31) : ag_abs x = nI a.natAbs := by
  unfold ag_abs
  by_cases c : 0 ≤ x
  · rw [if_pos c]
    have c2 := (ag_ge0 x).mp c
    exact i_nat hx (by omega) (by omega)
  · rw [if_neg c]
    have c2 : ¬ 0 ≤ x.toInt := fun e => c ((ag_ge0 x).mpr e)
    exact i_nat (i_sub (x := 0) (a := 0) rfl hx (by omega) (by omega)) (by omega) (by omega)
theorem size_abs (x : Int32) : sr_L_size x = ag_abs x := by
  unfold sr_L_size ag_abs
  by_cases c : x ≤ 0
  · rw [if_pos c]
    by_cases d : 0 ≤ x
    · have e : x = 0 := by
        rw [Int32.le_iff_toInt_le] at c d
        exact Int32.toInt_inj.mp (by omega)
      rw [if_pos d, e]
      decide
    · rw [if_neg d, Int32.zero_sub]
  · rw [if_neg c, if_pos]
    rw [Int32.le_iff_toInt_le] at c ⊢
    omega
/-- the sea by the day of its fortnight and the phase -/
def seaH (r : Nat) : Int32 := 200 + (20 * (if 0 ≤ nI r - 7 then nI r - 7 else -(nI r - 7)))
def seaT (r p : Nat) : Int32 := if 37 ≤ nI p then seaH r - (((2 * seaH r) * (nI p - 37)) / 37) else (((2 * seaH r) * nI p) / 37) - seaH r
theorem seaT_b : ∀ r, r < 14 → ∀ p, p < 74 → -340 ≤ (seaT r p).toInt ∧ (seaT r p).toInt ≤ 340 := by decide +kernel
theorem tide_T {d : Nat} (h : d < 2 ^ 31) : sr_X5_tideHeight (nI d) = seaH (d % 14) := by
  unfold sr_X5_tideHeight j23_0_X5_tideHeight seaH
  rw [show (14 : Int32) = nI 14 from rfl, pk_rem h (by decide) (by decide)]
theorem sea_T {T : Nat} (h : T < 2 ^ 31) : sr_X5_seaLevel (nI T) = seaT (T / 144 % 14) (T % 74) := by
  unfold sr_X5_seaLevel seaT
  rw [show (74 : Int32) = nI 74 from rfl, pk_rem h (by decide) (by decide), show (144 : Int32) = nI 144 from rfl, pk_div h (by decide) (by decide), tide_T (by omega)]
theorem sea_b {T : Nat} (h : T < 2 ^ 31) : -340 ≤ (sr_X5_seaLevel (nI T)).toInt ∧ (sr_X5_seaLevel (nI T)).toInt ≤ 340 := by
  rw [sea_T h]
  exact seaT_b _ (Nat.mod_lt _ (by decide)) _ (Nat.mod_lt _ (by decide))
theorem seaH_L : ∀ r, r < 14 → 200 + (20 * (if nI r ≤ 7 then 7 - nI r else nI r - 7)) = seaH r := by decide +kernel
theorem sea_L {T : Nat} (h : T < 2 ^ 31) : sr_L_sea (nI T) = sr_X5_seaLevel (nI T) := by
  rw [sea_T h]
  unfold sr_L_sea j31_0_L_sea seaT
  rw [show (144 : Int32) = nI 144 from rfl, pk_div h (by decide) (by decide), show (14 : Int32) = nI 14 from rfl, pk_rem (by omega) (by decide) (by decide), show (74 : Int32) = nI 74 from rfl, pk_rem h (by decide) (by decide), seaH_L _ (Nat.mod_lt _ (by decide))]
/-- the numbers of a state that bounds are asked of: the time, water, silt, gates, turbines, the pump -/
def NB (T : Nat) (f : Nat → Int32) : Prop := f 0 = nI T ∧ (∃ w : Nat, f 1 = nI w ∧ w ≤ 80000) ∧ (∃ s : Nat, f 2 = nI s ∧ s ≤ 20000) ∧ (∃ g : Nat, f 3 = nI g ∧ g ≤ 8) ∧ (∃ t : Nat, f 4 = nI t ∧ t ≤ 6) ∧ (f 5).toInt.natAbs ≤ 500
theorem level_b {T : Nat} {f : Nat → Int32} (h : NB T f) : -400 ≤ (sr_X1_level f).toInt ∧ (sr_X1_level f).toInt ≤ 600 := by
  obtain ⟨-, ⟨w, hw, hw2⟩, ⟨s, hs, hs2⟩, -⟩ := h
  have e : (sr_X1_level f).toInt = (((w + s) / 100 : Nat) : Int) - 400 := by
    unfold sr_X1_level
    rw [hw, hs, nI_add, show (100 : Int32) = nI 100 from rfl, pk_div (by omega) (by decide) (by decide)]
    exact i_sub (b := 400) (nI_toInt (by omega)) rfl (by omega) (by omega)
  rw [e]
  omega
theorem head_b {T : Nat} {f : Nat → Int32} (hT : T < 2 ^ 31) (h : NB T f) : ∃ z : Int, (sr_X1_head f).toInt = z ∧ z.natAbs ≤ 940 := by
  have h1 := level_b h
  have h2 := sea_b hT
  unfold sr_X1_head
  rw [h.1]
  exact ⟨_, i_sub rfl rfl (by omega) (by omega), by omega⟩
/-- gates, turbines, pumps by a head -/
theorem thr_b {T : Nat} {f se : Nat → Int32} {p : Int32} {z : Int} (h : NB T f) (hz : p.toInt = z) (hb : z.natAbs ≤ 940) :
    (∃ a : Int, (xv29_1_X4_foresee f p).toInt = a ∧ a.natAbs ≤ 15040) ∧ (∃ a : Int, (xv53_2_X4_foresee f se p).toInt = a ∧ a.natAbs ≤ 5640) ∧ (∃ a : Int, (xv80_3_X4_foresee f se p).toInt = a ∧ a.natAbs ≤ 500) := by
  obtain ⟨-, -, -, ⟨g, hg, hg2⟩, ⟨t, ht, ht2⟩, hp⟩ := h
  refine ⟨?_, ?_, ?_⟩
  · unfold xv29_1_X4_foresee j29_0_X4_foresee
    split
    · have b1 := i_mulb (g := (g : Int)) (z := z) (n := 8) (m := 940) (by omega) hb
      rw [hg]
      exact ⟨_, i_mul (b := 2) (i_mul (nI_toInt (by omega)) hz (by omega) (by omega)) rfl (by omega) (by omega), by omega⟩
    · exact ⟨0, rfl, by decide⟩
  · unfold xv53_2_X4_foresee j53_0_X4_foresee
    split
    · exact ⟨0, rfl, by decide⟩
    · have b1 := i_mulb (g := (t : Int)) (z := z) (n := 6) (m := 940) (by omega) hb
      rw [ht]
      exact ⟨_, i_mul (nI_toInt (by omega)) hz (by omega) (by omega), by omega⟩
  · unfold xv80_3_X4_foresee j80_0_X4_foresee
    split
    · split
      · exact ⟨0, rfl, by decide⟩
      · exact ⟨_, rfl, hp⟩
    · exact ⟨0, rfl, by decide⟩
theorem mk_b {x y : Int32} {a b : Int} {n m c : Nat} (hx : x.toInt = a) (hy : y.toInt = b) (ha : a.natAbs ≤ n) (hb : b.natAbs ≤ m) (hc : 0 < c) (hc2 : c < 2 ^ 31) (hm : n * m < 2 ^ 31) (hn2 : n < 2 ^ 31) (hm2 : m < 2 ^ 31) : ∃ q : Nat, (ag_abs x * ag_abs y) / nI c = nI q ∧ q ≤ n * m / c := by
  have h1 : a.natAbs * b.natAbs ≤ n * m := Nat.mul_le_mul ha hb
  rw [i_abs hx ha hn2, i_abs hy hb hm2, pk_mul, pk_div (by omega) hc hc2]
  exact ⟨_, rfl, Nat.div_le_div_right h1⟩
theorem made_b {T : Nat} {f se : Nat → Int32} {p : Int32} {z : Int} (h : NB T f) (hz : p.toInt = z) (hb : z.natAbs ≤ 940) : ∃ q : Nat, xv96_4_X4_foresee f se p = nI q ∧ q ≤ 53016 := by
  obtain ⟨-, ⟨a, h1, h2⟩, -⟩ := thr_b (se := se) h hz hb
  exact mk_b (c := 100) h1 hz h2 hb (by decide) (by decide) (by decide) (by decide) (by decide)
theorem used_b {T : Nat} {f se : Nat → Int32} {p : Int32} {z : Int} (h : NB T f) (hz : p.toInt = z) (hb : z.natAbs ≤ 940) : ∃ q : Nat, xv115_5_X4_foresee f se p = nI q ∧ q ≤ 4800 := by
  obtain ⟨-, -, ⟨a, h1, h2⟩⟩ := thr_b (se := se) h hz hb
  unfold xv115_5_X4_foresee
  have h3 : a.natAbs * (20 + z.natAbs) ≤ 500 * 960 := Nat.mul_le_mul h2 (by omega)
  rw [i_abs h1 h2 (by decide), i_abs hz hb (by decide), show (20 : Int32) = nI 20 from rfl, nI_add, pk_mul, show (100 : Int32) = nI 100 from rfl, pk_div (by omega) (by decide) (by decide)]
  exact ⟨_, rfl, by omega⟩
/-- what flows in all together: as the class cuts it and as the model does -/
theorem flow_eq {w : Nat} {x y : Int32} {a : Int} (hw : w ≤ 80000) (hy : y = nI w) (hx : x.toInt = a) (ha : a.natAbs ≤ 21180) :
    ∃ b : Int, (ag_max (-y) (ag_min (80000 - y) x)).toInt = b ∧ -(w : Int) ≤ b ∧ b ≤ 80000 - w ∧ (if y + x ≤ 80000 then if 0 ≤ y + x then x else -y else 80000 - y) = ag_max (-y) (ag_min (80000 - y) x) := by
  subst hy
  have e0 := nI_toInt (n := w) (by omega)
  have e1 : (-(nI w)).toInt = -(w : Int) := i_neg e0 (by omega) (by omega)
  have e2 : (80000 - nI w).toInt = 80000 - (w : Int) := i_sub (a := 80000) rfl e0 (by omega) (by omega)
  have e3 : (nI w + x).toInt = (w : Int) + a := i_add e0 hx (by omega) (by omega)
  have e4 : (80000 : Int32).toInt = 80000 := rfl
  have e5 : (0 : Int32).toInt = 0 := rfl
  unfold ag_max ag_min
  simp only [Int32.lt_iff_toInt_lt, Int32.le_iff_toInt_le, e3, e4, e5]
  by_cases c1 : (w : Int) + a ≤ 80000
  · rw [if_pos c1]
    by_cases c2 : 0 ≤ (w : Int) + a
    · rw [if_pos c2]
      by_cases c3 : x.toInt < (80000 - nI w).toInt
      · rw [if_pos c3]
        by_cases c4 : (-(nI w)).toInt < x.toInt
        · rw [if_pos c4]; exact ⟨a, hx, by omega, by omega, rfl⟩
        · rw [if_neg c4]; exact ⟨_, e1, by omega, by omega, i_eq hx e1 (by omega)⟩
      · rw [if_neg c3]
        by_cases c4 : (-(nI w)).toInt < (80000 - nI w).toInt
        · rw [if_pos c4]; exact ⟨_, e2, by omega, by omega, i_eq hx e2 (by omega)⟩
        · omega
    · rw [if_neg c2]
      by_cases c3 : x.toInt < (80000 - nI w).toInt
      · rw [if_pos c3]
        by_cases c4 : (-(nI w)).toInt < x.toInt
        · omega
        · rw [if_neg c4]; exact ⟨_, e1, by omega, by omega, rfl⟩
      · omega
  · rw [if_neg c1]
    by_cases c3 : x.toInt < (80000 - nI w).toInt
    · omega
    · rw [if_neg c3]
      by_cases c4 : (-(nI w)).toInt < (80000 - nI w).toInt
      · rw [if_pos c4]; exact ⟨_, e2, by omega, by omega, rfl⟩
      · omega
/-- what flows in all together, as the law cuts it -/
theorem flow_L {w : Nat} {x y : Int32} {a : Int} (hw : w ≤ 80000) (hy : y = nI w) (hx : x.toInt = a) (ha : a.natAbs ≤ 21180) :
    (if y + x ≤ 80000 then if 0 ≤ y + x then y + x else 0 else 80000) - y = ag_max (-y) (ag_min (80000 - y) x) := by
  obtain ⟨b, -, -, -, e⟩ := flow_eq hw hy hx ha
  rw [← e]
  split
  · split
    · rw [Int32.add_comm, Int32.add_sub_cancel]
    · rw [Int32.zero_sub]
  · rfl
/-- silt that comes or goes: as the class cuts it and as the model does; the silt stays in its bounds -/
theorem silt_b {s : Nat} {y fl k : Int32} {b : Int} (hs : s ≤ 20000) (hy : y = nI s) (hf : fl.toInt = b) (hb : b.natAbs ≤ 80000) :
    (∃ q : Nat, y + (if fl ≤ 0 then if -k < fl then 0 else -(ag_min ((-fl) / 20) y) else ag_min (fl / 50) (20000 - y)) = nI q ∧ q ≤ 20000) ∧
    (if fl ≤ 0 then if -k < fl then (0 : Int32) else if y ≤ (-fl) / 20 then -y else -((-fl) / 20) else if 20000 - y ≤ fl / 50 then 20000 - y else fl / 50) = (if fl ≤ 0 then if -k < fl then 0 else -(ag_min ((-fl) / 20) y) else ag_min (fl / 50) (20000 - y)) := by
  subst hy
  have e0 := nI_toInt (n := s) (by omega)
  have le : ∀ x y : Int32, ¬ y < x → ¬ x = y → ¬ y ≤ x := fun x y h1 h2 h3 => by
    rw [Int32.lt_iff_toInt_lt] at h1; rw [Int32.le_iff_toInt_le] at h3
    exact h2 (Int32.toInt_inj.mp (by omega))
  have mn : ∀ x y : Int32, ag_min x y = if y ≤ x then y else x := fun x y => by
    unfold ag_min
    by_cases c : y < x
    · rw [if_pos c, if_pos (by rw [Int32.lt_iff_toInt_lt] at c; rw [Int32.le_iff_toInt_le]; omega)]
    · rw [if_neg c]
      by_cases c2 : x = y
      · rw [c2]; split <;> rfl
      · rw [if_neg (le x y c c2)]
  rw [mn, mn]
  refine ⟨?_, ?_⟩
  · split
    · rename_i c
      rw [Int32.le_iff_toInt_le, hf, show (0 : Int32).toInt = 0 from rfl] at c
      split
      · exact ⟨s, Int32.add_zero _, hs⟩
      · have q1 : -fl = nI b.natAbs := i_nat (i_neg hf (by omega) (by omega)) (by omega) (by omega)
        rw [q1, show (20 : Int32) = nI 20 from rfl, pk_div (by omega) (by decide) (by decide)]
        split
        · exact ⟨0, i_nat (i_add e0 (i_neg e0 (by omega) (by omega)) (by omega) (by omega)) (by omega) (by omega), by omega⟩
        · rename_i c3
          rw [nI_leI (by omega) (by omega)] at c3
          have e1 := nI_toInt (n := b.natAbs / 20) (by omega)
          exact ⟨s - b.natAbs / 20, i_nat (i_add e0 (i_neg e1 (by omega) (by omega)) (by omega) (by omega)) (by omega) (by omega), by omega⟩
    · rename_i c
      rw [Int32.le_iff_toInt_le, hf, show (0 : Int32).toInt = 0 from rfl] at c
      have q1 : fl = nI b.natAbs := i_nat hf (by omega) (by omega)
      rw [q1, show (50 : Int32) = nI 50 from rfl, pk_div (by omega) (by decide) (by decide), show (20000 : Int32) = nI 20000 from rfl, pk_sub hs]
      split
      · exact ⟨20000, by rw [nI_add]; congr 1; omega, by omega⟩
      · rename_i c3
        rw [nI_leI (by omega) (by omega)] at c3
        exact ⟨s + b.natAbs / 50, nI_add _ _, by omega⟩
  · split
    · split
      · rfl
      · split <;> rfl
    · rfl
/-- silt, as the law cuts it -/
theorem silt_L {s : Nat} {y fl k : Int32} {b : Int} (hs : s ≤ 20000) (hy : y = nI s) (hf : fl.toInt = b) (hb : b.natAbs ≤ 80000) :
    (if fl ≤ 0 then if fl ≤ -k then -(if (ag_abs fl) / 20 ≤ y then (ag_abs fl) / 20 else y) else 0 else if y + fl / 50 ≤ 20000 then fl / 50 else 20000 - y) = (if fl ≤ 0 then if -k < fl then 0 else -(ag_min ((-fl) / 20) y) else ag_min (fl / 50) (20000 - y)) := by
  subst hy
  have mn : ∀ x y : Int32, ag_min x y = if x ≤ y then x else y := fun x y => by
    unfold ag_min
    by_cases c : y < x
    · rw [if_pos c, if_neg (by rw [Int32.lt_iff_toInt_lt] at c; rw [Int32.le_iff_toInt_le]; omega)]
    · rw [if_neg c, if_pos (by rw [Int32.lt_iff_toInt_lt] at c; rw [Int32.le_iff_toInt_le]; omega)]
  by_cases c : fl ≤ 0
  · rw [if_pos c, if_pos c]
    have c1 := c
    rw [Int32.le_iff_toInt_le, hf, show (0 : Int32).toInt = 0 from rfl] at c1
    have q1 : -fl = nI b.natAbs := i_nat (i_neg hf (by omega) (by omega)) (by omega) (by omega)
    rw [i_abs hf (n := 80000) hb (by decide), q1, mn]
    by_cases d : fl ≤ -k
    · have d2 : ¬ -k < fl := by rw [Int32.le_iff_toInt_le] at d; rw [Int32.lt_iff_toInt_lt]; omega
      rw [if_pos d, if_neg d2]
    · have d2 : -k < fl := by rw [Int32.le_iff_toInt_le] at d; rw [Int32.lt_iff_toInt_lt]; omega
      rw [if_neg d, if_pos d2]
  · rw [if_neg c, if_neg c, mn]
    have c1 := c
    rw [Int32.le_iff_toInt_le, hf, show (0 : Int32).toInt = 0 from rfl] at c1
    have q1 : fl = nI b.natAbs := i_nat hf (by omega) (by omega)
    rw [q1, show (50 : Int32) = nI 50 from rfl, pk_div (by omega) (by decide) (by decide), show (20000 : Int32) = nI 20000 from rfl, pk_sub hs, nI_add]
    by_cases d : s + b.natAbs / 50 ≤ 20000
    · rw [if_pos ((nI_leI (by omega) (by omega)).mpr d), if_pos ((nI_leI (by omega) (by omega)).mpr (by omega))]
    · rw [if_neg (fun h => d ((nI_leI (by omega) (by omega)).mp h)), if_neg (fun h => d (by have := (nI_leI (by omega) (by omega)).mp h; omega))]
end
section
/-! what the law weighs is what the class foresees -/
def kU (m : Nat → Int32) (a b c d e g : Int32) : Nat → Int32 := upd (upd (upd (upd (upd (upd m 0 a) 1 b) 2 c) 4 d) 5 e) 3 g
theorem kU_v (m : Nat → Int32) (a b c d e g h : Int32) : kU m a b c d e g 3 = g ∧ upd (kU m a b c d e g) 6 h 0 = a ∧ upd (kU m a b c d e g) 6 h 1 = b ∧ upd (kU m a b c d e g) 6 h 2 = c ∧ upd (kU m a b c d e g) 6 h 3 = g ∧ upd (kU m a b c d e g) 6 h 4 = d ∧ upd (kU m a b c d e g) 6 h 5 = e ∧ upd (kU m a b c d e g) 6 h 6 = h := ⟨rfl, rfl, rfl, rfl, rfl, rfl, rfl, rfl⟩
theorem kf_form (kf f se : Nat → Int32) (p : Int32) : sw0_X4_foresee kf f se p = upd (kU kf (xv29_1_X4_foresee f p) (xv53_2_X4_foresee f se p) (xv80_3_X4_foresee f se p) (xv96_4_X4_foresee f se p) (xv115_5_X4_foresee f se p) (xv155_6_X4_foresee f se p)) 6 (sr_X4_siltOf (kU kf (xv29_1_X4_foresee f p) (xv53_2_X4_foresee f se p) (xv80_3_X4_foresee f se p) (xv96_4_X4_foresee f se p) (xv115_5_X4_foresee f se p) (xv155_6_X4_foresee f se p)) f se) := by
  unfold sw0_X4_foresee xv164_7_X4_foresee kU
  rfl
theorem kf_v (kf f se : Nat → Int32) (p : Int32) : sw0_X4_foresee kf f se p 0 = xv29_1_X4_foresee f p ∧ sw0_X4_foresee kf f se p 1 = xv53_2_X4_foresee f se p ∧ sw0_X4_foresee kf f se p 2 = xv80_3_X4_foresee f se p ∧ sw0_X4_foresee kf f se p 3 = xv155_6_X4_foresee f se p ∧ sw0_X4_foresee kf f se p 4 = xv96_4_X4_foresee f se p ∧ sw0_X4_foresee kf f se p 5 = xv115_5_X4_foresee f se p ∧
    sw0_X4_foresee kf f se p 6 = (if xv155_6_X4_foresee f se p ≤ 0 then if -(se 2) < xv155_6_X4_foresee f se p then 0 else -(ag_min ((-(xv155_6_X4_foresee f se p)) / 20) (f 2)) else ag_min (xv155_6_X4_foresee f se p / 50) (20000 - f 2)) := by
  rw [kf_form]
  unfold sr_X4_siltOf
  generalize xv29_1_X4_foresee f p = a
  generalize xv53_2_X4_foresee f se p = b
  generalize xv80_3_X4_foresee f se p = c
  generalize xv96_4_X4_foresee f se p = d
  generalize xv115_5_X4_foresee f se p = e
  generalize xv155_6_X4_foresee f se p = g
  obtain ⟨h0, -⟩ := kU_v kf a b c d e g 0
  rw [h0]
  obtain ⟨-, h1, h2, h3, h4, h5, h6, h7⟩ := kU_v kf a b c d e g (if g ≤ 0 then if -(se 2) < g then 0 else -(ag_min ((-g) / 20) (f 2)) else ag_min (g / 50) (20000 - f 2))
  exact ⟨h1, h2, h3, h4, h5, h6, h7⟩
theorem wg_v (ug uf : Nat → Int32) : sw1_L_weigh ug uf 0 = xv32_1_L_weigh ug ∧ sw1_L_weigh ug uf 1 = xv55_2_L_weigh ug ∧ sw1_L_weigh ug uf 2 = xv83_3_L_weigh ug ∧ sw1_L_weigh ug uf 3 = xv163_6_L_weigh ug ∧ sw1_L_weigh ug uf 4 = xv100_4_L_weigh ug ∧ sw1_L_weigh ug uf 5 = xv120_5_L_weigh ug ∧ sw1_L_weigh ug uf 6 = xv251_7_L_weigh ug := by
  unfold sw1_L_weigh
  generalize xv32_1_L_weigh ug = a
  generalize xv55_2_L_weigh ug = b
  generalize xv83_3_L_weigh ug = c
  generalize xv100_4_L_weigh ug = d
  generalize xv120_5_L_weigh ug = e
  generalize xv163_6_L_weigh ug = g
  generalize xv251_7_L_weigh ug = h
  exact ⟨rfl, rfl, rfl, rfl, rfl, rfl, rfl⟩
theorem lev_L {ug f : Nat → Int32} (h1 : ug 1 = f 1) (h2 : ug 2 = f 2) : sr_L_level ug = sr_X1_level f := by unfold sr_L_level sr_X1_level; rw [h1, h2]
theorem bird_L {ug f : Nat → Int32} (h0 : ug 0 = f 0) (h6 : ug 6 = f 6) (h7 : ug 7 = f 7) : sr_L_birds ug = sr_X1_isBirdHour f := by unfold sr_L_birds sr_X1_isBirdHour; rw [h0, h6, h7]
/-- what the law weighs is what the class foresees -/
theorem wg_rel {T : Nat} {f se kf uf ug : Nat → Int32} (hT : T < 2 ^ 31) (hN : NB T f) (h1 : ∀ k, k < 8 → ug k = f k) (h2 : ∀ k, k < 3 → ug (8 + k) = se k) :
    (∀ k, k < 7 → sw1_L_weigh ug uf k = sw0_X4_foresee kf f se (sr_X1_head f) k) ∧
    (∃ w : Nat, f 1 + sw0_X4_foresee kf f se (sr_X1_head f) 3 = nI w ∧ w ≤ 80000) ∧ (∃ s : Nat, f 2 + sw0_X4_foresee kf f se (sr_X1_head f) 6 = nI s ∧ s ≤ 20000) ∧
    (sw0_X4_foresee kf f se (sr_X1_head f) 3).toInt.natAbs ≤ 80000 ∧ (sw0_X4_foresee kf f se (sr_X1_head f) 6).toInt.natAbs ≤ 20000 := by
  obtain ⟨z, hz, hz2⟩ := head_b hT hN
  have g0 : ug 0 = f 0 := h1 0 (by omega)
  have hh : sr_L_sea (ug 0) - sr_L_level ug = sr_X1_head f := by
    unfold sr_X1_head
    rw [g0, hN.1, sea_L hT, lev_L (h1 1 (by omega)) (h1 2 (by omega))]
  have hb : sr_L_birds ug = sr_X1_isBirdHour f := bird_L g0 (h1 6 (by omega)) (h1 7 (by omega))
  have k8 : ug 8 = se 0 := h2 0 (by omega)
  have k9 : ug 9 = se 1 := h2 1 (by omega)
  have k10 : ug 10 = se 2 := h2 2 (by omega)
  generalize sr_X1_head f = p at hz hh ⊢
  obtain ⟨⟨a1, b1, c1⟩, ⟨a2, b2, c2⟩, ⟨a3, b3, c3⟩⟩ := thr_b (se := se) hN hz hz2
  have nlt : ∀ x y : Int32, x ≤ y → ¬ y < x := fun x y h => by rw [Int32.le_iff_toInt_le] at h; rw [Int32.lt_iff_toInt_lt]; omega
  have nle : ∀ x y : Int32, ¬ x ≤ y → y < x := fun x y h => by rw [Int32.le_iff_toInt_le] at h; rw [Int32.lt_iff_toInt_lt]; omega
  have x1 : xv32_1_L_weigh ug = xv29_1_X4_foresee f p := by
    unfold xv32_1_L_weigh j32_0_L_weigh xv29_1_X4_foresee j29_0_X4_foresee
    rw [hb, hh, h1 3 (by omega), Int32.mul_assoc, Int32.mul_comm 2]
  have x2 : xv55_2_L_weigh ug = xv53_2_X4_foresee f se p := by
    unfold xv55_2_L_weigh j55_0_L_weigh xv53_2_X4_foresee j53_0_X4_foresee
    rw [hh, size_abs, k8, h1 4 (by omega)]
    by_cases c : se 0 ≤ ag_abs p
    · rw [if_pos c, if_neg (nlt _ _ c)]
    · rw [if_neg c, if_pos (nle _ _ c)]
  have x3 : xv83_3_L_weigh ug = xv80_3_X4_foresee f se p := by
    unfold xv83_3_L_weigh j83_0_L_weigh xv80_3_X4_foresee j80_0_X4_foresee
    rw [hh, hb, size_abs, k9, h1 5 (by omega)]
    by_cases c4 : ag_abs p ≤ se 1
    · rw [if_pos c4, if_neg (nlt _ _ c4)]
    · rw [if_neg c4, if_pos (nle _ _ c4)]
  have x4 : xv100_4_L_weigh ug = xv96_4_X4_foresee f se p := by
    unfold xv100_4_L_weigh xv96_4_X4_foresee
    rw [x2, hh, size_abs, size_abs]
  have x5 : xv120_5_L_weigh ug = xv115_5_X4_foresee f se p := by
    unfold xv120_5_L_weigh xv115_5_X4_foresee
    rw [x3, hh, size_abs, size_abs]
  obtain ⟨w, hw, hw2⟩ := hN.2.1
  obtain ⟨s, hs, hs2⟩ := hN.2.2.1
  have x0 : (xv29_1_X4_foresee f p + xv53_2_X4_foresee f se p + xv80_3_X4_foresee f se p).toInt = a1 + a2 + a3 := i_add (i_add b1 b2 (by omega) (by omega)) b3 (by omega) (by omega)
  obtain ⟨b, e1, e2, e3, -⟩ := flow_eq hw2 hw x0 (by omega)
  have x6 : xv163_6_L_weigh ug = xv155_6_X4_foresee f se p := by
    unfold xv163_6_L_weigh j159_0_L_weigh xv155_6_X4_foresee
    rw [x1, x2, x3, h1 1 (by omega), Int32.add_assoc (f 1), Int32.add_assoc (f 1)]
    exact flow_L hw2 hw x0 (by omega)
  have e1 : (xv155_6_X4_foresee f se p).toInt = b := e1
  obtain ⟨s1, -⟩ := silt_b (k := se 2) hs2 hs e1 (by omega)
  have s2 := silt_L (k := se 2) hs2 hs e1 (by omega)
  obtain ⟨v0, v1, v2, v3, v4, v5, v6⟩ := kf_v kf f se p
  obtain ⟨u0, u1, u2, u3, u4, u5, u6⟩ := wg_v ug uf
  refine ⟨fun k hk => ?_, ?_, ?_, ?_, ?_⟩
  · rcases k with _ | _ | _ | _ | _ | _ | _ | k
    · exact u0.trans (x1.trans v0.symm)
    · exact u1.trans (x2.trans v1.symm)
    · exact u2.trans (x3.trans v2.symm)
    · exact u3.trans (x6.trans v3.symm)
    · exact u4.trans (x4.trans v4.symm)
    · exact u5.trans (x5.trans v5.symm)
    · refine u6.trans (Eq.trans ?_ v6.symm)
      rw [← s2]
      unfold xv251_7_L_weigh j251_0_L_weigh j250_0_L_weigh
      rw [x6, k10, h1 2 (by omega), size_abs]
    · omega
  · rw [v3, hw]
    exact ⟨(w + b).toNat, i_nat (i_add (nI_toInt (by omega)) e1 (by omega) (by omega)) (by omega) (by omega), by omega⟩
  · rw [v6]; exact s1
  · rw [v3, e1]; omega
  · rw [v6]
    obtain ⟨q, q1, q2⟩ := s1
    generalize (if xv155_6_X4_foresee f se p ≤ 0 then if -(se 2) < xv155_6_X4_foresee f se p then 0 else -(ag_min ((-(xv155_6_X4_foresee f se p)) / 20) (f 2)) else ag_min (xv155_6_X4_foresee f se p / 50) (20000 - f 2)) = y at q1 ⊢
    have g1 : y = nI q - nI s := by rw [← q1, hs, Int32.add_comm, Int32.add_sub_cancel]
    have g2 := pk_sub_toInt (a := q) (b := s) (by omega) (by omega)
    rw [g1, g2]
    omega
end
