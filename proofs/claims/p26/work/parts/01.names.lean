/-! names, fields, codes: printed rows of the claim -/
def RX0 : String := "LagoonGates$History"
def TX0 : u_T := fun k => match k with
  | 0 => ("LagoonGates$History", "states", "[LLagoonGates$Lagoon;", true)
  | 1 => ("LagoonGates$History", "oldest", "I", false)
  | _ => ("LagoonGates$History", "size", "I", false)
def tyX0 : Nat → FieldType := fun k => match k with
  | 0 => .array (.object "LagoonGates$Lagoon")
  | 1 => .int
  | _ => .int
abbrev wsX00 : List Cond := u_ws RX0 TX0 3
theorem nmX0 : ∀ a, a < 3 → ∀ b, b < 3 → a ≠ b → (TX0 a).2.1 ≠ (TX0 b).2.1 := by decide +kernel
theorem tyX0_ok : ∀ k, k < 3 → parseFieldDescriptor (TX0 k).2.2.1 = some (tyX0 k) := by decide +kernel
abbrev cX0_init : ByteArray := prog_2_method_1_code
def yX0_init : MethodName := ⟨RX0, "<init>", "()V"⟩
abbrev cX0_keep : ByteArray := prog_2_method_2_code
def yX0_keep : MethodName := ⟨RX0, "keep", "(LLagoonGates$Lagoon;)V"⟩
abbrev cX0_rowOf : ByteArray := prog_2_method_4_code
def yX0_rowOf : MethodName := ⟨RX0, "rowOf", "(I)I"⟩
def RX1 : String := "LagoonGates$Lagoon"
def TX1 : u_T := fun k => match k with
  | 0 => ("LagoonGates$Lagoon", "time", "I", false)
  | 1 => ("LagoonGates$Lagoon", "water", "I", false)
  | 2 => ("LagoonGates$Lagoon", "silt", "I", false)
  | 3 => ("LagoonGates$Lagoon", "gatesOpen", "I", false)
  | 4 => ("LagoonGates$Lagoon", "turbinesOpen", "I", false)
  | 5 => ("LagoonGates$Lagoon", "pumpFlow", "I", false)
  | 6 => ("LagoonGates$Lagoon", "birdsFrom", "I", false)
  | 7 => ("LagoonGates$Lagoon", "birdsTo", "I", false)
  | 8 => ("LagoonGates$Lagoon", "settings", "[I", true)
  | 9 => ("LagoonGates$Lagoon", "totals", "[I", true)
  | _ => ("LagoonGates$Lagoon", "records", "[I", true)
def tyX1 : Nat → FieldType := fun k => match k with
  | 0 => .int
  | 1 => .int
  | 2 => .int
  | 3 => .int
  | 4 => .int
  | 5 => .int
  | 6 => .int
  | 7 => .int
  | 8 => .array .int
  | 9 => .array .int
  | _ => .array .int
abbrev wsX10 : List Cond := u_ws RX1 TX1 11
theorem nmX1 : ∀ a, a < 11 → ∀ b, b < 11 → a ≠ b → (TX1 a).2.1 ≠ (TX1 b).2.1 := by decide +kernel
theorem tyX1_ok : ∀ k, k < 11 → parseFieldDescriptor (TX1 k).2.2.1 = some (tyX1 k) := by decide +kernel
abbrev cX1_init : ByteArray := prog_3_method_1_code
def yX1_init : MethodName := ⟨RX1, "<init>", "()V"⟩
abbrev cX1_copyFrom : ByteArray := prog_3_method_2_code
def yX1_copyFrom : MethodName := ⟨RX1, "copyFrom", "(LLagoonGates$Lagoon;)V"⟩
abbrev cX1_level : ByteArray := prog_3_method_3_code
def yX1_level : MethodName := ⟨RX1, "level", "()I"⟩
abbrev cX1_head : ByteArray := prog_3_method_4_code
def yX1_head : MethodName := ⟨RX1, "head", "()I"⟩
abbrev cX1_isBirdHour : ByteArray := prog_3_method_5_code
def yX1_isBirdHour : MethodName := ⟨RX1, "isBirdHour", "()Z"⟩
abbrev cX1_lastDay : ByteArray := prog_3_method_7_code
def yX1_lastDay : MethodName := ⟨RX1, "lastDay", "()I"⟩
abbrev cX1_firstDay : ByteArray := prog_3_method_8_code
def yX1_firstDay : MethodName := ⟨RX1, "firstDay", "()I"⟩
abbrev cX1_openGates : ByteArray := prog_3_method_9_code
def yX1_openGates : MethodName := ⟨RX1, "openGates", "(I)I"⟩
abbrev cX1_openTurbines : ByteArray := prog_3_method_10_code
def yX1_openTurbines : MethodName := ⟨RX1, "openTurbines", "(I)I"⟩
abbrev cX1_setPump : ByteArray := prog_3_method_11_code
def yX1_setPump : MethodName := ⟨RX1, "setPump", "(I)I"⟩
abbrev cX1_setBirds : ByteArray := prog_3_method_12_code
def yX1_setBirds : MethodName := ⟨RX1, "setBirds", "(II)I"⟩
abbrev cX1_runTicks : ByteArray := prog_3_method_13_code
def yX1_runTicks : MethodName := ⟨RX1, "runTicks", "(ILLagoonGates$Tick;)I"⟩
abbrev cX1_dredgeSilt : ByteArray := prog_3_method_14_code
def yX1_dredgeSilt : MethodName := ⟨RX1, "dredgeSilt", "(I)I"⟩
abbrev cX1_changeSetting : ByteArray := prog_3_method_15_code
def yX1_changeSetting : MethodName := ⟨RX1, "changeSetting", "(II)I"⟩
abbrev cX1_letPass : ByteArray := prog_3_method_16_code
def yX1_letPass : MethodName := ⟨RX1, "letPass", "(ILLagoonGates$Tick;)V"⟩
abbrev cX1_take : ByteArray := prog_3_method_17_code
def yX1_take : MethodName := ⟨RX1, "take", "(LLagoonGates$Tick;)V"⟩
abbrev cX1_enterRecord : ByteArray := prog_3_method_18_code
def yX1_enterRecord : MethodName := ⟨RX1, "enterRecord", "(LLagoonGates$Tick;)V"⟩
abbrev cX1_beginRecord : ByteArray := prog_3_method_19_code
def yX1_beginRecord : MethodName := ⟨RX1, "beginRecord", "(II)V"⟩
def RX2 : String := "LagoonGates$Player"
def TX2 : u_T := fun k => match k with
  | 0 => ("LagoonGates$Player", "orders", "I", false)
  | 1 => ("LagoonGates$Player", "place", "I", false)
  | 2 => ("LagoonGates$Player", "reason", "I", false)
  | _ => ("LagoonGates$Player", "cause", "I", false)
def tyX2 : Nat → FieldType := fun k => match k with
  | 0 => .int
  | 1 => .int
  | 2 => .int
  | _ => .int
abbrev wsX20 : List Cond := u_ws RX2 TX2 4
theorem nmX2 : ∀ a, a < 4 → ∀ b, b < 4 → a ≠ b → (TX2 a).2.1 ≠ (TX2 b).2.1 := by decide +kernel
theorem tyX2_ok : ∀ k, k < 4 → parseFieldDescriptor (TX2 k).2.2.1 = some (tyX2 k) := by decide +kernel
abbrev cX2_init : ByteArray := prog_4_method_1_code
def yX2_init : MethodName := ⟨RX2, "<init>", "()V"⟩
def RX3 : String := "LagoonGates$Text"
def TX3 : u_T := fun k => match k with
  | 0 => ("LagoonGates$Text", "characters", "[C", true)
  | 1 => ("LagoonGates$Text", "length", "I", false)
  | 2 => ("LagoonGates$Text", "place", "I", false)
  | 3 => ("LagoonGates$Text", "kind", "C", false)
  | 4 => ("LagoonGates$Text", "first", "I", false)
  | _ => ("LagoonGates$Text", "second", "I", false)
def tyX3 : Nat → FieldType := fun k => match k with
  | 0 => .array .char
  | 1 => .int
  | 2 => .int
  | 3 => .char
  | 4 => .int
  | _ => .int
abbrev wsX30 : List Cond := u_ws RX3 TX3 6
theorem nmX3 : ∀ a, a < 6 → ∀ b, b < 6 → a ≠ b → (TX3 a).2.1 ≠ (TX3 b).2.1 := by decide +kernel
theorem tyX3_ok : ∀ k, k < 6 → parseFieldDescriptor (TX3 k).2.2.1 = some (tyX3 k) := by decide +kernel
abbrev cX3_init : ByteArray := prog_5_method_1_code
def yX3_init : MethodName := ⟨RX3, "<init>", "()V"⟩
def RX4 : String := "LagoonGates$Tick"
def TX4 : u_T := fun k => match k with
  | 0 => ("LagoonGates$Tick", "throughGates", "I", false)
  | 1 => ("LagoonGates$Tick", "throughTurbines", "I", false)
  | 2 => ("LagoonGates$Tick", "throughPumps", "I", false)
  | 3 => ("LagoonGates$Tick", "flow", "I", false)
  | 4 => ("LagoonGates$Tick", "made", "I", false)
  | 5 => ("LagoonGates$Tick", "used", "I", false)
  | _ => ("LagoonGates$Tick", "siltChange", "I", false)
def tyX4 : Nat → FieldType := fun k => match k with
  | 0 => .int
  | 1 => .int
  | 2 => .int
  | 3 => .int
  | 4 => .int
  | 5 => .int
  | _ => .int
abbrev wsX40 : List Cond := u_ws RX4 TX4 7
theorem nmX4 : ∀ a, a < 7 → ∀ b, b < 7 → a ≠ b → (TX4 a).2.1 ≠ (TX4 b).2.1 := by decide +kernel
theorem tyX4_ok : ∀ k, k < 7 → parseFieldDescriptor (TX4 k).2.2.1 = some (tyX4 k) := by decide +kernel
abbrev cX4_init : ByteArray := prog_6_method_1_code
def yX4_init : MethodName := ⟨RX4, "<init>", "()V"⟩
abbrev cX4_foresee : ByteArray := prog_6_method_2_code
def yX4_foresee : MethodName := ⟨RX4, "foresee", "(LLagoonGates$Lagoon;I)V"⟩
abbrev cX4_siltOf : ByteArray := prog_6_method_3_code
def yX4_siltOf : MethodName := ⟨RX4, "siltOf", "(LLagoonGates$Lagoon;)I"⟩
def RX5 : String := "LagoonGates"
def TX5 : u_T := fun k => match k with
  | 0 => ("LagoonGates", "present", "LLagoonGates$Lagoon;", true)
  | 1 => ("LagoonGates", "trial", "LLagoonGates$Lagoon;", true)
  | 2 => ("LagoonGates", "tick", "LLagoonGates$Tick;", true)
  | 3 => ("LagoonGates", "history", "LLagoonGates$History;", true)
  | 4 => ("LagoonGates", "text", "LLagoonGates$Text;", true)
  | _ => ("LagoonGates", "player", "LLagoonGates$Player;", true)
def tyX5 : Nat → FieldType := fun k => match k with
  | 0 => .object "LagoonGates$Lagoon"
  | 1 => .object "LagoonGates$Lagoon"
  | 2 => .object "LagoonGates$Tick"
  | 3 => .object "LagoonGates$History"
  | 4 => .object "LagoonGates$Text"
  | _ => .object "LagoonGates$Player"
abbrev wsX50 : List Cond := u_ws RX5 TX5 6
theorem nmX5 : ∀ a, a < 6 → ∀ b, b < 6 → a ≠ b → (TX5 a).2.1 ≠ (TX5 b).2.1 := by decide +kernel
theorem tyX5_ok : ∀ k, k < 6 → parseFieldDescriptor (TX5 k).2.2.1 = some (tyX5 k) := by decide +kernel
abbrev cX5_init : ByteArray := prog_1_method_1_code
def yX5_init : MethodName := ⟨RX5, "<init>", "()V"⟩
abbrev cX5_gates : ByteArray := prog_1_method_2_code
def yX5_gates : MethodName := ⟨RX5, "gates", "(I)I"⟩
abbrev cX5_turbines : ByteArray := prog_1_method_3_code
def yX5_turbines : MethodName := ⟨RX5, "turbines", "(I)I"⟩
abbrev cX5_pump : ByteArray := prog_1_method_4_code
def yX5_pump : MethodName := ⟨RX5, "pump", "(I)I"⟩
abbrev cX5_birds : ByteArray := prog_1_method_5_code
def yX5_birds : MethodName := ⟨RX5, "birds", "(II)I"⟩
abbrev cX5_run : ByteArray := prog_1_method_6_code
def yX5_run : MethodName := ⟨RX5, "run", "(I)I"⟩
abbrev cX5_dredge : ByteArray := prog_1_method_7_code
def yX5_dredge : MethodName := ⟨RX5, "dredge", "(I)I"⟩
abbrev cX5_set : ByteArray := prog_1_method_8_code
def yX5_set : MethodName := ⟨RX5, "set", "(II)I"⟩
abbrev cX5_now : ByteArray := prog_1_method_10_code
def yX5_now : MethodName := ⟨RX5, "now", "(I)I"⟩
abbrev cX5_record : ByteArray := prog_1_method_11_code
def yX5_record : MethodName := ⟨RX5, "record", "(II)I"⟩
abbrev cX5_next : ByteArray := prog_1_method_12_code
def yX5_next : MethodName := ⟨RX5, "next", "(I)I"⟩
abbrev cX5_bestDay : ByteArray := prog_1_method_17_code
def yX5_bestDay : MethodName := ⟨RX5, "bestDay", "()I"⟩
abbrev cX5_count : ByteArray := prog_1_method_19_code
def yX5_count : MethodName := ⟨RX5, "count", "(I)I"⟩
abbrev cX5_settle : ByteArray := prog_1_method_25_code
def yX5_settle : MethodName := ⟨RX5, "settle", "(I)I"⟩
abbrev cX5_isError : ByteArray := prog_1_method_28_code
def yX5_isError : MethodName := ⟨RX5, "isError", "(I)Z"⟩
abbrev cX5_tideHeight : ByteArray := prog_1_method_29_code
def yX5_tideHeight : MethodName := ⟨RX5, "tideHeight", "(I)I"⟩
abbrev cX5_seaLevel : ByteArray := prog_1_method_30_code
def yX5_seaLevel : MethodName := ⟨RX5, "seaLevel", "(I)I"⟩
abbrev cX5_recordStart : ByteArray := prog_1_method_31_code
def yX5_recordStart : MethodName := ⟨RX5, "recordStart", "(I)I"⟩
def RX6 : String := "LagoonGatesModel"
def TX6 : u_T := fun k => match k with
  | _ => ("", "", "", false)
def tyX6 : Nat → FieldType := fun k => match k with
  | _ => .int
abbrev wsX60 : List Cond := u_ws RX6 TX6 0
theorem nmX6 : ∀ a, a < 0 → ∀ b, b < 0 → a ≠ b → (TX6 a).2.1 ≠ (TX6 b).2.1 := by decide +kernel
theorem tyX6_ok : ∀ k, k < 0 → parseFieldDescriptor (TX6 k).2.2.1 = some (tyX6 k) := by decide +kernel
def RJ9 : String := "java/lang/Math"
def TJ9 : u_T := fun k => match k with
  | _ => ("", "", "", false)
def tyJ9 : Nat → FieldType := fun k => match k with
  | _ => .int
abbrev wsJ90 : List Cond := u_ws RJ9 TJ9 0
abbrev cJ9_floorDiv_7cf53 : ByteArray := prog_9_method_47_code
def yJ9_floorDiv_7cf53 : MethodName := ⟨RJ9, "floorDiv", "(II)I"⟩
abbrev cJ9_floorMod_7cf53 : ByteArray := prog_9_method_50_code
def yJ9_floorMod_7cf53 : MethodName := ⟨RJ9, "floorMod", "(II)I"⟩
abbrev cJ9_abs_0f7a4 : ByteArray := prog_9_method_59_code
def yJ9_abs_0f7a4 : MethodName := ⟨RJ9, "abs", "(I)I"⟩
abbrev cJ9_max_7cf53 : ByteArray := prog_9_method_65_code
def yJ9_max_7cf53 : MethodName := ⟨RJ9, "max", "(II)I"⟩
abbrev cJ9_min_7cf53 : ByteArray := prog_9_method_69_code
def yJ9_min_7cf53 : MethodName := ⟨RJ9, "min", "(II)I"⟩
def RJ10 : String := "java/lang/System"
def TJ10 : u_T := fun k => match k with
  | _ => ("", "", "", false)
def tyJ10 : Nat → FieldType := fun k => match k with
  | _ => .int
abbrev wsJ100 : List Cond := u_ws RJ10 TJ10 0
def RL : String := "LagoonGatesLaw"
abbrev cL_cell : ByteArray := method_2_code
def yL_cell : MethodName := ⟨RL, "cell", "([II)I"⟩
abbrev cL_low : ByteArray := method_3_code
def yL_low : MethodName := ⟨RL, "low", "(II)I"⟩
abbrev cL_sea : ByteArray := method_4_code
def yL_sea : MethodName := ⟨RL, "sea", "(I)I"⟩
abbrev cL_level : ByteArray := method_5_code
def yL_level : MethodName := ⟨RL, "level", "([I)I"⟩
abbrev cL_size : ByteArray := method_6_code
def yL_size : MethodName := ⟨RL, "size", "(I)I"⟩
abbrev cL_birds : ByteArray := method_7_code
def yL_birds : MethodName := ⟨RL, "birds", "([I)Z"⟩
abbrev cL_weigh : ByteArray := method_8_code
def yL_weigh : MethodName := ⟨RL, "weigh", "([I[I)V"⟩
abbrev cL_run : ByteArray := method_9_code
def yL_run : MethodName := ⟨RL, "run", "([I[I[II)V"⟩
abbrev cL_acts : ByteArray := method_10_code
def yL_acts : MethodName := ⟨RL, "acts", "(LLagoonGates;[I[I[II)Z"⟩
abbrev cL_areRecords : ByteArray := method_11_code
def yL_areRecords : MethodName := ⟨RL, "areRecords", "(LLagoonGates;[I[I[I)Z"⟩
abbrev cL_isSo : ByteArray := method_12_code
def yL_isSo : MethodName := ⟨RL, "isSo", "(LLagoonGates;[I[I[I)Z"⟩
abbrev cL_law : ByteArray := code
def yL_law : MethodName := ⟨RL, "law", "([I)Z"⟩
abbrev vwCl : List vw_C := [(RX0, TX0, 3), (RX1, TX1, 11), (RX2, TX2, 4), (RX3, TX3, 6), (RX4, TX4, 7), (RX5, TX5, 6)]
/-! the words, by place -/
def gW : List Cond := lw_tbl.filter goodWord
theorem gW_in {w : Cond} (i : Nat) (h : lw_tbl[i]? = some w) (hg : goodWord w = true) : w ∈ gW := List.mem_filter.mpr ⟨List.mem_of_getElem? h, hg⟩
theorem gW_good {y : Cond} (hy : y ∈ gW) : GoodIn gW (y :: gW) := by
  intro w hw
  have hm : w ∈ gW := by
    rcases List.mem_cons.mp hw with h | h
    · rw [h]; exact hy
    · exact h
  exact ⟨hm, good_of_word (List.mem_filter.mp hm).2⟩
/-- what a call of y needs of the tables -/
def ag_fV (y : MethodName) (code : ByteArray) (maxL : Nat) (ret : Option FieldType) (n : Nat) : Prop :=
  Cond.code y code maxL ret ∈ gW ∧ Cond.instanceMethod y ∈ gW ∧ Cond.selects y.cls y y ∈ gW ∧ Cond.initialized y.cls ∈ gW ∧ y.cls ≠ "java/lang/invoke/MethodHandle" ∧ y.cls ≠ "java/lang/invoke/VarHandle" ∧ (parseMethodDescriptor y.desc).map (fun d => d.parameters.length) = some n
def ag_fS (y : MethodName) (code : ByteArray) (maxL : Nat) (ret : Option FieldType) (n : Nat) : Prop :=
  Cond.code y code maxL ret ∈ gW ∧ Cond.static y ∈ gW ∧ Cond.initialized y.cls ∈ gW ∧ y.cls ≠ "java/lang/invoke/MethodHandle" ∧ y.cls ≠ "java/lang/invoke/VarHandle" ∧ (parseMethodDescriptor y.desc).map (fun d => d.parameters.length) = some n
