section
-- ===== PART A: goes FIRST, ahead of the names: the tables' words, and 'selects' of the private methods out of them =====
/-- a private method of a class that the tables say can be made, by its rows of tables_1 -/
def lw_okq (q : MethodName × Nat) : Prop := (q.1.cls ≠ "java/lang/invoke/MethodHandle" ∧ q.1.cls ≠ "java/lang/invoke/VarHandle") ∧ Cond.instantiable q.1.cls q.2 ∈ tables_1 ∧ Cond.privateMethod q.1 ∈ tables_1 ∧ Cond.instanceMethod q.1 ∈ tables_1
theorem lw_p0 : lw_okq (⟨"LagoonGates", "settle", "(I)I"⟩, 6) := ⟨⟨by decide +kernel, by decide +kernel⟩, List.mem_of_getElem? (i := 12) (by decide +kernel), List.mem_of_getElem? (i := 226) (by decide +kernel), List.mem_of_getElem? (i := 227) (by decide +kernel)⟩
theorem lw_p1 : lw_okq (⟨"LagoonGates$History", "rowOf", "(I)I"⟩, 3) := ⟨⟨by decide +kernel, by decide +kernel⟩, List.mem_of_getElem? (i := 116) (by decide +kernel), List.mem_of_getElem? (i := 238) (by decide +kernel), List.mem_of_getElem? (i := 239) (by decide +kernel)⟩
theorem lw_p2 : lw_okq (⟨"LagoonGates$Tick", "siltOf", "(LLagoonGates$Lagoon;)I"⟩, 7) := ⟨⟨by decide +kernel, by decide +kernel⟩, List.mem_of_getElem? (i := 77) (by decide +kernel), List.mem_of_getElem? (i := 316) (by decide +kernel), List.mem_of_getElem? (i := 317) (by decide +kernel)⟩
theorem lw_p3 : lw_okq (⟨"LagoonGates$Lagoon", "take", "(LLagoonGates$Tick;)V"⟩, 11) := ⟨⟨by decide +kernel, by decide +kernel⟩, List.mem_of_getElem? (i := 20) (by decide +kernel), List.mem_of_getElem? (i := 320) (by decide +kernel), List.mem_of_getElem? (i := 321) (by decide +kernel)⟩
theorem lw_p4 : lw_okq (⟨"LagoonGates$Lagoon", "enterRecord", "(LLagoonGates$Tick;)V"⟩, 11) := ⟨⟨by decide +kernel, by decide +kernel⟩, List.mem_of_getElem? (i := 20) (by decide +kernel), List.mem_of_getElem? (i := 324) (by decide +kernel), List.mem_of_getElem? (i := 325) (by decide +kernel)⟩
theorem lw_p5 : lw_okq (⟨"LagoonGates$Lagoon", "beginRecord", "(II)V"⟩, 11) := ⟨⟨by decide +kernel, by decide +kernel⟩, List.mem_of_getElem? (i := 20) (by decide +kernel), List.mem_of_getElem? (i := 332) (by decide +kernel), List.mem_of_getElem? (i := 333) (by decide +kernel)⟩
theorem lw_p6 : lw_okq (⟨"LagoonGates", "gainWith", "(II)I"⟩, 6) := ⟨⟨by decide +kernel, by decide +kernel⟩, List.mem_of_getElem? (i := 12) (by decide +kernel), List.mem_of_getElem? (i := 406) (by decide +kernel), List.mem_of_getElem? (i := 407) (by decide +kernel)⟩
theorem lw_p7 : lw_okq (⟨"LagoonGates", "levelWith", "(II)I"⟩, 6) := ⟨⟨by decide +kernel, by decide +kernel⟩, List.mem_of_getElem? (i := 12) (by decide +kernel), List.mem_of_getElem? (i := 418) (by decide +kernel), List.mem_of_getElem? (i := 419) (by decide +kernel)⟩
theorem lw_p8 : lw_okq (⟨"LagoonGates$Text", "characterHere", "()C"⟩, 6) := ⟨⟨by decide +kernel, by decide +kernel⟩, List.mem_of_getElem? (i := 136) (by decide +kernel), List.mem_of_getElem? (i := 474) (by decide +kernel), List.mem_of_getElem? (i := 475) (by decide +kernel)⟩
theorem lw_p9 : lw_okq (⟨"LagoonGates$Text", "readNumber", "()I"⟩, 6) := ⟨⟨by decide +kernel, by decide +kernel⟩, List.mem_of_getElem? (i := 136) (by decide +kernel), List.mem_of_getElem? (i := 481) (by decide +kernel), List.mem_of_getElem? (i := 482) (by decide +kernel)⟩
theorem lw_p10 : lw_okq (⟨"LagoonGates$Text", "skip", "(C)Z"⟩, 6) := ⟨⟨by decide +kernel, by decide +kernel⟩, List.mem_of_getElem? (i := 136) (by decide +kernel), List.mem_of_getElem? (i := 486) (by decide +kernel), List.mem_of_getElem? (i := 487) (by decide +kernel)⟩
theorem lw_p11 : lw_okq (⟨"LagoonGatesModel", "sets", "(II)I"⟩, 22) := ⟨⟨by decide +kernel, by decide +kernel⟩, List.mem_of_getElem? (i := 503) (by decide +kernel), List.mem_of_getElem? (i := 584) (by decide +kernel), List.mem_of_getElem? (i := 585) (by decide +kernel)⟩
theorem lw_p12 : lw_okq (⟨"LagoonGatesModel", "changes", "()V"⟩, 22) := ⟨⟨by decide +kernel, by decide +kernel⟩, List.mem_of_getElem? (i := 503) (by decide +kernel), List.mem_of_getElem? (i := 588) (by decide +kernel), List.mem_of_getElem? (i := 589) (by decide +kernel)⟩
theorem lw_p13 : lw_okq (⟨"LagoonGatesModel", "ticks", "(I)V"⟩, 22) := ⟨⟨by decide +kernel, by decide +kernel⟩, List.mem_of_getElem? (i := 503) (by decide +kernel), List.mem_of_getElem? (i := 610) (by decide +kernel), List.mem_of_getElem? (i := 611) (by decide +kernel)⟩
theorem lw_p14 : lw_okq (⟨"LagoonGatesModel", "tick", "()V"⟩, 22) := ⟨⟨by decide +kernel, by decide +kernel⟩, List.mem_of_getElem? (i := 503) (by decide +kernel), List.mem_of_getElem? (i := 614) (by decide +kernel), List.mem_of_getElem? (i := 615) (by decide +kernel)⟩
theorem lw_p15 : lw_okq (⟨"LagoonGatesModel", "weighs", "()V"⟩, 22) := ⟨⟨by decide +kernel, by decide +kernel⟩, List.mem_of_getElem? (i := 503) (by decide +kernel), List.mem_of_getElem? (i := 618) (by decide +kernel), List.mem_of_getElem? (i := 619) (by decide +kernel)⟩
def lw_privs_1 : List (MethodName × Nat) := [(⟨"LagoonGates", "settle", "(I)I"⟩, 6), (⟨"LagoonGates$History", "rowOf", "(I)I"⟩, 3), (⟨"LagoonGates$Tick", "siltOf", "(LLagoonGates$Lagoon;)I"⟩, 7), (⟨"LagoonGates$Lagoon", "take", "(LLagoonGates$Tick;)V"⟩, 11), (⟨"LagoonGates$Lagoon", "enterRecord", "(LLagoonGates$Tick;)V"⟩, 11), (⟨"LagoonGates$Lagoon", "beginRecord", "(II)V"⟩, 11), (⟨"LagoonGates", "gainWith", "(II)I"⟩, 6), (⟨"LagoonGates", "levelWith", "(II)I"⟩, 6), (⟨"LagoonGates$Text", "characterHere", "()C"⟩, 6), (⟨"LagoonGates$Text", "readNumber", "()I"⟩, 6), (⟨"LagoonGates$Text", "skip", "(C)Z"⟩, 6), (⟨"LagoonGatesModel", "sets", "(II)I"⟩, 22), (⟨"LagoonGatesModel", "changes", "()V"⟩, 22), (⟨"LagoonGatesModel", "ticks", "(I)V"⟩, 22), (⟨"LagoonGatesModel", "tick", "()V"⟩, 22), (⟨"LagoonGatesModel", "weighs", "()V"⟩, 22)]
theorem lw_r1 : ∀ q ∈ lw_privs_1, lw_okq q := List.forall_mem_cons.mpr ⟨lw_p0, List.forall_mem_cons.mpr ⟨lw_p1, List.forall_mem_cons.mpr ⟨lw_p2, List.forall_mem_cons.mpr ⟨lw_p3, List.forall_mem_cons.mpr ⟨lw_p4, List.forall_mem_cons.mpr ⟨lw_p5, List.forall_mem_cons.mpr ⟨lw_p6, List.forall_mem_cons.mpr ⟨lw_p7, List.forall_mem_cons.mpr ⟨lw_p8, List.forall_mem_cons.mpr ⟨lw_p9, List.forall_mem_cons.mpr ⟨lw_p10, List.forall_mem_cons.mpr ⟨lw_p11, List.forall_mem_cons.mpr ⟨lw_p12, List.forall_mem_cons.mpr ⟨lw_p13, List.forall_mem_cons.mpr ⟨lw_p14, List.forall_mem_cons.mpr ⟨lw_p15, fun _ h => absurd h List.not_mem_nil⟩⟩⟩⟩⟩⟩⟩⟩⟩⟩⟩⟩⟩⟩⟩⟩
theorem lw_p16 : lw_okq (⟨"LagoonGatesModel", "head", "()I"⟩, 22) := ⟨⟨by decide +kernel, by decide +kernel⟩, List.mem_of_getElem? (i := 503) (by decide +kernel), List.mem_of_getElem? (i := 622) (by decide +kernel), List.mem_of_getElem? (i := 623) (by decide +kernel)⟩
theorem lw_p17 : lw_okq (⟨"LagoonGatesModel", "level", "()I"⟩, 22) := ⟨⟨by decide +kernel, by decide +kernel⟩, List.mem_of_getElem? (i := 503) (by decide +kernel), List.mem_of_getElem? (i := 635) (by decide +kernel), List.mem_of_getElem? (i := 636) (by decide +kernel)⟩
theorem lw_p18 : lw_okq (⟨"LagoonGatesModel", "isBirds", "()Z"⟩, 22) := ⟨⟨by decide +kernel, by decide +kernel⟩, List.mem_of_getElem? (i := 503) (by decide +kernel), List.mem_of_getElem? (i := 639) (by decide +kernel), List.mem_of_getElem? (i := 640) (by decide +kernel)⟩
theorem lw_p19 : lw_okq (⟨"LagoonGatesModel", "opens", "(I)I"⟩, 22) := ⟨⟨by decide +kernel, by decide +kernel⟩, List.mem_of_getElem? (i := 503) (by decide +kernel), List.mem_of_getElem? (i := 644) (by decide +kernel), List.mem_of_getElem? (i := 645) (by decide +kernel)⟩
theorem lw_p20 : lw_okq (⟨"LagoonGatesModel", "recordOf", "(I)I"⟩, 22) := ⟨⟨by decide +kernel, by decide +kernel⟩, List.mem_of_getElem? (i := 503) (by decide +kernel), List.mem_of_getElem? (i := 648) (by decide +kernel), List.mem_of_getElem? (i := 649) (by decide +kernel)⟩
theorem lw_p21 : lw_okq (⟨"LagoonGatesModel", "plays", "()Z"⟩, 22) := ⟨⟨by decide +kernel, by decide +kernel⟩, List.mem_of_getElem? (i := 503) (by decide +kernel), List.mem_of_getElem? (i := 738) (by decide +kernel), List.mem_of_getElem? (i := 739) (by decide +kernel)⟩
theorem lw_p22 : lw_okq (⟨"LagoonGatesModel", "reads", "()Z"⟩, 22) := ⟨⟨by decide +kernel, by decide +kernel⟩, List.mem_of_getElem? (i := 503) (by decide +kernel), List.mem_of_getElem? (i := 742) (by decide +kernel), List.mem_of_getElem? (i := 743) (by decide +kernel)⟩
theorem lw_p23 : lw_okq (⟨"LagoonGatesModel", "isAt", "(II)Z"⟩, 22) := ⟨⟨by decide +kernel, by decide +kernel⟩, List.mem_of_getElem? (i := 503) (by decide +kernel), List.mem_of_getElem? (i := 746) (by decide +kernel), List.mem_of_getElem? (i := 747) (by decide +kernel)⟩
theorem lw_p24 : lw_okq (⟨"LagoonGatesModel", "numbered", "(I)Z"⟩, 22) := ⟨⟨by decide +kernel, by decide +kernel⟩, List.mem_of_getElem? (i := 503) (by decide +kernel), List.mem_of_getElem? (i := 753) (by decide +kernel), List.mem_of_getElem? (i := 754) (by decide +kernel)⟩
theorem lw_p25 : lw_okq (⟨"LagoonGatesModel", "sign", "(I)Z"⟩, 22) := ⟨⟨by decide +kernel, by decide +kernel⟩, List.mem_of_getElem? (i := 503) (by decide +kernel), List.mem_of_getElem? (i := 757) (by decide +kernel), List.mem_of_getElem? (i := 758) (by decide +kernel)⟩
theorem lw_p26 : lw_okq (⟨"LagoonGatesModel", "calls", "()I"⟩, 22) := ⟨⟨by decide +kernel, by decide +kernel⟩, List.mem_of_getElem? (i := 503) (by decide +kernel), List.mem_of_getElem? (i := 761) (by decide +kernel), List.mem_of_getElem? (i := 762) (by decide +kernel)⟩
def lw_privs_2 : List (MethodName × Nat) := [(⟨"LagoonGatesModel", "head", "()I"⟩, 22), (⟨"LagoonGatesModel", "level", "()I"⟩, 22), (⟨"LagoonGatesModel", "isBirds", "()Z"⟩, 22), (⟨"LagoonGatesModel", "opens", "(I)I"⟩, 22), (⟨"LagoonGatesModel", "recordOf", "(I)I"⟩, 22), (⟨"LagoonGatesModel", "plays", "()Z"⟩, 22), (⟨"LagoonGatesModel", "reads", "()Z"⟩, 22), (⟨"LagoonGatesModel", "isAt", "(II)Z"⟩, 22), (⟨"LagoonGatesModel", "numbered", "(I)Z"⟩, 22), (⟨"LagoonGatesModel", "sign", "(I)Z"⟩, 22), (⟨"LagoonGatesModel", "calls", "()I"⟩, 22)]
theorem lw_r2 : ∀ q ∈ lw_privs_2, lw_okq q := List.forall_mem_cons.mpr ⟨lw_p16, List.forall_mem_cons.mpr ⟨lw_p17, List.forall_mem_cons.mpr ⟨lw_p18, List.forall_mem_cons.mpr ⟨lw_p19, List.forall_mem_cons.mpr ⟨lw_p20, List.forall_mem_cons.mpr ⟨lw_p21, List.forall_mem_cons.mpr ⟨lw_p22, List.forall_mem_cons.mpr ⟨lw_p23, List.forall_mem_cons.mpr ⟨lw_p24, List.forall_mem_cons.mpr ⟨lw_p25, List.forall_mem_cons.mpr ⟨lw_p26, fun _ h => absurd h List.not_mem_nil⟩⟩⟩⟩⟩⟩⟩⟩⟩⟩⟩
def lw_privs : List (MethodName × Nat) := lw_privs_1 ++ (lw_privs_2)
def lw_tbl : List Cond := k2_sels lw_privs ++ tables_1
theorem lw_privs_ok : ∀ q ∈ lw_privs, lw_okq q := by
  show ∀ q ∈ lw_privs_1 ++ (lw_privs_2), lw_okq q
  exact List.forall_mem_append.mpr ⟨lw_r1, lw_r2⟩
/-- the streams that the claim lets the run draw from -/
abbrev lw_cs : List Choice := [Jvm.Choice.named "NaN.bits"]
theorem lw_bits : nanBits ∈ lw_cs := by first | decide | exact List.mem_cons_self | simp [lw_cs, nanBits]
end
section
/-! names, fields, codes: printed rows of the claim -/
def RX0 : String := "LagoonGates$History"
def TX0 : u_T := fun k => match k with
  | 0 => ("LagoonGates$History", "states", "[LLagoonGates$Lagoon;", true)
  | 1 => ("LagoonGates$History", "oldest", "I", false)
  | _ => ("LagoonGates$History", "size", "I", false)
def tyX0 : Nat → FieldType := fun k => match k with
  | 0 => .array (.object "LagoonGates$Lagoon")
  | 1 => .int
  | _ => .int
abbrev wsX00 : List Cond := u_ws RX0 TX0 3
theorem nmX0 : ∀ a, a < 3 → ∀ b, b < 3 → a ≠ b → (TX0 a).2.1 ≠ (TX0 b).2.1 := by decide +kernel
theorem tyX0_ok : ∀ k, k < 3 → parseFieldDescriptor (TX0 k).2.2.1 = some (tyX0 k) := by decide +kernel
abbrev cX0_init : ByteArray := prog_2_method_1_code
def yX0_init : MethodName := ⟨RX0, "<init>", "()V"⟩
abbrev cX0_keep : ByteArray := prog_2_method_2_code
def yX0_keep : MethodName := ⟨RX0, "keep", "(LLagoonGates$Lagoon;)V"⟩
abbrev cX0_giveBack : ByteArray := prog_2_method_3_code
def yX0_giveBack : MethodName := ⟨RX0, "giveBack", "(LLagoonGates$Lagoon;)V"⟩
abbrev cX0_rowOf : ByteArray := prog_2_method_4_code
def yX0_rowOf : MethodName := ⟨RX0, "rowOf", "(I)I"⟩
def RX1 : String := "LagoonGates$Lagoon"
def TX1 : u_T := fun k => match k with
  | 0 => ("LagoonGates$Lagoon", "time", "I", false)
  | 1 => ("LagoonGates$Lagoon", "water", "I", false)
  | 2 => ("LagoonGates$Lagoon", "silt", "I", false)
  | 3 => ("LagoonGates$Lagoon", "gatesOpen", "I", false)
  | 4 => ("LagoonGates$Lagoon", "turbinesOpen", "I", false)
  | 5 => ("LagoonGates$Lagoon", "pumpFlow", "I", false)
  | 6 => ("LagoonGates$Lagoon", "birdsFrom", "I", false)
  | 7 => ("LagoonGates$Lagoon", "birdsTo", "I", false)
  | 8 => ("LagoonGates$Lagoon", "settings", "[I", true)
  | 9 => ("LagoonGates$Lagoon", "totals", "[I", true)
  | _ => ("LagoonGates$Lagoon", "records", "[I", true)
def tyX1 : Nat → FieldType := fun k => match k with
  | 0 => .int
  | 1 => .int
  | 2 => .int
  | 3 => .int
  | 4 => .int
  | 5 => .int
  | 6 => .int
  | 7 => .int
  | 8 => .array .int
  | 9 => .array .int
  | _ => .array .int
abbrev wsX10 : List Cond := u_ws RX1 TX1 11
theorem nmX1 : ∀ a, a < 11 → ∀ b, b < 11 → a ≠ b → (TX1 a).2.1 ≠ (TX1 b).2.1 := by decide +kernel
theorem tyX1_ok : ∀ k, k < 11 → parseFieldDescriptor (TX1 k).2.2.1 = some (tyX1 k) := by decide +kernel
abbrev cX1_init : ByteArray := prog_3_method_1_code
def yX1_init : MethodName := ⟨RX1, "<init>", "()V"⟩
abbrev cX1_copyFrom : ByteArray := prog_3_method_2_code
def yX1_copyFrom : MethodName := ⟨RX1, "copyFrom", "(LLagoonGates$Lagoon;)V"⟩
abbrev cX1_level : ByteArray := prog_3_method_3_code
def yX1_level : MethodName := ⟨RX1, "level", "()I"⟩
abbrev cX1_head : ByteArray := prog_3_method_4_code
def yX1_head : MethodName := ⟨RX1, "head", "()I"⟩
abbrev cX1_isBirdHour : ByteArray := prog_3_method_5_code
def yX1_isBirdHour : MethodName := ⟨RX1, "isBirdHour", "()Z"⟩
abbrev cX1_gain : ByteArray := prog_3_method_6_code
def yX1_gain : MethodName := ⟨RX1, "gain", "()I"⟩
abbrev cX1_lastDay : ByteArray := prog_3_method_7_code
def yX1_lastDay : MethodName := ⟨RX1, "lastDay", "()I"⟩
abbrev cX1_firstDay : ByteArray := prog_3_method_8_code
def yX1_firstDay : MethodName := ⟨RX1, "firstDay", "()I"⟩
abbrev cX1_openGates : ByteArray := prog_3_method_9_code
def yX1_openGates : MethodName := ⟨RX1, "openGates", "(I)I"⟩
abbrev cX1_openTurbines : ByteArray := prog_3_method_10_code
def yX1_openTurbines : MethodName := ⟨RX1, "openTurbines", "(I)I"⟩
abbrev cX1_setPump : ByteArray := prog_3_method_11_code
def yX1_setPump : MethodName := ⟨RX1, "setPump", "(I)I"⟩
abbrev cX1_setBirds : ByteArray := prog_3_method_12_code
def yX1_setBirds : MethodName := ⟨RX1, "setBirds", "(II)I"⟩
abbrev cX1_runTicks : ByteArray := prog_3_method_13_code
def yX1_runTicks : MethodName := ⟨RX1, "runTicks", "(ILLagoonGates$Tick;)I"⟩
abbrev cX1_dredgeSilt : ByteArray := prog_3_method_14_code
def yX1_dredgeSilt : MethodName := ⟨RX1, "dredgeSilt", "(I)I"⟩
abbrev cX1_changeSetting : ByteArray := prog_3_method_15_code
def yX1_changeSetting : MethodName := ⟨RX1, "changeSetting", "(II)I"⟩
abbrev cX1_letPass : ByteArray := prog_3_method_16_code
def yX1_letPass : MethodName := ⟨RX1, "letPass", "(ILLagoonGates$Tick;)V"⟩
abbrev cX1_take : ByteArray := prog_3_method_17_code
def yX1_take : MethodName := ⟨RX1, "take", "(LLagoonGates$Tick;)V"⟩
abbrev cX1_enterRecord : ByteArray := prog_3_method_18_code
def yX1_enterRecord : MethodName := ⟨RX1, "enterRecord", "(LLagoonGates$Tick;)V"⟩
abbrev cX1_beginRecord : ByteArray := prog_3_method_19_code
def yX1_beginRecord : MethodName := ⟨RX1, "beginRecord", "(II)V"⟩
def RX2 : String := "LagoonGates$Player"
def TX2 : u_T := fun k => match k with
  | 0 => ("LagoonGates$Player", "orders", "I", false)
  | 1 => ("LagoonGates$Player", "place", "I", false)
  | 2 => ("LagoonGates$Player", "reason", "I", false)
  | _ => ("LagoonGates$Player", "cause", "I", false)
def tyX2 : Nat → FieldType := fun k => match k with
  | 0 => .int
  | 1 => .int
  | 2 => .int
  | _ => .int
abbrev wsX20 : List Cond := u_ws RX2 TX2 4
theorem nmX2 : ∀ a, a < 4 → ∀ b, b < 4 → a ≠ b → (TX2 a).2.1 ≠ (TX2 b).2.1 := by decide +kernel
theorem tyX2_ok : ∀ k, k < 4 → parseFieldDescriptor (TX2 k).2.2.1 = some (tyX2 k) := by decide +kernel
abbrev cX2_init : ByteArray := prog_4_method_1_code
def yX2_init : MethodName := ⟨RX2, "<init>", "()V"⟩
abbrev cX2_perform : ByteArray := prog_4_method_2_code
def yX2_perform : MethodName := ⟨RX2, "perform", "(LLagoonGates$Text;LLagoonGates$Lagoon;LLagoonGates$Tick;)V"⟩
abbrev cX2_obey : ByteArray := prog_4_method_3_code
def yX2_obey : MethodName := ⟨RX2, "obey", "(LLagoonGates$Text;LLagoonGates$Lagoon;LLagoonGates$Tick;)I"⟩
def RX3 : String := "LagoonGates$Text"
def TX3 : u_T := fun k => match k with
  | 0 => ("LagoonGates$Text", "characters", "[C", true)
  | 1 => ("LagoonGates$Text", "length", "I", false)
  | 2 => ("LagoonGates$Text", "place", "I", false)
  | 3 => ("LagoonGates$Text", "kind", "C", false)
  | 4 => ("LagoonGates$Text", "first", "I", false)
  | _ => ("LagoonGates$Text", "second", "I", false)
def tyX3 : Nat → FieldType := fun k => match k with
  | 0 => .array .char
  | 1 => .int
  | 2 => .int
  | 3 => .char
  | 4 => .int
  | _ => .int
abbrev wsX30 : List Cond := u_ws RX3 TX3 6
theorem nmX3 : ∀ a, a < 6 → ∀ b, b < 6 → a ≠ b → (TX3 a).2.1 ≠ (TX3 b).2.1 := by decide +kernel
theorem tyX3_ok : ∀ k, k < 6 → parseFieldDescriptor (TX3 k).2.2.1 = some (tyX3 k) := by decide +kernel
abbrev cX3_init : ByteArray := prog_5_method_1_code
def yX3_init : MethodName := ⟨RX3, "<init>", "()V"⟩
abbrev cX3_append : ByteArray := prog_5_method_2_code
def yX3_append : MethodName := ⟨RX3, "append", "(C)V"⟩
abbrev cX3_readOrder : ByteArray := prog_5_method_3_code
def yX3_readOrder : MethodName := ⟨RX3, "readOrder", "()Z"⟩
abbrev cX3_isKind : ByteArray := prog_5_method_4_code
def yX3_isKind : MethodName := ⟨RX3, "isKind", "(C)Z"⟩
abbrev cX3_characterHere : ByteArray := prog_5_method_5_code
def yX3_characterHere : MethodName := ⟨RX3, "characterHere", "()C"⟩
abbrev cX3_skip : ByteArray := prog_5_method_6_code
def yX3_skip : MethodName := ⟨RX3, "skip", "(C)Z"⟩
abbrev cX3_readNumber : ByteArray := prog_5_method_7_code
def yX3_readNumber : MethodName := ⟨RX3, "readNumber", "()I"⟩
def RX4 : String := "LagoonGates$Tick"
def TX4 : u_T := fun k => match k with
  | 0 => ("LagoonGates$Tick", "throughGates", "I", false)
  | 1 => ("LagoonGates$Tick", "throughTurbines", "I", false)
  | 2 => ("LagoonGates$Tick", "throughPumps", "I", false)
  | 3 => ("LagoonGates$Tick", "flow", "I", false)
  | 4 => ("LagoonGates$Tick", "made", "I", false)
  | 5 => ("LagoonGates$Tick", "used", "I", false)
  | _ => ("LagoonGates$Tick", "siltChange", "I", false)
def tyX4 : Nat → FieldType := fun k => match k with
  | 0 => .int
  | 1 => .int
  | 2 => .int
  | 3 => .int
  | 4 => .int
  | 5 => .int
  | _ => .int
abbrev wsX40 : List Cond := u_ws RX4 TX4 7
theorem nmX4 : ∀ a, a < 7 → ∀ b, b < 7 → a ≠ b → (TX4 a).2.1 ≠ (TX4 b).2.1 := by decide +kernel
theorem tyX4_ok : ∀ k, k < 7 → parseFieldDescriptor (TX4 k).2.2.1 = some (tyX4 k) := by decide +kernel
abbrev cX4_init : ByteArray := prog_6_method_1_code
def yX4_init : MethodName := ⟨RX4, "<init>", "()V"⟩
abbrev cX4_foresee : ByteArray := prog_6_method_2_code
def yX4_foresee : MethodName := ⟨RX4, "foresee", "(LLagoonGates$Lagoon;I)V"⟩
abbrev cX4_siltOf : ByteArray := prog_6_method_3_code
def yX4_siltOf : MethodName := ⟨RX4, "siltOf", "(LLagoonGates$Lagoon;)I"⟩
def RX5 : String := "LagoonGates"
def TX5 : u_T := fun k => match k with
  | 0 => ("LagoonGates", "present", "LLagoonGates$Lagoon;", true)
  | 1 => ("LagoonGates", "trial", "LLagoonGates$Lagoon;", true)
  | 2 => ("LagoonGates", "tick", "LLagoonGates$Tick;", true)
  | 3 => ("LagoonGates", "history", "LLagoonGates$History;", true)
  | 4 => ("LagoonGates", "text", "LLagoonGates$Text;", true)
  | _ => ("LagoonGates", "player", "LLagoonGates$Player;", true)
def tyX5 : Nat → FieldType := fun k => match k with
  | 0 => .object "LagoonGates$Lagoon"
  | 1 => .object "LagoonGates$Lagoon"
  | 2 => .object "LagoonGates$Tick"
  | 3 => .object "LagoonGates$History"
  | 4 => .object "LagoonGates$Text"
  | _ => .object "LagoonGates$Player"
abbrev wsX50 : List Cond := u_ws RX5 TX5 6
theorem nmX5 : ∀ a, a < 6 → ∀ b, b < 6 → a ≠ b → (TX5 a).2.1 ≠ (TX5 b).2.1 := by decide +kernel
theorem tyX5_ok : ∀ k, k < 6 → parseFieldDescriptor (TX5 k).2.2.1 = some (tyX5 k) := by decide +kernel
abbrev cX5_init : ByteArray := prog_1_method_1_code
def yX5_init : MethodName := ⟨RX5, "<init>", "()V"⟩
abbrev cX5_gates : ByteArray := prog_1_method_2_code
def yX5_gates : MethodName := ⟨RX5, "gates", "(I)I"⟩
abbrev cX5_turbines : ByteArray := prog_1_method_3_code
def yX5_turbines : MethodName := ⟨RX5, "turbines", "(I)I"⟩
abbrev cX5_pump : ByteArray := prog_1_method_4_code
def yX5_pump : MethodName := ⟨RX5, "pump", "(I)I"⟩
abbrev cX5_birds : ByteArray := prog_1_method_5_code
def yX5_birds : MethodName := ⟨RX5, "birds", "(II)I"⟩
abbrev cX5_run : ByteArray := prog_1_method_6_code
def yX5_run : MethodName := ⟨RX5, "run", "(I)I"⟩
abbrev cX5_dredge : ByteArray := prog_1_method_7_code
def yX5_dredge : MethodName := ⟨RX5, "dredge", "(I)I"⟩
abbrev cX5_set : ByteArray := prog_1_method_8_code
def yX5_set : MethodName := ⟨RX5, "set", "(II)I"⟩
abbrev cX5_sea : ByteArray := prog_1_method_9_code
def yX5_sea : MethodName := ⟨RX5, "sea", "(I)I"⟩
abbrev cX5_now : ByteArray := prog_1_method_10_code
def yX5_now : MethodName := ⟨RX5, "now", "(I)I"⟩
abbrev cX5_record : ByteArray := prog_1_method_11_code
def yX5_record : MethodName := ⟨RX5, "record", "(II)I"⟩
abbrev cX5_next : ByteArray := prog_1_method_12_code
def yX5_next : MethodName := ⟨RX5, "next", "(I)I"⟩
abbrev cX5_would : ByteArray := prog_1_method_13_code
def yX5_would : MethodName := ⟨RX5, "would", "(II)I"⟩
abbrev cX5_seaAt : ByteArray := prog_1_method_14_code
def yX5_seaAt : MethodName := ⟨RX5, "seaAt", "(I)I"⟩
abbrev cX5_best : ByteArray := prog_1_method_15_code
def yX5_best : MethodName := ⟨RX5, "best", "(II)I"⟩
abbrev cX5_gatesFor : ByteArray := prog_1_method_16_code
def yX5_gatesFor : MethodName := ⟨RX5, "gatesFor", "(II)I"⟩
abbrev cX5_bestDay : ByteArray := prog_1_method_17_code
def yX5_bestDay : MethodName := ⟨RX5, "bestDay", "()I"⟩
abbrev cX5_share : ByteArray := prog_1_method_18_code
def yX5_share : MethodName := ⟨RX5, "share", "()I"⟩
abbrev cX5_count : ByteArray := prog_1_method_19_code
def yX5_count : MethodName := ⟨RX5, "count", "(I)I"⟩
abbrev cX5_undo : ByteArray := prog_1_method_20_code
def yX5_undo : MethodName := ⟨RX5, "undo", "()I"⟩
abbrev cX5_type : ByteArray := prog_1_method_21_code
def yX5_type : MethodName := ⟨RX5, "type", "(I)I"⟩
abbrev cX5_clearText : ByteArray := prog_1_method_22_code
def yX5_clearText : MethodName := ⟨RX5, "clearText", "()I"⟩
abbrev cX5_fault : ByteArray := prog_1_method_23_code
def yX5_fault : MethodName := ⟨RX5, "fault", "(I)I"⟩
abbrev cX5_play : ByteArray := prog_1_method_24_code
def yX5_play : MethodName := ⟨RX5, "play", "()I"⟩
abbrev cX5_settle : ByteArray := prog_1_method_25_code
def yX5_settle : MethodName := ⟨RX5, "settle", "(I)I"⟩
abbrev cX5_gainWith : ByteArray := prog_1_method_26_code
def yX5_gainWith : MethodName := ⟨RX5, "gainWith", "(II)I"⟩
abbrev cX5_levelWith : ByteArray := prog_1_method_27_code
def yX5_levelWith : MethodName := ⟨RX5, "levelWith", "(II)I"⟩
abbrev cX5_isError : ByteArray := prog_1_method_28_code
def yX5_isError : MethodName := ⟨RX5, "isError", "(I)Z"⟩
abbrev cX5_tideHeight : ByteArray := prog_1_method_29_code
def yX5_tideHeight : MethodName := ⟨RX5, "tideHeight", "(I)I"⟩
abbrev cX5_seaLevel : ByteArray := prog_1_method_30_code
def yX5_seaLevel : MethodName := ⟨RX5, "seaLevel", "(I)I"⟩
abbrev cX5_recordStart : ByteArray := prog_1_method_31_code
def yX5_recordStart : MethodName := ⟨RX5, "recordStart", "(I)I"⟩
abbrev cX5_floatBits : ByteArray := prog_1_method_32_code
def yX5_floatBits : MethodName := ⟨RX5, "floatBits", "(F)I"⟩
def RX6 : String := "LagoonGatesModel"
def TX6 : u_T := fun k => match k with
  | 0 => ("LagoonGatesModel", "s", "[I", true)
  | 1 => ("LagoonGatesModel", "past", "[I", true)
  | 2 => ("LagoonGatesModel", "held", "[I", true)
  | 3 => ("LagoonGatesModel", "tried", "[I", true)
  | 4 => ("LagoonGatesModel", "pasts", "I", false)
  | 5 => ("LagoonGatesModel", "runs", "Z", false)
  | 6 => ("LagoonGatesModel", "text", "[I", true)
  | 7 => ("LagoonGatesModel", "typed", "I", false)
  | 8 => ("LagoonGatesModel", "byGates", "I", false)
  | 9 => ("LagoonGatesModel", "byTurbines", "I", false)
  | 10 => ("LagoonGatesModel", "byPumps", "I", false)
  | 11 => ("LagoonGatesModel", "flow", "I", false)
  | 12 => ("LagoonGatesModel", "made", "I", false)
  | 13 => ("LagoonGatesModel", "used", "I", false)
  | 14 => ("LagoonGatesModel", "silt", "I", false)
  | 15 => ("LagoonGatesModel", "spot", "I", false)
  | 16 => ("LagoonGatesModel", "from", "I", false)
  | 17 => ("LagoonGatesModel", "reason", "I", false)
  | 18 => ("LagoonGatesModel", "cause", "I", false)
  | 19 => ("LagoonGatesModel", "orders", "I", false)
  | 20 => ("LagoonGatesModel", "order", "I", false)
  | _ => ("LagoonGatesModel", "told", "[I", true)
def tyX6 : Nat → FieldType := fun k => match k with
  | 0 => .array .int
  | 1 => .array .int
  | 2 => .array .int
  | 3 => .array .int
  | 4 => .int
  | 5 => .boolean
  | 6 => .array .int
  | 7 => .int
  | 8 => .int
  | 9 => .int
  | 10 => .int
  | 11 => .int
  | 12 => .int
  | 13 => .int
  | 14 => .int
  | 15 => .int
  | 16 => .int
  | 17 => .int
  | 18 => .int
  | 19 => .int
  | 20 => .int
  | _ => .array .int
abbrev wsX60 : List Cond := u_ws RX6 TX6 22
theorem nmX6 : ∀ a, a < 22 → ∀ b, b < 22 → a ≠ b → (TX6 a).2.1 ≠ (TX6 b).2.1 := by decide +kernel
theorem tyX6_ok : ∀ k, k < 22 → parseFieldDescriptor (TX6 k).2.2.1 = some (tyX6 k) := by decide +kernel
abbrev cX6_init : ByteArray := prog_8_method_1_code
def yX6_init : MethodName := ⟨RX6, "<init>", "()V"⟩
abbrev cX6_in : ByteArray := prog_8_method_3_code
def yX6_in : MethodName := ⟨RX6, "in", "(III)Z"⟩
abbrev cX6_size : ByteArray := prog_8_method_4_code
def yX6_size : MethodName := ⟨RX6, "size", "(I)I"⟩
abbrev cX6_copies : ByteArray := prog_8_method_5_code
def yX6_copies : MethodName := ⟨RX6, "copies", "([I[I)V"⟩
abbrev cX6_changes : ByteArray := prog_8_method_6_code
def yX6_changes : MethodName := ⟨RX6, "changes", "()V"⟩
abbrev cX6_sets : ByteArray := prog_8_method_7_code
def yX6_sets : MethodName := ⟨RX6, "sets", "(II)I"⟩
abbrev cX6_gates : ByteArray := prog_8_method_8_code
def yX6_gates : MethodName := ⟨RX6, "gates", "(I)I"⟩
abbrev cX6_turbines : ByteArray := prog_8_method_9_code
def yX6_turbines : MethodName := ⟨RX6, "turbines", "(I)I"⟩
abbrev cX6_pump : ByteArray := prog_8_method_10_code
def yX6_pump : MethodName := ⟨RX6, "pump", "(I)I"⟩
abbrev cX6_birds : ByteArray := prog_8_method_11_code
def yX6_birds : MethodName := ⟨RX6, "birds", "(II)I"⟩
abbrev cX6_tide : ByteArray := prog_8_method_12_code
def yX6_tide : MethodName := ⟨RX6, "tide", "(I)I"⟩
abbrev cX6_seaLevel : ByteArray := prog_8_method_13_code
def yX6_seaLevel : MethodName := ⟨RX6, "seaLevel", "(I)I"⟩
abbrev cX6_level : ByteArray := prog_8_method_14_code
def yX6_level : MethodName := ⟨RX6, "level", "()I"⟩
abbrev cX6_head : ByteArray := prog_8_method_15_code
def yX6_head : MethodName := ⟨RX6, "head", "()I"⟩
abbrev cX6_isBirds : ByteArray := prog_8_method_16_code
def yX6_isBirds : MethodName := ⟨RX6, "isBirds", "()Z"⟩
abbrev cX6_weighs : ByteArray := prog_8_method_17_code
def yX6_weighs : MethodName := ⟨RX6, "weighs", "()V"⟩
abbrev cX6_recordOf : ByteArray := prog_8_method_18_code
def yX6_recordOf : MethodName := ⟨RX6, "recordOf", "(I)I"⟩
abbrev cX6_opens : ByteArray := prog_8_method_19_code
def yX6_opens : MethodName := ⟨RX6, "opens", "(I)I"⟩
abbrev cX6_tick : ByteArray := prog_8_method_20_code
def yX6_tick : MethodName := ⟨RX6, "tick", "()V"⟩
abbrev cX6_ticks : ByteArray := prog_8_method_21_code
def yX6_ticks : MethodName := ⟨RX6, "ticks", "(I)V"⟩
abbrev cX6_run : ByteArray := prog_8_method_22_code
def yX6_run : MethodName := ⟨RX6, "run", "(I)I"⟩
abbrev cX6_dredge : ByteArray := prog_8_method_23_code
def yX6_dredge : MethodName := ⟨RX6, "dredge", "(I)I"⟩
abbrev cX6_mostOf : ByteArray := prog_8_method_24_code
def yX6_mostOf : MethodName := ⟨RX6, "mostOf", "(I)I"⟩
abbrev cX6_set : ByteArray := prog_8_method_25_code
def yX6_set : MethodName := ⟨RX6, "set", "(II)I"⟩
abbrev cX6_sea : ByteArray := prog_8_method_26_code
def yX6_sea : MethodName := ⟨RX6, "sea", "(I)I"⟩
abbrev cX6_now : ByteArray := prog_8_method_27_code
def yX6_now : MethodName := ⟨RX6, "now", "(I)I"⟩
abbrev cX6_record : ByteArray := prog_8_method_28_code
def yX6_record : MethodName := ⟨RX6, "record", "(II)I"⟩
abbrev cX6_next : ByteArray := prog_8_method_29_code
def yX6_next : MethodName := ⟨RX6, "next", "(I)I"⟩
abbrev cX6_would : ByteArray := prog_8_method_30_code
def yX6_would : MethodName := ⟨RX6, "would", "(II)I"⟩
abbrev cX6_seaAt : ByteArray := prog_8_method_31_code
def yX6_seaAt : MethodName := ⟨RX6, "seaAt", "(I)I"⟩
abbrev cX6_best : ByteArray := prog_8_method_32_code
def yX6_best : MethodName := ⟨RX6, "best", "(II)I"⟩
abbrev cX6_gatesFor : ByteArray := prog_8_method_33_code
def yX6_gatesFor : MethodName := ⟨RX6, "gatesFor", "(II)I"⟩
abbrev cX6_bestDay : ByteArray := prog_8_method_34_code
def yX6_bestDay : MethodName := ⟨RX6, "bestDay", "()I"⟩
abbrev cX6_share : ByteArray := prog_8_method_35_code
def yX6_share : MethodName := ⟨RX6, "share", "()I"⟩
abbrev cX6_count : ByteArray := prog_8_method_36_code
def yX6_count : MethodName := ⟨RX6, "count", "(I)I"⟩
abbrev cX6_undo : ByteArray := prog_8_method_37_code
def yX6_undo : MethodName := ⟨RX6, "undo", "()I"⟩
abbrev cX6_type : ByteArray := prog_8_method_38_code
def yX6_type : MethodName := ⟨RX6, "type", "(I)I"⟩
abbrev cX6_clearText : ByteArray := prog_8_method_39_code
def yX6_clearText : MethodName := ⟨RX6, "clearText", "()I"⟩
abbrev cX6_isAt : ByteArray := prog_8_method_40_code
def yX6_isAt : MethodName := ⟨RX6, "isAt", "(II)Z"⟩
abbrev cX6_sign : ByteArray := prog_8_method_41_code
def yX6_sign : MethodName := ⟨RX6, "sign", "(I)Z"⟩
abbrev cX6_numbered : ByteArray := prog_8_method_42_code
def yX6_numbered : MethodName := ⟨RX6, "numbered", "(I)Z"⟩
abbrev cX6_numbersOf : ByteArray := prog_8_method_43_code
def yX6_numbersOf : MethodName := ⟨RX6, "numbersOf", "(I)I"⟩
abbrev cX6_reads : ByteArray := prog_8_method_44_code
def yX6_reads : MethodName := ⟨RX6, "reads", "()Z"⟩
abbrev cX6_calls : ByteArray := prog_8_method_45_code
def yX6_calls : MethodName := ⟨RX6, "calls", "()I"⟩
abbrev cX6_plays : ByteArray := prog_8_method_46_code
def yX6_plays : MethodName := ⟨RX6, "plays", "()Z"⟩
abbrev cX6_fault : ByteArray := prog_8_method_47_code
def yX6_fault : MethodName := ⟨RX6, "fault", "(I)I"⟩
abbrev cX6_play : ByteArray := prog_8_method_48_code
def yX6_play : MethodName := ⟨RX6, "play", "()I"⟩
def RJxf58ca : String := "java/lang/Float"
def TJxf58ca : u_T := fun k => match k with
  | _ => ("", "", "", false)
def tyJxf58ca : Nat → FieldType := fun k => match k with
  | _ => .int
abbrev wsJxf58ca0 : List Cond := u_ws RJxf58ca TJxf58ca 0
abbrev cJxf58ca_isNaN_12338 : ByteArray := prog_9_method_6_code
def yJxf58ca_isNaN_12338 : MethodName := ⟨RJxf58ca, "isNaN", "(F)Z"⟩
abbrev cJxf58ca_floatToIntBits_5c35a : ByteArray := prog_9_method_24_code
def yJxf58ca_floatToIntBits_5c35a : MethodName := ⟨RJxf58ca, "floatToIntBits", "(F)I"⟩
def RJ9 : String := "java/lang/Math"
def TJ9 : u_T := fun k => match k with
  | _ => ("", "", "", false)
def tyJ9 : Nat → FieldType := fun k => match k with
  | _ => .int
abbrev wsJ90 : List Cond := u_ws RJ9 TJ9 0
abbrev cJ9_floorDiv_7cf53 : ByteArray := prog_10_method_47_code
def yJ9_floorDiv_7cf53 : MethodName := ⟨RJ9, "floorDiv", "(II)I"⟩
abbrev cJ9_floorMod_7cf53 : ByteArray := prog_10_method_50_code
def yJ9_floorMod_7cf53 : MethodName := ⟨RJ9, "floorMod", "(II)I"⟩
abbrev cJ9_abs_0f7a4 : ByteArray := prog_10_method_59_code
def yJ9_abs_0f7a4 : MethodName := ⟨RJ9, "abs", "(I)I"⟩
abbrev cJ9_max_7cf53 : ByteArray := prog_10_method_65_code
def yJ9_max_7cf53 : MethodName := ⟨RJ9, "max", "(II)I"⟩
abbrev cJ9_min_7cf53 : ByteArray := prog_10_method_69_code
def yJ9_min_7cf53 : MethodName := ⟨RJ9, "min", "(II)I"⟩
def RJ10 : String := "java/lang/System"
def TJ10 : u_T := fun k => match k with
  | _ => ("", "", "", false)
def tyJ10 : Nat → FieldType := fun k => match k with
  | _ => .int
abbrev wsJ100 : List Cond := u_ws RJ10 TJ10 0
def RL : String := "LagoonGatesLaw"
abbrev cL_law : ByteArray := code
def yL_law : MethodName := ⟨RL, "law", "([I)Z"⟩
abbrev vwCl : List vw_C := [(RX0, TX0, 3), (RX1, TX1, 11), (RX2, TX2, 4), (RX3, TX3, 6), (RX4, TX4, 7), (RX5, TX5, 6), (RX6, TX6, 22)]
/-! the words, by place -/
def gW : List Cond := lw_tbl.filter goodWord
theorem gW_in {w : Cond} (i : Nat) (h : lw_tbl[i]? = some w) (hg : goodWord w = true) : w ∈ gW := List.mem_filter.mpr ⟨List.mem_of_getElem? h, hg⟩
theorem gW_good {y : Cond} (hy : y ∈ gW) : GoodIn gW (y :: gW) := by
  intro w hw
  have hm : w ∈ gW := by
    rcases List.mem_cons.mp hw with h | h
    · rw [h]; exact hy
    · exact h
  exact ⟨hm, good_of_word (List.mem_filter.mp hm).2⟩
/-- what a call of y needs of the tables -/
def ag_fV (y : MethodName) (code : ByteArray) (maxL : Nat) (ret : Option FieldType) (n : Nat) : Prop :=
  Cond.code y code maxL ret ∈ gW ∧ Cond.instanceMethod y ∈ gW ∧ Cond.selects y.cls y y ∈ gW ∧ Cond.initialized y.cls ∈ gW ∧ y.cls ≠ "java/lang/invoke/MethodHandle" ∧ y.cls ≠ "java/lang/invoke/VarHandle" ∧ (parseMethodDescriptor y.desc).map (fun d => d.parameters.length) = some n
def ag_fS (y : MethodName) (code : ByteArray) (maxL : Nat) (ret : Option FieldType) (n : Nat) : Prop :=
  Cond.code y code maxL ret ∈ gW ∧ Cond.static y ∈ gW ∧ Cond.initialized y.cls ∈ gW ∧ y.cls ≠ "java/lang/invoke/MethodHandle" ∧ y.cls ≠ "java/lang/invoke/VarHandle" ∧ (parseMethodDescriptor y.desc).map (fun d => d.parameters.length) = some n
end
section
/-! the words that are used, by their places -/
theorem k_0 : Cond.selects yX5_settle.cls yX5_settle yX5_settle ∈ gW := gW_in 0 (by decide +kernel) rfl
theorem k_1 : Cond.selects yX0_rowOf.cls yX0_rowOf yX0_rowOf ∈ gW := gW_in 1 (by decide +kernel) rfl
theorem k_2 : Cond.selects yX4_siltOf.cls yX4_siltOf yX4_siltOf ∈ gW := gW_in 2 (by decide +kernel) rfl
theorem k_3 : Cond.selects yX1_take.cls yX1_take yX1_take ∈ gW := gW_in 3 (by decide +kernel) rfl
theorem k_4 : Cond.selects yX1_enterRecord.cls yX1_enterRecord yX1_enterRecord ∈ gW := gW_in 4 (by decide +kernel) rfl
theorem k_5 : Cond.selects yX1_beginRecord.cls yX1_beginRecord yX1_beginRecord ∈ gW := gW_in 5 (by decide +kernel) rfl
theorem k_6 : Cond.selects yX5_gainWith.cls yX5_gainWith yX5_gainWith ∈ gW := gW_in 6 (by decide +kernel) rfl
theorem k_7 : Cond.selects yX5_levelWith.cls yX5_levelWith yX5_levelWith ∈ gW := gW_in 7 (by decide +kernel) rfl
theorem k_8 : Cond.selects yX3_characterHere.cls yX3_characterHere yX3_characterHere ∈ gW := gW_in 8 (by decide +kernel) rfl
theorem k_9 : Cond.selects yX3_readNumber.cls yX3_readNumber yX3_readNumber ∈ gW := gW_in 9 (by decide +kernel) rfl
theorem k_10 : Cond.selects yX3_skip.cls yX3_skip yX3_skip ∈ gW := gW_in 10 (by decide +kernel) rfl
theorem k_11 : Cond.selects yX6_sets.cls yX6_sets yX6_sets ∈ gW := gW_in 11 (by decide +kernel) rfl
theorem k_12 : Cond.selects yX6_changes.cls yX6_changes yX6_changes ∈ gW := gW_in 12 (by decide +kernel) rfl
theorem k_13 : Cond.selects yX6_ticks.cls yX6_ticks yX6_ticks ∈ gW := gW_in 13 (by decide +kernel) rfl
theorem k_14 : Cond.selects yX6_tick.cls yX6_tick yX6_tick ∈ gW := gW_in 14 (by decide +kernel) rfl
theorem k_15 : Cond.selects yX6_weighs.cls yX6_weighs yX6_weighs ∈ gW := gW_in 15 (by decide +kernel) rfl
theorem k_16 : Cond.selects yX6_head.cls yX6_head yX6_head ∈ gW := gW_in 16 (by decide +kernel) rfl
theorem k_17 : Cond.selects yX6_level.cls yX6_level yX6_level ∈ gW := gW_in 17 (by decide +kernel) rfl
theorem k_18 : Cond.selects yX6_isBirds.cls yX6_isBirds yX6_isBirds ∈ gW := gW_in 18 (by decide +kernel) rfl
theorem k_19 : Cond.selects yX6_opens.cls yX6_opens yX6_opens ∈ gW := gW_in 19 (by decide +kernel) rfl
theorem k_20 : Cond.selects yX6_recordOf.cls yX6_recordOf yX6_recordOf ∈ gW := gW_in 20 (by decide +kernel) rfl
theorem k_21 : Cond.selects yX6_plays.cls yX6_plays yX6_plays ∈ gW := gW_in 21 (by decide +kernel) rfl
theorem k_22 : Cond.selects yX6_reads.cls yX6_reads yX6_reads ∈ gW := gW_in 22 (by decide +kernel) rfl
theorem k_23 : Cond.selects yX6_isAt.cls yX6_isAt yX6_isAt ∈ gW := gW_in 23 (by decide +kernel) rfl
theorem k_24 : Cond.selects yX6_numbered.cls yX6_numbered yX6_numbered ∈ gW := gW_in 24 (by decide +kernel) rfl
theorem k_25 : Cond.selects yX6_sign.cls yX6_sign yX6_sign ∈ gW := gW_in 25 (by decide +kernel) rfl
theorem k_26 : Cond.selects yX6_calls.cls yX6_calls yX6_calls ∈ gW := gW_in 26 (by decide +kernel) rfl
theorem k_27 : Cond.initialized RL ∈ gW := gW_in 27 (by decide +kernel) rfl
theorem k_28 : Cond.initialized RX5 ∈ gW := gW_in 28 (by decide +kernel) rfl
theorem k_29 : Cond.initialized RX1 ∈ gW := gW_in 29 (by decide +kernel) rfl
theorem k_30 : Cond.initialized RX4 ∈ gW := gW_in 30 (by decide +kernel) rfl
theorem k_31 : Cond.initialized RX0 ∈ gW := gW_in 31 (by decide +kernel) rfl
theorem k_32 : Cond.initialized RX3 ∈ gW := gW_in 32 (by decide +kernel) rfl
theorem k_33 : Cond.initialized RX2 ∈ gW := gW_in 33 (by decide +kernel) rfl
theorem k_34 : Cond.initialized RX6 ∈ gW := gW_in 34 (by decide +kernel) rfl
theorem k_35 : Cond.initialized RJ10 ∈ gW := gW_in 35 (by decide +kernel) rfl
theorem k_36 : Cond.initialized RJ9 ∈ gW := gW_in 36 (by decide +kernel) rfl
theorem k_37 : Cond.initialized RJxf58ca ∈ gW := gW_in 37 (by decide +kernel) rfl
theorem k_38 : Cond.classLink RL 7 RX5 ∈ gW := gW_in 38 (by decide +kernel) rfl
theorem k_39 : Cond.instantiable RX5 6 ∈ gW := gW_in 39 (by decide +kernel) rfl
theorem k_40 : Cond.methodLink RL 9 yX5_init ∈ gW := gW_in 40 (by decide +kernel) rfl
theorem k_41 : Cond.instanceMethod yX5_init ∈ gW := gW_in 41 (by decide +kernel) rfl
theorem k_42 : Cond.code yX5_init cX5_init 1 none ∈ gW := gW_in 42 (by decide +kernel) rfl
theorem k_43 : Cond.methodLink RX5 1 objectInit ∈ gW := gW_in 43 (by decide +kernel) rfl
theorem k_44 : Cond.instanceMethod objectInit ∈ gW := gW_in 44 (by decide +kernel) rfl
theorem k_45 : Cond.code objectInit ⟨#[0xb1]⟩ 1 none ∈ gW := gW_in 45 (by decide +kernel) rfl
theorem k_46 : Cond.classLink RX5 7 RX1 ∈ gW := gW_in 46 (by decide +kernel) rfl
theorem k_47 : Cond.instantiable RX1 11 ∈ gW := gW_in 47 (by decide +kernel) rfl
theorem k_49 : Cond.instanceMethod yX1_init ∈ gW := gW_in 49 (by decide +kernel) rfl
theorem k_50 : Cond.code yX1_init cX1_init 1 none ∈ gW := gW_in 50 (by decide +kernel) rfl
theorem k_51 : Cond.methodLink RX1 3 objectInit ∈ gW := gW_in 51 (by decide +kernel) rfl
theorem k_52 : Cond.constant RX1 9 40000 ∈ gW := gW_in 52 (by decide +kernel) rfl
theorem k_53 : Cond.fieldLink RX1 26 RX1 (TX1 0).2.1 (TX1 0).2.2.1 ∈ gW := gW_in 53 (by decide +kernel) rfl
theorem k_54 : Cond.fieldLink RX5 82 RX1 (TX1 0).2.1 (TX1 0).2.2.1 ∈ gW := gW_in 54 (by decide +kernel) rfl
theorem k_55 : Cond.fieldLink RX1 10 RX1 (TX1 1).2.1 (TX1 1).2.2.1 ∈ gW := gW_in 55 (by decide +kernel) rfl
theorem k_56 : Cond.fieldLink RX4 52 RX1 (TX1 1).2.1 (TX1 1).2.2.1 ∈ gW := gW_in 56 (by decide +kernel) rfl
theorem k_57 : Cond.fieldLink RX5 93 RX1 (TX1 1).2.1 (TX1 1).2.2.1 ∈ gW := gW_in 57 (by decide +kernel) rfl
theorem k_58 : Cond.fieldLink RX1 29 RX1 (TX1 2).2.1 (TX1 2).2.2.1 ∈ gW := gW_in 58 (by decide +kernel) rfl
theorem k_59 : Cond.fieldLink RX4 73 RX1 (TX1 2).2.1 (TX1 2).2.2.1 ∈ gW := gW_in 59 (by decide +kernel) rfl
theorem k_60 : Cond.fieldLink RX5 96 RX1 (TX1 2).2.1 (TX1 2).2.2.1 ∈ gW := gW_in 60 (by decide +kernel) rfl
theorem k_61 : Cond.fieldLink RX4 21 RX1 (TX1 3).2.1 (TX1 3).2.2.1 ∈ gW := gW_in 61 (by decide +kernel) rfl
theorem k_62 : Cond.fieldLink RX1 32 RX1 (TX1 3).2.1 (TX1 3).2.2.1 ∈ gW := gW_in 62 (by decide +kernel) rfl
theorem k_63 : Cond.fieldLink RX5 99 RX1 (TX1 3).2.1 (TX1 3).2.2.1 ∈ gW := gW_in 63 (by decide +kernel) rfl
theorem k_64 : Cond.fieldLink RX1 35 RX1 (TX1 4).2.1 (TX1 4).2.2.1 ∈ gW := gW_in 64 (by decide +kernel) rfl
theorem k_65 : Cond.fieldLink RX4 34 RX1 (TX1 4).2.1 (TX1 4).2.2.1 ∈ gW := gW_in 65 (by decide +kernel) rfl
theorem k_66 : Cond.fieldLink RX5 102 RX1 (TX1 4).2.1 (TX1 4).2.2.1 ∈ gW := gW_in 66 (by decide +kernel) rfl
theorem k_67 : Cond.fieldLink RX1 38 RX1 (TX1 5).2.1 (TX1 5).2.2.1 ∈ gW := gW_in 67 (by decide +kernel) rfl
theorem k_68 : Cond.fieldLink RX4 40 RX1 (TX1 5).2.1 (TX1 5).2.2.1 ∈ gW := gW_in 68 (by decide +kernel) rfl
theorem k_69 : Cond.fieldLink RX5 105 RX1 (TX1 5).2.1 (TX1 5).2.2.1 ∈ gW := gW_in 69 (by decide +kernel) rfl
theorem k_70 : Cond.fieldLink RX1 41 RX1 (TX1 6).2.1 (TX1 6).2.2.1 ∈ gW := gW_in 70 (by decide +kernel) rfl
theorem k_71 : Cond.fieldLink RX1 44 RX1 (TX1 7).2.1 (TX1 7).2.2.1 ∈ gW := gW_in 71 (by decide +kernel) rfl
theorem k_72 : Cond.fieldLink RX1 16 RX1 (TX1 8).2.1 (TX1 8).2.2.1 ∈ gW := gW_in 72 (by decide +kernel) rfl
theorem k_73 : Cond.fieldLink RX4 30 RX1 (TX1 8).2.1 (TX1 8).2.2.1 ∈ gW := gW_in 73 (by decide +kernel) rfl
theorem k_74 : Cond.fieldLink RX5 176 RX1 (TX1 8).2.1 (TX1 8).2.2.1 ∈ gW := gW_in 74 (by decide +kernel) rfl
theorem k_75 : Cond.fieldLink RX1 20 RX1 (TX1 9).2.1 (TX1 9).2.2.1 ∈ gW := gW_in 75 (by decide +kernel) rfl
theorem k_76 : Cond.fieldLink RX5 158 RX1 (TX1 9).2.1 (TX1 9).2.2.1 ∈ gW := gW_in 76 (by decide +kernel) rfl
theorem k_77 : Cond.fieldLink RX1 23 RX1 (TX1 10).2.1 (TX1 10).2.2.1 ∈ gW := gW_in 77 (by decide +kernel) rfl
theorem k_78 : Cond.fieldLink RX5 122 RX1 (TX1 10).2.1 (TX1 10).2.2.1 ∈ gW := gW_in 78 (by decide +kernel) rfl
theorem k_102 : Cond.arrayClass .int ∈ gW := gW_in 102 (by decide +kernel) rfl
theorem k_103 : Cond.classLink RX5 19 RX4 ∈ gW := gW_in 103 (by decide +kernel) rfl
theorem k_104 : Cond.instantiable RX4 7 ∈ gW := gW_in 104 (by decide +kernel) rfl
theorem k_106 : Cond.instanceMethod yX4_init ∈ gW := gW_in 106 (by decide +kernel) rfl
theorem k_107 : Cond.code yX4_init cX4_init 1 none ∈ gW := gW_in 107 (by decide +kernel) rfl
theorem k_108 : Cond.methodLink RX4 3 objectInit ∈ gW := gW_in 108 (by decide +kernel) rfl
theorem k_109 : Cond.fieldLink RX4 25 RX4 (TX4 0).2.1 (TX4 0).2.2.1 ∈ gW := gW_in 109 (by decide +kernel) rfl
theorem k_110 : Cond.fieldLink RX5 133 RX4 (TX4 0).2.1 (TX4 0).2.2.1 ∈ gW := gW_in 110 (by decide +kernel) rfl
theorem k_111 : Cond.fieldLink RX4 37 RX4 (TX4 1).2.1 (TX4 1).2.2.1 ∈ gW := gW_in 111 (by decide +kernel) rfl
theorem k_112 : Cond.fieldLink RX5 136 RX4 (TX4 1).2.1 (TX4 1).2.2.1 ∈ gW := gW_in 112 (by decide +kernel) rfl
theorem k_113 : Cond.fieldLink RX4 43 RX4 (TX4 2).2.1 (TX4 2).2.2.1 ∈ gW := gW_in 113 (by decide +kernel) rfl
theorem k_114 : Cond.fieldLink RX5 139 RX4 (TX4 2).2.1 (TX4 2).2.2.1 ∈ gW := gW_in 114 (by decide +kernel) rfl
theorem k_115 : Cond.fieldLink RX4 63 RX4 (TX4 3).2.1 (TX4 3).2.2.1 ∈ gW := gW_in 115 (by decide +kernel) rfl
theorem k_116 : Cond.fieldLink RX5 142 RX4 (TX4 3).2.1 (TX4 3).2.2.1 ∈ gW := gW_in 116 (by decide +kernel) rfl
theorem k_117 : Cond.fieldLink RX1 102 RX4 (TX4 3).2.1 (TX4 3).2.2.1 ∈ gW := gW_in 117 (by decide +kernel) rfl
theorem k_118 : Cond.fieldLink RX4 46 RX4 (TX4 4).2.1 (TX4 4).2.2.1 ∈ gW := gW_in 118 (by decide +kernel) rfl
theorem k_119 : Cond.fieldLink RX5 145 RX4 (TX4 4).2.1 (TX4 4).2.2.1 ∈ gW := gW_in 119 (by decide +kernel) rfl
theorem k_120 : Cond.fieldLink RX1 108 RX4 (TX4 4).2.1 (TX4 4).2.2.1 ∈ gW := gW_in 120 (by decide +kernel) rfl
theorem k_121 : Cond.fieldLink RX4 49 RX4 (TX4 5).2.1 (TX4 5).2.2.1 ∈ gW := gW_in 121 (by decide +kernel) rfl
theorem k_122 : Cond.fieldLink RX5 148 RX4 (TX4 5).2.1 (TX4 5).2.2.1 ∈ gW := gW_in 122 (by decide +kernel) rfl
theorem k_123 : Cond.fieldLink RX1 111 RX4 (TX4 5).2.1 (TX4 5).2.2.1 ∈ gW := gW_in 123 (by decide +kernel) rfl
theorem k_124 : Cond.fieldLink RX4 70 RX4 (TX4 6).2.1 (TX4 6).2.2.1 ∈ gW := gW_in 124 (by decide +kernel) rfl
theorem k_125 : Cond.fieldLink RX5 151 RX4 (TX4 6).2.1 (TX4 6).2.2.1 ∈ gW := gW_in 125 (by decide +kernel) rfl
theorem k_126 : Cond.fieldLink RX1 105 RX4 (TX4 6).2.1 (TX4 6).2.2.1 ∈ gW := gW_in 126 (by decide +kernel) rfl
theorem k_142 : Cond.classLink RX5 26 RX0 ∈ gW := gW_in 142 (by decide +kernel) rfl
theorem k_143 : Cond.instantiable RX0 3 ∈ gW := gW_in 143 (by decide +kernel) rfl
theorem k_145 : Cond.instanceMethod yX0_init ∈ gW := gW_in 145 (by decide +kernel) rfl
theorem k_146 : Cond.code yX0_init cX0_init 1 none ∈ gW := gW_in 146 (by decide +kernel) rfl
theorem k_147 : Cond.methodLink RX0 3 objectInit ∈ gW := gW_in 147 (by decide +kernel) rfl
theorem k_148 : Cond.classLink RX0 9 RX1 ∈ gW := gW_in 148 (by decide +kernel) rfl
theorem k_151 : Cond.fieldLink RX0 12 RX0 (TX0 0).2.1 (TX0 0).2.2.1 ∈ gW := gW_in 151 (by decide +kernel) rfl
theorem k_152 : Cond.fieldLink RX0 30 RX0 (TX0 1).2.1 (TX0 1).2.2.1 ∈ gW := gW_in 152 (by decide +kernel) rfl
theorem k_153 : Cond.fieldLink RX0 18 RX0 (TX0 2).2.1 (TX0 2).2.2.1 ∈ gW := gW_in 153 (by decide +kernel) rfl
theorem k_154 : Cond.fieldLink RX5 179 RX0 (TX0 2).2.1 (TX0 2).2.2.1 ∈ gW := gW_in 154 (by decide +kernel) rfl
theorem k_162 : Cond.classLink RX5 33 RX3 ∈ gW := gW_in 162 (by decide +kernel) rfl
theorem k_163 : Cond.instantiable RX3 6 ∈ gW := gW_in 163 (by decide +kernel) rfl
theorem k_165 : Cond.instanceMethod yX3_init ∈ gW := gW_in 165 (by decide +kernel) rfl
theorem k_166 : Cond.code yX3_init cX3_init 1 none ∈ gW := gW_in 166 (by decide +kernel) rfl
theorem k_167 : Cond.methodLink RX3 3 objectInit ∈ gW := gW_in 167 (by decide +kernel) rfl
theorem k_168 : Cond.fieldLink RX3 9 RX3 (TX3 0).2.1 (TX3 0).2.2.1 ∈ gW := gW_in 168 (by decide +kernel) rfl
theorem k_169 : Cond.fieldLink RX3 15 RX3 (TX3 1).2.1 (TX3 1).2.2.1 ∈ gW := gW_in 169 (by decide +kernel) rfl
theorem k_170 : Cond.fieldLink RX2 23 RX3 (TX3 1).2.1 (TX3 1).2.2.1 ∈ gW := gW_in 170 (by decide +kernel) rfl
theorem k_171 : Cond.fieldLink RX5 182 RX3 (TX3 1).2.1 (TX3 1).2.2.1 ∈ gW := gW_in 171 (by decide +kernel) rfl
theorem k_172 : Cond.fieldLink RX2 18 RX3 (TX3 2).2.1 (TX3 2).2.2.1 ∈ gW := gW_in 172 (by decide +kernel) rfl
theorem k_173 : Cond.fieldLink RX3 37 RX3 (TX3 2).2.1 (TX3 2).2.2.1 ∈ gW := gW_in 173 (by decide +kernel) rfl
theorem k_174 : Cond.fieldLink RX2 42 RX3 (TX3 3).2.1 (TX3 3).2.2.1 ∈ gW := gW_in 174 (by decide +kernel) rfl
theorem k_175 : Cond.fieldLink RX3 23 RX3 (TX3 3).2.1 (TX3 3).2.2.1 ∈ gW := gW_in 175 (by decide +kernel) rfl
theorem k_176 : Cond.fieldLink RX3 27 RX3 (TX3 4).2.1 (TX3 4).2.2.1 ∈ gW := gW_in 176 (by decide +kernel) rfl
theorem k_177 : Cond.fieldLink RX2 46 RX3 (TX3 4).2.1 (TX3 4).2.2.1 ∈ gW := gW_in 177 (by decide +kernel) rfl
theorem k_178 : Cond.fieldLink RX3 30 RX3 (TX3 5).2.1 (TX3 5).2.2.1 ∈ gW := gW_in 178 (by decide +kernel) rfl
theorem k_179 : Cond.fieldLink RX2 61 RX3 (TX3 5).2.1 (TX3 5).2.2.1 ∈ gW := gW_in 179 (by decide +kernel) rfl
theorem k_193 : Cond.arrayClass .char ∈ gW := gW_in 193 (by decide +kernel) rfl
theorem k_194 : Cond.classLink RX5 40 RX2 ∈ gW := gW_in 194 (by decide +kernel) rfl
theorem k_195 : Cond.instantiable RX2 4 ∈ gW := gW_in 195 (by decide +kernel) rfl
theorem k_197 : Cond.instanceMethod yX2_init ∈ gW := gW_in 197 (by decide +kernel) rfl
theorem k_198 : Cond.code yX2_init cX2_init 1 none ∈ gW := gW_in 198 (by decide +kernel) rfl
theorem k_199 : Cond.methodLink RX2 3 objectInit ∈ gW := gW_in 199 (by decide +kernel) rfl
theorem k_200 : Cond.fieldLink RX2 9 RX2 (TX2 0).2.1 (TX2 0).2.2.1 ∈ gW := gW_in 200 (by decide +kernel) rfl
theorem k_201 : Cond.fieldLink RX5 207 RX2 (TX2 0).2.1 (TX2 0).2.2.1 ∈ gW := gW_in 201 (by decide +kernel) rfl
theorem k_202 : Cond.fieldLink RX2 26 RX2 (TX2 1).2.1 (TX2 1).2.2.1 ∈ gW := gW_in 202 (by decide +kernel) rfl
theorem k_203 : Cond.fieldLink RX5 201 RX2 (TX2 1).2.1 (TX2 1).2.2.1 ∈ gW := gW_in 203 (by decide +kernel) rfl
theorem k_204 : Cond.fieldLink RX2 15 RX2 (TX2 2).2.1 (TX2 2).2.2.1 ∈ gW := gW_in 204 (by decide +kernel) rfl
theorem k_205 : Cond.fieldLink RX5 198 RX2 (TX2 2).2.1 (TX2 2).2.2.1 ∈ gW := gW_in 205 (by decide +kernel) rfl
theorem k_206 : Cond.fieldLink RX2 31 RX2 (TX2 3).2.1 (TX2 3).2.2.1 ∈ gW := gW_in 206 (by decide +kernel) rfl
theorem k_207 : Cond.fieldLink RX5 204 RX2 (TX2 3).2.1 (TX2 3).2.2.1 ∈ gW := gW_in 207 (by decide +kernel) rfl
theorem k_217 : Cond.fieldLink RX5 10 RX5 (TX5 0).2.1 (TX5 0).2.2.1 ∈ gW := gW_in 217 (by decide +kernel) rfl
theorem k_218 : Cond.fieldLink RX5 16 RX5 (TX5 1).2.1 (TX5 1).2.2.1 ∈ gW := gW_in 218 (by decide +kernel) rfl
theorem k_219 : Cond.fieldLink RX5 22 RX5 (TX5 2).2.1 (TX5 2).2.2.1 ∈ gW := gW_in 219 (by decide +kernel) rfl
theorem k_220 : Cond.fieldLink RX5 29 RX5 (TX5 3).2.1 (TX5 3).2.2.1 ∈ gW := gW_in 220 (by decide +kernel) rfl
theorem k_221 : Cond.fieldLink RX5 36 RX5 (TX5 4).2.1 (TX5 4).2.2.1 ∈ gW := gW_in 221 (by decide +kernel) rfl
theorem k_222 : Cond.fieldLink RX5 43 RX5 (TX5 5).2.1 (TX5 5).2.2.1 ∈ gW := gW_in 222 (by decide +kernel) rfl
theorem k_236 : Cond.methodLink RL 13 yX5_gates ∈ gW := gW_in 236 (by decide +kernel) rfl
theorem k_237 : Cond.instanceMethod yX5_gates ∈ gW := gW_in 237 (by decide +kernel) rfl
theorem k_238 : Cond.selects yX5_gates.cls yX5_gates yX5_gates ∈ gW := gW_in 238 (by decide +kernel) rfl
theorem k_239 : Cond.code yX5_gates cX5_gates 2 (some .int) ∈ gW := gW_in 239 (by decide +kernel) rfl
theorem k_240 : Cond.methodLink RX5 47 yX1_copyFrom ∈ gW := gW_in 240 (by decide +kernel) rfl
theorem k_241 : Cond.instanceMethod yX1_copyFrom ∈ gW := gW_in 241 (by decide +kernel) rfl
theorem k_242 : Cond.selects yX1_copyFrom.cls yX1_copyFrom yX1_copyFrom ∈ gW := gW_in 242 (by decide +kernel) rfl
theorem k_243 : Cond.code yX1_copyFrom cX1_copyFrom 2 none ∈ gW := gW_in 243 (by decide +kernel) rfl
theorem k_244 : Cond.methodLink RX1 47 arraycopyName ∈ gW := gW_in 244 (by decide +kernel) rfl
theorem k_245 : Cond.static arraycopyName ∈ gW := gW_in 245 (by decide +kernel) rfl
theorem k_246 : Cond.native arraycopyName ∈ gW := gW_in 246 (by decide +kernel) rfl
theorem k_247 : Cond.methodLink RX5 51 yX1_openGates ∈ gW := gW_in 247 (by decide +kernel) rfl
theorem k_248 : Cond.instanceMethod yX1_openGates ∈ gW := gW_in 248 (by decide +kernel) rfl
theorem k_249 : Cond.selects yX1_openGates.cls yX1_openGates yX1_openGates ∈ gW := gW_in 249 (by decide +kernel) rfl
theorem k_250 : Cond.code yX1_openGates cX1_openGates 3 (some .int) ∈ gW := gW_in 250 (by decide +kernel) rfl
theorem k_251 : Cond.constant RX1 73 (-1000000001) ∈ gW := gW_in 251 (by decide +kernel) rfl
theorem k_252 : Cond.methodLink RX5 55 yX5_settle ∈ gW := gW_in 252 (by decide +kernel) rfl
theorem k_254 : Cond.instanceMethod yX5_settle ∈ gW := gW_in 254 (by decide +kernel) rfl
theorem k_255 : Cond.code yX5_settle cX5_settle 2 (some .int) ∈ gW := gW_in 255 (by decide +kernel) rfl
theorem k_256 : Cond.methodLink RX5 210 yX5_isError ∈ gW := gW_in 256 (by decide +kernel) rfl
theorem k_257 : Cond.static yX5_isError ∈ gW := gW_in 257 (by decide +kernel) rfl
theorem k_258 : Cond.code yX5_isError cX5_isError 1 (some .boolean) ∈ gW := gW_in 258 (by decide +kernel) rfl
theorem k_259 : Cond.constant RX5 78 (-1000000001) ∈ gW := gW_in 259 (by decide +kernel) rfl
theorem k_260 : Cond.methodLink RX5 214 yX0_keep ∈ gW := gW_in 260 (by decide +kernel) rfl
theorem k_261 : Cond.instanceMethod yX0_keep ∈ gW := gW_in 261 (by decide +kernel) rfl
theorem k_262 : Cond.selects yX0_keep.cls yX0_keep yX0_keep ∈ gW := gW_in 262 (by decide +kernel) rfl
theorem k_263 : Cond.code yX0_keep cX0_keep 2 none ∈ gW := gW_in 263 (by decide +kernel) rfl
theorem k_264 : Cond.methodLink RX0 22 yX0_rowOf ∈ gW := gW_in 264 (by decide +kernel) rfl
theorem k_266 : Cond.instanceMethod yX0_rowOf ∈ gW := gW_in 266 (by decide +kernel) rfl
theorem k_267 : Cond.code yX0_rowOf cX0_rowOf 2 (some .int) ∈ gW := gW_in 267 (by decide +kernel) rfl
theorem k_268 : Cond.methodLink RX0 33 yJ9_floorMod_7cf53 ∈ gW := gW_in 268 (by decide +kernel) rfl
theorem k_269 : Cond.static yJ9_floorMod_7cf53 ∈ gW := gW_in 269 (by decide +kernel) rfl
theorem k_270 : Cond.code yJ9_floorMod_7cf53 cJ9_floorMod_7cf53 3 (some .int) ∈ gW := gW_in 270 (by decide +kernel) rfl
theorem k_271 : Cond.methodLink RX0 26 yX1_copyFrom ∈ gW := gW_in 271 (by decide +kernel) rfl
theorem k_272 : Cond.methodLink RL 18 yX5_turbines ∈ gW := gW_in 272 (by decide +kernel) rfl
theorem k_273 : Cond.instanceMethod yX5_turbines ∈ gW := gW_in 273 (by decide +kernel) rfl
theorem k_274 : Cond.selects yX5_turbines.cls yX5_turbines yX5_turbines ∈ gW := gW_in 274 (by decide +kernel) rfl
theorem k_275 : Cond.code yX5_turbines cX5_turbines 2 (some .int) ∈ gW := gW_in 275 (by decide +kernel) rfl
theorem k_276 : Cond.methodLink RX5 58 yX1_openTurbines ∈ gW := gW_in 276 (by decide +kernel) rfl
theorem k_277 : Cond.instanceMethod yX1_openTurbines ∈ gW := gW_in 277 (by decide +kernel) rfl
theorem k_278 : Cond.selects yX1_openTurbines.cls yX1_openTurbines yX1_openTurbines ∈ gW := gW_in 278 (by decide +kernel) rfl
theorem k_279 : Cond.code yX1_openTurbines cX1_openTurbines 3 (some .int) ∈ gW := gW_in 279 (by decide +kernel) rfl
theorem k_280 : Cond.methodLink RL 22 yX5_pump ∈ gW := gW_in 280 (by decide +kernel) rfl
theorem k_281 : Cond.instanceMethod yX5_pump ∈ gW := gW_in 281 (by decide +kernel) rfl
theorem k_282 : Cond.selects yX5_pump.cls yX5_pump yX5_pump ∈ gW := gW_in 282 (by decide +kernel) rfl
theorem k_283 : Cond.code yX5_pump cX5_pump 2 (some .int) ∈ gW := gW_in 283 (by decide +kernel) rfl
theorem k_284 : Cond.methodLink RX5 61 yX1_setPump ∈ gW := gW_in 284 (by decide +kernel) rfl
theorem k_285 : Cond.instanceMethod yX1_setPump ∈ gW := gW_in 285 (by decide +kernel) rfl
theorem k_286 : Cond.selects yX1_setPump.cls yX1_setPump yX1_setPump ∈ gW := gW_in 286 (by decide +kernel) rfl
theorem k_287 : Cond.code yX1_setPump cX1_setPump 3 (some .int) ∈ gW := gW_in 287 (by decide +kernel) rfl
theorem k_288 : Cond.methodLink RL 26 yX5_birds ∈ gW := gW_in 288 (by decide +kernel) rfl
theorem k_289 : Cond.instanceMethod yX5_birds ∈ gW := gW_in 289 (by decide +kernel) rfl
theorem k_290 : Cond.selects yX5_birds.cls yX5_birds yX5_birds ∈ gW := gW_in 290 (by decide +kernel) rfl
theorem k_291 : Cond.code yX5_birds cX5_birds 3 (some .int) ∈ gW := gW_in 291 (by decide +kernel) rfl
theorem k_292 : Cond.methodLink RX5 64 yX1_setBirds ∈ gW := gW_in 292 (by decide +kernel) rfl
theorem k_293 : Cond.instanceMethod yX1_setBirds ∈ gW := gW_in 293 (by decide +kernel) rfl
theorem k_294 : Cond.selects yX1_setBirds.cls yX1_setBirds yX1_setBirds ∈ gW := gW_in 294 (by decide +kernel) rfl
theorem k_295 : Cond.code yX1_setBirds cX1_setBirds 3 (some .int) ∈ gW := gW_in 295 (by decide +kernel) rfl
theorem k_296 : Cond.methodLink RX1 70 Lib.Math.max.name ∈ gW := gW_in 296 (by decide +kernel) rfl
theorem k_297 : Cond.static Lib.Math.max.name ∈ gW := gW_in 297 (by decide +kernel) rfl
theorem k_298 : Cond.code Lib.Math.max.name Lib.Math.max.code 2 (some .int) ∈ gW := gW_in 298 (by decide +kernel) rfl
theorem k_299 : Cond.methodLink RL 31 yX5_run ∈ gW := gW_in 299 (by decide +kernel) rfl
theorem k_300 : Cond.instanceMethod yX5_run ∈ gW := gW_in 300 (by decide +kernel) rfl
theorem k_301 : Cond.selects yX5_run.cls yX5_run yX5_run ∈ gW := gW_in 301 (by decide +kernel) rfl
theorem k_302 : Cond.code yX5_run cX5_run 2 (some .int) ∈ gW := gW_in 302 (by decide +kernel) rfl
theorem k_303 : Cond.methodLink RX5 68 yX1_runTicks ∈ gW := gW_in 303 (by decide +kernel) rfl
theorem k_304 : Cond.instanceMethod yX1_runTicks ∈ gW := gW_in 304 (by decide +kernel) rfl
theorem k_305 : Cond.selects yX1_runTicks.cls yX1_runTicks yX1_runTicks ∈ gW := gW_in 305 (by decide +kernel) rfl
theorem k_306 : Cond.code yX1_runTicks cX1_runTicks 3 (some .int) ∈ gW := gW_in 306 (by decide +kernel) rfl
theorem k_307 : Cond.constant RX1 74 (-1000000003) ∈ gW := gW_in 307 (by decide +kernel) rfl
theorem k_308 : Cond.methodLink RX1 75 yX1_letPass ∈ gW := gW_in 308 (by decide +kernel) rfl
theorem k_309 : Cond.instanceMethod yX1_letPass ∈ gW := gW_in 309 (by decide +kernel) rfl
theorem k_310 : Cond.selects yX1_letPass.cls yX1_letPass yX1_letPass ∈ gW := gW_in 310 (by decide +kernel) rfl
theorem k_311 : Cond.code yX1_letPass cX1_letPass 4 none ∈ gW := gW_in 311 (by decide +kernel) rfl
theorem k_312 : Cond.methodLink RX1 86 yX1_head ∈ gW := gW_in 312 (by decide +kernel) rfl
theorem k_313 : Cond.instanceMethod yX1_head ∈ gW := gW_in 313 (by decide +kernel) rfl
theorem k_314 : Cond.selects yX1_head.cls yX1_head yX1_head ∈ gW := gW_in 314 (by decide +kernel) rfl
theorem k_315 : Cond.code yX1_head cX1_head 1 (some .int) ∈ gW := gW_in 315 (by decide +kernel) rfl
theorem k_317 : Cond.static yX5_seaLevel ∈ gW := gW_in 317 (by decide +kernel) rfl
theorem k_318 : Cond.code yX5_seaLevel cX5_seaLevel 3 (some .int) ∈ gW := gW_in 318 (by decide +kernel) rfl
theorem k_319 : Cond.methodLink RX5 112 yX5_tideHeight ∈ gW := gW_in 319 (by decide +kernel) rfl
theorem k_320 : Cond.static yX5_tideHeight ∈ gW := gW_in 320 (by decide +kernel) rfl
theorem k_321 : Cond.code yX5_tideHeight cX5_tideHeight 2 (some .int) ∈ gW := gW_in 321 (by decide +kernel) rfl
theorem k_322 : Cond.methodLink RX1 57 yX1_level ∈ gW := gW_in 322 (by decide +kernel) rfl
theorem k_323 : Cond.instanceMethod yX1_level ∈ gW := gW_in 323 (by decide +kernel) rfl
theorem k_324 : Cond.selects yX1_level.cls yX1_level yX1_level ∈ gW := gW_in 324 (by decide +kernel) rfl
theorem k_325 : Cond.code yX1_level cX1_level 1 (some .int) ∈ gW := gW_in 325 (by decide +kernel) rfl
theorem k_326 : Cond.methodLink RX1 89 yX4_foresee ∈ gW := gW_in 326 (by decide +kernel) rfl
theorem k_327 : Cond.instanceMethod yX4_foresee ∈ gW := gW_in 327 (by decide +kernel) rfl
theorem k_328 : Cond.selects yX4_foresee.cls yX4_foresee yX4_foresee ∈ gW := gW_in 328 (by decide +kernel) rfl
theorem k_329 : Cond.code yX4_foresee cX4_foresee 6 none ∈ gW := gW_in 329 (by decide +kernel) rfl
theorem k_330 : Cond.methodLink RX4 9 Lib.Math.abs.name ∈ gW := gW_in 330 (by decide +kernel) rfl
theorem k_331 : Cond.static Lib.Math.abs.name ∈ gW := gW_in 331 (by decide +kernel) rfl
theorem k_332 : Cond.code Lib.Math.abs.name Lib.Math.abs.code 1 (some .int) ∈ gW := gW_in 332 (by decide +kernel) rfl
theorem k_333 : Cond.methodLink RX4 15 yX1_isBirdHour ∈ gW := gW_in 333 (by decide +kernel) rfl
theorem k_334 : Cond.instanceMethod yX1_isBirdHour ∈ gW := gW_in 334 (by decide +kernel) rfl
theorem k_335 : Cond.selects yX1_isBirdHour.cls yX1_isBirdHour yX1_isBirdHour ∈ gW := gW_in 335 (by decide +kernel) rfl
theorem k_336 : Cond.code yX1_isBirdHour cX1_isBirdHour 2 (some .boolean) ∈ gW := gW_in 336 (by decide +kernel) rfl
theorem k_337 : Cond.constant RX4 55 80000 ∈ gW := gW_in 337 (by decide +kernel) rfl
theorem k_338 : Cond.methodLink RX4 56 Lib.Math.min.name ∈ gW := gW_in 338 (by decide +kernel) rfl
theorem k_339 : Cond.static Lib.Math.min.name ∈ gW := gW_in 339 (by decide +kernel) rfl
theorem k_340 : Cond.code Lib.Math.min.name Lib.Math.min.code 2 (some .int) ∈ gW := gW_in 340 (by decide +kernel) rfl
theorem k_341 : Cond.methodLink RX4 60 Lib.Math.max.name ∈ gW := gW_in 341 (by decide +kernel) rfl
theorem k_342 : Cond.methodLink RX4 66 yX4_siltOf ∈ gW := gW_in 342 (by decide +kernel) rfl
theorem k_344 : Cond.instanceMethod yX4_siltOf ∈ gW := gW_in 344 (by decide +kernel) rfl
theorem k_345 : Cond.code yX4_siltOf cX4_siltOf 2 (some .int) ∈ gW := gW_in 345 (by decide +kernel) rfl
theorem k_346 : Cond.methodLink RX1 95 yX1_take ∈ gW := gW_in 346 (by decide +kernel) rfl
theorem k_348 : Cond.instanceMethod yX1_take ∈ gW := gW_in 348 (by decide +kernel) rfl
theorem k_349 : Cond.code yX1_take cX1_take 2 none ∈ gW := gW_in 349 (by decide +kernel) rfl
theorem k_350 : Cond.methodLink RX1 99 yX1_enterRecord ∈ gW := gW_in 350 (by decide +kernel) rfl
theorem k_352 : Cond.instanceMethod yX1_enterRecord ∈ gW := gW_in 352 (by decide +kernel) rfl
theorem k_353 : Cond.code yX1_enterRecord cX1_enterRecord 4 none ∈ gW := gW_in 353 (by decide +kernel) rfl
theorem k_355 : Cond.static yX5_recordStart ∈ gW := gW_in 355 (by decide +kernel) rfl
theorem k_356 : Cond.code yX5_recordStart cX5_recordStart 1 (some .int) ∈ gW := gW_in 356 (by decide +kernel) rfl
theorem k_357 : Cond.methodLink RX5 220 yJ9_floorMod_7cf53 ∈ gW := gW_in 357 (by decide +kernel) rfl
theorem k_358 : Cond.methodLink RX1 117 yX1_beginRecord ∈ gW := gW_in 358 (by decide +kernel) rfl
theorem k_360 : Cond.instanceMethod yX1_beginRecord ∈ gW := gW_in 360 (by decide +kernel) rfl
theorem k_361 : Cond.code yX1_beginRecord cX1_beginRecord 3 none ∈ gW := gW_in 361 (by decide +kernel) rfl
theorem k_362 : Cond.methodLink RX1 121 Lib.Math.min.name ∈ gW := gW_in 362 (by decide +kernel) rfl
theorem k_363 : Cond.methodLink RL 35 yX5_dredge ∈ gW := gW_in 363 (by decide +kernel) rfl
theorem k_364 : Cond.instanceMethod yX5_dredge ∈ gW := gW_in 364 (by decide +kernel) rfl
theorem k_365 : Cond.selects yX5_dredge.cls yX5_dredge yX5_dredge ∈ gW := gW_in 365 (by decide +kernel) rfl
theorem k_366 : Cond.code yX5_dredge cX5_dredge 2 (some .int) ∈ gW := gW_in 366 (by decide +kernel) rfl
theorem k_367 : Cond.methodLink RX5 72 yX1_dredgeSilt ∈ gW := gW_in 367 (by decide +kernel) rfl
theorem k_368 : Cond.instanceMethod yX1_dredgeSilt ∈ gW := gW_in 368 (by decide +kernel) rfl
theorem k_369 : Cond.selects yX1_dredgeSilt.cls yX1_dredgeSilt yX1_dredgeSilt ∈ gW := gW_in 369 (by decide +kernel) rfl
theorem k_370 : Cond.code yX1_dredgeSilt cX1_dredgeSilt 2 (some .int) ∈ gW := gW_in 370 (by decide +kernel) rfl
theorem k_371 : Cond.constant RX1 79 (-1000000002) ∈ gW := gW_in 371 (by decide +kernel) rfl
theorem k_372 : Cond.methodLink RL 39 yX5_set ∈ gW := gW_in 372 (by decide +kernel) rfl
theorem k_373 : Cond.instanceMethod yX5_set ∈ gW := gW_in 373 (by decide +kernel) rfl
theorem k_374 : Cond.selects yX5_set.cls yX5_set yX5_set ∈ gW := gW_in 374 (by decide +kernel) rfl
theorem k_375 : Cond.code yX5_set cX5_set 3 (some .int) ∈ gW := gW_in 375 (by decide +kernel) rfl
theorem k_376 : Cond.methodLink RX5 75 yX1_changeSetting ∈ gW := gW_in 376 (by decide +kernel) rfl
theorem k_377 : Cond.instanceMethod yX1_changeSetting ∈ gW := gW_in 377 (by decide +kernel) rfl
theorem k_378 : Cond.selects yX1_changeSetting.cls yX1_changeSetting yX1_changeSetting ∈ gW := gW_in 378 (by decide +kernel) rfl
theorem k_379 : Cond.code yX1_changeSetting cX1_changeSetting 4 (some .int) ∈ gW := gW_in 379 (by decide +kernel) rfl
theorem k_384 : Cond.methodLink RL 43 yX5_sea ∈ gW := gW_in 384 (by decide +kernel) rfl
theorem k_385 : Cond.instanceMethod yX5_sea ∈ gW := gW_in 385 (by decide +kernel) rfl
theorem k_386 : Cond.selects yX5_sea.cls yX5_sea yX5_sea ∈ gW := gW_in 386 (by decide +kernel) rfl
theorem k_387 : Cond.code yX5_sea cX5_sea 2 (some .int) ∈ gW := gW_in 387 (by decide +kernel) rfl
theorem k_388 : Cond.methodLink RX5 79 yX5_seaLevel ∈ gW := gW_in 388 (by decide +kernel) rfl
theorem k_389 : Cond.methodLink RL 47 yX5_now ∈ gW := gW_in 389 (by decide +kernel) rfl
theorem k_390 : Cond.instanceMethod yX5_now ∈ gW := gW_in 390 (by decide +kernel) rfl
theorem k_391 : Cond.selects yX5_now.cls yX5_now yX5_now ∈ gW := gW_in 391 (by decide +kernel) rfl
theorem k_392 : Cond.code yX5_now cX5_now 2 (some .int) ∈ gW := gW_in 392 (by decide +kernel) rfl
theorem k_393 : Cond.methodLink RX5 86 yX1_level ∈ gW := gW_in 393 (by decide +kernel) rfl
theorem k_394 : Cond.methodLink RX5 90 yX1_head ∈ gW := gW_in 394 (by decide +kernel) rfl
theorem k_395 : Cond.methodLink RX5 108 yX1_isBirdHour ∈ gW := gW_in 395 (by decide +kernel) rfl
theorem k_396 : Cond.methodLink RL 51 yX5_record ∈ gW := gW_in 396 (by decide +kernel) rfl
theorem k_397 : Cond.instanceMethod yX5_record ∈ gW := gW_in 397 (by decide +kernel) rfl
theorem k_398 : Cond.selects yX5_record.cls yX5_record yX5_record ∈ gW := gW_in 398 (by decide +kernel) rfl
theorem k_399 : Cond.code yX5_record cX5_record 3 (some .int) ∈ gW := gW_in 399 (by decide +kernel) rfl
theorem k_400 : Cond.methodLink RX5 115 yX1_firstDay ∈ gW := gW_in 400 (by decide +kernel) rfl
theorem k_401 : Cond.instanceMethod yX1_firstDay ∈ gW := gW_in 401 (by decide +kernel) rfl
theorem k_402 : Cond.selects yX1_firstDay.cls yX1_firstDay yX1_firstDay ∈ gW := gW_in 402 (by decide +kernel) rfl
theorem k_403 : Cond.code yX1_firstDay cX1_firstDay 1 (some .int) ∈ gW := gW_in 403 (by decide +kernel) rfl
theorem k_404 : Cond.methodLink RX1 67 yX1_lastDay ∈ gW := gW_in 404 (by decide +kernel) rfl
theorem k_405 : Cond.instanceMethod yX1_lastDay ∈ gW := gW_in 405 (by decide +kernel) rfl
theorem k_406 : Cond.selects yX1_lastDay.cls yX1_lastDay yX1_lastDay ∈ gW := gW_in 406 (by decide +kernel) rfl
theorem k_407 : Cond.code yX1_lastDay cX1_lastDay 1 (some .int) ∈ gW := gW_in 407 (by decide +kernel) rfl
theorem k_408 : Cond.methodLink RX1 61 yJ9_floorDiv_7cf53 ∈ gW := gW_in 408 (by decide +kernel) rfl
theorem k_409 : Cond.static yJ9_floorDiv_7cf53 ∈ gW := gW_in 409 (by decide +kernel) rfl
theorem k_410 : Cond.code yJ9_floorDiv_7cf53 cJ9_floorDiv_7cf53 3 (some .int) ∈ gW := gW_in 410 (by decide +kernel) rfl
theorem k_411 : Cond.methodLink RX5 118 yX1_lastDay ∈ gW := gW_in 411 (by decide +kernel) rfl
theorem k_412 : Cond.constant RX5 121 (-1000000004) ∈ gW := gW_in 412 (by decide +kernel) rfl
theorem k_413 : Cond.methodLink RX5 126 yX5_recordStart ∈ gW := gW_in 413 (by decide +kernel) rfl
theorem k_414 : Cond.methodLink RL 55 yX5_next ∈ gW := gW_in 414 (by decide +kernel) rfl
theorem k_415 : Cond.instanceMethod yX5_next ∈ gW := gW_in 415 (by decide +kernel) rfl
theorem k_416 : Cond.selects yX5_next.cls yX5_next yX5_next ∈ gW := gW_in 416 (by decide +kernel) rfl
theorem k_417 : Cond.code yX5_next cX5_next 2 (some .int) ∈ gW := gW_in 417 (by decide +kernel) rfl
theorem k_418 : Cond.methodLink RX5 129 yX4_foresee ∈ gW := gW_in 418 (by decide +kernel) rfl
theorem k_419 : Cond.methodLink RL 59 yX5_would ∈ gW := gW_in 419 (by decide +kernel) rfl
theorem k_420 : Cond.instanceMethod yX5_would ∈ gW := gW_in 420 (by decide +kernel) rfl
theorem k_421 : Cond.selects yX5_would.cls yX5_would yX5_would ∈ gW := gW_in 421 (by decide +kernel) rfl
theorem k_422 : Cond.code yX5_would cX5_would 3 (some .int) ∈ gW := gW_in 422 (by decide +kernel) rfl
theorem k_423 : Cond.methodLink RX5 154 yX1_letPass ∈ gW := gW_in 423 (by decide +kernel) rfl
theorem k_424 : Cond.methodLink RL 63 yX5_seaAt ∈ gW := gW_in 424 (by decide +kernel) rfl
theorem k_425 : Cond.instanceMethod yX5_seaAt ∈ gW := gW_in 425 (by decide +kernel) rfl
theorem k_426 : Cond.selects yX5_seaAt.cls yX5_seaAt yX5_seaAt ∈ gW := gW_in 426 (by decide +kernel) rfl
theorem k_427 : Cond.code yX5_seaAt cX5_seaAt 3 (some .int) ∈ gW := gW_in 427 (by decide +kernel) rfl
theorem k_428 : Cond.methodLink RL 67 yX5_best ∈ gW := gW_in 428 (by decide +kernel) rfl
theorem k_429 : Cond.instanceMethod yX5_best ∈ gW := gW_in 429 (by decide +kernel) rfl
theorem k_430 : Cond.selects yX5_best.cls yX5_best yX5_best ∈ gW := gW_in 430 (by decide +kernel) rfl
theorem k_431 : Cond.code yX5_best cX5_best 7 (some .int) ∈ gW := gW_in 431 (by decide +kernel) rfl
theorem k_432 : Cond.methodLink RX5 161 yX5_gainWith ∈ gW := gW_in 432 (by decide +kernel) rfl
theorem k_434 : Cond.instanceMethod yX5_gainWith ∈ gW := gW_in 434 (by decide +kernel) rfl
theorem k_435 : Cond.code yX5_gainWith cX5_gainWith 3 (some .int) ∈ gW := gW_in 435 (by decide +kernel) rfl
theorem k_436 : Cond.methodLink RX5 217 yX1_gain ∈ gW := gW_in 436 (by decide +kernel) rfl
theorem k_437 : Cond.instanceMethod yX1_gain ∈ gW := gW_in 437 (by decide +kernel) rfl
theorem k_438 : Cond.selects yX1_gain.cls yX1_gain yX1_gain ∈ gW := gW_in 438 (by decide +kernel) rfl
theorem k_439 : Cond.code yX1_gain cX1_gain 1 (some .int) ∈ gW := gW_in 439 (by decide +kernel) rfl
theorem k_440 : Cond.methodLink RL 71 yX5_gatesFor ∈ gW := gW_in 440 (by decide +kernel) rfl
theorem k_441 : Cond.instanceMethod yX5_gatesFor ∈ gW := gW_in 441 (by decide +kernel) rfl
theorem k_442 : Cond.selects yX5_gatesFor.cls yX5_gatesFor yX5_gatesFor ∈ gW := gW_in 442 (by decide +kernel) rfl
theorem k_443 : Cond.code yX5_gatesFor cX5_gatesFor 7 (some .int) ∈ gW := gW_in 443 (by decide +kernel) rfl
theorem k_444 : Cond.methodLink RX5 164 yX5_levelWith ∈ gW := gW_in 444 (by decide +kernel) rfl
theorem k_446 : Cond.instanceMethod yX5_levelWith ∈ gW := gW_in 446 (by decide +kernel) rfl
theorem k_447 : Cond.code yX5_levelWith cX5_levelWith 3 (some .int) ∈ gW := gW_in 447 (by decide +kernel) rfl
theorem k_448 : Cond.methodLink RX5 167 Lib.Math.abs.name ∈ gW := gW_in 448 (by decide +kernel) rfl
theorem k_449 : Cond.methodLink RL 75 yX5_bestDay ∈ gW := gW_in 449 (by decide +kernel) rfl
theorem k_450 : Cond.instanceMethod yX5_bestDay ∈ gW := gW_in 450 (by decide +kernel) rfl
theorem k_451 : Cond.selects yX5_bestDay.cls yX5_bestDay yX5_bestDay ∈ gW := gW_in 451 (by decide +kernel) rfl
theorem k_452 : Cond.code yX5_bestDay cX5_bestDay 6 (some .int) ∈ gW := gW_in 452 (by decide +kernel) rfl
theorem k_453 : Cond.methodLink RL 80 yX5_share ∈ gW := gW_in 453 (by decide +kernel) rfl
theorem k_454 : Cond.instanceMethod yX5_share ∈ gW := gW_in 454 (by decide +kernel) rfl
theorem k_455 : Cond.selects yX5_share.cls yX5_share yX5_share ∈ gW := gW_in 455 (by decide +kernel) rfl
theorem k_456 : Cond.code yX5_share cX5_share 2 (some .int) ∈ gW := gW_in 456 (by decide +kernel) rfl
theorem k_457 : Cond.methodLink RX5 172 yX5_floatBits ∈ gW := gW_in 457 (by decide +kernel) rfl
theorem k_458 : Cond.static yX5_floatBits ∈ gW := gW_in 458 (by decide +kernel) rfl
theorem k_459 : Cond.code yX5_floatBits cX5_floatBits 4 (some .int) ∈ gW := gW_in 459 (by decide +kernel) rfl
theorem k_460 : Cond.constantFloat RX5 223 1258291200 ∈ gW := gW_in 460 (by decide +kernel) rfl
theorem k_461 : Cond.constant RX5 224 8388608 ∈ gW := gW_in 461 (by decide +kernel) rfl
theorem k_462 : Cond.methodLink RL 84 yX5_count ∈ gW := gW_in 462 (by decide +kernel) rfl
theorem k_463 : Cond.instanceMethod yX5_count ∈ gW := gW_in 463 (by decide +kernel) rfl
theorem k_464 : Cond.selects yX5_count.cls yX5_count yX5_count ∈ gW := gW_in 464 (by decide +kernel) rfl
theorem k_465 : Cond.code yX5_count cX5_count 2 (some .int) ∈ gW := gW_in 465 (by decide +kernel) rfl
theorem k_466 : Cond.methodLink RL 88 yX5_undo ∈ gW := gW_in 466 (by decide +kernel) rfl
theorem k_467 : Cond.instanceMethod yX5_undo ∈ gW := gW_in 467 (by decide +kernel) rfl
theorem k_468 : Cond.selects yX5_undo.cls yX5_undo yX5_undo ∈ gW := gW_in 468 (by decide +kernel) rfl
theorem k_469 : Cond.code yX5_undo cX5_undo 1 (some .int) ∈ gW := gW_in 469 (by decide +kernel) rfl
theorem k_470 : Cond.constant RX5 185 (-1000000002) ∈ gW := gW_in 470 (by decide +kernel) rfl
theorem k_471 : Cond.methodLink RX5 186 yX0_giveBack ∈ gW := gW_in 471 (by decide +kernel) rfl
theorem k_472 : Cond.instanceMethod yX0_giveBack ∈ gW := gW_in 472 (by decide +kernel) rfl
theorem k_473 : Cond.selects yX0_giveBack.cls yX0_giveBack yX0_giveBack ∈ gW := gW_in 473 (by decide +kernel) rfl
theorem k_474 : Cond.code yX0_giveBack cX0_giveBack 2 none ∈ gW := gW_in 474 (by decide +kernel) rfl
theorem k_475 : Cond.methodLink RL 92 yX5_type ∈ gW := gW_in 475 (by decide +kernel) rfl
theorem k_476 : Cond.instanceMethod yX5_type ∈ gW := gW_in 476 (by decide +kernel) rfl
theorem k_477 : Cond.selects yX5_type.cls yX5_type yX5_type ∈ gW := gW_in 477 (by decide +kernel) rfl
theorem k_478 : Cond.code yX5_type cX5_type 2 (some .int) ∈ gW := gW_in 478 (by decide +kernel) rfl
theorem k_479 : Cond.constant RX5 189 (-1000000003) ∈ gW := gW_in 479 (by decide +kernel) rfl
theorem k_480 : Cond.methodLink RX5 190 yX3_append ∈ gW := gW_in 480 (by decide +kernel) rfl
theorem k_481 : Cond.instanceMethod yX3_append ∈ gW := gW_in 481 (by decide +kernel) rfl
theorem k_482 : Cond.selects yX3_append.cls yX3_append yX3_append ∈ gW := gW_in 482 (by decide +kernel) rfl
theorem k_483 : Cond.code yX3_append cX3_append 2 none ∈ gW := gW_in 483 (by decide +kernel) rfl
theorem k_484 : Cond.methodLink RL 96 yX5_clearText ∈ gW := gW_in 484 (by decide +kernel) rfl
theorem k_485 : Cond.instanceMethod yX5_clearText ∈ gW := gW_in 485 (by decide +kernel) rfl
theorem k_486 : Cond.selects yX5_clearText.cls yX5_clearText yX5_clearText ∈ gW := gW_in 486 (by decide +kernel) rfl
theorem k_487 : Cond.code yX5_clearText cX5_clearText 2 (some .int) ∈ gW := gW_in 487 (by decide +kernel) rfl
theorem k_488 : Cond.methodLink RL 100 yX5_fault ∈ gW := gW_in 488 (by decide +kernel) rfl
theorem k_489 : Cond.instanceMethod yX5_fault ∈ gW := gW_in 489 (by decide +kernel) rfl
theorem k_490 : Cond.selects yX5_fault.cls yX5_fault yX5_fault ∈ gW := gW_in 490 (by decide +kernel) rfl
theorem k_491 : Cond.code yX5_fault cX5_fault 2 (some .int) ∈ gW := gW_in 491 (by decide +kernel) rfl
theorem k_492 : Cond.methodLink RX5 194 yX2_perform ∈ gW := gW_in 492 (by decide +kernel) rfl
theorem k_493 : Cond.instanceMethod yX2_perform ∈ gW := gW_in 493 (by decide +kernel) rfl
theorem k_494 : Cond.selects yX2_perform.cls yX2_perform yX2_perform ∈ gW := gW_in 494 (by decide +kernel) rfl
theorem k_495 : Cond.code yX2_perform cX2_perform 6 none ∈ gW := gW_in 495 (by decide +kernel) rfl
theorem k_496 : Cond.methodLink RX2 27 yX3_readOrder ∈ gW := gW_in 496 (by decide +kernel) rfl
theorem k_497 : Cond.instanceMethod yX3_readOrder ∈ gW := gW_in 497 (by decide +kernel) rfl
theorem k_498 : Cond.selects yX3_readOrder.cls yX3_readOrder yX3_readOrder ∈ gW := gW_in 498 (by decide +kernel) rfl
theorem k_499 : Cond.code yX3_readOrder cX3_readOrder 1 (some .boolean) ∈ gW := gW_in 499 (by decide +kernel) rfl
theorem k_500 : Cond.methodLink RX3 19 yX3_characterHere ∈ gW := gW_in 500 (by decide +kernel) rfl
theorem k_502 : Cond.instanceMethod yX3_characterHere ∈ gW := gW_in 502 (by decide +kernel) rfl
theorem k_503 : Cond.code yX3_characterHere cX3_characterHere 1 (some .char) ∈ gW := gW_in 503 (by decide +kernel) rfl
theorem k_504 : Cond.methodLink RX3 33 yX3_isKind ∈ gW := gW_in 504 (by decide +kernel) rfl
theorem k_505 : Cond.static yX3_isKind ∈ gW := gW_in 505 (by decide +kernel) rfl
theorem k_506 : Cond.code yX3_isKind cX3_isKind 1 (some .boolean) ∈ gW := gW_in 506 (by decide +kernel) rfl
theorem k_507 : Cond.methodLink RX3 40 yX3_readNumber ∈ gW := gW_in 507 (by decide +kernel) rfl
theorem k_509 : Cond.instanceMethod yX3_readNumber ∈ gW := gW_in 509 (by decide +kernel) rfl
theorem k_510 : Cond.code yX3_readNumber cX3_readNumber 4 (some .int) ∈ gW := gW_in 510 (by decide +kernel) rfl
theorem k_511 : Cond.methodLink RX3 47 Lib.Math.max.name ∈ gW := gW_in 511 (by decide +kernel) rfl
theorem k_512 : Cond.methodLink RX3 44 yX3_skip ∈ gW := gW_in 512 (by decide +kernel) rfl
theorem k_514 : Cond.instanceMethod yX3_skip ∈ gW := gW_in 514 (by decide +kernel) rfl
theorem k_515 : Cond.code yX3_skip cX3_skip 2 (some .boolean) ∈ gW := gW_in 515 (by decide +kernel) rfl
theorem k_516 : Cond.methodLink RX2 34 yX2_obey ∈ gW := gW_in 516 (by decide +kernel) rfl
theorem k_517 : Cond.static yX2_obey ∈ gW := gW_in 517 (by decide +kernel) rfl
theorem k_518 : Cond.code yX2_obey cX2_obey 3 (some .int) ∈ gW := gW_in 518 (by decide +kernel) rfl
theorem k_519 : Cond.methodLink RX2 49 yX1_openGates ∈ gW := gW_in 519 (by decide +kernel) rfl
theorem k_520 : Cond.methodLink RX2 55 yX1_openTurbines ∈ gW := gW_in 520 (by decide +kernel) rfl
theorem k_521 : Cond.methodLink RX2 58 yX1_setPump ∈ gW := gW_in 521 (by decide +kernel) rfl
theorem k_522 : Cond.methodLink RX2 64 yX1_setBirds ∈ gW := gW_in 522 (by decide +kernel) rfl
theorem k_523 : Cond.methodLink RX2 68 yX1_runTicks ∈ gW := gW_in 523 (by decide +kernel) rfl
theorem k_525 : Cond.methodLink RL 104 yX5_play ∈ gW := gW_in 525 (by decide +kernel) rfl
theorem k_526 : Cond.instanceMethod yX5_play ∈ gW := gW_in 526 (by decide +kernel) rfl
theorem k_527 : Cond.selects yX5_play.cls yX5_play yX5_play ∈ gW := gW_in 527 (by decide +kernel) rfl
theorem k_528 : Cond.code yX5_play cX5_play 1 (some .int) ∈ gW := gW_in 528 (by decide +kernel) rfl
theorem k_529 : Cond.classLink RL 10 RX6 ∈ gW := gW_in 529 (by decide +kernel) rfl
theorem k_530 : Cond.instantiable RX6 22 ∈ gW := gW_in 530 (by decide +kernel) rfl
theorem k_531 : Cond.methodLink RL 12 yX6_init ∈ gW := gW_in 531 (by decide +kernel) rfl
theorem k_532 : Cond.instanceMethod yX6_init ∈ gW := gW_in 532 (by decide +kernel) rfl
theorem k_533 : Cond.code yX6_init cX6_init 1 none ∈ gW := gW_in 533 (by decide +kernel) rfl
theorem k_534 : Cond.methodLink RX6 1 objectInit ∈ gW := gW_in 534 (by decide +kernel) rfl
theorem k_535 : Cond.constant RX6 28 40000 ∈ gW := gW_in 535 (by decide +kernel) rfl
theorem k_536 : Cond.fieldLink RX6 7 RX6 (TX6 0).2.1 (TX6 0).2.2.1 ∈ gW := gW_in 536 (by decide +kernel) rfl
theorem k_537 : Cond.fieldLink RX6 13 RX6 (TX6 1).2.1 (TX6 1).2.2.1 ∈ gW := gW_in 537 (by decide +kernel) rfl
theorem k_538 : Cond.fieldLink RX6 16 RX6 (TX6 2).2.1 (TX6 2).2.2.1 ∈ gW := gW_in 538 (by decide +kernel) rfl
theorem k_539 : Cond.fieldLink RX6 19 RX6 (TX6 3).2.1 (TX6 3).2.2.1 ∈ gW := gW_in 539 (by decide +kernel) rfl
theorem k_540 : Cond.fieldLink RX6 33 RX6 (TX6 4).2.1 (TX6 4).2.2.1 ∈ gW := gW_in 540 (by decide +kernel) rfl
theorem k_541 : Cond.fieldLink RX6 29 RX6 (TX6 5).2.1 (TX6 5).2.2.1 ∈ gW := gW_in 541 (by decide +kernel) rfl
theorem k_542 : Cond.fieldLink RX6 22 RX6 (TX6 6).2.1 (TX6 6).2.2.1 ∈ gW := gW_in 542 (by decide +kernel) rfl
theorem k_543 : Cond.fieldLink RX6 124 RX6 (TX6 7).2.1 (TX6 7).2.2.1 ∈ gW := gW_in 543 (by decide +kernel) rfl
theorem k_544 : Cond.fieldLink RX6 70 RX6 (TX6 8).2.1 (TX6 8).2.2.1 ∈ gW := gW_in 544 (by decide +kernel) rfl
theorem k_545 : Cond.fieldLink RX6 73 RX6 (TX6 9).2.1 (TX6 9).2.2.1 ∈ gW := gW_in 545 (by decide +kernel) rfl
theorem k_546 : Cond.fieldLink RX6 76 RX6 (TX6 10).2.1 (TX6 10).2.2.1 ∈ gW := gW_in 546 (by decide +kernel) rfl
theorem k_547 : Cond.fieldLink RX6 85 RX6 (TX6 11).2.1 (TX6 11).2.2.1 ∈ gW := gW_in 547 (by decide +kernel) rfl
theorem k_548 : Cond.fieldLink RX6 79 RX6 (TX6 12).2.1 (TX6 12).2.2.1 ∈ gW := gW_in 548 (by decide +kernel) rfl
theorem k_549 : Cond.fieldLink RX6 82 RX6 (TX6 13).2.1 (TX6 13).2.2.1 ∈ gW := gW_in 549 (by decide +kernel) rfl
theorem k_550 : Cond.fieldLink RX6 89 RX6 (TX6 14).2.1 (TX6 14).2.2.1 ∈ gW := gW_in 550 (by decide +kernel) rfl
theorem k_551 : Cond.fieldLink RX6 127 RX6 (TX6 15).2.1 (TX6 15).2.2.1 ∈ gW := gW_in 551 (by decide +kernel) rfl
theorem k_552 : Cond.fieldLink RX6 162 RX6 (TX6 16).2.1 (TX6 16).2.2.1 ∈ gW := gW_in 552 (by decide +kernel) rfl
theorem k_553 : Cond.fieldLink RX6 174 RX6 (TX6 17).2.1 (TX6 17).2.2.1 ∈ gW := gW_in 553 (by decide +kernel) rfl
theorem k_554 : Cond.fieldLink RX6 177 RX6 (TX6 18).2.1 (TX6 18).2.2.1 ∈ gW := gW_in 554 (by decide +kernel) rfl
theorem k_555 : Cond.fieldLink RX6 165 RX6 (TX6 19).2.1 (TX6 19).2.2.1 ∈ gW := gW_in 555 (by decide +kernel) rfl
theorem k_556 : Cond.fieldLink RX6 134 RX6 (TX6 20).2.1 (TX6 20).2.2.1 ∈ gW := gW_in 556 (by decide +kernel) rfl
theorem k_557 : Cond.fieldLink RX6 25 RX6 (TX6 21).2.1 (TX6 21).2.2.1 ∈ gW := gW_in 557 (by decide +kernel) rfl
theorem k_603 : Cond.methodLink RL 17 yX6_gates ∈ gW := gW_in 603 (by decide +kernel) rfl
theorem k_604 : Cond.instanceMethod yX6_gates ∈ gW := gW_in 604 (by decide +kernel) rfl
theorem k_605 : Cond.selects yX6_gates.cls yX6_gates yX6_gates ∈ gW := gW_in 605 (by decide +kernel) rfl
theorem k_606 : Cond.code yX6_gates cX6_gates 2 (some .int) ∈ gW := gW_in 606 (by decide +kernel) rfl
theorem k_607 : Cond.methodLink RX6 40 yX6_in ∈ gW := gW_in 607 (by decide +kernel) rfl
theorem k_608 : Cond.static yX6_in ∈ gW := gW_in 608 (by decide +kernel) rfl
theorem k_609 : Cond.code yX6_in cX6_in 3 (some .boolean) ∈ gW := gW_in 609 (by decide +kernel) rfl
theorem k_610 : Cond.methodLink RX6 44 yX6_sets ∈ gW := gW_in 610 (by decide +kernel) rfl
theorem k_612 : Cond.instanceMethod yX6_sets ∈ gW := gW_in 612 (by decide +kernel) rfl
theorem k_613 : Cond.code yX6_sets cX6_sets 4 (some .int) ∈ gW := gW_in 613 (by decide +kernel) rfl
theorem k_614 : Cond.methodLink RX6 37 yX6_changes ∈ gW := gW_in 614 (by decide +kernel) rfl
theorem k_616 : Cond.instanceMethod yX6_changes ∈ gW := gW_in 616 (by decide +kernel) rfl
theorem k_617 : Cond.code yX6_changes cX6_changes 2 none ∈ gW := gW_in 617 (by decide +kernel) rfl
theorem k_618 : Cond.constant RX6 48 (-1000000001) ∈ gW := gW_in 618 (by decide +kernel) rfl
theorem k_619 : Cond.methodLink RL 21 yX6_turbines ∈ gW := gW_in 619 (by decide +kernel) rfl
theorem k_620 : Cond.instanceMethod yX6_turbines ∈ gW := gW_in 620 (by decide +kernel) rfl
theorem k_621 : Cond.selects yX6_turbines.cls yX6_turbines yX6_turbines ∈ gW := gW_in 621 (by decide +kernel) rfl
theorem k_622 : Cond.code yX6_turbines cX6_turbines 2 (some .int) ∈ gW := gW_in 622 (by decide +kernel) rfl
theorem k_623 : Cond.methodLink RL 25 yX6_pump ∈ gW := gW_in 623 (by decide +kernel) rfl
theorem k_624 : Cond.instanceMethod yX6_pump ∈ gW := gW_in 624 (by decide +kernel) rfl
theorem k_625 : Cond.selects yX6_pump.cls yX6_pump yX6_pump ∈ gW := gW_in 625 (by decide +kernel) rfl
theorem k_626 : Cond.code yX6_pump cX6_pump 2 (some .int) ∈ gW := gW_in 626 (by decide +kernel) rfl
theorem k_627 : Cond.methodLink RL 30 yX6_birds ∈ gW := gW_in 627 (by decide +kernel) rfl
theorem k_628 : Cond.instanceMethod yX6_birds ∈ gW := gW_in 628 (by decide +kernel) rfl
theorem k_629 : Cond.selects yX6_birds.cls yX6_birds yX6_birds ∈ gW := gW_in 629 (by decide +kernel) rfl
theorem k_630 : Cond.code yX6_birds cX6_birds 3 (some .int) ∈ gW := gW_in 630 (by decide +kernel) rfl
theorem k_631 : Cond.methodLink RL 34 yX6_run ∈ gW := gW_in 631 (by decide +kernel) rfl
theorem k_632 : Cond.instanceMethod yX6_run ∈ gW := gW_in 632 (by decide +kernel) rfl
theorem k_633 : Cond.selects yX6_run.cls yX6_run yX6_run ∈ gW := gW_in 633 (by decide +kernel) rfl
theorem k_634 : Cond.code yX6_run cX6_run 2 (some .int) ∈ gW := gW_in 634 (by decide +kernel) rfl
theorem k_635 : Cond.constant RX6 105 (-1000000003) ∈ gW := gW_in 635 (by decide +kernel) rfl
theorem k_636 : Cond.methodLink RX6 106 yX6_ticks ∈ gW := gW_in 636 (by decide +kernel) rfl
theorem k_638 : Cond.instanceMethod yX6_ticks ∈ gW := gW_in 638 (by decide +kernel) rfl
theorem k_639 : Cond.code yX6_ticks cX6_ticks 3 none ∈ gW := gW_in 639 (by decide +kernel) rfl
theorem k_640 : Cond.methodLink RX6 102 yX6_tick ∈ gW := gW_in 640 (by decide +kernel) rfl
theorem k_642 : Cond.instanceMethod yX6_tick ∈ gW := gW_in 642 (by decide +kernel) rfl
theorem k_643 : Cond.code yX6_tick cX6_tick 3 none ∈ gW := gW_in 643 (by decide +kernel) rfl
theorem k_644 : Cond.methodLink RX6 96 yX6_weighs ∈ gW := gW_in 644 (by decide +kernel) rfl
theorem k_646 : Cond.instanceMethod yX6_weighs ∈ gW := gW_in 646 (by decide +kernel) rfl
theorem k_647 : Cond.code yX6_weighs cX6_weighs 4 none ∈ gW := gW_in 647 (by decide +kernel) rfl
theorem k_648 : Cond.methodLink RX6 63 yX6_head ∈ gW := gW_in 648 (by decide +kernel) rfl
theorem k_650 : Cond.instanceMethod yX6_head ∈ gW := gW_in 650 (by decide +kernel) rfl
theorem k_651 : Cond.code yX6_head cX6_head 1 (some .int) ∈ gW := gW_in 651 (by decide +kernel) rfl
theorem k_652 : Cond.methodLink RX6 56 yX6_seaLevel ∈ gW := gW_in 652 (by decide +kernel) rfl
theorem k_653 : Cond.static yX6_seaLevel ∈ gW := gW_in 653 (by decide +kernel) rfl
theorem k_654 : Cond.code yX6_seaLevel cX6_seaLevel 3 (some .int) ∈ gW := gW_in 654 (by decide +kernel) rfl
theorem k_655 : Cond.methodLink RX6 53 yX6_tide ∈ gW := gW_in 655 (by decide +kernel) rfl
theorem k_656 : Cond.static yX6_tide ∈ gW := gW_in 656 (by decide +kernel) rfl
theorem k_657 : Cond.code yX6_tide cX6_tide 1 (some .int) ∈ gW := gW_in 657 (by decide +kernel) rfl
theorem k_658 : Cond.methodLink RX6 49 yX6_size ∈ gW := gW_in 658 (by decide +kernel) rfl
theorem k_659 : Cond.static yX6_size ∈ gW := gW_in 659 (by decide +kernel) rfl
theorem k_660 : Cond.code yX6_size cX6_size 1 (some .int) ∈ gW := gW_in 660 (by decide +kernel) rfl
theorem k_661 : Cond.methodLink RX6 59 yX6_level ∈ gW := gW_in 661 (by decide +kernel) rfl
theorem k_663 : Cond.instanceMethod yX6_level ∈ gW := gW_in 663 (by decide +kernel) rfl
theorem k_664 : Cond.code yX6_level cX6_level 1 (some .int) ∈ gW := gW_in 664 (by decide +kernel) rfl
theorem k_665 : Cond.methodLink RX6 66 yX6_isBirds ∈ gW := gW_in 665 (by decide +kernel) rfl
theorem k_667 : Cond.instanceMethod yX6_isBirds ∈ gW := gW_in 667 (by decide +kernel) rfl
theorem k_668 : Cond.code yX6_isBirds cX6_isBirds 1 (some .boolean) ∈ gW := gW_in 668 (by decide +kernel) rfl
theorem k_669 : Cond.constant RX6 88 80000 ∈ gW := gW_in 669 (by decide +kernel) rfl
theorem k_670 : Cond.methodLink RX6 99 yX6_opens ∈ gW := gW_in 670 (by decide +kernel) rfl
theorem k_672 : Cond.instanceMethod yX6_opens ∈ gW := gW_in 672 (by decide +kernel) rfl
theorem k_673 : Cond.code yX6_opens cX6_opens 5 (some .int) ∈ gW := gW_in 673 (by decide +kernel) rfl
theorem k_674 : Cond.methodLink RX6 93 yX6_recordOf ∈ gW := gW_in 674 (by decide +kernel) rfl
theorem k_676 : Cond.instanceMethod yX6_recordOf ∈ gW := gW_in 676 (by decide +kernel) rfl
theorem k_677 : Cond.code yX6_recordOf cX6_recordOf 3 (some .int) ∈ gW := gW_in 677 (by decide +kernel) rfl
theorem k_678 : Cond.constant RX6 92 (-1000000004) ∈ gW := gW_in 678 (by decide +kernel) rfl
theorem k_679 : Cond.methodLink RL 38 yX6_dredge ∈ gW := gW_in 679 (by decide +kernel) rfl
theorem k_680 : Cond.instanceMethod yX6_dredge ∈ gW := gW_in 680 (by decide +kernel) rfl
theorem k_681 : Cond.selects yX6_dredge.cls yX6_dredge yX6_dredge ∈ gW := gW_in 681 (by decide +kernel) rfl
theorem k_682 : Cond.code yX6_dredge cX6_dredge 2 (some .int) ∈ gW := gW_in 682 (by decide +kernel) rfl
theorem k_683 : Cond.constant RX6 110 (-1000000002) ∈ gW := gW_in 683 (by decide +kernel) rfl
theorem k_684 : Cond.methodLink RL 42 yX6_set ∈ gW := gW_in 684 (by decide +kernel) rfl
theorem k_685 : Cond.instanceMethod yX6_set ∈ gW := gW_in 685 (by decide +kernel) rfl
theorem k_686 : Cond.selects yX6_set.cls yX6_set yX6_set ∈ gW := gW_in 686 (by decide +kernel) rfl
theorem k_687 : Cond.code yX6_set cX6_set 3 (some .int) ∈ gW := gW_in 687 (by decide +kernel) rfl
theorem k_688 : Cond.methodLink RX6 111 yX6_mostOf ∈ gW := gW_in 688 (by decide +kernel) rfl
theorem k_689 : Cond.static yX6_mostOf ∈ gW := gW_in 689 (by decide +kernel) rfl
theorem k_690 : Cond.code yX6_mostOf cX6_mostOf 1 (some .int) ∈ gW := gW_in 690 (by decide +kernel) rfl
theorem k_691 : Cond.methodLink RL 46 yX6_sea ∈ gW := gW_in 691 (by decide +kernel) rfl
theorem k_692 : Cond.instanceMethod yX6_sea ∈ gW := gW_in 692 (by decide +kernel) rfl
theorem k_693 : Cond.selects yX6_sea.cls yX6_sea yX6_sea ∈ gW := gW_in 693 (by decide +kernel) rfl
theorem k_694 : Cond.code yX6_sea cX6_sea 2 (some .int) ∈ gW := gW_in 694 (by decide +kernel) rfl
theorem k_695 : Cond.methodLink RL 50 yX6_now ∈ gW := gW_in 695 (by decide +kernel) rfl
theorem k_696 : Cond.instanceMethod yX6_now ∈ gW := gW_in 696 (by decide +kernel) rfl
theorem k_697 : Cond.selects yX6_now.cls yX6_now yX6_now ∈ gW := gW_in 697 (by decide +kernel) rfl
theorem k_698 : Cond.code yX6_now cX6_now 2 (some .int) ∈ gW := gW_in 698 (by decide +kernel) rfl
theorem k_699 : Cond.methodLink RL 54 yX6_record ∈ gW := gW_in 699 (by decide +kernel) rfl
theorem k_700 : Cond.instanceMethod yX6_record ∈ gW := gW_in 700 (by decide +kernel) rfl
theorem k_701 : Cond.selects yX6_record.cls yX6_record yX6_record ∈ gW := gW_in 701 (by decide +kernel) rfl
theorem k_702 : Cond.code yX6_record cX6_record 4 (some .int) ∈ gW := gW_in 702 (by decide +kernel) rfl
theorem k_703 : Cond.methodLink RL 58 yX6_next ∈ gW := gW_in 703 (by decide +kernel) rfl
theorem k_704 : Cond.instanceMethod yX6_next ∈ gW := gW_in 704 (by decide +kernel) rfl
theorem k_705 : Cond.selects yX6_next.cls yX6_next yX6_next ∈ gW := gW_in 705 (by decide +kernel) rfl
theorem k_706 : Cond.code yX6_next cX6_next 2 (some .int) ∈ gW := gW_in 706 (by decide +kernel) rfl
theorem k_707 : Cond.methodLink RL 62 yX6_would ∈ gW := gW_in 707 (by decide +kernel) rfl
theorem k_708 : Cond.instanceMethod yX6_would ∈ gW := gW_in 708 (by decide +kernel) rfl
theorem k_709 : Cond.selects yX6_would.cls yX6_would yX6_would ∈ gW := gW_in 709 (by decide +kernel) rfl
theorem k_710 : Cond.code yX6_would cX6_would 4 (some .int) ∈ gW := gW_in 710 (by decide +kernel) rfl
theorem k_711 : Cond.methodLink RX6 114 yX6_copies ∈ gW := gW_in 711 (by decide +kernel) rfl
theorem k_712 : Cond.static yX6_copies ∈ gW := gW_in 712 (by decide +kernel) rfl
theorem k_713 : Cond.code yX6_copies cX6_copies 3 none ∈ gW := gW_in 713 (by decide +kernel) rfl
theorem k_714 : Cond.methodLink RL 66 yX6_seaAt ∈ gW := gW_in 714 (by decide +kernel) rfl
theorem k_715 : Cond.instanceMethod yX6_seaAt ∈ gW := gW_in 715 (by decide +kernel) rfl
theorem k_716 : Cond.selects yX6_seaAt.cls yX6_seaAt yX6_seaAt ∈ gW := gW_in 716 (by decide +kernel) rfl
theorem k_717 : Cond.code yX6_seaAt cX6_seaAt 3 (some .int) ∈ gW := gW_in 717 (by decide +kernel) rfl
theorem k_718 : Cond.methodLink RL 70 yX6_best ∈ gW := gW_in 718 (by decide +kernel) rfl
theorem k_719 : Cond.instanceMethod yX6_best ∈ gW := gW_in 719 (by decide +kernel) rfl
theorem k_720 : Cond.selects yX6_best.cls yX6_best yX6_best ∈ gW := gW_in 720 (by decide +kernel) rfl
theorem k_721 : Cond.code yX6_best cX6_best 8 (some .int) ∈ gW := gW_in 721 (by decide +kernel) rfl
theorem k_722 : Cond.methodLink RL 74 yX6_gatesFor ∈ gW := gW_in 722 (by decide +kernel) rfl
theorem k_723 : Cond.instanceMethod yX6_gatesFor ∈ gW := gW_in 723 (by decide +kernel) rfl
theorem k_724 : Cond.selects yX6_gatesFor.cls yX6_gatesFor yX6_gatesFor ∈ gW := gW_in 724 (by decide +kernel) rfl
theorem k_725 : Cond.code yX6_gatesFor cX6_gatesFor 8 (some .int) ∈ gW := gW_in 725 (by decide +kernel) rfl
theorem k_726 : Cond.methodLink RL 79 yX6_bestDay ∈ gW := gW_in 726 (by decide +kernel) rfl
theorem k_727 : Cond.instanceMethod yX6_bestDay ∈ gW := gW_in 727 (by decide +kernel) rfl
theorem k_728 : Cond.selects yX6_bestDay.cls yX6_bestDay yX6_bestDay ∈ gW := gW_in 728 (by decide +kernel) rfl
theorem k_729 : Cond.code yX6_bestDay cX6_bestDay 3 (some .int) ∈ gW := gW_in 729 (by decide +kernel) rfl
theorem k_730 : Cond.methodLink RL 83 yX6_share ∈ gW := gW_in 730 (by decide +kernel) rfl
theorem k_731 : Cond.instanceMethod yX6_share ∈ gW := gW_in 731 (by decide +kernel) rfl
theorem k_732 : Cond.selects yX6_share.cls yX6_share yX6_share ∈ gW := gW_in 732 (by decide +kernel) rfl
theorem k_733 : Cond.code yX6_share cX6_share 2 (some .int) ∈ gW := gW_in 733 (by decide +kernel) rfl
theorem k_734 : Cond.methodLink RX6 118 yJxf58ca_floatToIntBits_5c35a ∈ gW := gW_in 734 (by decide +kernel) rfl
theorem k_735 : Cond.static yJxf58ca_floatToIntBits_5c35a ∈ gW := gW_in 735 (by decide +kernel) rfl
theorem k_736 : Cond.code yJxf58ca_floatToIntBits_5c35a cJxf58ca_floatToIntBits_5c35a 1 (some .int) ∈ gW := gW_in 736 (by decide +kernel) rfl
theorem k_737 : Cond.methodLink RJxf58ca 59 yJxf58ca_isNaN_12338 ∈ gW := gW_in 737 (by decide +kernel) rfl
theorem k_738 : Cond.static yJxf58ca_isNaN_12338 ∈ gW := gW_in 738 (by decide +kernel) rfl
theorem k_739 : Cond.code yJxf58ca_isNaN_12338 cJxf58ca_isNaN_12338 1 (some .boolean) ∈ gW := gW_in 739 (by decide +kernel) rfl
theorem k_740 : Cond.methodLink RJxf58ca 74 ⟨"java/lang/Float", "floatToRawIntBits", "(F)I"⟩ ∈ gW := gW_in 740 (by decide +kernel) rfl
theorem k_741 : Cond.static ⟨"java/lang/Float", "floatToRawIntBits", "(F)I"⟩ ∈ gW := gW_in 741 (by decide +kernel) rfl
theorem k_742 : Cond.native ⟨"java/lang/Float", "floatToRawIntBits", "(F)I"⟩ ∈ gW := gW_in 742 (by decide +kernel) rfl
theorem k_743 : Cond.constant RJxf58ca 77 2143289344 ∈ gW := gW_in 743 (by decide +kernel) rfl
theorem k_744 : Cond.methodLink RL 87 yX6_count ∈ gW := gW_in 744 (by decide +kernel) rfl
theorem k_745 : Cond.instanceMethod yX6_count ∈ gW := gW_in 745 (by decide +kernel) rfl
theorem k_746 : Cond.selects yX6_count.cls yX6_count yX6_count ∈ gW := gW_in 746 (by decide +kernel) rfl
theorem k_747 : Cond.code yX6_count cX6_count 2 (some .int) ∈ gW := gW_in 747 (by decide +kernel) rfl
theorem k_748 : Cond.methodLink RL 91 yX6_undo ∈ gW := gW_in 748 (by decide +kernel) rfl
theorem k_749 : Cond.instanceMethod yX6_undo ∈ gW := gW_in 749 (by decide +kernel) rfl
theorem k_750 : Cond.selects yX6_undo.cls yX6_undo yX6_undo ∈ gW := gW_in 750 (by decide +kernel) rfl
theorem k_751 : Cond.code yX6_undo cX6_undo 2 (some .int) ∈ gW := gW_in 751 (by decide +kernel) rfl
theorem k_752 : Cond.methodLink RL 95 yX6_type ∈ gW := gW_in 752 (by decide +kernel) rfl
theorem k_753 : Cond.instanceMethod yX6_type ∈ gW := gW_in 753 (by decide +kernel) rfl
theorem k_754 : Cond.selects yX6_type.cls yX6_type yX6_type ∈ gW := gW_in 754 (by decide +kernel) rfl
theorem k_755 : Cond.code yX6_type cX6_type 2 (some .int) ∈ gW := gW_in 755 (by decide +kernel) rfl
theorem k_756 : Cond.methodLink RL 99 yX6_clearText ∈ gW := gW_in 756 (by decide +kernel) rfl
theorem k_757 : Cond.instanceMethod yX6_clearText ∈ gW := gW_in 757 (by decide +kernel) rfl
theorem k_758 : Cond.selects yX6_clearText.cls yX6_clearText yX6_clearText ∈ gW := gW_in 758 (by decide +kernel) rfl
theorem k_759 : Cond.code yX6_clearText cX6_clearText 2 (some .int) ∈ gW := gW_in 759 (by decide +kernel) rfl
theorem k_760 : Cond.methodLink RL 103 yX6_fault ∈ gW := gW_in 760 (by decide +kernel) rfl
theorem k_761 : Cond.instanceMethod yX6_fault ∈ gW := gW_in 761 (by decide +kernel) rfl
theorem k_762 : Cond.selects yX6_fault.cls yX6_fault yX6_fault ∈ gW := gW_in 762 (by decide +kernel) rfl
theorem k_763 : Cond.code yX6_fault cX6_fault 3 (some .int) ∈ gW := gW_in 763 (by decide +kernel) rfl
theorem k_764 : Cond.methodLink RX6 180 yX6_plays ∈ gW := gW_in 764 (by decide +kernel) rfl
theorem k_766 : Cond.instanceMethod yX6_plays ∈ gW := gW_in 766 (by decide +kernel) rfl
theorem k_767 : Cond.code yX6_plays cX6_plays 4 (some .boolean) ∈ gW := gW_in 767 (by decide +kernel) rfl
theorem k_768 : Cond.methodLink RX6 168 yX6_reads ∈ gW := gW_in 768 (by decide +kernel) rfl
theorem k_770 : Cond.instanceMethod yX6_reads ∈ gW := gW_in 770 (by decide +kernel) rfl
theorem k_771 : Cond.code yX6_reads cX6_reads 3 (some .boolean) ∈ gW := gW_in 771 (by decide +kernel) rfl
theorem k_772 : Cond.methodLink RX6 130 yX6_isAt ∈ gW := gW_in 772 (by decide +kernel) rfl
theorem k_774 : Cond.instanceMethod yX6_isAt ∈ gW := gW_in 774 (by decide +kernel) rfl
theorem k_775 : Cond.code yX6_isAt cX6_isAt 3 (some .boolean) ∈ gW := gW_in 775 (by decide +kernel) rfl
theorem k_776 : Cond.methodLink RX6 137 yX6_numbersOf ∈ gW := gW_in 776 (by decide +kernel) rfl
theorem k_777 : Cond.static yX6_numbersOf ∈ gW := gW_in 777 (by decide +kernel) rfl
theorem k_778 : Cond.code yX6_numbersOf cX6_numbersOf 1 (some .int) ∈ gW := gW_in 778 (by decide +kernel) rfl
theorem k_779 : Cond.methodLink RX6 140 yX6_numbered ∈ gW := gW_in 779 (by decide +kernel) rfl
theorem k_781 : Cond.instanceMethod yX6_numbered ∈ gW := gW_in 781 (by decide +kernel) rfl
theorem k_782 : Cond.code yX6_numbered cX6_numbered 3 (some .boolean) ∈ gW := gW_in 782 (by decide +kernel) rfl
theorem k_783 : Cond.methodLink RX6 144 yX6_sign ∈ gW := gW_in 783 (by decide +kernel) rfl
theorem k_785 : Cond.instanceMethod yX6_sign ∈ gW := gW_in 785 (by decide +kernel) rfl
theorem k_786 : Cond.code yX6_sign cX6_sign 3 (some .boolean) ∈ gW := gW_in 786 (by decide +kernel) rfl
theorem k_787 : Cond.methodLink RX6 171 yX6_calls ∈ gW := gW_in 787 (by decide +kernel) rfl
theorem k_789 : Cond.instanceMethod yX6_calls ∈ gW := gW_in 789 (by decide +kernel) rfl
theorem k_790 : Cond.code yX6_calls cX6_calls 1 (some .int) ∈ gW := gW_in 790 (by decide +kernel) rfl
theorem k_791 : Cond.methodLink RX6 147 yX6_gates ∈ gW := gW_in 791 (by decide +kernel) rfl
theorem k_792 : Cond.methodLink RX6 150 yX6_turbines ∈ gW := gW_in 792 (by decide +kernel) rfl
theorem k_793 : Cond.methodLink RX6 153 yX6_pump ∈ gW := gW_in 793 (by decide +kernel) rfl
theorem k_794 : Cond.methodLink RX6 156 yX6_birds ∈ gW := gW_in 794 (by decide +kernel) rfl
theorem k_795 : Cond.methodLink RX6 159 yX6_run ∈ gW := gW_in 795 (by decide +kernel) rfl
theorem k_796 : Cond.methodLink RL 107 yX6_play ∈ gW := gW_in 796 (by decide +kernel) rfl
theorem k_797 : Cond.instanceMethod yX6_play ∈ gW := gW_in 797 (by decide +kernel) rfl
theorem k_798 : Cond.selects yX6_play.cls yX6_play yX6_play ∈ gW := gW_in 798 (by decide +kernel) rfl
theorem k_799 : Cond.code yX6_play cX6_play 2 (some .int) ∈ gW := gW_in 799 (by decide +kernel) rfl
theorem inX0 : ∀ w ∈ u_ws RX0 TX0 3, w ∈ gW := List.forall_mem_cons.mpr ⟨gW_in 155 (by decide +kernel) rfl, List.forall_mem_cons.mpr ⟨gW_in 157 (by decide +kernel) rfl, List.forall_mem_cons.mpr ⟨gW_in 159 (by decide +kernel) rfl, fun _ h => absurd h List.not_mem_nil⟩⟩⟩
theorem inX1 : ∀ w ∈ u_ws RX1 TX1 11, w ∈ gW := List.forall_mem_cons.mpr ⟨gW_in 79 (by decide +kernel) rfl, List.forall_mem_cons.mpr ⟨gW_in 81 (by decide +kernel) rfl, List.forall_mem_cons.mpr ⟨gW_in 83 (by decide +kernel) rfl, List.forall_mem_cons.mpr ⟨gW_in 85 (by decide +kernel) rfl, List.forall_mem_cons.mpr ⟨gW_in 87 (by decide +kernel) rfl, List.forall_mem_cons.mpr ⟨gW_in 89 (by decide +kernel) rfl, List.forall_mem_cons.mpr ⟨gW_in 91 (by decide +kernel) rfl, List.forall_mem_cons.mpr ⟨gW_in 93 (by decide +kernel) rfl, List.forall_mem_cons.mpr ⟨gW_in 95 (by decide +kernel) rfl, List.forall_mem_cons.mpr ⟨gW_in 97 (by decide +kernel) rfl, List.forall_mem_cons.mpr ⟨gW_in 99 (by decide +kernel) rfl, fun _ h => absurd h List.not_mem_nil⟩⟩⟩⟩⟩⟩⟩⟩⟩⟩⟩
theorem inX2 : ∀ w ∈ u_ws RX2 TX2 4, w ∈ gW := List.forall_mem_cons.mpr ⟨gW_in 208 (by decide +kernel) rfl, List.forall_mem_cons.mpr ⟨gW_in 210 (by decide +kernel) rfl, List.forall_mem_cons.mpr ⟨gW_in 212 (by decide +kernel) rfl, List.forall_mem_cons.mpr ⟨gW_in 214 (by decide +kernel) rfl, fun _ h => absurd h List.not_mem_nil⟩⟩⟩⟩
theorem inX3 : ∀ w ∈ u_ws RX3 TX3 6, w ∈ gW := List.forall_mem_cons.mpr ⟨gW_in 180 (by decide +kernel) rfl, List.forall_mem_cons.mpr ⟨gW_in 182 (by decide +kernel) rfl, List.forall_mem_cons.mpr ⟨gW_in 184 (by decide +kernel) rfl, List.forall_mem_cons.mpr ⟨gW_in 186 (by decide +kernel) rfl, List.forall_mem_cons.mpr ⟨gW_in 188 (by decide +kernel) rfl, List.forall_mem_cons.mpr ⟨gW_in 190 (by decide +kernel) rfl, fun _ h => absurd h List.not_mem_nil⟩⟩⟩⟩⟩⟩
theorem inX4 : ∀ w ∈ u_ws RX4 TX4 7, w ∈ gW := List.forall_mem_cons.mpr ⟨gW_in 127 (by decide +kernel) rfl, List.forall_mem_cons.mpr ⟨gW_in 129 (by decide +kernel) rfl, List.forall_mem_cons.mpr ⟨gW_in 131 (by decide +kernel) rfl, List.forall_mem_cons.mpr ⟨gW_in 133 (by decide +kernel) rfl, List.forall_mem_cons.mpr ⟨gW_in 135 (by decide +kernel) rfl, List.forall_mem_cons.mpr ⟨gW_in 137 (by decide +kernel) rfl, List.forall_mem_cons.mpr ⟨gW_in 139 (by decide +kernel) rfl, fun _ h => absurd h List.not_mem_nil⟩⟩⟩⟩⟩⟩⟩
theorem inX5 : ∀ w ∈ u_ws RX5 TX5 6, w ∈ gW := List.forall_mem_cons.mpr ⟨gW_in 223 (by decide +kernel) rfl, List.forall_mem_cons.mpr ⟨gW_in 225 (by decide +kernel) rfl, List.forall_mem_cons.mpr ⟨gW_in 227 (by decide +kernel) rfl, List.forall_mem_cons.mpr ⟨gW_in 229 (by decide +kernel) rfl, List.forall_mem_cons.mpr ⟨gW_in 231 (by decide +kernel) rfl, List.forall_mem_cons.mpr ⟨gW_in 233 (by decide +kernel) rfl, fun _ h => absurd h List.not_mem_nil⟩⟩⟩⟩⟩⟩
theorem inX6 : ∀ w ∈ u_ws RX6 TX6 22, w ∈ gW := List.forall_mem_cons.mpr ⟨gW_in 558 (by decide +kernel) rfl, List.forall_mem_cons.mpr ⟨gW_in 560 (by decide +kernel) rfl, List.forall_mem_cons.mpr ⟨gW_in 562 (by decide +kernel) rfl, List.forall_mem_cons.mpr ⟨gW_in 564 (by decide +kernel) rfl, List.forall_mem_cons.mpr ⟨gW_in 566 (by decide +kernel) rfl, List.forall_mem_cons.mpr ⟨gW_in 568 (by decide +kernel) rfl, List.forall_mem_cons.mpr ⟨gW_in 570 (by decide +kernel) rfl, List.forall_mem_cons.mpr ⟨gW_in 572 (by decide +kernel) rfl, List.forall_mem_cons.mpr ⟨gW_in 574 (by decide +kernel) rfl, List.forall_mem_cons.mpr ⟨gW_in 576 (by decide +kernel) rfl, List.forall_mem_cons.mpr ⟨gW_in 578 (by decide +kernel) rfl, List.forall_mem_cons.mpr ⟨gW_in 580 (by decide +kernel) rfl, List.forall_mem_cons.mpr ⟨gW_in 582 (by decide +kernel) rfl, List.forall_mem_cons.mpr ⟨gW_in 584 (by decide +kernel) rfl, List.forall_mem_cons.mpr ⟨gW_in 586 (by decide +kernel) rfl, List.forall_mem_cons.mpr ⟨gW_in 588 (by decide +kernel) rfl, List.forall_mem_cons.mpr ⟨gW_in 590 (by decide +kernel) rfl, List.forall_mem_cons.mpr ⟨gW_in 592 (by decide +kernel) rfl, List.forall_mem_cons.mpr ⟨gW_in 594 (by decide +kernel) rfl, List.forall_mem_cons.mpr ⟨gW_in 596 (by decide +kernel) rfl, List.forall_mem_cons.mpr ⟨gW_in 598 (by decide +kernel) rfl, List.forall_mem_cons.mpr ⟨gW_in 600 (by decide +kernel) rfl, fun _ h => absurd h List.not_mem_nil⟩⟩⟩⟩⟩⟩⟩⟩⟩⟩⟩⟩⟩⟩⟩⟩⟩⟩⟩⟩⟩⟩
theorem fX0_keep : ag_fV yX0_keep cX0_keep 2 none 1 := ⟨k_263, k_261, k_262, k_31, by decide, by decide, by decide +kernel⟩
theorem fX0_giveBack : ag_fV yX0_giveBack cX0_giveBack 2 none 1 := ⟨k_474, k_472, k_473, k_31, by decide, by decide, by decide +kernel⟩
theorem fX0_rowOf : ag_fV yX0_rowOf cX0_rowOf 2 (some .int) 1 := ⟨k_267, k_266, k_1, k_31, by decide, by decide, by decide +kernel⟩
theorem fX1_copyFrom : ag_fV yX1_copyFrom cX1_copyFrom 2 none 1 := ⟨k_243, k_241, k_242, k_29, by decide, by decide, by decide +kernel⟩
theorem fX1_level : ag_fV yX1_level cX1_level 1 (some .int) 0 := ⟨k_325, k_323, k_324, k_29, by decide, by decide, by decide +kernel⟩
theorem fX1_head : ag_fV yX1_head cX1_head 1 (some .int) 0 := ⟨k_315, k_313, k_314, k_29, by decide, by decide, by decide +kernel⟩
theorem fX1_isBirdHour : ag_fV yX1_isBirdHour cX1_isBirdHour 2 (some .boolean) 0 := ⟨k_336, k_334, k_335, k_29, by decide, by decide, by decide +kernel⟩
theorem fX1_gain : ag_fV yX1_gain cX1_gain 1 (some .int) 0 := ⟨k_439, k_437, k_438, k_29, by decide, by decide, by decide +kernel⟩
theorem fX1_lastDay : ag_fV yX1_lastDay cX1_lastDay 1 (some .int) 0 := ⟨k_407, k_405, k_406, k_29, by decide, by decide, by decide +kernel⟩
theorem fX1_firstDay : ag_fV yX1_firstDay cX1_firstDay 1 (some .int) 0 := ⟨k_403, k_401, k_402, k_29, by decide, by decide, by decide +kernel⟩
theorem fX1_openGates : ag_fV yX1_openGates cX1_openGates 3 (some .int) 1 := ⟨k_250, k_248, k_249, k_29, by decide, by decide, by decide +kernel⟩
theorem fX1_openTurbines : ag_fV yX1_openTurbines cX1_openTurbines 3 (some .int) 1 := ⟨k_279, k_277, k_278, k_29, by decide, by decide, by decide +kernel⟩
theorem fX1_setPump : ag_fV yX1_setPump cX1_setPump 3 (some .int) 1 := ⟨k_287, k_285, k_286, k_29, by decide, by decide, by decide +kernel⟩
theorem fX1_setBirds : ag_fV yX1_setBirds cX1_setBirds 3 (some .int) 2 := ⟨k_295, k_293, k_294, k_29, by decide, by decide, by decide +kernel⟩
theorem fX1_runTicks : ag_fV yX1_runTicks cX1_runTicks 3 (some .int) 2 := ⟨k_306, k_304, k_305, k_29, by decide, by decide, by decide +kernel⟩
theorem fX1_dredgeSilt : ag_fV yX1_dredgeSilt cX1_dredgeSilt 2 (some .int) 1 := ⟨k_370, k_368, k_369, k_29, by decide, by decide, by decide +kernel⟩
theorem fX1_changeSetting : ag_fV yX1_changeSetting cX1_changeSetting 4 (some .int) 2 := ⟨k_379, k_377, k_378, k_29, by decide, by decide, by decide +kernel⟩
theorem fX1_letPass : ag_fV yX1_letPass cX1_letPass 4 none 2 := ⟨k_311, k_309, k_310, k_29, by decide, by decide, by decide +kernel⟩
theorem fX1_take : ag_fV yX1_take cX1_take 2 none 1 := ⟨k_349, k_348, k_3, k_29, by decide, by decide, by decide +kernel⟩
theorem fX1_enterRecord : ag_fV yX1_enterRecord cX1_enterRecord 4 none 1 := ⟨k_353, k_352, k_4, k_29, by decide, by decide, by decide +kernel⟩
theorem fX1_beginRecord : ag_fV yX1_beginRecord cX1_beginRecord 3 none 2 := ⟨k_361, k_360, k_5, k_29, by decide, by decide, by decide +kernel⟩
theorem fX2_perform : ag_fV yX2_perform cX2_perform 6 none 3 := ⟨k_495, k_493, k_494, k_33, by decide, by decide, by decide +kernel⟩
theorem fX2_obey : ag_fS yX2_obey cX2_obey 3 (some .int) 3 := ⟨k_518, k_517, k_33, by decide, by decide, by decide +kernel⟩
theorem fX3_append : ag_fV yX3_append cX3_append 2 none 1 := ⟨k_483, k_481, k_482, k_32, by decide, by decide, by decide +kernel⟩
theorem fX3_readOrder : ag_fV yX3_readOrder cX3_readOrder 1 (some .boolean) 0 := ⟨k_499, k_497, k_498, k_32, by decide, by decide, by decide +kernel⟩
theorem fX3_isKind : ag_fS yX3_isKind cX3_isKind 1 (some .boolean) 1 := ⟨k_506, k_505, k_32, by decide, by decide, by decide +kernel⟩
theorem fX3_characterHere : ag_fV yX3_characterHere cX3_characterHere 1 (some .char) 0 := ⟨k_503, k_502, k_8, k_32, by decide, by decide, by decide +kernel⟩
theorem fX3_skip : ag_fV yX3_skip cX3_skip 2 (some .boolean) 1 := ⟨k_515, k_514, k_10, k_32, by decide, by decide, by decide +kernel⟩
theorem fX3_readNumber : ag_fV yX3_readNumber cX3_readNumber 4 (some .int) 0 := ⟨k_510, k_509, k_9, k_32, by decide, by decide, by decide +kernel⟩
theorem fX4_foresee : ag_fV yX4_foresee cX4_foresee 6 none 2 := ⟨k_329, k_327, k_328, k_30, by decide, by decide, by decide +kernel⟩
theorem fX4_siltOf : ag_fV yX4_siltOf cX4_siltOf 2 (some .int) 1 := ⟨k_345, k_344, k_2, k_30, by decide, by decide, by decide +kernel⟩
theorem fX5_gates : ag_fV yX5_gates cX5_gates 2 (some .int) 1 := ⟨k_239, k_237, k_238, k_28, by decide, by decide, by decide +kernel⟩
theorem fX5_turbines : ag_fV yX5_turbines cX5_turbines 2 (some .int) 1 := ⟨k_275, k_273, k_274, k_28, by decide, by decide, by decide +kernel⟩
theorem fX5_pump : ag_fV yX5_pump cX5_pump 2 (some .int) 1 := ⟨k_283, k_281, k_282, k_28, by decide, by decide, by decide +kernel⟩
theorem fX5_birds : ag_fV yX5_birds cX5_birds 3 (some .int) 2 := ⟨k_291, k_289, k_290, k_28, by decide, by decide, by decide +kernel⟩
theorem fX5_run : ag_fV yX5_run cX5_run 2 (some .int) 1 := ⟨k_302, k_300, k_301, k_28, by decide, by decide, by decide +kernel⟩
theorem fX5_dredge : ag_fV yX5_dredge cX5_dredge 2 (some .int) 1 := ⟨k_366, k_364, k_365, k_28, by decide, by decide, by decide +kernel⟩
theorem fX5_set : ag_fV yX5_set cX5_set 3 (some .int) 2 := ⟨k_375, k_373, k_374, k_28, by decide, by decide, by decide +kernel⟩
theorem fX5_sea : ag_fV yX5_sea cX5_sea 2 (some .int) 1 := ⟨k_387, k_385, k_386, k_28, by decide, by decide, by decide +kernel⟩
theorem fX5_now : ag_fV yX5_now cX5_now 2 (some .int) 1 := ⟨k_392, k_390, k_391, k_28, by decide, by decide, by decide +kernel⟩
theorem fX5_record : ag_fV yX5_record cX5_record 3 (some .int) 2 := ⟨k_399, k_397, k_398, k_28, by decide, by decide, by decide +kernel⟩
theorem fX5_next : ag_fV yX5_next cX5_next 2 (some .int) 1 := ⟨k_417, k_415, k_416, k_28, by decide, by decide, by decide +kernel⟩
theorem fX5_would : ag_fV yX5_would cX5_would 3 (some .int) 2 := ⟨k_422, k_420, k_421, k_28, by decide, by decide, by decide +kernel⟩
theorem fX5_seaAt : ag_fV yX5_seaAt cX5_seaAt 3 (some .int) 1 := ⟨k_427, k_425, k_426, k_28, by decide, by decide, by decide +kernel⟩
theorem fX5_best : ag_fV yX5_best cX5_best 7 (some .int) 2 := ⟨k_431, k_429, k_430, k_28, by decide, by decide, by decide +kernel⟩
theorem fX5_gatesFor : ag_fV yX5_gatesFor cX5_gatesFor 7 (some .int) 2 := ⟨k_443, k_441, k_442, k_28, by decide, by decide, by decide +kernel⟩
theorem fX5_bestDay : ag_fV yX5_bestDay cX5_bestDay 6 (some .int) 0 := ⟨k_452, k_450, k_451, k_28, by decide, by decide, by decide +kernel⟩
theorem fX5_share : ag_fV yX5_share cX5_share 2 (some .int) 0 := ⟨k_456, k_454, k_455, k_28, by decide, by decide, by decide +kernel⟩
theorem fX5_count : ag_fV yX5_count cX5_count 2 (some .int) 1 := ⟨k_465, k_463, k_464, k_28, by decide, by decide, by decide +kernel⟩
theorem fX5_undo : ag_fV yX5_undo cX5_undo 1 (some .int) 0 := ⟨k_469, k_467, k_468, k_28, by decide, by decide, by decide +kernel⟩
theorem fX5_type : ag_fV yX5_type cX5_type 2 (some .int) 1 := ⟨k_478, k_476, k_477, k_28, by decide, by decide, by decide +kernel⟩
theorem fX5_clearText : ag_fV yX5_clearText cX5_clearText 2 (some .int) 0 := ⟨k_487, k_485, k_486, k_28, by decide, by decide, by decide +kernel⟩
theorem fX5_fault : ag_fV yX5_fault cX5_fault 2 (some .int) 1 := ⟨k_491, k_489, k_490, k_28, by decide, by decide, by decide +kernel⟩
theorem fX5_play : ag_fV yX5_play cX5_play 1 (some .int) 0 := ⟨k_528, k_526, k_527, k_28, by decide, by decide, by decide +kernel⟩
theorem fX5_settle : ag_fV yX5_settle cX5_settle 2 (some .int) 1 := ⟨k_255, k_254, k_0, k_28, by decide, by decide, by decide +kernel⟩
theorem fX5_gainWith : ag_fV yX5_gainWith cX5_gainWith 3 (some .int) 2 := ⟨k_435, k_434, k_6, k_28, by decide, by decide, by decide +kernel⟩
theorem fX5_levelWith : ag_fV yX5_levelWith cX5_levelWith 3 (some .int) 2 := ⟨k_447, k_446, k_7, k_28, by decide, by decide, by decide +kernel⟩
theorem fX5_isError : ag_fS yX5_isError cX5_isError 1 (some .boolean) 1 := ⟨k_258, k_257, k_28, by decide, by decide, by decide +kernel⟩
theorem fX5_tideHeight : ag_fS yX5_tideHeight cX5_tideHeight 2 (some .int) 1 := ⟨k_321, k_320, k_28, by decide, by decide, by decide +kernel⟩
theorem fX5_seaLevel : ag_fS yX5_seaLevel cX5_seaLevel 3 (some .int) 1 := ⟨k_318, k_317, k_28, by decide, by decide, by decide +kernel⟩
theorem fX5_recordStart : ag_fS yX5_recordStart cX5_recordStart 1 (some .int) 1 := ⟨k_356, k_355, k_28, by decide, by decide, by decide +kernel⟩
theorem fX5_floatBits : ag_fS yX5_floatBits cX5_floatBits 4 (some .int) 1 := ⟨k_459, k_458, k_28, by decide, by decide, by decide +kernel⟩
theorem fX6_in : ag_fS yX6_in cX6_in 3 (some .boolean) 3 := ⟨k_609, k_608, k_34, by decide, by decide, by decide +kernel⟩
theorem fX6_size : ag_fS yX6_size cX6_size 1 (some .int) 1 := ⟨k_660, k_659, k_34, by decide, by decide, by decide +kernel⟩
theorem fX6_copies : ag_fS yX6_copies cX6_copies 3 none 2 := ⟨k_713, k_712, k_34, by decide, by decide, by decide +kernel⟩
theorem fX6_changes : ag_fV yX6_changes cX6_changes 2 none 0 := ⟨k_617, k_616, k_12, k_34, by decide, by decide, by decide +kernel⟩
theorem fX6_sets : ag_fV yX6_sets cX6_sets 4 (some .int) 2 := ⟨k_613, k_612, k_11, k_34, by decide, by decide, by decide +kernel⟩
theorem fX6_gates : ag_fV yX6_gates cX6_gates 2 (some .int) 1 := ⟨k_606, k_604, k_605, k_34, by decide, by decide, by decide +kernel⟩
theorem fX6_turbines : ag_fV yX6_turbines cX6_turbines 2 (some .int) 1 := ⟨k_622, k_620, k_621, k_34, by decide, by decide, by decide +kernel⟩
theorem fX6_pump : ag_fV yX6_pump cX6_pump 2 (some .int) 1 := ⟨k_626, k_624, k_625, k_34, by decide, by decide, by decide +kernel⟩
theorem fX6_birds : ag_fV yX6_birds cX6_birds 3 (some .int) 2 := ⟨k_630, k_628, k_629, k_34, by decide, by decide, by decide +kernel⟩
theorem fX6_tide : ag_fS yX6_tide cX6_tide 1 (some .int) 1 := ⟨k_657, k_656, k_34, by decide, by decide, by decide +kernel⟩
theorem fX6_seaLevel : ag_fS yX6_seaLevel cX6_seaLevel 3 (some .int) 1 := ⟨k_654, k_653, k_34, by decide, by decide, by decide +kernel⟩
theorem fX6_level : ag_fV yX6_level cX6_level 1 (some .int) 0 := ⟨k_664, k_663, k_17, k_34, by decide, by decide, by decide +kernel⟩
theorem fX6_head : ag_fV yX6_head cX6_head 1 (some .int) 0 := ⟨k_651, k_650, k_16, k_34, by decide, by decide, by decide +kernel⟩
theorem fX6_isBirds : ag_fV yX6_isBirds cX6_isBirds 1 (some .boolean) 0 := ⟨k_668, k_667, k_18, k_34, by decide, by decide, by decide +kernel⟩
theorem fX6_weighs : ag_fV yX6_weighs cX6_weighs 4 none 0 := ⟨k_647, k_646, k_15, k_34, by decide, by decide, by decide +kernel⟩
theorem fX6_recordOf : ag_fV yX6_recordOf cX6_recordOf 3 (some .int) 1 := ⟨k_677, k_676, k_20, k_34, by decide, by decide, by decide +kernel⟩
theorem fX6_opens : ag_fV yX6_opens cX6_opens 5 (some .int) 1 := ⟨k_673, k_672, k_19, k_34, by decide, by decide, by decide +kernel⟩
theorem fX6_tick : ag_fV yX6_tick cX6_tick 3 none 0 := ⟨k_643, k_642, k_14, k_34, by decide, by decide, by decide +kernel⟩
theorem fX6_ticks : ag_fV yX6_ticks cX6_ticks 3 none 1 := ⟨k_639, k_638, k_13, k_34, by decide, by decide, by decide +kernel⟩
theorem fX6_run : ag_fV yX6_run cX6_run 2 (some .int) 1 := ⟨k_634, k_632, k_633, k_34, by decide, by decide, by decide +kernel⟩
theorem fX6_dredge : ag_fV yX6_dredge cX6_dredge 2 (some .int) 1 := ⟨k_682, k_680, k_681, k_34, by decide, by decide, by decide +kernel⟩
theorem fX6_mostOf : ag_fS yX6_mostOf cX6_mostOf 1 (some .int) 1 := ⟨k_690, k_689, k_34, by decide, by decide, by decide +kernel⟩
theorem fX6_set : ag_fV yX6_set cX6_set 3 (some .int) 2 := ⟨k_687, k_685, k_686, k_34, by decide, by decide, by decide +kernel⟩
theorem fX6_sea : ag_fV yX6_sea cX6_sea 2 (some .int) 1 := ⟨k_694, k_692, k_693, k_34, by decide, by decide, by decide +kernel⟩
theorem fX6_now : ag_fV yX6_now cX6_now 2 (some .int) 1 := ⟨k_698, k_696, k_697, k_34, by decide, by decide, by decide +kernel⟩
theorem fX6_record : ag_fV yX6_record cX6_record 4 (some .int) 2 := ⟨k_702, k_700, k_701, k_34, by decide, by decide, by decide +kernel⟩
theorem fX6_next : ag_fV yX6_next cX6_next 2 (some .int) 1 := ⟨k_706, k_704, k_705, k_34, by decide, by decide, by decide +kernel⟩
theorem fX6_would : ag_fV yX6_would cX6_would 4 (some .int) 2 := ⟨k_710, k_708, k_709, k_34, by decide, by decide, by decide +kernel⟩
theorem fX6_seaAt : ag_fV yX6_seaAt cX6_seaAt 3 (some .int) 1 := ⟨k_717, k_715, k_716, k_34, by decide, by decide, by decide +kernel⟩
theorem fX6_best : ag_fV yX6_best cX6_best 8 (some .int) 2 := ⟨k_721, k_719, k_720, k_34, by decide, by decide, by decide +kernel⟩
theorem fX6_gatesFor : ag_fV yX6_gatesFor cX6_gatesFor 8 (some .int) 2 := ⟨k_725, k_723, k_724, k_34, by decide, by decide, by decide +kernel⟩
theorem fX6_bestDay : ag_fV yX6_bestDay cX6_bestDay 3 (some .int) 0 := ⟨k_729, k_727, k_728, k_34, by decide, by decide, by decide +kernel⟩
theorem fX6_share : ag_fV yX6_share cX6_share 2 (some .int) 0 := ⟨k_733, k_731, k_732, k_34, by decide, by decide, by decide +kernel⟩
theorem fX6_count : ag_fV yX6_count cX6_count 2 (some .int) 1 := ⟨k_747, k_745, k_746, k_34, by decide, by decide, by decide +kernel⟩
theorem fX6_undo : ag_fV yX6_undo cX6_undo 2 (some .int) 0 := ⟨k_751, k_749, k_750, k_34, by decide, by decide, by decide +kernel⟩
theorem fX6_type : ag_fV yX6_type cX6_type 2 (some .int) 1 := ⟨k_755, k_753, k_754, k_34, by decide, by decide, by decide +kernel⟩
theorem fX6_clearText : ag_fV yX6_clearText cX6_clearText 2 (some .int) 0 := ⟨k_759, k_757, k_758, k_34, by decide, by decide, by decide +kernel⟩
theorem fX6_isAt : ag_fV yX6_isAt cX6_isAt 3 (some .boolean) 2 := ⟨k_775, k_774, k_23, k_34, by decide, by decide, by decide +kernel⟩
theorem fX6_sign : ag_fV yX6_sign cX6_sign 3 (some .boolean) 1 := ⟨k_786, k_785, k_25, k_34, by decide, by decide, by decide +kernel⟩
theorem fX6_numbered : ag_fV yX6_numbered cX6_numbered 3 (some .boolean) 1 := ⟨k_782, k_781, k_24, k_34, by decide, by decide, by decide +kernel⟩
theorem fX6_numbersOf : ag_fS yX6_numbersOf cX6_numbersOf 1 (some .int) 1 := ⟨k_778, k_777, k_34, by decide, by decide, by decide +kernel⟩
theorem fX6_reads : ag_fV yX6_reads cX6_reads 3 (some .boolean) 0 := ⟨k_771, k_770, k_22, k_34, by decide, by decide, by decide +kernel⟩
theorem fX6_calls : ag_fV yX6_calls cX6_calls 1 (some .int) 0 := ⟨k_790, k_789, k_26, k_34, by decide, by decide, by decide +kernel⟩
theorem fX6_plays : ag_fV yX6_plays cX6_plays 4 (some .boolean) 0 := ⟨k_767, k_766, k_21, k_34, by decide, by decide, by decide +kernel⟩
theorem fX6_fault : ag_fV yX6_fault cX6_fault 3 (some .int) 1 := ⟨k_763, k_761, k_762, k_34, by decide, by decide, by decide +kernel⟩
theorem fX6_play : ag_fV yX6_play cX6_play 2 (some .int) 0 := ⟨k_799, k_797, k_798, k_34, by decide, by decide, by decide +kernel⟩
theorem fJxf58ca_isNaN_12338 : ag_fS yJxf58ca_isNaN_12338 cJxf58ca_isNaN_12338 1 (some .boolean) 1 := ⟨k_739, k_738, k_37, by decide, by decide, by decide +kernel⟩
theorem fJxf58ca_floatToIntBits_5c35a : ag_fS yJxf58ca_floatToIntBits_5c35a cJxf58ca_floatToIntBits_5c35a 1 (some .int) 1 := ⟨k_736, k_735, k_37, by decide, by decide, by decide +kernel⟩
theorem fJ9_floorDiv_7cf53 : ag_fS yJ9_floorDiv_7cf53 cJ9_floorDiv_7cf53 3 (some .int) 2 := ⟨k_410, k_409, k_36, by decide, by decide, by decide +kernel⟩
theorem fJ9_floorMod_7cf53 : ag_fS yJ9_floorMod_7cf53 cJ9_floorMod_7cf53 3 (some .int) 2 := ⟨k_270, k_269, k_36, by decide, by decide, by decide +kernel⟩
theorem fJ9_abs_0f7a4 : ag_fS yJ9_abs_0f7a4 Lib.Math.abs.code 1 (some .int) 1 := ⟨k_332, k_331, k_36, by decide, by decide, by decide +kernel⟩
theorem fJ9_max_7cf53 : ag_fS yJ9_max_7cf53 Lib.Math.max.code 2 (some .int) 2 := ⟨k_298, k_297, k_36, by decide, by decide, by decide +kernel⟩
theorem fJ9_min_7cf53 : ag_fS yJ9_min_7cf53 Lib.Math.min.code 2 (some .int) 2 := ⟨k_340, k_339, k_36, by decide, by decide, by decide +kernel⟩
end
section
/-! the instructions -/
theorem dX0_init_0 : decode cX0_init 0 = .ok (.aload_n 0, 1) := by decide +kernel
theorem dX0_init_1 : decode cX0_init 1 = .ok (.invokespecial 3, 3) := by decide +kernel
theorem dX0_init_4 : decode cX0_init 4 = .ok (.aload_n 0, 1) := by decide +kernel
theorem dX0_init_5 : decode cX0_init 5 = .ok (.iconst 4, 1) := by decide +kernel
theorem dX0_init_6 : decode cX0_init 6 = .ok (.anewarray 9, 3) := by decide +kernel
theorem dX0_init_9 : decode cX0_init 9 = .ok (.dup, 1) := by decide +kernel
theorem dX0_init_10 : decode cX0_init 10 = .ok (.iconst 0, 1) := by decide +kernel
theorem dX0_init_11 : decode cX0_init 11 = .ok (.new 9, 3) := by decide +kernel
theorem dX0_init_14 : decode cX0_init 14 = .ok (.dup, 1) := by decide +kernel
theorem dX0_init_15 : decode cX0_init 15 = .ok (.invokespecial 11, 3) := by decide +kernel
theorem dX0_init_18 : decode cX0_init 18 = .ok (.aastore, 1) := by decide +kernel
theorem dX0_init_19 : decode cX0_init 19 = .ok (.dup, 1) := by decide +kernel
theorem dX0_init_20 : decode cX0_init 20 = .ok (.iconst 1, 1) := by decide +kernel
theorem dX0_init_21 : decode cX0_init 21 = .ok (.new 9, 3) := by decide +kernel
theorem dX0_init_24 : decode cX0_init 24 = .ok (.dup, 1) := by decide +kernel
theorem dX0_init_25 : decode cX0_init 25 = .ok (.invokespecial 11, 3) := by decide +kernel
theorem dX0_init_28 : decode cX0_init 28 = .ok (.aastore, 1) := by decide +kernel
theorem dX0_init_29 : decode cX0_init 29 = .ok (.dup, 1) := by decide +kernel
theorem dX0_init_30 : decode cX0_init 30 = .ok (.iconst 2, 1) := by decide +kernel
theorem dX0_init_31 : decode cX0_init 31 = .ok (.new 9, 3) := by decide +kernel
theorem dX0_init_34 : decode cX0_init 34 = .ok (.dup, 1) := by decide +kernel
theorem dX0_init_35 : decode cX0_init 35 = .ok (.invokespecial 11, 3) := by decide +kernel
theorem dX0_init_38 : decode cX0_init 38 = .ok (.aastore, 1) := by decide +kernel
theorem dX0_init_39 : decode cX0_init 39 = .ok (.dup, 1) := by decide +kernel
theorem dX0_init_40 : decode cX0_init 40 = .ok (.iconst 3, 1) := by decide +kernel
theorem dX0_init_41 : decode cX0_init 41 = .ok (.new 9, 3) := by decide +kernel
theorem dX0_init_44 : decode cX0_init 44 = .ok (.dup, 1) := by decide +kernel
theorem dX0_init_45 : decode cX0_init 45 = .ok (.invokespecial 11, 3) := by decide +kernel
theorem dX0_init_48 : decode cX0_init 48 = .ok (.aastore, 1) := by decide +kernel
theorem dX0_init_49 : decode cX0_init 49 = .ok (.putfield 12, 3) := by decide +kernel
theorem dX0_init_52 : decode cX0_init 52 = .ok (.return_, 1) := by decide +kernel
theorem dX0_keep_0 : decode cX0_keep 0 = .ok (.aload_n 0, 1) := by decide +kernel
theorem dX0_keep_1 : decode cX0_keep 1 = .ok (.getfield 12, 3) := by decide +kernel
theorem dX0_keep_4 : decode cX0_keep 4 = .ok (.aload_n 0, 1) := by decide +kernel
theorem dX0_keep_5 : decode cX0_keep 5 = .ok (.aload_n 0, 1) := by decide +kernel
theorem dX0_keep_6 : decode cX0_keep 6 = .ok (.getfield 18, 3) := by decide +kernel
theorem dX0_keep_9 : decode cX0_keep 9 = .ok (.invokevirtual 22, 3) := by decide +kernel
theorem dX0_keep_12 : decode cX0_keep 12 = .ok (.aaload, 1) := by decide +kernel
theorem dX0_keep_13 : decode cX0_keep 13 = .ok (.aload_n 1, 1) := by decide +kernel
theorem dX0_keep_14 : decode cX0_keep 14 = .ok (.invokevirtual 26, 3) := by decide +kernel
theorem dX0_keep_17 : decode cX0_keep 17 = .ok (.aload_n 0, 1) := by decide +kernel
theorem dX0_keep_18 : decode cX0_keep 18 = .ok (.getfield 18, 3) := by decide +kernel
theorem dX0_keep_21 : decode cX0_keep 21 = .ok (.iconst 4, 1) := by decide +kernel
theorem dX0_keep_22 : decode cX0_keep 22 = .ok (.if_icmp .ge 16, 3) := by decide +kernel
theorem dX0_keep_25 : decode cX0_keep 25 = .ok (.aload_n 0, 1) := by decide +kernel
theorem dX0_keep_26 : decode cX0_keep 26 = .ok (.dup, 1) := by decide +kernel
theorem dX0_keep_27 : decode cX0_keep 27 = .ok (.getfield 18, 3) := by decide +kernel
theorem dX0_keep_30 : decode cX0_keep 30 = .ok (.iconst 1, 1) := by decide +kernel
theorem dX0_keep_31 : decode cX0_keep 31 = .ok (.iadd, 1) := by decide +kernel
theorem dX0_keep_32 : decode cX0_keep 32 = .ok (.putfield 18, 3) := by decide +kernel
theorem dX0_keep_35 : decode cX0_keep 35 = .ok (.goto 12, 3) := by decide +kernel
theorem dX0_keep_38 : decode cX0_keep 38 = .ok (.aload_n 0, 1) := by decide +kernel
theorem dX0_keep_39 : decode cX0_keep 39 = .ok (.aload_n 0, 1) := by decide +kernel
theorem dX0_keep_40 : decode cX0_keep 40 = .ok (.iconst 1, 1) := by decide +kernel
theorem dX0_keep_41 : decode cX0_keep 41 = .ok (.invokevirtual 22, 3) := by decide +kernel
theorem dX0_keep_44 : decode cX0_keep 44 = .ok (.putfield 30, 3) := by decide +kernel
theorem dX0_keep_47 : decode cX0_keep 47 = .ok (.return_, 1) := by decide +kernel
theorem dX0_giveBack_0 : decode cX0_giveBack 0 = .ok (.aload_n 0, 1) := by decide +kernel
theorem dX0_giveBack_1 : decode cX0_giveBack 1 = .ok (.getfield 18, 3) := by decide +kernel
theorem dX0_giveBack_4 : decode cX0_giveBack 4 = .ok (.ifCond .le 30, 3) := by decide +kernel
theorem dX0_giveBack_7 : decode cX0_giveBack 7 = .ok (.aload_n 0, 1) := by decide +kernel
theorem dX0_giveBack_8 : decode cX0_giveBack 8 = .ok (.dup, 1) := by decide +kernel
theorem dX0_giveBack_9 : decode cX0_giveBack 9 = .ok (.getfield 18, 3) := by decide +kernel
theorem dX0_giveBack_12 : decode cX0_giveBack 12 = .ok (.iconst 1, 1) := by decide +kernel
theorem dX0_giveBack_13 : decode cX0_giveBack 13 = .ok (.isub, 1) := by decide +kernel
theorem dX0_giveBack_14 : decode cX0_giveBack 14 = .ok (.putfield 18, 3) := by decide +kernel
theorem dX0_giveBack_17 : decode cX0_giveBack 17 = .ok (.aload_n 1, 1) := by decide +kernel
theorem dX0_giveBack_18 : decode cX0_giveBack 18 = .ok (.aload_n 0, 1) := by decide +kernel
theorem dX0_giveBack_19 : decode cX0_giveBack 19 = .ok (.getfield 12, 3) := by decide +kernel
theorem dX0_giveBack_22 : decode cX0_giveBack 22 = .ok (.aload_n 0, 1) := by decide +kernel
theorem dX0_giveBack_23 : decode cX0_giveBack 23 = .ok (.aload_n 0, 1) := by decide +kernel
theorem dX0_giveBack_24 : decode cX0_giveBack 24 = .ok (.getfield 18, 3) := by decide +kernel
theorem dX0_giveBack_27 : decode cX0_giveBack 27 = .ok (.invokevirtual 22, 3) := by decide +kernel
theorem dX0_giveBack_30 : decode cX0_giveBack 30 = .ok (.aaload, 1) := by decide +kernel
theorem dX0_giveBack_31 : decode cX0_giveBack 31 = .ok (.invokevirtual 26, 3) := by decide +kernel
theorem dX0_giveBack_34 : decode cX0_giveBack 34 = .ok (.return_, 1) := by decide +kernel
theorem dX0_rowOf_0 : decode cX0_rowOf 0 = .ok (.aload_n 0, 1) := by decide +kernel
theorem dX0_rowOf_1 : decode cX0_rowOf 1 = .ok (.getfield 30, 3) := by decide +kernel
theorem dX0_rowOf_4 : decode cX0_rowOf 4 = .ok (.iload_n 1, 1) := by decide +kernel
theorem dX0_rowOf_5 : decode cX0_rowOf 5 = .ok (.iadd, 1) := by decide +kernel
theorem dX0_rowOf_6 : decode cX0_rowOf 6 = .ok (.iconst 4, 1) := by decide +kernel
theorem dX0_rowOf_7 : decode cX0_rowOf 7 = .ok (.invokestatic 33, 3) := by decide +kernel
theorem dX0_rowOf_10 : decode cX0_rowOf 10 = .ok (.ireturn, 1) := by decide +kernel
theorem dX1_init_0 : decode cX1_init 0 = .ok (.aload_n 0, 1) := by decide +kernel
theorem dX1_init_1 : decode cX1_init 1 = .ok (.invokespecial 3, 3) := by decide +kernel
theorem dX1_init_4 : decode cX1_init 4 = .ok (.aload_n 0, 1) := by decide +kernel
theorem dX1_init_5 : decode cX1_init 5 = .ok (.ldc 9, 2) := by decide +kernel
theorem dX1_init_7 : decode cX1_init 7 = .ok (.putfield 10, 3) := by decide +kernel
theorem dX1_init_10 : decode cX1_init 10 = .ok (.aload_n 0, 1) := by decide +kernel
theorem dX1_init_11 : decode cX1_init 11 = .ok (.iconst 3, 1) := by decide +kernel
theorem dX1_init_12 : decode cX1_init 12 = .ok (.newarray .int, 2) := by decide +kernel
theorem dX1_init_14 : decode cX1_init 14 = .ok (.dup, 1) := by decide +kernel
theorem dX1_init_15 : decode cX1_init 15 = .ok (.iconst 0, 1) := by decide +kernel
theorem dX1_init_16 : decode cX1_init 16 = .ok (.bipush 120, 2) := by decide +kernel
theorem dX1_init_18 : decode cX1_init 18 = .ok (.iastore, 1) := by decide +kernel
theorem dX1_init_19 : decode cX1_init 19 = .ok (.dup, 1) := by decide +kernel
theorem dX1_init_20 : decode cX1_init 20 = .ok (.iconst 1, 1) := by decide +kernel
theorem dX1_init_21 : decode cX1_init 21 = .ok (.bipush 40, 2) := by decide +kernel
theorem dX1_init_23 : decode cX1_init 23 = .ok (.iastore, 1) := by decide +kernel
theorem dX1_init_24 : decode cX1_init 24 = .ok (.dup, 1) := by decide +kernel
theorem dX1_init_25 : decode cX1_init 25 = .ok (.iconst 2, 1) := by decide +kernel
theorem dX1_init_26 : decode cX1_init 26 = .ok (.sipush 1500, 3) := by decide +kernel
theorem dX1_init_29 : decode cX1_init 29 = .ok (.iastore, 1) := by decide +kernel
theorem dX1_init_30 : decode cX1_init 30 = .ok (.putfield 16, 3) := by decide +kernel
theorem dX1_init_33 : decode cX1_init 33 = .ok (.aload_n 0, 1) := by decide +kernel
theorem dX1_init_34 : decode cX1_init 34 = .ok (.bipush 7, 2) := by decide +kernel
theorem dX1_init_36 : decode cX1_init 36 = .ok (.newarray .int, 2) := by decide +kernel
theorem dX1_init_38 : decode cX1_init 38 = .ok (.putfield 20, 3) := by decide +kernel
theorem dX1_init_41 : decode cX1_init 41 = .ok (.aload_n 0, 1) := by decide +kernel
theorem dX1_init_42 : decode cX1_init 42 = .ok (.bipush 60, 2) := by decide +kernel
theorem dX1_init_44 : decode cX1_init 44 = .ok (.newarray .int, 2) := by decide +kernel
theorem dX1_init_46 : decode cX1_init 46 = .ok (.putfield 23, 3) := by decide +kernel
theorem dX1_init_49 : decode cX1_init 49 = .ok (.return_, 1) := by decide +kernel
theorem dX1_copyFrom_0 : decode cX1_copyFrom 0 = .ok (.aload_n 0, 1) := by decide +kernel
theorem dX1_copyFrom_1 : decode cX1_copyFrom 1 = .ok (.aload_n 1, 1) := by decide +kernel
theorem dX1_copyFrom_2 : decode cX1_copyFrom 2 = .ok (.getfield 26, 3) := by decide +kernel
theorem dX1_copyFrom_5 : decode cX1_copyFrom 5 = .ok (.putfield 26, 3) := by decide +kernel
theorem dX1_copyFrom_8 : decode cX1_copyFrom 8 = .ok (.aload_n 0, 1) := by decide +kernel
theorem dX1_copyFrom_9 : decode cX1_copyFrom 9 = .ok (.aload_n 1, 1) := by decide +kernel
theorem dX1_copyFrom_10 : decode cX1_copyFrom 10 = .ok (.getfield 10, 3) := by decide +kernel
theorem dX1_copyFrom_13 : decode cX1_copyFrom 13 = .ok (.putfield 10, 3) := by decide +kernel
theorem dX1_copyFrom_16 : decode cX1_copyFrom 16 = .ok (.aload_n 0, 1) := by decide +kernel
theorem dX1_copyFrom_17 : decode cX1_copyFrom 17 = .ok (.aload_n 1, 1) := by decide +kernel
theorem dX1_copyFrom_18 : decode cX1_copyFrom 18 = .ok (.getfield 29, 3) := by decide +kernel
theorem dX1_copyFrom_21 : decode cX1_copyFrom 21 = .ok (.putfield 29, 3) := by decide +kernel
theorem dX1_copyFrom_24 : decode cX1_copyFrom 24 = .ok (.aload_n 0, 1) := by decide +kernel
theorem dX1_copyFrom_25 : decode cX1_copyFrom 25 = .ok (.aload_n 1, 1) := by decide +kernel
theorem dX1_copyFrom_26 : decode cX1_copyFrom 26 = .ok (.getfield 32, 3) := by decide +kernel
theorem dX1_copyFrom_29 : decode cX1_copyFrom 29 = .ok (.putfield 32, 3) := by decide +kernel
theorem dX1_copyFrom_32 : decode cX1_copyFrom 32 = .ok (.aload_n 0, 1) := by decide +kernel
theorem dX1_copyFrom_33 : decode cX1_copyFrom 33 = .ok (.aload_n 1, 1) := by decide +kernel
theorem dX1_copyFrom_34 : decode cX1_copyFrom 34 = .ok (.getfield 35, 3) := by decide +kernel
theorem dX1_copyFrom_37 : decode cX1_copyFrom 37 = .ok (.putfield 35, 3) := by decide +kernel
theorem dX1_copyFrom_40 : decode cX1_copyFrom 40 = .ok (.aload_n 0, 1) := by decide +kernel
theorem dX1_copyFrom_41 : decode cX1_copyFrom 41 = .ok (.aload_n 1, 1) := by decide +kernel
theorem dX1_copyFrom_42 : decode cX1_copyFrom 42 = .ok (.getfield 38, 3) := by decide +kernel
theorem dX1_copyFrom_45 : decode cX1_copyFrom 45 = .ok (.putfield 38, 3) := by decide +kernel
theorem dX1_copyFrom_48 : decode cX1_copyFrom 48 = .ok (.aload_n 0, 1) := by decide +kernel
theorem dX1_copyFrom_49 : decode cX1_copyFrom 49 = .ok (.aload_n 1, 1) := by decide +kernel
theorem dX1_copyFrom_50 : decode cX1_copyFrom 50 = .ok (.getfield 41, 3) := by decide +kernel
theorem dX1_copyFrom_53 : decode cX1_copyFrom 53 = .ok (.putfield 41, 3) := by decide +kernel
theorem dX1_copyFrom_56 : decode cX1_copyFrom 56 = .ok (.aload_n 0, 1) := by decide +kernel
theorem dX1_copyFrom_57 : decode cX1_copyFrom 57 = .ok (.aload_n 1, 1) := by decide +kernel
theorem dX1_copyFrom_58 : decode cX1_copyFrom 58 = .ok (.getfield 44, 3) := by decide +kernel
theorem dX1_copyFrom_61 : decode cX1_copyFrom 61 = .ok (.putfield 44, 3) := by decide +kernel
theorem dX1_copyFrom_64 : decode cX1_copyFrom 64 = .ok (.aload_n 1, 1) := by decide +kernel
theorem dX1_copyFrom_65 : decode cX1_copyFrom 65 = .ok (.getfield 16, 3) := by decide +kernel
theorem dX1_copyFrom_68 : decode cX1_copyFrom 68 = .ok (.iconst 0, 1) := by decide +kernel
theorem dX1_copyFrom_69 : decode cX1_copyFrom 69 = .ok (.aload_n 0, 1) := by decide +kernel
theorem dX1_copyFrom_70 : decode cX1_copyFrom 70 = .ok (.getfield 16, 3) := by decide +kernel
theorem dX1_copyFrom_73 : decode cX1_copyFrom 73 = .ok (.iconst 0, 1) := by decide +kernel
theorem dX1_copyFrom_74 : decode cX1_copyFrom 74 = .ok (.iconst 3, 1) := by decide +kernel
theorem dX1_copyFrom_75 : decode cX1_copyFrom 75 = .ok (.invokestatic 47, 3) := by decide +kernel
theorem dX1_copyFrom_78 : decode cX1_copyFrom 78 = .ok (.aload_n 1, 1) := by decide +kernel
theorem dX1_copyFrom_79 : decode cX1_copyFrom 79 = .ok (.getfield 20, 3) := by decide +kernel
theorem dX1_copyFrom_82 : decode cX1_copyFrom 82 = .ok (.iconst 0, 1) := by decide +kernel
theorem dX1_copyFrom_83 : decode cX1_copyFrom 83 = .ok (.aload_n 0, 1) := by decide +kernel
theorem dX1_copyFrom_84 : decode cX1_copyFrom 84 = .ok (.getfield 20, 3) := by decide +kernel
theorem dX1_copyFrom_87 : decode cX1_copyFrom 87 = .ok (.iconst 0, 1) := by decide +kernel
theorem dX1_copyFrom_88 : decode cX1_copyFrom 88 = .ok (.bipush 7, 2) := by decide +kernel
theorem dX1_copyFrom_90 : decode cX1_copyFrom 90 = .ok (.invokestatic 47, 3) := by decide +kernel
theorem dX1_copyFrom_93 : decode cX1_copyFrom 93 = .ok (.aload_n 1, 1) := by decide +kernel
theorem dX1_copyFrom_94 : decode cX1_copyFrom 94 = .ok (.getfield 23, 3) := by decide +kernel
theorem dX1_copyFrom_97 : decode cX1_copyFrom 97 = .ok (.iconst 0, 1) := by decide +kernel
theorem dX1_copyFrom_98 : decode cX1_copyFrom 98 = .ok (.aload_n 0, 1) := by decide +kernel
theorem dX1_copyFrom_99 : decode cX1_copyFrom 99 = .ok (.getfield 23, 3) := by decide +kernel
theorem dX1_copyFrom_102 : decode cX1_copyFrom 102 = .ok (.iconst 0, 1) := by decide +kernel
theorem dX1_copyFrom_103 : decode cX1_copyFrom 103 = .ok (.bipush 60, 2) := by decide +kernel
theorem dX1_copyFrom_105 : decode cX1_copyFrom 105 = .ok (.invokestatic 47, 3) := by decide +kernel
theorem dX1_copyFrom_108 : decode cX1_copyFrom 108 = .ok (.return_, 1) := by decide +kernel
theorem dX1_level_0 : decode cX1_level 0 = .ok (.aload_n 0, 1) := by decide +kernel
theorem dX1_level_1 : decode cX1_level 1 = .ok (.getfield 10, 3) := by decide +kernel
theorem dX1_level_4 : decode cX1_level 4 = .ok (.aload_n 0, 1) := by decide +kernel
theorem dX1_level_5 : decode cX1_level 5 = .ok (.getfield 29, 3) := by decide +kernel
theorem dX1_level_8 : decode cX1_level 8 = .ok (.iadd, 1) := by decide +kernel
theorem dX1_level_9 : decode cX1_level 9 = .ok (.bipush 100, 2) := by decide +kernel
theorem dX1_level_11 : decode cX1_level 11 = .ok (.idiv, 1) := by decide +kernel
theorem dX1_level_12 : decode cX1_level 12 = .ok (.sipush 400, 3) := by decide +kernel
theorem dX1_level_15 : decode cX1_level 15 = .ok (.isub, 1) := by decide +kernel
theorem dX1_level_16 : decode cX1_level 16 = .ok (.ireturn, 1) := by decide +kernel
theorem dX1_head_0 : decode cX1_head 0 = .ok (.aload_n 0, 1) := by decide +kernel
theorem dX1_head_1 : decode cX1_head 1 = .ok (.getfield 26, 3) := by decide +kernel
theorem dX1_head_4 : decode cX1_head 4 = .ok (.invokestatic 53, 3) := by decide +kernel
theorem dX1_head_7 : decode cX1_head 7 = .ok (.aload_n 0, 1) := by decide +kernel
theorem dX1_head_8 : decode cX1_head 8 = .ok (.invokevirtual 57, 3) := by decide +kernel
theorem dX1_head_11 : decode cX1_head 11 = .ok (.isub, 1) := by decide +kernel
theorem dX1_head_12 : decode cX1_head 12 = .ok (.ireturn, 1) := by decide +kernel
theorem dX1_isBirdHour_0 : decode cX1_isBirdHour 0 = .ok (.aload_n 0, 1) := by decide +kernel
theorem dX1_isBirdHour_1 : decode cX1_isBirdHour 1 = .ok (.getfield 26, 3) := by decide +kernel
theorem dX1_isBirdHour_4 : decode cX1_isBirdHour 4 = .ok (.sipush 144, 3) := by decide +kernel
theorem dX1_isBirdHour_7 : decode cX1_isBirdHour 7 = .ok (.irem, 1) := by decide +kernel
theorem dX1_isBirdHour_8 : decode cX1_isBirdHour 8 = .ok (.istore_n 1, 1) := by decide +kernel
theorem dX1_isBirdHour_9 : decode cX1_isBirdHour 9 = .ok (.aload_n 0, 1) := by decide +kernel
theorem dX1_isBirdHour_10 : decode cX1_isBirdHour 10 = .ok (.getfield 41, 3) := by decide +kernel
theorem dX1_isBirdHour_13 : decode cX1_isBirdHour 13 = .ok (.iload_n 1, 1) := by decide +kernel
theorem dX1_isBirdHour_14 : decode cX1_isBirdHour 14 = .ok (.if_icmp .gt 15, 3) := by decide +kernel
theorem dX1_isBirdHour_17 : decode cX1_isBirdHour 17 = .ok (.iload_n 1, 1) := by decide +kernel
theorem dX1_isBirdHour_18 : decode cX1_isBirdHour 18 = .ok (.aload_n 0, 1) := by decide +kernel
theorem dX1_isBirdHour_19 : decode cX1_isBirdHour 19 = .ok (.getfield 44, 3) := by decide +kernel
theorem dX1_isBirdHour_22 : decode cX1_isBirdHour 22 = .ok (.if_icmp .ge 7, 3) := by decide +kernel
theorem dX1_isBirdHour_25 : decode cX1_isBirdHour 25 = .ok (.iconst 1, 1) := by decide +kernel
theorem dX1_isBirdHour_26 : decode cX1_isBirdHour 26 = .ok (.goto 4, 3) := by decide +kernel
theorem dX1_isBirdHour_29 : decode cX1_isBirdHour 29 = .ok (.iconst 0, 1) := by decide +kernel
theorem dX1_isBirdHour_30 : decode cX1_isBirdHour 30 = .ok (.ireturn, 1) := by decide +kernel
theorem dX1_gain_0 : decode cX1_gain 0 = .ok (.aload_n 0, 1) := by decide +kernel
theorem dX1_gain_1 : decode cX1_gain 1 = .ok (.getfield 20, 3) := by decide +kernel
theorem dX1_gain_4 : decode cX1_gain 4 = .ok (.iconst 0, 1) := by decide +kernel
theorem dX1_gain_5 : decode cX1_gain 5 = .ok (.iaload, 1) := by decide +kernel
theorem dX1_gain_6 : decode cX1_gain 6 = .ok (.aload_n 0, 1) := by decide +kernel
theorem dX1_gain_7 : decode cX1_gain 7 = .ok (.getfield 20, 3) := by decide +kernel
theorem dX1_gain_10 : decode cX1_gain 10 = .ok (.iconst 1, 1) := by decide +kernel
theorem dX1_gain_11 : decode cX1_gain 11 = .ok (.iaload, 1) := by decide +kernel
theorem dX1_gain_12 : decode cX1_gain 12 = .ok (.isub, 1) := by decide +kernel
theorem dX1_gain_13 : decode cX1_gain 13 = .ok (.ireturn, 1) := by decide +kernel
theorem dX1_lastDay_0 : decode cX1_lastDay 0 = .ok (.aload_n 0, 1) := by decide +kernel
theorem dX1_lastDay_1 : decode cX1_lastDay 1 = .ok (.getfield 26, 3) := by decide +kernel
theorem dX1_lastDay_4 : decode cX1_lastDay 4 = .ok (.iconst 1, 1) := by decide +kernel
theorem dX1_lastDay_5 : decode cX1_lastDay 5 = .ok (.isub, 1) := by decide +kernel
theorem dX1_lastDay_6 : decode cX1_lastDay 6 = .ok (.sipush 144, 3) := by decide +kernel
theorem dX1_lastDay_9 : decode cX1_lastDay 9 = .ok (.invokestatic 61, 3) := by decide +kernel
theorem dX1_lastDay_12 : decode cX1_lastDay 12 = .ok (.ireturn, 1) := by decide +kernel
theorem dX1_firstDay_0 : decode cX1_firstDay 0 = .ok (.iconst 0, 1) := by decide +kernel
theorem dX1_firstDay_1 : decode cX1_firstDay 1 = .ok (.aload_n 0, 1) := by decide +kernel
theorem dX1_firstDay_2 : decode cX1_firstDay 2 = .ok (.invokevirtual 67, 3) := by decide +kernel
theorem dX1_firstDay_5 : decode cX1_firstDay 5 = .ok (.bipush 10, 2) := by decide +kernel
theorem dX1_firstDay_7 : decode cX1_firstDay 7 = .ok (.isub, 1) := by decide +kernel
theorem dX1_firstDay_8 : decode cX1_firstDay 8 = .ok (.iconst 1, 1) := by decide +kernel
theorem dX1_firstDay_9 : decode cX1_firstDay 9 = .ok (.iadd, 1) := by decide +kernel
theorem dX1_firstDay_10 : decode cX1_firstDay 10 = .ok (.invokestatic 70, 3) := by decide +kernel
theorem dX1_firstDay_13 : decode cX1_firstDay 13 = .ok (.ireturn, 1) := by decide +kernel
theorem dX1_openGates_0 : decode cX1_openGates 0 = .ok (.iload_n 1, 1) := by decide +kernel
theorem dX1_openGates_1 : decode cX1_openGates 1 = .ok (.ifCond .lt 9, 3) := by decide +kernel
theorem dX1_openGates_4 : decode cX1_openGates 4 = .ok (.iload_n 1, 1) := by decide +kernel
theorem dX1_openGates_5 : decode cX1_openGates 5 = .ok (.bipush 8, 2) := by decide +kernel
theorem dX1_openGates_7 : decode cX1_openGates 7 = .ok (.if_icmp .le 6, 3) := by decide +kernel
theorem dX1_openGates_10 : decode cX1_openGates 10 = .ok (.ldc 73, 2) := by decide +kernel
theorem dX1_openGates_12 : decode cX1_openGates 12 = .ok (.ireturn, 1) := by decide +kernel
theorem dX1_openGates_13 : decode cX1_openGates 13 = .ok (.aload_n 0, 1) := by decide +kernel
theorem dX1_openGates_14 : decode cX1_openGates 14 = .ok (.getfield 32, 3) := by decide +kernel
theorem dX1_openGates_17 : decode cX1_openGates 17 = .ok (.istore_n 2, 1) := by decide +kernel
theorem dX1_openGates_18 : decode cX1_openGates 18 = .ok (.aload_n 0, 1) := by decide +kernel
theorem dX1_openGates_19 : decode cX1_openGates 19 = .ok (.iload_n 1, 1) := by decide +kernel
theorem dX1_openGates_20 : decode cX1_openGates 20 = .ok (.putfield 32, 3) := by decide +kernel
theorem dX1_openGates_23 : decode cX1_openGates 23 = .ok (.iload_n 2, 1) := by decide +kernel
theorem dX1_openGates_24 : decode cX1_openGates 24 = .ok (.ireturn, 1) := by decide +kernel
theorem dX1_openTurbines_0 : decode cX1_openTurbines 0 = .ok (.iload_n 1, 1) := by decide +kernel
theorem dX1_openTurbines_1 : decode cX1_openTurbines 1 = .ok (.ifCond .lt 9, 3) := by decide +kernel
theorem dX1_openTurbines_4 : decode cX1_openTurbines 4 = .ok (.iload_n 1, 1) := by decide +kernel
theorem dX1_openTurbines_5 : decode cX1_openTurbines 5 = .ok (.bipush 6, 2) := by decide +kernel
theorem dX1_openTurbines_7 : decode cX1_openTurbines 7 = .ok (.if_icmp .le 6, 3) := by decide +kernel
theorem dX1_openTurbines_10 : decode cX1_openTurbines 10 = .ok (.ldc 73, 2) := by decide +kernel
theorem dX1_openTurbines_12 : decode cX1_openTurbines 12 = .ok (.ireturn, 1) := by decide +kernel
theorem dX1_openTurbines_13 : decode cX1_openTurbines 13 = .ok (.aload_n 0, 1) := by decide +kernel
theorem dX1_openTurbines_14 : decode cX1_openTurbines 14 = .ok (.getfield 35, 3) := by decide +kernel
theorem dX1_openTurbines_17 : decode cX1_openTurbines 17 = .ok (.istore_n 2, 1) := by decide +kernel
theorem dX1_openTurbines_18 : decode cX1_openTurbines 18 = .ok (.aload_n 0, 1) := by decide +kernel
theorem dX1_openTurbines_19 : decode cX1_openTurbines 19 = .ok (.iload_n 1, 1) := by decide +kernel
theorem dX1_openTurbines_20 : decode cX1_openTurbines 20 = .ok (.putfield 35, 3) := by decide +kernel
theorem dX1_openTurbines_23 : decode cX1_openTurbines 23 = .ok (.iload_n 2, 1) := by decide +kernel
theorem dX1_openTurbines_24 : decode cX1_openTurbines 24 = .ok (.ireturn, 1) := by decide +kernel
theorem dX1_setPump_0 : decode cX1_setPump 0 = .ok (.iload_n 1, 1) := by decide +kernel
theorem dX1_setPump_1 : decode cX1_setPump 1 = .ok (.sipush (-500), 3) := by decide +kernel
theorem dX1_setPump_4 : decode cX1_setPump 4 = .ok (.if_icmp .lt 10, 3) := by decide +kernel
theorem dX1_setPump_7 : decode cX1_setPump 7 = .ok (.iload_n 1, 1) := by decide +kernel
theorem dX1_setPump_8 : decode cX1_setPump 8 = .ok (.sipush 500, 3) := by decide +kernel
theorem dX1_setPump_11 : decode cX1_setPump 11 = .ok (.if_icmp .le 6, 3) := by decide +kernel
theorem dX1_setPump_14 : decode cX1_setPump 14 = .ok (.ldc 73, 2) := by decide +kernel
theorem dX1_setPump_16 : decode cX1_setPump 16 = .ok (.ireturn, 1) := by decide +kernel
theorem dX1_setPump_17 : decode cX1_setPump 17 = .ok (.aload_n 0, 1) := by decide +kernel
theorem dX1_setPump_18 : decode cX1_setPump 18 = .ok (.getfield 38, 3) := by decide +kernel
theorem dX1_setPump_21 : decode cX1_setPump 21 = .ok (.istore_n 2, 1) := by decide +kernel
theorem dX1_setPump_22 : decode cX1_setPump 22 = .ok (.aload_n 0, 1) := by decide +kernel
theorem dX1_setPump_23 : decode cX1_setPump 23 = .ok (.iload_n 1, 1) := by decide +kernel
theorem dX1_setPump_24 : decode cX1_setPump 24 = .ok (.putfield 38, 3) := by decide +kernel
theorem dX1_setPump_27 : decode cX1_setPump 27 = .ok (.iload_n 2, 1) := by decide +kernel
theorem dX1_setPump_28 : decode cX1_setPump 28 = .ok (.ireturn, 1) := by decide +kernel
theorem dX1_setBirds_0 : decode cX1_setBirds 0 = .ok (.iload_n 1, 1) := by decide +kernel
theorem dX1_setBirds_1 : decode cX1_setBirds 1 = .ok (.ifCond .lt 21, 3) := by decide +kernel
theorem dX1_setBirds_4 : decode cX1_setBirds 4 = .ok (.iload_n 1, 1) := by decide +kernel
theorem dX1_setBirds_5 : decode cX1_setBirds 5 = .ok (.sipush 144, 3) := by decide +kernel
theorem dX1_setBirds_8 : decode cX1_setBirds 8 = .ok (.if_icmp .ge 14, 3) := by decide +kernel
theorem dX1_setBirds_11 : decode cX1_setBirds 11 = .ok (.iload_n 2, 1) := by decide +kernel
theorem dX1_setBirds_12 : decode cX1_setBirds 12 = .ok (.ifCond .lt 10, 3) := by decide +kernel
theorem dX1_setBirds_15 : decode cX1_setBirds 15 = .ok (.iload_n 2, 1) := by decide +kernel
theorem dX1_setBirds_16 : decode cX1_setBirds 16 = .ok (.sipush 144, 3) := by decide +kernel
theorem dX1_setBirds_19 : decode cX1_setBirds 19 = .ok (.if_icmp .le 6, 3) := by decide +kernel
theorem dX1_setBirds_22 : decode cX1_setBirds 22 = .ok (.ldc 73, 2) := by decide +kernel
theorem dX1_setBirds_24 : decode cX1_setBirds 24 = .ok (.ireturn, 1) := by decide +kernel
theorem dX1_setBirds_25 : decode cX1_setBirds 25 = .ok (.aload_n 0, 1) := by decide +kernel
theorem dX1_setBirds_26 : decode cX1_setBirds 26 = .ok (.iload_n 1, 1) := by decide +kernel
theorem dX1_setBirds_27 : decode cX1_setBirds 27 = .ok (.putfield 41, 3) := by decide +kernel
theorem dX1_setBirds_30 : decode cX1_setBirds 30 = .ok (.aload_n 0, 1) := by decide +kernel
theorem dX1_setBirds_31 : decode cX1_setBirds 31 = .ok (.iload_n 2, 1) := by decide +kernel
theorem dX1_setBirds_32 : decode cX1_setBirds 32 = .ok (.putfield 44, 3) := by decide +kernel
theorem dX1_setBirds_35 : decode cX1_setBirds 35 = .ok (.iconst 0, 1) := by decide +kernel
theorem dX1_setBirds_36 : decode cX1_setBirds 36 = .ok (.iload_n 2, 1) := by decide +kernel
theorem dX1_setBirds_37 : decode cX1_setBirds 37 = .ok (.iload_n 1, 1) := by decide +kernel
theorem dX1_setBirds_38 : decode cX1_setBirds 38 = .ok (.isub, 1) := by decide +kernel
theorem dX1_setBirds_39 : decode cX1_setBirds 39 = .ok (.invokestatic 70, 3) := by decide +kernel
theorem dX1_setBirds_42 : decode cX1_setBirds 42 = .ok (.ireturn, 1) := by decide +kernel
theorem dX1_runTicks_0 : decode cX1_runTicks 0 = .ok (.iload_n 1, 1) := by decide +kernel
theorem dX1_runTicks_1 : decode cX1_runTicks 1 = .ok (.iconst 1, 1) := by decide +kernel
theorem dX1_runTicks_2 : decode cX1_runTicks 2 = .ok (.if_icmp .lt 10, 3) := by decide +kernel
theorem dX1_runTicks_5 : decode cX1_runTicks 5 = .ok (.iload_n 1, 1) := by decide +kernel
theorem dX1_runTicks_6 : decode cX1_runTicks 6 = .ok (.sipush 300, 3) := by decide +kernel
theorem dX1_runTicks_9 : decode cX1_runTicks 9 = .ok (.if_icmp .le 6, 3) := by decide +kernel
theorem dX1_runTicks_12 : decode cX1_runTicks 12 = .ok (.ldc 73, 2) := by decide +kernel
theorem dX1_runTicks_14 : decode cX1_runTicks 14 = .ok (.ireturn, 1) := by decide +kernel
theorem dX1_runTicks_15 : decode cX1_runTicks 15 = .ok (.aload_n 0, 1) := by decide +kernel
theorem dX1_runTicks_16 : decode cX1_runTicks 16 = .ok (.getfield 26, 3) := by decide +kernel
theorem dX1_runTicks_19 : decode cX1_runTicks 19 = .ok (.iload_n 1, 1) := by decide +kernel
theorem dX1_runTicks_20 : decode cX1_runTicks 20 = .ok (.iadd, 1) := by decide +kernel
theorem dX1_runTicks_21 : decode cX1_runTicks 21 = .ok (.sipush 9999, 3) := by decide +kernel
theorem dX1_runTicks_24 : decode cX1_runTicks 24 = .ok (.if_icmp .le 6, 3) := by decide +kernel
theorem dX1_runTicks_27 : decode cX1_runTicks 27 = .ok (.ldc 74, 2) := by decide +kernel
theorem dX1_runTicks_29 : decode cX1_runTicks 29 = .ok (.ireturn, 1) := by decide +kernel
theorem dX1_runTicks_30 : decode cX1_runTicks 30 = .ok (.aload_n 0, 1) := by decide +kernel
theorem dX1_runTicks_31 : decode cX1_runTicks 31 = .ok (.iload_n 1, 1) := by decide +kernel
theorem dX1_runTicks_32 : decode cX1_runTicks 32 = .ok (.aload_n 2, 1) := by decide +kernel
theorem dX1_runTicks_33 : decode cX1_runTicks 33 = .ok (.invokevirtual 75, 3) := by decide +kernel
theorem dX1_runTicks_36 : decode cX1_runTicks 36 = .ok (.aload_n 0, 1) := by decide +kernel
theorem dX1_runTicks_37 : decode cX1_runTicks 37 = .ok (.invokevirtual 57, 3) := by decide +kernel
theorem dX1_runTicks_40 : decode cX1_runTicks 40 = .ok (.ireturn, 1) := by decide +kernel
theorem dX1_dredgeSilt_0 : decode cX1_dredgeSilt 0 = .ok (.iload_n 1, 1) := by decide +kernel
theorem dX1_dredgeSilt_1 : decode cX1_dredgeSilt 1 = .ok (.iconst 1, 1) := by decide +kernel
theorem dX1_dredgeSilt_2 : decode cX1_dredgeSilt 2 = .ok (.if_icmp .lt 10, 3) := by decide +kernel
theorem dX1_dredgeSilt_5 : decode cX1_dredgeSilt 5 = .ok (.iload_n 1, 1) := by decide +kernel
theorem dX1_dredgeSilt_6 : decode cX1_dredgeSilt 6 = .ok (.sipush 20000, 3) := by decide +kernel
theorem dX1_dredgeSilt_9 : decode cX1_dredgeSilt 9 = .ok (.if_icmp .le 6, 3) := by decide +kernel
theorem dX1_dredgeSilt_12 : decode cX1_dredgeSilt 12 = .ok (.ldc 73, 2) := by decide +kernel
theorem dX1_dredgeSilt_14 : decode cX1_dredgeSilt 14 = .ok (.ireturn, 1) := by decide +kernel
theorem dX1_dredgeSilt_15 : decode cX1_dredgeSilt 15 = .ok (.iload_n 1, 1) := by decide +kernel
theorem dX1_dredgeSilt_16 : decode cX1_dredgeSilt 16 = .ok (.aload_n 0, 1) := by decide +kernel
theorem dX1_dredgeSilt_17 : decode cX1_dredgeSilt 17 = .ok (.getfield 29, 3) := by decide +kernel
theorem dX1_dredgeSilt_20 : decode cX1_dredgeSilt 20 = .ok (.if_icmp .le 6, 3) := by decide +kernel
theorem dX1_dredgeSilt_23 : decode cX1_dredgeSilt 23 = .ok (.ldc 79, 2) := by decide +kernel
theorem dX1_dredgeSilt_25 : decode cX1_dredgeSilt 25 = .ok (.ireturn, 1) := by decide +kernel
theorem dX1_dredgeSilt_26 : decode cX1_dredgeSilt 26 = .ok (.aload_n 0, 1) := by decide +kernel
theorem dX1_dredgeSilt_27 : decode cX1_dredgeSilt 27 = .ok (.dup, 1) := by decide +kernel
theorem dX1_dredgeSilt_28 : decode cX1_dredgeSilt 28 = .ok (.getfield 29, 3) := by decide +kernel
theorem dX1_dredgeSilt_31 : decode cX1_dredgeSilt 31 = .ok (.iload_n 1, 1) := by decide +kernel
theorem dX1_dredgeSilt_32 : decode cX1_dredgeSilt 32 = .ok (.isub, 1) := by decide +kernel
theorem dX1_dredgeSilt_33 : decode cX1_dredgeSilt 33 = .ok (.putfield 29, 3) := by decide +kernel
theorem dX1_dredgeSilt_36 : decode cX1_dredgeSilt 36 = .ok (.aload_n 0, 1) := by decide +kernel
theorem dX1_dredgeSilt_37 : decode cX1_dredgeSilt 37 = .ok (.getfield 20, 3) := by decide +kernel
theorem dX1_dredgeSilt_40 : decode cX1_dredgeSilt 40 = .ok (.iconst 4, 1) := by decide +kernel
theorem dX1_dredgeSilt_41 : decode cX1_dredgeSilt 41 = .ok (.dup2, 1) := by decide +kernel
theorem dX1_dredgeSilt_42 : decode cX1_dredgeSilt 42 = .ok (.iaload, 1) := by decide +kernel
theorem dX1_dredgeSilt_43 : decode cX1_dredgeSilt 43 = .ok (.iload_n 1, 1) := by decide +kernel
theorem dX1_dredgeSilt_44 : decode cX1_dredgeSilt 44 = .ok (.iadd, 1) := by decide +kernel
theorem dX1_dredgeSilt_45 : decode cX1_dredgeSilt 45 = .ok (.iastore, 1) := by decide +kernel
theorem dX1_dredgeSilt_46 : decode cX1_dredgeSilt 46 = .ok (.aload_n 0, 1) := by decide +kernel
theorem dX1_dredgeSilt_47 : decode cX1_dredgeSilt 47 = .ok (.getfield 29, 3) := by decide +kernel
theorem dX1_dredgeSilt_50 : decode cX1_dredgeSilt 50 = .ok (.ireturn, 1) := by decide +kernel
theorem dX1_changeSetting_0 : decode cX1_changeSetting 0 = .ok (.iload_n 1, 1) := by decide +kernel
theorem dX1_changeSetting_1 : decode cX1_changeSetting 1 = .ok (.ifCond .lt 8, 3) := by decide +kernel
theorem dX1_changeSetting_4 : decode cX1_changeSetting 4 = .ok (.iload_n 1, 1) := by decide +kernel
theorem dX1_changeSetting_5 : decode cX1_changeSetting 5 = .ok (.iconst 3, 1) := by decide +kernel
theorem dX1_changeSetting_6 : decode cX1_changeSetting 6 = .ok (.if_icmp .lt 6, 3) := by decide +kernel
theorem dX1_changeSetting_9 : decode cX1_changeSetting 9 = .ok (.ldc 73, 2) := by decide +kernel
theorem dX1_changeSetting_11 : decode cX1_changeSetting 11 = .ok (.ireturn, 1) := by decide +kernel
theorem dX1_changeSetting_12 : decode cX1_changeSetting 12 = .ok (.iload_n 2, 1) := by decide +kernel
theorem dX1_changeSetting_13 : decode cX1_changeSetting 13 = .ok (.getstatic 80, 3) := by decide +kernel
theorem dX1_changeSetting_16 : decode cX1_changeSetting 16 = .ok (.iload_n 1, 1) := by decide +kernel
theorem dX1_changeSetting_17 : decode cX1_changeSetting 17 = .ok (.iaload, 1) := by decide +kernel
theorem dX1_changeSetting_18 : decode cX1_changeSetting 18 = .ok (.if_icmp .lt 12, 3) := by decide +kernel
theorem dX1_changeSetting_21 : decode cX1_changeSetting 21 = .ok (.iload_n 2, 1) := by decide +kernel
theorem dX1_changeSetting_22 : decode cX1_changeSetting 22 = .ok (.getstatic 83, 3) := by decide +kernel
theorem dX1_changeSetting_25 : decode cX1_changeSetting 25 = .ok (.iload_n 1, 1) := by decide +kernel
theorem dX1_changeSetting_26 : decode cX1_changeSetting 26 = .ok (.iaload, 1) := by decide +kernel
theorem dX1_changeSetting_27 : decode cX1_changeSetting 27 = .ok (.if_icmp .le 6, 3) := by decide +kernel
theorem dX1_changeSetting_30 : decode cX1_changeSetting 30 = .ok (.ldc 73, 2) := by decide +kernel
theorem dX1_changeSetting_32 : decode cX1_changeSetting 32 = .ok (.ireturn, 1) := by decide +kernel
theorem dX1_changeSetting_33 : decode cX1_changeSetting 33 = .ok (.aload_n 0, 1) := by decide +kernel
theorem dX1_changeSetting_34 : decode cX1_changeSetting 34 = .ok (.getfield 16, 3) := by decide +kernel
theorem dX1_changeSetting_37 : decode cX1_changeSetting 37 = .ok (.iload_n 1, 1) := by decide +kernel
theorem dX1_changeSetting_38 : decode cX1_changeSetting 38 = .ok (.iaload, 1) := by decide +kernel
theorem dX1_changeSetting_39 : decode cX1_changeSetting 39 = .ok (.istore_n 3, 1) := by decide +kernel
theorem dX1_changeSetting_40 : decode cX1_changeSetting 40 = .ok (.aload_n 0, 1) := by decide +kernel
theorem dX1_changeSetting_41 : decode cX1_changeSetting 41 = .ok (.getfield 16, 3) := by decide +kernel
theorem dX1_changeSetting_44 : decode cX1_changeSetting 44 = .ok (.iload_n 1, 1) := by decide +kernel
theorem dX1_changeSetting_45 : decode cX1_changeSetting 45 = .ok (.iload_n 2, 1) := by decide +kernel
theorem dX1_changeSetting_46 : decode cX1_changeSetting 46 = .ok (.iastore, 1) := by decide +kernel
theorem dX1_changeSetting_47 : decode cX1_changeSetting 47 = .ok (.iload_n 3, 1) := by decide +kernel
theorem dX1_changeSetting_48 : decode cX1_changeSetting 48 = .ok (.ireturn, 1) := by decide +kernel
theorem dX1_letPass_0 : decode cX1_letPass 0 = .ok (.iconst 0, 1) := by decide +kernel
theorem dX1_letPass_1 : decode cX1_letPass 1 = .ok (.istore_n 3, 1) := by decide +kernel
theorem dX1_letPass_2 : decode cX1_letPass 2 = .ok (.iload_n 3, 1) := by decide +kernel
theorem dX1_letPass_3 : decode cX1_letPass 3 = .ok (.iload_n 1, 1) := by decide +kernel
theorem dX1_letPass_4 : decode cX1_letPass 4 = .ok (.if_icmp .ge 38, 3) := by decide +kernel
theorem dX1_letPass_7 : decode cX1_letPass 7 = .ok (.aload_n 2, 1) := by decide +kernel
theorem dX1_letPass_8 : decode cX1_letPass 8 = .ok (.aload_n 0, 1) := by decide +kernel
theorem dX1_letPass_9 : decode cX1_letPass 9 = .ok (.aload_n 0, 1) := by decide +kernel
theorem dX1_letPass_10 : decode cX1_letPass 10 = .ok (.invokevirtual 86, 3) := by decide +kernel
theorem dX1_letPass_13 : decode cX1_letPass 13 = .ok (.invokevirtual 89, 3) := by decide +kernel
theorem dX1_letPass_16 : decode cX1_letPass 16 = .ok (.aload_n 0, 1) := by decide +kernel
theorem dX1_letPass_17 : decode cX1_letPass 17 = .ok (.aload_n 2, 1) := by decide +kernel
theorem dX1_letPass_18 : decode cX1_letPass 18 = .ok (.invokevirtual 95, 3) := by decide +kernel
theorem dX1_letPass_21 : decode cX1_letPass 21 = .ok (.aload_n 0, 1) := by decide +kernel
theorem dX1_letPass_22 : decode cX1_letPass 22 = .ok (.aload_n 2, 1) := by decide +kernel
theorem dX1_letPass_23 : decode cX1_letPass 23 = .ok (.invokevirtual 99, 3) := by decide +kernel
theorem dX1_letPass_26 : decode cX1_letPass 26 = .ok (.aload_n 0, 1) := by decide +kernel
theorem dX1_letPass_27 : decode cX1_letPass 27 = .ok (.dup, 1) := by decide +kernel
theorem dX1_letPass_28 : decode cX1_letPass 28 = .ok (.getfield 26, 3) := by decide +kernel
theorem dX1_letPass_31 : decode cX1_letPass 31 = .ok (.iconst 1, 1) := by decide +kernel
theorem dX1_letPass_32 : decode cX1_letPass 32 = .ok (.iadd, 1) := by decide +kernel
theorem dX1_letPass_33 : decode cX1_letPass 33 = .ok (.putfield 26, 3) := by decide +kernel
theorem dX1_letPass_36 : decode cX1_letPass 36 = .ok (.iinc 3 1, 3) := by decide +kernel
theorem dX1_letPass_39 : decode cX1_letPass 39 = .ok (.goto (-37), 3) := by decide +kernel
theorem dX1_letPass_42 : decode cX1_letPass 42 = .ok (.return_, 1) := by decide +kernel
theorem dX1_take_0 : decode cX1_take 0 = .ok (.aload_n 0, 1) := by decide +kernel
theorem dX1_take_1 : decode cX1_take 1 = .ok (.dup, 1) := by decide +kernel
theorem dX1_take_2 : decode cX1_take 2 = .ok (.getfield 10, 3) := by decide +kernel
theorem dX1_take_5 : decode cX1_take 5 = .ok (.aload_n 1, 1) := by decide +kernel
theorem dX1_take_6 : decode cX1_take 6 = .ok (.getfield 102, 3) := by decide +kernel
theorem dX1_take_9 : decode cX1_take 9 = .ok (.iadd, 1) := by decide +kernel
theorem dX1_take_10 : decode cX1_take 10 = .ok (.putfield 10, 3) := by decide +kernel
theorem dX1_take_13 : decode cX1_take 13 = .ok (.aload_n 0, 1) := by decide +kernel
theorem dX1_take_14 : decode cX1_take 14 = .ok (.dup, 1) := by decide +kernel
theorem dX1_take_15 : decode cX1_take 15 = .ok (.getfield 29, 3) := by decide +kernel
theorem dX1_take_18 : decode cX1_take 18 = .ok (.aload_n 1, 1) := by decide +kernel
theorem dX1_take_19 : decode cX1_take 19 = .ok (.getfield 105, 3) := by decide +kernel
theorem dX1_take_22 : decode cX1_take 22 = .ok (.iadd, 1) := by decide +kernel
theorem dX1_take_23 : decode cX1_take 23 = .ok (.putfield 29, 3) := by decide +kernel
theorem dX1_take_26 : decode cX1_take 26 = .ok (.aload_n 0, 1) := by decide +kernel
theorem dX1_take_27 : decode cX1_take 27 = .ok (.getfield 20, 3) := by decide +kernel
theorem dX1_take_30 : decode cX1_take 30 = .ok (.iconst 0, 1) := by decide +kernel
theorem dX1_take_31 : decode cX1_take 31 = .ok (.dup2, 1) := by decide +kernel
theorem dX1_take_32 : decode cX1_take 32 = .ok (.iaload, 1) := by decide +kernel
theorem dX1_take_33 : decode cX1_take 33 = .ok (.aload_n 1, 1) := by decide +kernel
theorem dX1_take_34 : decode cX1_take 34 = .ok (.getfield 108, 3) := by decide +kernel
theorem dX1_take_37 : decode cX1_take 37 = .ok (.iadd, 1) := by decide +kernel
theorem dX1_take_38 : decode cX1_take 38 = .ok (.iastore, 1) := by decide +kernel
theorem dX1_take_39 : decode cX1_take 39 = .ok (.aload_n 0, 1) := by decide +kernel
theorem dX1_take_40 : decode cX1_take 40 = .ok (.getfield 20, 3) := by decide +kernel
theorem dX1_take_43 : decode cX1_take 43 = .ok (.iconst 1, 1) := by decide +kernel
theorem dX1_take_44 : decode cX1_take 44 = .ok (.dup2, 1) := by decide +kernel
theorem dX1_take_45 : decode cX1_take 45 = .ok (.iaload, 1) := by decide +kernel
theorem dX1_take_46 : decode cX1_take 46 = .ok (.aload_n 1, 1) := by decide +kernel
theorem dX1_take_47 : decode cX1_take 47 = .ok (.getfield 111, 3) := by decide +kernel
theorem dX1_take_50 : decode cX1_take 50 = .ok (.iadd, 1) := by decide +kernel
theorem dX1_take_51 : decode cX1_take 51 = .ok (.iastore, 1) := by decide +kernel
theorem dX1_take_52 : decode cX1_take 52 = .ok (.aload_n 0, 1) := by decide +kernel
theorem dX1_take_53 : decode cX1_take 53 = .ok (.getfield 20, 3) := by decide +kernel
theorem dX1_take_56 : decode cX1_take 56 = .ok (.iconst 2, 1) := by decide +kernel
theorem dX1_take_57 : decode cX1_take 57 = .ok (.dup2, 1) := by decide +kernel
theorem dX1_take_58 : decode cX1_take 58 = .ok (.iaload, 1) := by decide +kernel
theorem dX1_take_59 : decode cX1_take 59 = .ok (.iconst 0, 1) := by decide +kernel
theorem dX1_take_60 : decode cX1_take 60 = .ok (.aload_n 1, 1) := by decide +kernel
theorem dX1_take_61 : decode cX1_take 61 = .ok (.getfield 102, 3) := by decide +kernel
theorem dX1_take_64 : decode cX1_take 64 = .ok (.invokestatic 70, 3) := by decide +kernel
theorem dX1_take_67 : decode cX1_take 67 = .ok (.iadd, 1) := by decide +kernel
theorem dX1_take_68 : decode cX1_take 68 = .ok (.iastore, 1) := by decide +kernel
theorem dX1_take_69 : decode cX1_take 69 = .ok (.aload_n 0, 1) := by decide +kernel
theorem dX1_take_70 : decode cX1_take 70 = .ok (.getfield 20, 3) := by decide +kernel
theorem dX1_take_73 : decode cX1_take 73 = .ok (.iconst 3, 1) := by decide +kernel
theorem dX1_take_74 : decode cX1_take 74 = .ok (.dup2, 1) := by decide +kernel
theorem dX1_take_75 : decode cX1_take 75 = .ok (.iaload, 1) := by decide +kernel
theorem dX1_take_76 : decode cX1_take 76 = .ok (.iconst 0, 1) := by decide +kernel
theorem dX1_take_77 : decode cX1_take 77 = .ok (.aload_n 1, 1) := by decide +kernel
theorem dX1_take_78 : decode cX1_take 78 = .ok (.getfield 102, 3) := by decide +kernel
theorem dX1_take_81 : decode cX1_take 81 = .ok (.ineg, 1) := by decide +kernel
theorem dX1_take_82 : decode cX1_take 82 = .ok (.invokestatic 70, 3) := by decide +kernel
theorem dX1_take_85 : decode cX1_take 85 = .ok (.iadd, 1) := by decide +kernel
theorem dX1_take_86 : decode cX1_take 86 = .ok (.iastore, 1) := by decide +kernel
theorem dX1_take_87 : decode cX1_take 87 = .ok (.aload_n 0, 1) := by decide +kernel
theorem dX1_take_88 : decode cX1_take 88 = .ok (.getfield 20, 3) := by decide +kernel
theorem dX1_take_91 : decode cX1_take 91 = .ok (.iconst 5, 1) := by decide +kernel
theorem dX1_take_92 : decode cX1_take 92 = .ok (.dup2, 1) := by decide +kernel
theorem dX1_take_93 : decode cX1_take 93 = .ok (.iaload, 1) := by decide +kernel
theorem dX1_take_94 : decode cX1_take 94 = .ok (.iconst 0, 1) := by decide +kernel
theorem dX1_take_95 : decode cX1_take 95 = .ok (.aload_n 1, 1) := by decide +kernel
theorem dX1_take_96 : decode cX1_take 96 = .ok (.getfield 105, 3) := by decide +kernel
theorem dX1_take_99 : decode cX1_take 99 = .ok (.invokestatic 70, 3) := by decide +kernel
theorem dX1_take_102 : decode cX1_take 102 = .ok (.iadd, 1) := by decide +kernel
theorem dX1_take_103 : decode cX1_take 103 = .ok (.iastore, 1) := by decide +kernel
theorem dX1_take_104 : decode cX1_take 104 = .ok (.aload_n 0, 1) := by decide +kernel
theorem dX1_take_105 : decode cX1_take 105 = .ok (.getfield 20, 3) := by decide +kernel
theorem dX1_take_108 : decode cX1_take 108 = .ok (.bipush 6, 2) := by decide +kernel
theorem dX1_take_110 : decode cX1_take 110 = .ok (.dup2, 1) := by decide +kernel
theorem dX1_take_111 : decode cX1_take 111 = .ok (.iaload, 1) := by decide +kernel
theorem dX1_take_112 : decode cX1_take 112 = .ok (.iconst 0, 1) := by decide +kernel
theorem dX1_take_113 : decode cX1_take 113 = .ok (.aload_n 1, 1) := by decide +kernel
theorem dX1_take_114 : decode cX1_take 114 = .ok (.getfield 105, 3) := by decide +kernel
theorem dX1_take_117 : decode cX1_take 117 = .ok (.ineg, 1) := by decide +kernel
theorem dX1_take_118 : decode cX1_take 118 = .ok (.invokestatic 70, 3) := by decide +kernel
theorem dX1_take_121 : decode cX1_take 121 = .ok (.iadd, 1) := by decide +kernel
theorem dX1_take_122 : decode cX1_take 122 = .ok (.iastore, 1) := by decide +kernel
theorem dX1_take_123 : decode cX1_take 123 = .ok (.return_, 1) := by decide +kernel
theorem dX1_enterRecord_0 : decode cX1_enterRecord 0 = .ok (.aload_n 0, 1) := by decide +kernel
theorem dX1_enterRecord_1 : decode cX1_enterRecord 1 = .ok (.getfield 26, 3) := by decide +kernel
theorem dX1_enterRecord_4 : decode cX1_enterRecord 4 = .ok (.sipush 144, 3) := by decide +kernel
theorem dX1_enterRecord_7 : decode cX1_enterRecord 7 = .ok (.idiv, 1) := by decide +kernel
theorem dX1_enterRecord_8 : decode cX1_enterRecord 8 = .ok (.invokestatic 114, 3) := by decide +kernel
theorem dX1_enterRecord_11 : decode cX1_enterRecord 11 = .ok (.istore_n 2, 1) := by decide +kernel
theorem dX1_enterRecord_12 : decode cX1_enterRecord 12 = .ok (.aload_n 0, 1) := by decide +kernel
theorem dX1_enterRecord_13 : decode cX1_enterRecord 13 = .ok (.invokevirtual 57, 3) := by decide +kernel
theorem dX1_enterRecord_16 : decode cX1_enterRecord 16 = .ok (.istore_n 3, 1) := by decide +kernel
theorem dX1_enterRecord_17 : decode cX1_enterRecord 17 = .ok (.aload_n 0, 1) := by decide +kernel
theorem dX1_enterRecord_18 : decode cX1_enterRecord 18 = .ok (.getfield 26, 3) := by decide +kernel
theorem dX1_enterRecord_21 : decode cX1_enterRecord 21 = .ok (.sipush 144, 3) := by decide +kernel
theorem dX1_enterRecord_24 : decode cX1_enterRecord 24 = .ok (.irem, 1) := by decide +kernel
theorem dX1_enterRecord_25 : decode cX1_enterRecord 25 = .ok (.ifCond .ne 9, 3) := by decide +kernel
theorem dX1_enterRecord_28 : decode cX1_enterRecord 28 = .ok (.aload_n 0, 1) := by decide +kernel
theorem dX1_enterRecord_29 : decode cX1_enterRecord 29 = .ok (.iload_n 2, 1) := by decide +kernel
theorem dX1_enterRecord_30 : decode cX1_enterRecord 30 = .ok (.iload_n 3, 1) := by decide +kernel
theorem dX1_enterRecord_31 : decode cX1_enterRecord 31 = .ok (.invokevirtual 117, 3) := by decide +kernel
theorem dX1_enterRecord_34 : decode cX1_enterRecord 34 = .ok (.aload_n 0, 1) := by decide +kernel
theorem dX1_enterRecord_35 : decode cX1_enterRecord 35 = .ok (.getfield 23, 3) := by decide +kernel
theorem dX1_enterRecord_38 : decode cX1_enterRecord 38 = .ok (.iload_n 2, 1) := by decide +kernel
theorem dX1_enterRecord_39 : decode cX1_enterRecord 39 = .ok (.iconst 0, 1) := by decide +kernel
theorem dX1_enterRecord_40 : decode cX1_enterRecord 40 = .ok (.iadd, 1) := by decide +kernel
theorem dX1_enterRecord_41 : decode cX1_enterRecord 41 = .ok (.dup2, 1) := by decide +kernel
theorem dX1_enterRecord_42 : decode cX1_enterRecord 42 = .ok (.iaload, 1) := by decide +kernel
theorem dX1_enterRecord_43 : decode cX1_enterRecord 43 = .ok (.aload_n 1, 1) := by decide +kernel
theorem dX1_enterRecord_44 : decode cX1_enterRecord 44 = .ok (.getfield 108, 3) := by decide +kernel
theorem dX1_enterRecord_47 : decode cX1_enterRecord 47 = .ok (.iadd, 1) := by decide +kernel
theorem dX1_enterRecord_48 : decode cX1_enterRecord 48 = .ok (.iastore, 1) := by decide +kernel
theorem dX1_enterRecord_49 : decode cX1_enterRecord 49 = .ok (.aload_n 0, 1) := by decide +kernel
theorem dX1_enterRecord_50 : decode cX1_enterRecord 50 = .ok (.getfield 23, 3) := by decide +kernel
theorem dX1_enterRecord_53 : decode cX1_enterRecord 53 = .ok (.iload_n 2, 1) := by decide +kernel
theorem dX1_enterRecord_54 : decode cX1_enterRecord 54 = .ok (.iconst 1, 1) := by decide +kernel
theorem dX1_enterRecord_55 : decode cX1_enterRecord 55 = .ok (.iadd, 1) := by decide +kernel
theorem dX1_enterRecord_56 : decode cX1_enterRecord 56 = .ok (.dup2, 1) := by decide +kernel
theorem dX1_enterRecord_57 : decode cX1_enterRecord 57 = .ok (.iaload, 1) := by decide +kernel
theorem dX1_enterRecord_58 : decode cX1_enterRecord 58 = .ok (.aload_n 1, 1) := by decide +kernel
theorem dX1_enterRecord_59 : decode cX1_enterRecord 59 = .ok (.getfield 111, 3) := by decide +kernel
theorem dX1_enterRecord_62 : decode cX1_enterRecord 62 = .ok (.iadd, 1) := by decide +kernel
theorem dX1_enterRecord_63 : decode cX1_enterRecord 63 = .ok (.iastore, 1) := by decide +kernel
theorem dX1_enterRecord_64 : decode cX1_enterRecord 64 = .ok (.aload_n 0, 1) := by decide +kernel
theorem dX1_enterRecord_65 : decode cX1_enterRecord 65 = .ok (.getfield 23, 3) := by decide +kernel
theorem dX1_enterRecord_68 : decode cX1_enterRecord 68 = .ok (.iload_n 2, 1) := by decide +kernel
theorem dX1_enterRecord_69 : decode cX1_enterRecord 69 = .ok (.iconst 2, 1) := by decide +kernel
theorem dX1_enterRecord_70 : decode cX1_enterRecord 70 = .ok (.iadd, 1) := by decide +kernel
theorem dX1_enterRecord_71 : decode cX1_enterRecord 71 = .ok (.aload_n 0, 1) := by decide +kernel
theorem dX1_enterRecord_72 : decode cX1_enterRecord 72 = .ok (.getfield 23, 3) := by decide +kernel
theorem dX1_enterRecord_75 : decode cX1_enterRecord 75 = .ok (.iload_n 2, 1) := by decide +kernel
theorem dX1_enterRecord_76 : decode cX1_enterRecord 76 = .ok (.iconst 2, 1) := by decide +kernel
theorem dX1_enterRecord_77 : decode cX1_enterRecord 77 = .ok (.iadd, 1) := by decide +kernel
theorem dX1_enterRecord_78 : decode cX1_enterRecord 78 = .ok (.iaload, 1) := by decide +kernel
theorem dX1_enterRecord_79 : decode cX1_enterRecord 79 = .ok (.iload_n 3, 1) := by decide +kernel
theorem dX1_enterRecord_80 : decode cX1_enterRecord 80 = .ok (.invokestatic 70, 3) := by decide +kernel
theorem dX1_enterRecord_83 : decode cX1_enterRecord 83 = .ok (.iastore, 1) := by decide +kernel
theorem dX1_enterRecord_84 : decode cX1_enterRecord 84 = .ok (.aload_n 0, 1) := by decide +kernel
theorem dX1_enterRecord_85 : decode cX1_enterRecord 85 = .ok (.getfield 23, 3) := by decide +kernel
theorem dX1_enterRecord_88 : decode cX1_enterRecord 88 = .ok (.iload_n 2, 1) := by decide +kernel
theorem dX1_enterRecord_89 : decode cX1_enterRecord 89 = .ok (.iconst 3, 1) := by decide +kernel
theorem dX1_enterRecord_90 : decode cX1_enterRecord 90 = .ok (.iadd, 1) := by decide +kernel
theorem dX1_enterRecord_91 : decode cX1_enterRecord 91 = .ok (.aload_n 0, 1) := by decide +kernel
theorem dX1_enterRecord_92 : decode cX1_enterRecord 92 = .ok (.getfield 23, 3) := by decide +kernel
theorem dX1_enterRecord_95 : decode cX1_enterRecord 95 = .ok (.iload_n 2, 1) := by decide +kernel
theorem dX1_enterRecord_96 : decode cX1_enterRecord 96 = .ok (.iconst 3, 1) := by decide +kernel
theorem dX1_enterRecord_97 : decode cX1_enterRecord 97 = .ok (.iadd, 1) := by decide +kernel
theorem dX1_enterRecord_98 : decode cX1_enterRecord 98 = .ok (.iaload, 1) := by decide +kernel
theorem dX1_enterRecord_99 : decode cX1_enterRecord 99 = .ok (.iload_n 3, 1) := by decide +kernel
theorem dX1_enterRecord_100 : decode cX1_enterRecord 100 = .ok (.invokestatic 121, 3) := by decide +kernel
theorem dX1_enterRecord_103 : decode cX1_enterRecord 103 = .ok (.iastore, 1) := by decide +kernel
theorem dX1_enterRecord_104 : decode cX1_enterRecord 104 = .ok (.aload_n 0, 1) := by decide +kernel
theorem dX1_enterRecord_105 : decode cX1_enterRecord 105 = .ok (.getfield 23, 3) := by decide +kernel
theorem dX1_enterRecord_108 : decode cX1_enterRecord 108 = .ok (.iload_n 2, 1) := by decide +kernel
theorem dX1_enterRecord_109 : decode cX1_enterRecord 109 = .ok (.iconst 4, 1) := by decide +kernel
theorem dX1_enterRecord_110 : decode cX1_enterRecord 110 = .ok (.iadd, 1) := by decide +kernel
theorem dX1_enterRecord_111 : decode cX1_enterRecord 111 = .ok (.dup2, 1) := by decide +kernel
theorem dX1_enterRecord_112 : decode cX1_enterRecord 112 = .ok (.iaload, 1) := by decide +kernel
theorem dX1_enterRecord_113 : decode cX1_enterRecord 113 = .ok (.iconst 0, 1) := by decide +kernel
theorem dX1_enterRecord_114 : decode cX1_enterRecord 114 = .ok (.aload_n 1, 1) := by decide +kernel
theorem dX1_enterRecord_115 : decode cX1_enterRecord 115 = .ok (.getfield 102, 3) := by decide +kernel
theorem dX1_enterRecord_118 : decode cX1_enterRecord 118 = .ok (.invokestatic 70, 3) := by decide +kernel
theorem dX1_enterRecord_121 : decode cX1_enterRecord 121 = .ok (.iadd, 1) := by decide +kernel
theorem dX1_enterRecord_122 : decode cX1_enterRecord 122 = .ok (.iastore, 1) := by decide +kernel
theorem dX1_enterRecord_123 : decode cX1_enterRecord 123 = .ok (.aload_n 0, 1) := by decide +kernel
theorem dX1_enterRecord_124 : decode cX1_enterRecord 124 = .ok (.getfield 23, 3) := by decide +kernel
theorem dX1_enterRecord_127 : decode cX1_enterRecord 127 = .ok (.iload_n 2, 1) := by decide +kernel
theorem dX1_enterRecord_128 : decode cX1_enterRecord 128 = .ok (.iconst 5, 1) := by decide +kernel
theorem dX1_enterRecord_129 : decode cX1_enterRecord 129 = .ok (.iadd, 1) := by decide +kernel
theorem dX1_enterRecord_130 : decode cX1_enterRecord 130 = .ok (.dup2, 1) := by decide +kernel
theorem dX1_enterRecord_131 : decode cX1_enterRecord 131 = .ok (.iaload, 1) := by decide +kernel
theorem dX1_enterRecord_132 : decode cX1_enterRecord 132 = .ok (.iconst 0, 1) := by decide +kernel
theorem dX1_enterRecord_133 : decode cX1_enterRecord 133 = .ok (.aload_n 1, 1) := by decide +kernel
theorem dX1_enterRecord_134 : decode cX1_enterRecord 134 = .ok (.getfield 102, 3) := by decide +kernel
theorem dX1_enterRecord_137 : decode cX1_enterRecord 137 = .ok (.ineg, 1) := by decide +kernel
theorem dX1_enterRecord_138 : decode cX1_enterRecord 138 = .ok (.invokestatic 70, 3) := by decide +kernel
theorem dX1_enterRecord_141 : decode cX1_enterRecord 141 = .ok (.iadd, 1) := by decide +kernel
theorem dX1_enterRecord_142 : decode cX1_enterRecord 142 = .ok (.iastore, 1) := by decide +kernel
theorem dX1_enterRecord_143 : decode cX1_enterRecord 143 = .ok (.return_, 1) := by decide +kernel
theorem dX1_beginRecord_0 : decode cX1_beginRecord 0 = .ok (.aload_n 0, 1) := by decide +kernel
theorem dX1_beginRecord_1 : decode cX1_beginRecord 1 = .ok (.getfield 23, 3) := by decide +kernel
theorem dX1_beginRecord_4 : decode cX1_beginRecord 4 = .ok (.iload_n 1, 1) := by decide +kernel
theorem dX1_beginRecord_5 : decode cX1_beginRecord 5 = .ok (.iconst 0, 1) := by decide +kernel
theorem dX1_beginRecord_6 : decode cX1_beginRecord 6 = .ok (.iadd, 1) := by decide +kernel
theorem dX1_beginRecord_7 : decode cX1_beginRecord 7 = .ok (.iconst 0, 1) := by decide +kernel
theorem dX1_beginRecord_8 : decode cX1_beginRecord 8 = .ok (.iastore, 1) := by decide +kernel
theorem dX1_beginRecord_9 : decode cX1_beginRecord 9 = .ok (.aload_n 0, 1) := by decide +kernel
theorem dX1_beginRecord_10 : decode cX1_beginRecord 10 = .ok (.getfield 23, 3) := by decide +kernel
theorem dX1_beginRecord_13 : decode cX1_beginRecord 13 = .ok (.iload_n 1, 1) := by decide +kernel
theorem dX1_beginRecord_14 : decode cX1_beginRecord 14 = .ok (.iconst 1, 1) := by decide +kernel
theorem dX1_beginRecord_15 : decode cX1_beginRecord 15 = .ok (.iadd, 1) := by decide +kernel
theorem dX1_beginRecord_16 : decode cX1_beginRecord 16 = .ok (.iconst 0, 1) := by decide +kernel
theorem dX1_beginRecord_17 : decode cX1_beginRecord 17 = .ok (.iastore, 1) := by decide +kernel
theorem dX1_beginRecord_18 : decode cX1_beginRecord 18 = .ok (.aload_n 0, 1) := by decide +kernel
theorem dX1_beginRecord_19 : decode cX1_beginRecord 19 = .ok (.getfield 23, 3) := by decide +kernel
theorem dX1_beginRecord_22 : decode cX1_beginRecord 22 = .ok (.iload_n 1, 1) := by decide +kernel
theorem dX1_beginRecord_23 : decode cX1_beginRecord 23 = .ok (.iconst 2, 1) := by decide +kernel
theorem dX1_beginRecord_24 : decode cX1_beginRecord 24 = .ok (.iadd, 1) := by decide +kernel
theorem dX1_beginRecord_25 : decode cX1_beginRecord 25 = .ok (.iload_n 2, 1) := by decide +kernel
theorem dX1_beginRecord_26 : decode cX1_beginRecord 26 = .ok (.iastore, 1) := by decide +kernel
theorem dX1_beginRecord_27 : decode cX1_beginRecord 27 = .ok (.aload_n 0, 1) := by decide +kernel
theorem dX1_beginRecord_28 : decode cX1_beginRecord 28 = .ok (.getfield 23, 3) := by decide +kernel
theorem dX1_beginRecord_31 : decode cX1_beginRecord 31 = .ok (.iload_n 1, 1) := by decide +kernel
theorem dX1_beginRecord_32 : decode cX1_beginRecord 32 = .ok (.iconst 3, 1) := by decide +kernel
theorem dX1_beginRecord_33 : decode cX1_beginRecord 33 = .ok (.iadd, 1) := by decide +kernel
theorem dX1_beginRecord_34 : decode cX1_beginRecord 34 = .ok (.iload_n 2, 1) := by decide +kernel
theorem dX1_beginRecord_35 : decode cX1_beginRecord 35 = .ok (.iastore, 1) := by decide +kernel
theorem dX1_beginRecord_36 : decode cX1_beginRecord 36 = .ok (.aload_n 0, 1) := by decide +kernel
theorem dX1_beginRecord_37 : decode cX1_beginRecord 37 = .ok (.getfield 23, 3) := by decide +kernel
theorem dX1_beginRecord_40 : decode cX1_beginRecord 40 = .ok (.iload_n 1, 1) := by decide +kernel
theorem dX1_beginRecord_41 : decode cX1_beginRecord 41 = .ok (.iconst 4, 1) := by decide +kernel
theorem dX1_beginRecord_42 : decode cX1_beginRecord 42 = .ok (.iadd, 1) := by decide +kernel
theorem dX1_beginRecord_43 : decode cX1_beginRecord 43 = .ok (.iconst 0, 1) := by decide +kernel
theorem dX1_beginRecord_44 : decode cX1_beginRecord 44 = .ok (.iastore, 1) := by decide +kernel
theorem dX1_beginRecord_45 : decode cX1_beginRecord 45 = .ok (.aload_n 0, 1) := by decide +kernel
theorem dX1_beginRecord_46 : decode cX1_beginRecord 46 = .ok (.getfield 23, 3) := by decide +kernel
theorem dX1_beginRecord_49 : decode cX1_beginRecord 49 = .ok (.iload_n 1, 1) := by decide +kernel
theorem dX1_beginRecord_50 : decode cX1_beginRecord 50 = .ok (.iconst 5, 1) := by decide +kernel
theorem dX1_beginRecord_51 : decode cX1_beginRecord 51 = .ok (.iadd, 1) := by decide +kernel
theorem dX1_beginRecord_52 : decode cX1_beginRecord 52 = .ok (.iconst 0, 1) := by decide +kernel
theorem dX1_beginRecord_53 : decode cX1_beginRecord 53 = .ok (.iastore, 1) := by decide +kernel
theorem dX1_beginRecord_54 : decode cX1_beginRecord 54 = .ok (.return_, 1) := by decide +kernel
theorem dX2_init_0 : decode cX2_init 0 = .ok (.aload_n 0, 1) := by decide +kernel
theorem dX2_init_1 : decode cX2_init 1 = .ok (.invokespecial 3, 3) := by decide +kernel
theorem dX2_init_4 : decode cX2_init 4 = .ok (.return_, 1) := by decide +kernel
theorem dX2_perform_0 : decode cX2_perform 0 = .ok (.aload_n 0, 1) := by decide +kernel
theorem dX2_perform_1 : decode cX2_perform 1 = .ok (.iconst 0, 1) := by decide +kernel
theorem dX2_perform_2 : decode cX2_perform 2 = .ok (.putfield 9, 3) := by decide +kernel
theorem dX2_perform_5 : decode cX2_perform 5 = .ok (.aload_n 0, 1) := by decide +kernel
theorem dX2_perform_6 : decode cX2_perform 6 = .ok (.iconst 0, 1) := by decide +kernel
theorem dX2_perform_7 : decode cX2_perform 7 = .ok (.putfield 15, 3) := by decide +kernel
theorem dX2_perform_10 : decode cX2_perform 10 = .ok (.aload_n 1, 1) := by decide +kernel
theorem dX2_perform_11 : decode cX2_perform 11 = .ok (.iconst 0, 1) := by decide +kernel
theorem dX2_perform_12 : decode cX2_perform 12 = .ok (.putfield 18, 3) := by decide +kernel
theorem dX2_perform_15 : decode cX2_perform 15 = .ok (.iconst 0, 1) := by decide +kernel
theorem dX2_perform_16 : decode cX2_perform 16 = .ok (.istore 4, 2) := by decide +kernel
theorem dX2_perform_18 : decode cX2_perform 18 = .ok (.iload 4, 2) := by decide +kernel
theorem dX2_perform_20 : decode cX2_perform 20 = .ok (.bipush 60, 2) := by decide +kernel
theorem dX2_perform_22 : decode cX2_perform 22 = .ok (.if_icmp .ge 92, 3) := by decide +kernel
theorem dX2_perform_25 : decode cX2_perform 25 = .ok (.aload_n 1, 1) := by decide +kernel
theorem dX2_perform_26 : decode cX2_perform 26 = .ok (.getfield 18, 3) := by decide +kernel
theorem dX2_perform_29 : decode cX2_perform 29 = .ok (.aload_n 1, 1) := by decide +kernel
theorem dX2_perform_30 : decode cX2_perform 30 = .ok (.getfield 23, 3) := by decide +kernel
theorem dX2_perform_33 : decode cX2_perform 33 = .ok (.if_icmp .ge 81, 3) := by decide +kernel
theorem dX2_perform_36 : decode cX2_perform 36 = .ok (.aload_n 0, 1) := by decide +kernel
theorem dX2_perform_37 : decode cX2_perform 37 = .ok (.aload_n 1, 1) := by decide +kernel
theorem dX2_perform_38 : decode cX2_perform 38 = .ok (.getfield 18, 3) := by decide +kernel
theorem dX2_perform_41 : decode cX2_perform 41 = .ok (.putfield 26, 3) := by decide +kernel
theorem dX2_perform_44 : decode cX2_perform 44 = .ok (.aload_n 1, 1) := by decide +kernel
theorem dX2_perform_45 : decode cX2_perform 45 = .ok (.invokevirtual 27, 3) := by decide +kernel
theorem dX2_perform_48 : decode cX2_perform 48 = .ok (.ifCond .ne 22, 3) := by decide +kernel
theorem dX2_perform_51 : decode cX2_perform 51 = .ok (.aload_n 0, 1) := by decide +kernel
theorem dX2_perform_52 : decode cX2_perform 52 = .ok (.iconst 1, 1) := by decide +kernel
theorem dX2_perform_53 : decode cX2_perform 53 = .ok (.putfield 15, 3) := by decide +kernel
theorem dX2_perform_56 : decode cX2_perform 56 = .ok (.aload_n 0, 1) := by decide +kernel
theorem dX2_perform_57 : decode cX2_perform 57 = .ok (.aload_n 1, 1) := by decide +kernel
theorem dX2_perform_58 : decode cX2_perform 58 = .ok (.getfield 18, 3) := by decide +kernel
theorem dX2_perform_61 : decode cX2_perform 61 = .ok (.aload_n 0, 1) := by decide +kernel
theorem dX2_perform_62 : decode cX2_perform 62 = .ok (.getfield 26, 3) := by decide +kernel
theorem dX2_perform_65 : decode cX2_perform 65 = .ok (.isub, 1) := by decide +kernel
theorem dX2_perform_66 : decode cX2_perform 66 = .ok (.putfield 31, 3) := by decide +kernel
theorem dX2_perform_69 : decode cX2_perform 69 = .ok (.return_, 1) := by decide +kernel
theorem dX2_perform_70 : decode cX2_perform 70 = .ok (.aload_n 1, 1) := by decide +kernel
theorem dX2_perform_71 : decode cX2_perform 71 = .ok (.aload_n 2, 1) := by decide +kernel
theorem dX2_perform_72 : decode cX2_perform 72 = .ok (.aload_n 3, 1) := by decide +kernel
theorem dX2_perform_73 : decode cX2_perform 73 = .ok (.invokestatic 34, 3) := by decide +kernel
theorem dX2_perform_76 : decode cX2_perform 76 = .ok (.istore 5, 2) := by decide +kernel
theorem dX2_perform_78 : decode cX2_perform 78 = .ok (.iload 5, 2) := by decide +kernel
theorem dX2_perform_80 : decode cX2_perform 80 = .ok (.invokestatic 38, 3) := by decide +kernel
theorem dX2_perform_83 : decode cX2_perform 83 = .ok (.ifCond .eq 15, 3) := by decide +kernel
theorem dX2_perform_86 : decode cX2_perform 86 = .ok (.aload_n 0, 1) := by decide +kernel
theorem dX2_perform_87 : decode cX2_perform 87 = .ok (.iconst 2, 1) := by decide +kernel
theorem dX2_perform_88 : decode cX2_perform 88 = .ok (.putfield 15, 3) := by decide +kernel
theorem dX2_perform_91 : decode cX2_perform 91 = .ok (.aload_n 0, 1) := by decide +kernel
theorem dX2_perform_92 : decode cX2_perform 92 = .ok (.iload 5, 2) := by decide +kernel
theorem dX2_perform_94 : decode cX2_perform 94 = .ok (.putfield 31, 3) := by decide +kernel
theorem dX2_perform_97 : decode cX2_perform 97 = .ok (.return_, 1) := by decide +kernel
theorem dX2_perform_98 : decode cX2_perform 98 = .ok (.aload_n 0, 1) := by decide +kernel
theorem dX2_perform_99 : decode cX2_perform 99 = .ok (.dup, 1) := by decide +kernel
theorem dX2_perform_100 : decode cX2_perform 100 = .ok (.getfield 9, 3) := by decide +kernel
theorem dX2_perform_103 : decode cX2_perform 103 = .ok (.iconst 1, 1) := by decide +kernel
theorem dX2_perform_104 : decode cX2_perform 104 = .ok (.iadd, 1) := by decide +kernel
theorem dX2_perform_105 : decode cX2_perform 105 = .ok (.putfield 9, 3) := by decide +kernel
theorem dX2_perform_108 : decode cX2_perform 108 = .ok (.iinc 4 1, 3) := by decide +kernel
theorem dX2_perform_111 : decode cX2_perform 111 = .ok (.goto (-93), 3) := by decide +kernel
theorem dX2_perform_114 : decode cX2_perform 114 = .ok (.return_, 1) := by decide +kernel
theorem dX2_obey_0 : decode cX2_obey 0 = .ok (.aload_n 0, 1) := by decide +kernel
theorem dX2_obey_1 : decode cX2_obey 1 = .ok (.getfield 42, 3) := by decide +kernel
theorem dX2_obey_4 : decode cX2_obey 4 = .ok (.lookupswitch 102 #[(98, 89), (103, 52), (112, 70), (113, 79), (116, 61)], 52) := by decide +kernel
theorem dX2_obey_56 : decode cX2_obey 56 = .ok (.aload_n 1, 1) := by decide +kernel
theorem dX2_obey_57 : decode cX2_obey 57 = .ok (.aload_n 0, 1) := by decide +kernel
theorem dX2_obey_58 : decode cX2_obey 58 = .ok (.getfield 46, 3) := by decide +kernel
theorem dX2_obey_61 : decode cX2_obey 61 = .ok (.invokevirtual 49, 3) := by decide +kernel
theorem dX2_obey_64 : decode cX2_obey 64 = .ok (.ireturn, 1) := by decide +kernel
theorem dX2_obey_65 : decode cX2_obey 65 = .ok (.aload_n 1, 1) := by decide +kernel
theorem dX2_obey_66 : decode cX2_obey 66 = .ok (.aload_n 0, 1) := by decide +kernel
theorem dX2_obey_67 : decode cX2_obey 67 = .ok (.getfield 46, 3) := by decide +kernel
theorem dX2_obey_70 : decode cX2_obey 70 = .ok (.invokevirtual 55, 3) := by decide +kernel
theorem dX2_obey_73 : decode cX2_obey 73 = .ok (.ireturn, 1) := by decide +kernel
theorem dX2_obey_74 : decode cX2_obey 74 = .ok (.aload_n 1, 1) := by decide +kernel
theorem dX2_obey_75 : decode cX2_obey 75 = .ok (.aload_n 0, 1) := by decide +kernel
theorem dX2_obey_76 : decode cX2_obey 76 = .ok (.getfield 46, 3) := by decide +kernel
theorem dX2_obey_79 : decode cX2_obey 79 = .ok (.invokevirtual 58, 3) := by decide +kernel
theorem dX2_obey_82 : decode cX2_obey 82 = .ok (.ireturn, 1) := by decide +kernel
theorem dX2_obey_83 : decode cX2_obey 83 = .ok (.aload_n 1, 1) := by decide +kernel
theorem dX2_obey_84 : decode cX2_obey 84 = .ok (.aload_n 0, 1) := by decide +kernel
theorem dX2_obey_85 : decode cX2_obey 85 = .ok (.getfield 46, 3) := by decide +kernel
theorem dX2_obey_88 : decode cX2_obey 88 = .ok (.ineg, 1) := by decide +kernel
theorem dX2_obey_89 : decode cX2_obey 89 = .ok (.invokevirtual 58, 3) := by decide +kernel
theorem dX2_obey_92 : decode cX2_obey 92 = .ok (.ireturn, 1) := by decide +kernel
theorem dX2_obey_93 : decode cX2_obey 93 = .ok (.aload_n 1, 1) := by decide +kernel
theorem dX2_obey_94 : decode cX2_obey 94 = .ok (.aload_n 0, 1) := by decide +kernel
theorem dX2_obey_95 : decode cX2_obey 95 = .ok (.getfield 46, 3) := by decide +kernel
theorem dX2_obey_98 : decode cX2_obey 98 = .ok (.aload_n 0, 1) := by decide +kernel
theorem dX2_obey_99 : decode cX2_obey 99 = .ok (.getfield 61, 3) := by decide +kernel
theorem dX2_obey_102 : decode cX2_obey 102 = .ok (.invokevirtual 64, 3) := by decide +kernel
theorem dX2_obey_105 : decode cX2_obey 105 = .ok (.ireturn, 1) := by decide +kernel
theorem dX2_obey_106 : decode cX2_obey 106 = .ok (.aload_n 1, 1) := by decide +kernel
theorem dX2_obey_107 : decode cX2_obey 107 = .ok (.aload_n 0, 1) := by decide +kernel
theorem dX2_obey_108 : decode cX2_obey 108 = .ok (.getfield 46, 3) := by decide +kernel
theorem dX2_obey_111 : decode cX2_obey 111 = .ok (.aload_n 2, 1) := by decide +kernel
theorem dX2_obey_112 : decode cX2_obey 112 = .ok (.invokevirtual 68, 3) := by decide +kernel
theorem dX2_obey_115 : decode cX2_obey 115 = .ok (.ireturn, 1) := by decide +kernel
theorem dX3_init_0 : decode cX3_init 0 = .ok (.aload_n 0, 1) := by decide +kernel
theorem dX3_init_1 : decode cX3_init 1 = .ok (.invokespecial 3, 3) := by decide +kernel
theorem dX3_init_4 : decode cX3_init 4 = .ok (.aload_n 0, 1) := by decide +kernel
theorem dX3_init_5 : decode cX3_init 5 = .ok (.bipush 60, 2) := by decide +kernel
theorem dX3_init_7 : decode cX3_init 7 = .ok (.newarray .char, 2) := by decide +kernel
theorem dX3_init_9 : decode cX3_init 9 = .ok (.putfield 9, 3) := by decide +kernel
theorem dX3_init_12 : decode cX3_init 12 = .ok (.return_, 1) := by decide +kernel
theorem dX3_append_0 : decode cX3_append 0 = .ok (.aload_n 0, 1) := by decide +kernel
theorem dX3_append_1 : decode cX3_append 1 = .ok (.getfield 15, 3) := by decide +kernel
theorem dX3_append_4 : decode cX3_append 4 = .ok (.bipush 60, 2) := by decide +kernel
theorem dX3_append_6 : decode cX3_append 6 = .ok (.if_icmp .ge 23, 3) := by decide +kernel
theorem dX3_append_9 : decode cX3_append 9 = .ok (.aload_n 0, 1) := by decide +kernel
theorem dX3_append_10 : decode cX3_append 10 = .ok (.getfield 9, 3) := by decide +kernel
theorem dX3_append_13 : decode cX3_append 13 = .ok (.aload_n 0, 1) := by decide +kernel
theorem dX3_append_14 : decode cX3_append 14 = .ok (.getfield 15, 3) := by decide +kernel
theorem dX3_append_17 : decode cX3_append 17 = .ok (.iload_n 1, 1) := by decide +kernel
theorem dX3_append_18 : decode cX3_append 18 = .ok (.castore, 1) := by decide +kernel
theorem dX3_append_19 : decode cX3_append 19 = .ok (.aload_n 0, 1) := by decide +kernel
theorem dX3_append_20 : decode cX3_append 20 = .ok (.dup, 1) := by decide +kernel
theorem dX3_append_21 : decode cX3_append 21 = .ok (.getfield 15, 3) := by decide +kernel
theorem dX3_append_24 : decode cX3_append 24 = .ok (.iconst 1, 1) := by decide +kernel
theorem dX3_append_25 : decode cX3_append 25 = .ok (.iadd, 1) := by decide +kernel
theorem dX3_append_26 : decode cX3_append 26 = .ok (.putfield 15, 3) := by decide +kernel
theorem dX3_append_29 : decode cX3_append 29 = .ok (.return_, 1) := by decide +kernel
theorem dX3_readOrder_0 : decode cX3_readOrder 0 = .ok (.aload_n 0, 1) := by decide +kernel
theorem dX3_readOrder_1 : decode cX3_readOrder 1 = .ok (.aload_n 0, 1) := by decide +kernel
theorem dX3_readOrder_2 : decode cX3_readOrder 2 = .ok (.invokevirtual 19, 3) := by decide +kernel
theorem dX3_readOrder_5 : decode cX3_readOrder 5 = .ok (.putfield 23, 3) := by decide +kernel
theorem dX3_readOrder_8 : decode cX3_readOrder 8 = .ok (.aload_n 0, 1) := by decide +kernel
theorem dX3_readOrder_9 : decode cX3_readOrder 9 = .ok (.iconst 0, 1) := by decide +kernel
theorem dX3_readOrder_10 : decode cX3_readOrder 10 = .ok (.putfield 27, 3) := by decide +kernel
theorem dX3_readOrder_13 : decode cX3_readOrder 13 = .ok (.aload_n 0, 1) := by decide +kernel
theorem dX3_readOrder_14 : decode cX3_readOrder 14 = .ok (.iconst 0, 1) := by decide +kernel
theorem dX3_readOrder_15 : decode cX3_readOrder 15 = .ok (.putfield 30, 3) := by decide +kernel
theorem dX3_readOrder_18 : decode cX3_readOrder 18 = .ok (.aload_n 0, 1) := by decide +kernel
theorem dX3_readOrder_19 : decode cX3_readOrder 19 = .ok (.getfield 23, 3) := by decide +kernel
theorem dX3_readOrder_22 : decode cX3_readOrder 22 = .ok (.invokestatic 33, 3) := by decide +kernel
theorem dX3_readOrder_25 : decode cX3_readOrder 25 = .ok (.ifCond .ne 5, 3) := by decide +kernel
theorem dX3_readOrder_28 : decode cX3_readOrder 28 = .ok (.iconst 0, 1) := by decide +kernel
theorem dX3_readOrder_29 : decode cX3_readOrder 29 = .ok (.ireturn, 1) := by decide +kernel
theorem dX3_readOrder_30 : decode cX3_readOrder 30 = .ok (.aload_n 0, 1) := by decide +kernel
theorem dX3_readOrder_31 : decode cX3_readOrder 31 = .ok (.dup, 1) := by decide +kernel
theorem dX3_readOrder_32 : decode cX3_readOrder 32 = .ok (.getfield 37, 3) := by decide +kernel
theorem dX3_readOrder_35 : decode cX3_readOrder 35 = .ok (.iconst 1, 1) := by decide +kernel
theorem dX3_readOrder_36 : decode cX3_readOrder 36 = .ok (.iadd, 1) := by decide +kernel
theorem dX3_readOrder_37 : decode cX3_readOrder 37 = .ok (.putfield 37, 3) := by decide +kernel
theorem dX3_readOrder_40 : decode cX3_readOrder 40 = .ok (.aload_n 0, 1) := by decide +kernel
theorem dX3_readOrder_41 : decode cX3_readOrder 41 = .ok (.aload_n 0, 1) := by decide +kernel
theorem dX3_readOrder_42 : decode cX3_readOrder 42 = .ok (.invokevirtual 40, 3) := by decide +kernel
theorem dX3_readOrder_45 : decode cX3_readOrder 45 = .ok (.putfield 27, 3) := by decide +kernel
theorem dX3_readOrder_48 : decode cX3_readOrder 48 = .ok (.aload_n 0, 1) := by decide +kernel
theorem dX3_readOrder_49 : decode cX3_readOrder 49 = .ok (.getfield 27, 3) := by decide +kernel
theorem dX3_readOrder_52 : decode cX3_readOrder 52 = .ok (.ifCond .ge 5, 3) := by decide +kernel
theorem dX3_readOrder_55 : decode cX3_readOrder 55 = .ok (.iconst 0, 1) := by decide +kernel
theorem dX3_readOrder_56 : decode cX3_readOrder 56 = .ok (.ireturn, 1) := by decide +kernel
theorem dX3_readOrder_57 : decode cX3_readOrder 57 = .ok (.aload_n 0, 1) := by decide +kernel
theorem dX3_readOrder_58 : decode cX3_readOrder 58 = .ok (.getfield 23, 3) := by decide +kernel
theorem dX3_readOrder_61 : decode cX3_readOrder 61 = .ok (.bipush 98, 2) := by decide +kernel
theorem dX3_readOrder_63 : decode cX3_readOrder 63 = .ok (.if_icmp .ne 22, 3) := by decide +kernel
theorem dX3_readOrder_66 : decode cX3_readOrder 66 = .ok (.aload_n 0, 1) := by decide +kernel
theorem dX3_readOrder_67 : decode cX3_readOrder 67 = .ok (.bipush 44, 2) := by decide +kernel
theorem dX3_readOrder_69 : decode cX3_readOrder 69 = .ok (.invokevirtual 44, 3) := by decide +kernel
theorem dX3_readOrder_72 : decode cX3_readOrder 72 = .ok (.ifCond .ne 5, 3) := by decide +kernel
theorem dX3_readOrder_75 : decode cX3_readOrder 75 = .ok (.iconst 0, 1) := by decide +kernel
theorem dX3_readOrder_76 : decode cX3_readOrder 76 = .ok (.ireturn, 1) := by decide +kernel
theorem dX3_readOrder_77 : decode cX3_readOrder 77 = .ok (.aload_n 0, 1) := by decide +kernel
theorem dX3_readOrder_78 : decode cX3_readOrder 78 = .ok (.aload_n 0, 1) := by decide +kernel
theorem dX3_readOrder_79 : decode cX3_readOrder 79 = .ok (.invokevirtual 40, 3) := by decide +kernel
theorem dX3_readOrder_82 : decode cX3_readOrder 82 = .ok (.putfield 30, 3) := by decide +kernel
theorem dX3_readOrder_85 : decode cX3_readOrder 85 = .ok (.aload_n 0, 1) := by decide +kernel
theorem dX3_readOrder_86 : decode cX3_readOrder 86 = .ok (.getfield 30, 3) := by decide +kernel
theorem dX3_readOrder_89 : decode cX3_readOrder 89 = .ok (.ifCond .lt 16, 3) := by decide +kernel
theorem dX3_readOrder_92 : decode cX3_readOrder 92 = .ok (.aload_n 0, 1) := by decide +kernel
theorem dX3_readOrder_93 : decode cX3_readOrder 93 = .ok (.bipush 59, 2) := by decide +kernel
theorem dX3_readOrder_95 : decode cX3_readOrder 95 = .ok (.invokevirtual 44, 3) := by decide +kernel
theorem dX3_readOrder_98 : decode cX3_readOrder 98 = .ok (.ifCond .eq 7, 3) := by decide +kernel
theorem dX3_readOrder_101 : decode cX3_readOrder 101 = .ok (.iconst 1, 1) := by decide +kernel
theorem dX3_readOrder_102 : decode cX3_readOrder 102 = .ok (.goto 4, 3) := by decide +kernel
theorem dX3_readOrder_105 : decode cX3_readOrder 105 = .ok (.iconst 0, 1) := by decide +kernel
theorem dX3_readOrder_106 : decode cX3_readOrder 106 = .ok (.ireturn, 1) := by decide +kernel
theorem dX3_isKind_0 : decode cX3_isKind 0 = .ok (.iload_n 0, 1) := by decide +kernel
theorem dX3_isKind_1 : decode cX3_isKind 1 = .ok (.bipush 103, 2) := by decide +kernel
theorem dX3_isKind_3 : decode cX3_isKind 3 = .ok (.if_icmp .eq 33, 3) := by decide +kernel
theorem dX3_isKind_6 : decode cX3_isKind 6 = .ok (.iload_n 0, 1) := by decide +kernel
theorem dX3_isKind_7 : decode cX3_isKind 7 = .ok (.bipush 116, 2) := by decide +kernel
theorem dX3_isKind_9 : decode cX3_isKind 9 = .ok (.if_icmp .eq 27, 3) := by decide +kernel
theorem dX3_isKind_12 : decode cX3_isKind 12 = .ok (.iload_n 0, 1) := by decide +kernel
theorem dX3_isKind_13 : decode cX3_isKind 13 = .ok (.bipush 112, 2) := by decide +kernel
theorem dX3_isKind_15 : decode cX3_isKind 15 = .ok (.if_icmp .eq 21, 3) := by decide +kernel
theorem dX3_isKind_18 : decode cX3_isKind 18 = .ok (.iload_n 0, 1) := by decide +kernel
theorem dX3_isKind_19 : decode cX3_isKind 19 = .ok (.bipush 113, 2) := by decide +kernel
theorem dX3_isKind_21 : decode cX3_isKind 21 = .ok (.if_icmp .eq 15, 3) := by decide +kernel
theorem dX3_isKind_24 : decode cX3_isKind 24 = .ok (.iload_n 0, 1) := by decide +kernel
theorem dX3_isKind_25 : decode cX3_isKind 25 = .ok (.bipush 98, 2) := by decide +kernel
theorem dX3_isKind_27 : decode cX3_isKind 27 = .ok (.if_icmp .eq 9, 3) := by decide +kernel
theorem dX3_isKind_30 : decode cX3_isKind 30 = .ok (.iload_n 0, 1) := by decide +kernel
theorem dX3_isKind_31 : decode cX3_isKind 31 = .ok (.bipush 114, 2) := by decide +kernel
theorem dX3_isKind_33 : decode cX3_isKind 33 = .ok (.if_icmp .ne 7, 3) := by decide +kernel
theorem dX3_isKind_36 : decode cX3_isKind 36 = .ok (.iconst 1, 1) := by decide +kernel
theorem dX3_isKind_37 : decode cX3_isKind 37 = .ok (.goto 4, 3) := by decide +kernel
theorem dX3_isKind_40 : decode cX3_isKind 40 = .ok (.iconst 0, 1) := by decide +kernel
theorem dX3_isKind_41 : decode cX3_isKind 41 = .ok (.ireturn, 1) := by decide +kernel
theorem dX3_characterHere_0 : decode cX3_characterHere 0 = .ok (.aload_n 0, 1) := by decide +kernel
theorem dX3_characterHere_1 : decode cX3_characterHere 1 = .ok (.getfield 37, 3) := by decide +kernel
theorem dX3_characterHere_4 : decode cX3_characterHere 4 = .ok (.ifCond .lt 35, 3) := by decide +kernel
theorem dX3_characterHere_7 : decode cX3_characterHere 7 = .ok (.aload_n 0, 1) := by decide +kernel
theorem dX3_characterHere_8 : decode cX3_characterHere 8 = .ok (.getfield 37, 3) := by decide +kernel
theorem dX3_characterHere_11 : decode cX3_characterHere 11 = .ok (.aload_n 0, 1) := by decide +kernel
theorem dX3_characterHere_12 : decode cX3_characterHere 12 = .ok (.getfield 15, 3) := by decide +kernel
theorem dX3_characterHere_15 : decode cX3_characterHere 15 = .ok (.if_icmp .ge 24, 3) := by decide +kernel
theorem dX3_characterHere_18 : decode cX3_characterHere 18 = .ok (.aload_n 0, 1) := by decide +kernel
theorem dX3_characterHere_19 : decode cX3_characterHere 19 = .ok (.getfield 37, 3) := by decide +kernel
theorem dX3_characterHere_22 : decode cX3_characterHere 22 = .ok (.bipush 60, 2) := by decide +kernel
theorem dX3_characterHere_24 : decode cX3_characterHere 24 = .ok (.if_icmp .ge 15, 3) := by decide +kernel
theorem dX3_characterHere_27 : decode cX3_characterHere 27 = .ok (.aload_n 0, 1) := by decide +kernel
theorem dX3_characterHere_28 : decode cX3_characterHere 28 = .ok (.getfield 9, 3) := by decide +kernel
theorem dX3_characterHere_31 : decode cX3_characterHere 31 = .ok (.aload_n 0, 1) := by decide +kernel
theorem dX3_characterHere_32 : decode cX3_characterHere 32 = .ok (.getfield 37, 3) := by decide +kernel
theorem dX3_characterHere_35 : decode cX3_characterHere 35 = .ok (.caload, 1) := by decide +kernel
theorem dX3_characterHere_36 : decode cX3_characterHere 36 = .ok (.goto 4, 3) := by decide +kernel
theorem dX3_characterHere_39 : decode cX3_characterHere 39 = .ok (.iconst 0, 1) := by decide +kernel
theorem dX3_characterHere_40 : decode cX3_characterHere 40 = .ok (.ireturn, 1) := by decide +kernel
theorem dX3_skip_0 : decode cX3_skip 0 = .ok (.aload_n 0, 1) := by decide +kernel
theorem dX3_skip_1 : decode cX3_skip 1 = .ok (.invokevirtual 19, 3) := by decide +kernel
theorem dX3_skip_4 : decode cX3_skip 4 = .ok (.iload_n 1, 1) := by decide +kernel
theorem dX3_skip_5 : decode cX3_skip 5 = .ok (.if_icmp .eq 5, 3) := by decide +kernel
theorem dX3_skip_8 : decode cX3_skip 8 = .ok (.iconst 0, 1) := by decide +kernel
theorem dX3_skip_9 : decode cX3_skip 9 = .ok (.ireturn, 1) := by decide +kernel
theorem dX3_skip_10 : decode cX3_skip 10 = .ok (.aload_n 0, 1) := by decide +kernel
theorem dX3_skip_11 : decode cX3_skip 11 = .ok (.dup, 1) := by decide +kernel
theorem dX3_skip_12 : decode cX3_skip 12 = .ok (.getfield 37, 3) := by decide +kernel
theorem dX3_skip_15 : decode cX3_skip 15 = .ok (.iconst 1, 1) := by decide +kernel
theorem dX3_skip_16 : decode cX3_skip 16 = .ok (.iadd, 1) := by decide +kernel
theorem dX3_skip_17 : decode cX3_skip 17 = .ok (.putfield 37, 3) := by decide +kernel
theorem dX3_skip_20 : decode cX3_skip 20 = .ok (.iconst 1, 1) := by decide +kernel
theorem dX3_skip_21 : decode cX3_skip 21 = .ok (.ireturn, 1) := by decide +kernel
theorem dX3_readNumber_0 : decode cX3_readNumber 0 = .ok (.iconst (-1), 1) := by decide +kernel
theorem dX3_readNumber_1 : decode cX3_readNumber 1 = .ok (.istore_n 1, 1) := by decide +kernel
theorem dX3_readNumber_2 : decode cX3_readNumber 2 = .ok (.iconst 0, 1) := by decide +kernel
theorem dX3_readNumber_3 : decode cX3_readNumber 3 = .ok (.istore_n 2, 1) := by decide +kernel
theorem dX3_readNumber_4 : decode cX3_readNumber 4 = .ok (.iload_n 2, 1) := by decide +kernel
theorem dX3_readNumber_5 : decode cX3_readNumber 5 = .ok (.iconst 3, 1) := by decide +kernel
theorem dX3_readNumber_6 : decode cX3_readNumber 6 = .ok (.if_icmp .ge 52, 3) := by decide +kernel
theorem dX3_readNumber_9 : decode cX3_readNumber 9 = .ok (.aload_n 0, 1) := by decide +kernel
theorem dX3_readNumber_10 : decode cX3_readNumber 10 = .ok (.invokevirtual 19, 3) := by decide +kernel
theorem dX3_readNumber_13 : decode cX3_readNumber 13 = .ok (.istore_n 3, 1) := by decide +kernel
theorem dX3_readNumber_14 : decode cX3_readNumber 14 = .ok (.iload_n 3, 1) := by decide +kernel
theorem dX3_readNumber_15 : decode cX3_readNumber 15 = .ok (.bipush 48, 2) := by decide +kernel
theorem dX3_readNumber_17 : decode cX3_readNumber 17 = .ok (.if_icmp .lt 9, 3) := by decide +kernel
theorem dX3_readNumber_20 : decode cX3_readNumber 20 = .ok (.iload_n 3, 1) := by decide +kernel
theorem dX3_readNumber_21 : decode cX3_readNumber 21 = .ok (.bipush 57, 2) := by decide +kernel
theorem dX3_readNumber_23 : decode cX3_readNumber 23 = .ok (.if_icmp .le 5, 3) := by decide +kernel
theorem dX3_readNumber_26 : decode cX3_readNumber 26 = .ok (.iload_n 1, 1) := by decide +kernel
theorem dX3_readNumber_27 : decode cX3_readNumber 27 = .ok (.ireturn, 1) := by decide +kernel
theorem dX3_readNumber_28 : decode cX3_readNumber 28 = .ok (.iconst 0, 1) := by decide +kernel
theorem dX3_readNumber_29 : decode cX3_readNumber 29 = .ok (.iload_n 1, 1) := by decide +kernel
theorem dX3_readNumber_30 : decode cX3_readNumber 30 = .ok (.invokestatic 47, 3) := by decide +kernel
theorem dX3_readNumber_33 : decode cX3_readNumber 33 = .ok (.bipush 10, 2) := by decide +kernel
theorem dX3_readNumber_35 : decode cX3_readNumber 35 = .ok (.imul, 1) := by decide +kernel
theorem dX3_readNumber_36 : decode cX3_readNumber 36 = .ok (.iload_n 3, 1) := by decide +kernel
theorem dX3_readNumber_37 : decode cX3_readNumber 37 = .ok (.bipush 48, 2) := by decide +kernel
theorem dX3_readNumber_39 : decode cX3_readNumber 39 = .ok (.isub, 1) := by decide +kernel
theorem dX3_readNumber_40 : decode cX3_readNumber 40 = .ok (.iadd, 1) := by decide +kernel
theorem dX3_readNumber_41 : decode cX3_readNumber 41 = .ok (.istore_n 1, 1) := by decide +kernel
theorem dX3_readNumber_42 : decode cX3_readNumber 42 = .ok (.aload_n 0, 1) := by decide +kernel
theorem dX3_readNumber_43 : decode cX3_readNumber 43 = .ok (.dup, 1) := by decide +kernel
theorem dX3_readNumber_44 : decode cX3_readNumber 44 = .ok (.getfield 37, 3) := by decide +kernel
theorem dX3_readNumber_47 : decode cX3_readNumber 47 = .ok (.iconst 1, 1) := by decide +kernel
theorem dX3_readNumber_48 : decode cX3_readNumber 48 = .ok (.iadd, 1) := by decide +kernel
theorem dX3_readNumber_49 : decode cX3_readNumber 49 = .ok (.putfield 37, 3) := by decide +kernel
theorem dX3_readNumber_52 : decode cX3_readNumber 52 = .ok (.iinc 2 1, 3) := by decide +kernel
theorem dX3_readNumber_55 : decode cX3_readNumber 55 = .ok (.goto (-51), 3) := by decide +kernel
theorem dX3_readNumber_58 : decode cX3_readNumber 58 = .ok (.iload_n 1, 1) := by decide +kernel
theorem dX3_readNumber_59 : decode cX3_readNumber 59 = .ok (.ireturn, 1) := by decide +kernel
theorem dX4_init_0 : decode cX4_init 0 = .ok (.aload_n 0, 1) := by decide +kernel
theorem dX4_init_1 : decode cX4_init 1 = .ok (.invokespecial 3, 3) := by decide +kernel
theorem dX4_init_4 : decode cX4_init 4 = .ok (.return_, 1) := by decide +kernel
theorem dX4_foresee_0 : decode cX4_foresee 0 = .ok (.iload_n 2, 1) := by decide +kernel
theorem dX4_foresee_1 : decode cX4_foresee 1 = .ok (.invokestatic 9, 3) := by decide +kernel
theorem dX4_foresee_4 : decode cX4_foresee 4 = .ok (.istore_n 3, 1) := by decide +kernel
theorem dX4_foresee_5 : decode cX4_foresee 5 = .ok (.aload_n 1, 1) := by decide +kernel
theorem dX4_foresee_6 : decode cX4_foresee 6 = .ok (.invokevirtual 15, 3) := by decide +kernel
theorem dX4_foresee_9 : decode cX4_foresee 9 = .ok (.istore 4, 2) := by decide +kernel
theorem dX4_foresee_11 : decode cX4_foresee 11 = .ok (.aload_n 0, 1) := by decide +kernel
theorem dX4_foresee_12 : decode cX4_foresee 12 = .ok (.iload 4, 2) := by decide +kernel
theorem dX4_foresee_14 : decode cX4_foresee 14 = .ok (.ifCond .eq 7, 3) := by decide +kernel
theorem dX4_foresee_17 : decode cX4_foresee 17 = .ok (.iconst 0, 1) := by decide +kernel
theorem dX4_foresee_18 : decode cX4_foresee 18 = .ok (.goto 11, 3) := by decide +kernel
theorem dX4_foresee_21 : decode cX4_foresee 21 = .ok (.aload_n 1, 1) := by decide +kernel
theorem dX4_foresee_22 : decode cX4_foresee 22 = .ok (.getfield 21, 3) := by decide +kernel
theorem dX4_foresee_25 : decode cX4_foresee 25 = .ok (.iload_n 2, 1) := by decide +kernel
theorem dX4_foresee_26 : decode cX4_foresee 26 = .ok (.imul, 1) := by decide +kernel
theorem dX4_foresee_27 : decode cX4_foresee 27 = .ok (.iconst 2, 1) := by decide +kernel
theorem dX4_foresee_28 : decode cX4_foresee 28 = .ok (.imul, 1) := by decide +kernel
theorem dX4_foresee_29 : decode cX4_foresee 29 = .ok (.putfield 25, 3) := by decide +kernel
theorem dX4_foresee_32 : decode cX4_foresee 32 = .ok (.aload_n 0, 1) := by decide +kernel
theorem dX4_foresee_33 : decode cX4_foresee 33 = .ok (.iload_n 3, 1) := by decide +kernel
theorem dX4_foresee_34 : decode cX4_foresee 34 = .ok (.aload_n 1, 1) := by decide +kernel
theorem dX4_foresee_35 : decode cX4_foresee 35 = .ok (.getfield 30, 3) := by decide +kernel
theorem dX4_foresee_38 : decode cX4_foresee 38 = .ok (.iconst 0, 1) := by decide +kernel
theorem dX4_foresee_39 : decode cX4_foresee 39 = .ok (.iaload, 1) := by decide +kernel
theorem dX4_foresee_40 : decode cX4_foresee 40 = .ok (.if_icmp .lt 12, 3) := by decide +kernel
theorem dX4_foresee_43 : decode cX4_foresee 43 = .ok (.aload_n 1, 1) := by decide +kernel
theorem dX4_foresee_44 : decode cX4_foresee 44 = .ok (.getfield 34, 3) := by decide +kernel
theorem dX4_foresee_47 : decode cX4_foresee 47 = .ok (.iload_n 2, 1) := by decide +kernel
theorem dX4_foresee_48 : decode cX4_foresee 48 = .ok (.imul, 1) := by decide +kernel
theorem dX4_foresee_49 : decode cX4_foresee 49 = .ok (.goto 4, 3) := by decide +kernel
theorem dX4_foresee_52 : decode cX4_foresee 52 = .ok (.iconst 0, 1) := by decide +kernel
theorem dX4_foresee_53 : decode cX4_foresee 53 = .ok (.putfield 37, 3) := by decide +kernel
theorem dX4_foresee_56 : decode cX4_foresee 56 = .ok (.aload_n 0, 1) := by decide +kernel
theorem dX4_foresee_57 : decode cX4_foresee 57 = .ok (.iload 4, 2) := by decide +kernel
theorem dX4_foresee_59 : decode cX4_foresee 59 = .ok (.ifCond .ne 20, 3) := by decide +kernel
theorem dX4_foresee_62 : decode cX4_foresee 62 = .ok (.iload_n 3, 1) := by decide +kernel
theorem dX4_foresee_63 : decode cX4_foresee 63 = .ok (.aload_n 1, 1) := by decide +kernel
theorem dX4_foresee_64 : decode cX4_foresee 64 = .ok (.getfield 30, 3) := by decide +kernel
theorem dX4_foresee_67 : decode cX4_foresee 67 = .ok (.iconst 1, 1) := by decide +kernel
theorem dX4_foresee_68 : decode cX4_foresee 68 = .ok (.iaload, 1) := by decide +kernel
theorem dX4_foresee_69 : decode cX4_foresee 69 = .ok (.if_icmp .gt 10, 3) := by decide +kernel
theorem dX4_foresee_72 : decode cX4_foresee 72 = .ok (.aload_n 1, 1) := by decide +kernel
theorem dX4_foresee_73 : decode cX4_foresee 73 = .ok (.getfield 40, 3) := by decide +kernel
theorem dX4_foresee_76 : decode cX4_foresee 76 = .ok (.goto 4, 3) := by decide +kernel
theorem dX4_foresee_79 : decode cX4_foresee 79 = .ok (.iconst 0, 1) := by decide +kernel
theorem dX4_foresee_80 : decode cX4_foresee 80 = .ok (.putfield 43, 3) := by decide +kernel
theorem dX4_foresee_83 : decode cX4_foresee 83 = .ok (.aload_n 0, 1) := by decide +kernel
theorem dX4_foresee_84 : decode cX4_foresee 84 = .ok (.aload_n 0, 1) := by decide +kernel
theorem dX4_foresee_85 : decode cX4_foresee 85 = .ok (.getfield 37, 3) := by decide +kernel
theorem dX4_foresee_88 : decode cX4_foresee 88 = .ok (.invokestatic 9, 3) := by decide +kernel
theorem dX4_foresee_91 : decode cX4_foresee 91 = .ok (.iload_n 3, 1) := by decide +kernel
theorem dX4_foresee_92 : decode cX4_foresee 92 = .ok (.imul, 1) := by decide +kernel
theorem dX4_foresee_93 : decode cX4_foresee 93 = .ok (.bipush 100, 2) := by decide +kernel
theorem dX4_foresee_95 : decode cX4_foresee 95 = .ok (.idiv, 1) := by decide +kernel
theorem dX4_foresee_96 : decode cX4_foresee 96 = .ok (.putfield 46, 3) := by decide +kernel
theorem dX4_foresee_99 : decode cX4_foresee 99 = .ok (.aload_n 0, 1) := by decide +kernel
theorem dX4_foresee_100 : decode cX4_foresee 100 = .ok (.aload_n 0, 1) := by decide +kernel
theorem dX4_foresee_101 : decode cX4_foresee 101 = .ok (.getfield 43, 3) := by decide +kernel
theorem dX4_foresee_104 : decode cX4_foresee 104 = .ok (.invokestatic 9, 3) := by decide +kernel
theorem dX4_foresee_107 : decode cX4_foresee 107 = .ok (.bipush 20, 2) := by decide +kernel
theorem dX4_foresee_109 : decode cX4_foresee 109 = .ok (.iload_n 3, 1) := by decide +kernel
theorem dX4_foresee_110 : decode cX4_foresee 110 = .ok (.iadd, 1) := by decide +kernel
theorem dX4_foresee_111 : decode cX4_foresee 111 = .ok (.imul, 1) := by decide +kernel
theorem dX4_foresee_112 : decode cX4_foresee 112 = .ok (.bipush 100, 2) := by decide +kernel
theorem dX4_foresee_114 : decode cX4_foresee 114 = .ok (.idiv, 1) := by decide +kernel
theorem dX4_foresee_115 : decode cX4_foresee 115 = .ok (.putfield 49, 3) := by decide +kernel
theorem dX4_foresee_118 : decode cX4_foresee 118 = .ok (.aload_n 0, 1) := by decide +kernel
theorem dX4_foresee_119 : decode cX4_foresee 119 = .ok (.getfield 25, 3) := by decide +kernel
theorem dX4_foresee_122 : decode cX4_foresee 122 = .ok (.aload_n 0, 1) := by decide +kernel
theorem dX4_foresee_123 : decode cX4_foresee 123 = .ok (.getfield 37, 3) := by decide +kernel
theorem dX4_foresee_126 : decode cX4_foresee 126 = .ok (.iadd, 1) := by decide +kernel
theorem dX4_foresee_127 : decode cX4_foresee 127 = .ok (.aload_n 0, 1) := by decide +kernel
theorem dX4_foresee_128 : decode cX4_foresee 128 = .ok (.getfield 43, 3) := by decide +kernel
theorem dX4_foresee_131 : decode cX4_foresee 131 = .ok (.iadd, 1) := by decide +kernel
theorem dX4_foresee_132 : decode cX4_foresee 132 = .ok (.istore 5, 2) := by decide +kernel
theorem dX4_foresee_134 : decode cX4_foresee 134 = .ok (.aload_n 0, 1) := by decide +kernel
theorem dX4_foresee_135 : decode cX4_foresee 135 = .ok (.aload_n 1, 1) := by decide +kernel
theorem dX4_foresee_136 : decode cX4_foresee 136 = .ok (.getfield 52, 3) := by decide +kernel
theorem dX4_foresee_139 : decode cX4_foresee 139 = .ok (.ineg, 1) := by decide +kernel
theorem dX4_foresee_140 : decode cX4_foresee 140 = .ok (.ldc 55, 2) := by decide +kernel
theorem dX4_foresee_142 : decode cX4_foresee 142 = .ok (.aload_n 1, 1) := by decide +kernel
theorem dX4_foresee_143 : decode cX4_foresee 143 = .ok (.getfield 52, 3) := by decide +kernel
theorem dX4_foresee_146 : decode cX4_foresee 146 = .ok (.isub, 1) := by decide +kernel
theorem dX4_foresee_147 : decode cX4_foresee 147 = .ok (.iload 5, 2) := by decide +kernel
theorem dX4_foresee_149 : decode cX4_foresee 149 = .ok (.invokestatic 56, 3) := by decide +kernel
theorem dX4_foresee_152 : decode cX4_foresee 152 = .ok (.invokestatic 60, 3) := by decide +kernel
theorem dX4_foresee_155 : decode cX4_foresee 155 = .ok (.putfield 63, 3) := by decide +kernel
theorem dX4_foresee_158 : decode cX4_foresee 158 = .ok (.aload_n 0, 1) := by decide +kernel
theorem dX4_foresee_159 : decode cX4_foresee 159 = .ok (.aload_n 0, 1) := by decide +kernel
theorem dX4_foresee_160 : decode cX4_foresee 160 = .ok (.aload_n 1, 1) := by decide +kernel
theorem dX4_foresee_161 : decode cX4_foresee 161 = .ok (.invokevirtual 66, 3) := by decide +kernel
theorem dX4_foresee_164 : decode cX4_foresee 164 = .ok (.putfield 70, 3) := by decide +kernel
theorem dX4_foresee_167 : decode cX4_foresee 167 = .ok (.return_, 1) := by decide +kernel
theorem dX4_siltOf_0 : decode cX4_siltOf 0 = .ok (.aload_n 0, 1) := by decide +kernel
theorem dX4_siltOf_1 : decode cX4_siltOf 1 = .ok (.getfield 63, 3) := by decide +kernel
theorem dX4_siltOf_4 : decode cX4_siltOf 4 = .ok (.ifCond .le 22, 3) := by decide +kernel
theorem dX4_siltOf_7 : decode cX4_siltOf 7 = .ok (.aload_n 0, 1) := by decide +kernel
theorem dX4_siltOf_8 : decode cX4_siltOf 8 = .ok (.getfield 63, 3) := by decide +kernel
theorem dX4_siltOf_11 : decode cX4_siltOf 11 = .ok (.bipush 50, 2) := by decide +kernel
theorem dX4_siltOf_13 : decode cX4_siltOf 13 = .ok (.idiv, 1) := by decide +kernel
theorem dX4_siltOf_14 : decode cX4_siltOf 14 = .ok (.sipush 20000, 3) := by decide +kernel
theorem dX4_siltOf_17 : decode cX4_siltOf 17 = .ok (.aload_n 1, 1) := by decide +kernel
theorem dX4_siltOf_18 : decode cX4_siltOf 18 = .ok (.getfield 73, 3) := by decide +kernel
theorem dX4_siltOf_21 : decode cX4_siltOf 21 = .ok (.isub, 1) := by decide +kernel
theorem dX4_siltOf_22 : decode cX4_siltOf 22 = .ok (.invokestatic 56, 3) := by decide +kernel
theorem dX4_siltOf_25 : decode cX4_siltOf 25 = .ok (.ireturn, 1) := by decide +kernel
theorem dX4_siltOf_26 : decode cX4_siltOf 26 = .ok (.aload_n 0, 1) := by decide +kernel
theorem dX4_siltOf_27 : decode cX4_siltOf 27 = .ok (.getfield 63, 3) := by decide +kernel
theorem dX4_siltOf_30 : decode cX4_siltOf 30 = .ok (.aload_n 1, 1) := by decide +kernel
theorem dX4_siltOf_31 : decode cX4_siltOf 31 = .ok (.getfield 30, 3) := by decide +kernel
theorem dX4_siltOf_34 : decode cX4_siltOf 34 = .ok (.iconst 2, 1) := by decide +kernel
theorem dX4_siltOf_35 : decode cX4_siltOf 35 = .ok (.iaload, 1) := by decide +kernel
theorem dX4_siltOf_36 : decode cX4_siltOf 36 = .ok (.ineg, 1) := by decide +kernel
theorem dX4_siltOf_37 : decode cX4_siltOf 37 = .ok (.if_icmp .gt 20, 3) := by decide +kernel
theorem dX4_siltOf_40 : decode cX4_siltOf 40 = .ok (.aload_n 0, 1) := by decide +kernel
theorem dX4_siltOf_41 : decode cX4_siltOf 41 = .ok (.getfield 63, 3) := by decide +kernel
theorem dX4_siltOf_44 : decode cX4_siltOf 44 = .ok (.ineg, 1) := by decide +kernel
theorem dX4_siltOf_45 : decode cX4_siltOf 45 = .ok (.bipush 20, 2) := by decide +kernel
theorem dX4_siltOf_47 : decode cX4_siltOf 47 = .ok (.idiv, 1) := by decide +kernel
theorem dX4_siltOf_48 : decode cX4_siltOf 48 = .ok (.aload_n 1, 1) := by decide +kernel
theorem dX4_siltOf_49 : decode cX4_siltOf 49 = .ok (.getfield 73, 3) := by decide +kernel
theorem dX4_siltOf_52 : decode cX4_siltOf 52 = .ok (.invokestatic 56, 3) := by decide +kernel
theorem dX4_siltOf_55 : decode cX4_siltOf 55 = .ok (.ineg, 1) := by decide +kernel
theorem dX4_siltOf_56 : decode cX4_siltOf 56 = .ok (.ireturn, 1) := by decide +kernel
theorem dX4_siltOf_57 : decode cX4_siltOf 57 = .ok (.iconst 0, 1) := by decide +kernel
theorem dX4_siltOf_58 : decode cX4_siltOf 58 = .ok (.ireturn, 1) := by decide +kernel
theorem dX5_init_0 : decode cX5_init 0 = .ok (.aload_n 0, 1) := by decide +kernel
theorem dX5_init_1 : decode cX5_init 1 = .ok (.invokespecial 1, 3) := by decide +kernel
theorem dX5_init_4 : decode cX5_init 4 = .ok (.aload_n 0, 1) := by decide +kernel
theorem dX5_init_5 : decode cX5_init 5 = .ok (.new 7, 3) := by decide +kernel
theorem dX5_init_8 : decode cX5_init 8 = .ok (.dup, 1) := by decide +kernel
theorem dX5_init_9 : decode cX5_init 9 = .ok (.invokespecial 9, 3) := by decide +kernel
theorem dX5_init_12 : decode cX5_init 12 = .ok (.putfield 10, 3) := by decide +kernel
theorem dX5_init_15 : decode cX5_init 15 = .ok (.aload_n 0, 1) := by decide +kernel
theorem dX5_init_16 : decode cX5_init 16 = .ok (.new 7, 3) := by decide +kernel
theorem dX5_init_19 : decode cX5_init 19 = .ok (.dup, 1) := by decide +kernel
theorem dX5_init_20 : decode cX5_init 20 = .ok (.invokespecial 9, 3) := by decide +kernel
theorem dX5_init_23 : decode cX5_init 23 = .ok (.putfield 16, 3) := by decide +kernel
theorem dX5_init_26 : decode cX5_init 26 = .ok (.aload_n 0, 1) := by decide +kernel
theorem dX5_init_27 : decode cX5_init 27 = .ok (.new 19, 3) := by decide +kernel
theorem dX5_init_30 : decode cX5_init 30 = .ok (.dup, 1) := by decide +kernel
theorem dX5_init_31 : decode cX5_init 31 = .ok (.invokespecial 21, 3) := by decide +kernel
theorem dX5_init_34 : decode cX5_init 34 = .ok (.putfield 22, 3) := by decide +kernel
theorem dX5_init_37 : decode cX5_init 37 = .ok (.aload_n 0, 1) := by decide +kernel
theorem dX5_init_38 : decode cX5_init 38 = .ok (.new 26, 3) := by decide +kernel
theorem dX5_init_41 : decode cX5_init 41 = .ok (.dup, 1) := by decide +kernel
theorem dX5_init_42 : decode cX5_init 42 = .ok (.invokespecial 28, 3) := by decide +kernel
theorem dX5_init_45 : decode cX5_init 45 = .ok (.putfield 29, 3) := by decide +kernel
theorem dX5_init_48 : decode cX5_init 48 = .ok (.aload_n 0, 1) := by decide +kernel
theorem dX5_init_49 : decode cX5_init 49 = .ok (.new 33, 3) := by decide +kernel
theorem dX5_init_52 : decode cX5_init 52 = .ok (.dup, 1) := by decide +kernel
theorem dX5_init_53 : decode cX5_init 53 = .ok (.invokespecial 35, 3) := by decide +kernel
theorem dX5_init_56 : decode cX5_init 56 = .ok (.putfield 36, 3) := by decide +kernel
theorem dX5_init_59 : decode cX5_init 59 = .ok (.aload_n 0, 1) := by decide +kernel
theorem dX5_init_60 : decode cX5_init 60 = .ok (.new 40, 3) := by decide +kernel
theorem dX5_init_63 : decode cX5_init 63 = .ok (.dup, 1) := by decide +kernel
theorem dX5_init_64 : decode cX5_init 64 = .ok (.invokespecial 42, 3) := by decide +kernel
theorem dX5_init_67 : decode cX5_init 67 = .ok (.putfield 43, 3) := by decide +kernel
theorem dX5_init_70 : decode cX5_init 70 = .ok (.return_, 1) := by decide +kernel
theorem dX5_gates_0 : decode cX5_gates 0 = .ok (.aload_n 0, 1) := by decide +kernel
theorem dX5_gates_1 : decode cX5_gates 1 = .ok (.getfield 16, 3) := by decide +kernel
theorem dX5_gates_4 : decode cX5_gates 4 = .ok (.aload_n 0, 1) := by decide +kernel
theorem dX5_gates_5 : decode cX5_gates 5 = .ok (.getfield 10, 3) := by decide +kernel
theorem dX5_gates_8 : decode cX5_gates 8 = .ok (.invokevirtual 47, 3) := by decide +kernel
theorem dX5_gates_11 : decode cX5_gates 11 = .ok (.aload_n 0, 1) := by decide +kernel
theorem dX5_gates_12 : decode cX5_gates 12 = .ok (.aload_n 0, 1) := by decide +kernel
theorem dX5_gates_13 : decode cX5_gates 13 = .ok (.getfield 16, 3) := by decide +kernel
theorem dX5_gates_16 : decode cX5_gates 16 = .ok (.iload_n 1, 1) := by decide +kernel
theorem dX5_gates_17 : decode cX5_gates 17 = .ok (.invokevirtual 51, 3) := by decide +kernel
theorem dX5_gates_20 : decode cX5_gates 20 = .ok (.invokevirtual 55, 3) := by decide +kernel
theorem dX5_gates_23 : decode cX5_gates 23 = .ok (.ireturn, 1) := by decide +kernel
theorem dX5_turbines_0 : decode cX5_turbines 0 = .ok (.aload_n 0, 1) := by decide +kernel
theorem dX5_turbines_1 : decode cX5_turbines 1 = .ok (.getfield 16, 3) := by decide +kernel
theorem dX5_turbines_4 : decode cX5_turbines 4 = .ok (.aload_n 0, 1) := by decide +kernel
theorem dX5_turbines_5 : decode cX5_turbines 5 = .ok (.getfield 10, 3) := by decide +kernel
theorem dX5_turbines_8 : decode cX5_turbines 8 = .ok (.invokevirtual 47, 3) := by decide +kernel
theorem dX5_turbines_11 : decode cX5_turbines 11 = .ok (.aload_n 0, 1) := by decide +kernel
theorem dX5_turbines_12 : decode cX5_turbines 12 = .ok (.aload_n 0, 1) := by decide +kernel
theorem dX5_turbines_13 : decode cX5_turbines 13 = .ok (.getfield 16, 3) := by decide +kernel
theorem dX5_turbines_16 : decode cX5_turbines 16 = .ok (.iload_n 1, 1) := by decide +kernel
theorem dX5_turbines_17 : decode cX5_turbines 17 = .ok (.invokevirtual 58, 3) := by decide +kernel
theorem dX5_turbines_20 : decode cX5_turbines 20 = .ok (.invokevirtual 55, 3) := by decide +kernel
theorem dX5_turbines_23 : decode cX5_turbines 23 = .ok (.ireturn, 1) := by decide +kernel
theorem dX5_pump_0 : decode cX5_pump 0 = .ok (.aload_n 0, 1) := by decide +kernel
theorem dX5_pump_1 : decode cX5_pump 1 = .ok (.getfield 16, 3) := by decide +kernel
theorem dX5_pump_4 : decode cX5_pump 4 = .ok (.aload_n 0, 1) := by decide +kernel
theorem dX5_pump_5 : decode cX5_pump 5 = .ok (.getfield 10, 3) := by decide +kernel
theorem dX5_pump_8 : decode cX5_pump 8 = .ok (.invokevirtual 47, 3) := by decide +kernel
theorem dX5_pump_11 : decode cX5_pump 11 = .ok (.aload_n 0, 1) := by decide +kernel
theorem dX5_pump_12 : decode cX5_pump 12 = .ok (.aload_n 0, 1) := by decide +kernel
theorem dX5_pump_13 : decode cX5_pump 13 = .ok (.getfield 16, 3) := by decide +kernel
theorem dX5_pump_16 : decode cX5_pump 16 = .ok (.iload_n 1, 1) := by decide +kernel
theorem dX5_pump_17 : decode cX5_pump 17 = .ok (.invokevirtual 61, 3) := by decide +kernel
theorem dX5_pump_20 : decode cX5_pump 20 = .ok (.invokevirtual 55, 3) := by decide +kernel
theorem dX5_pump_23 : decode cX5_pump 23 = .ok (.ireturn, 1) := by decide +kernel
theorem dX5_birds_0 : decode cX5_birds 0 = .ok (.aload_n 0, 1) := by decide +kernel
theorem dX5_birds_1 : decode cX5_birds 1 = .ok (.getfield 16, 3) := by decide +kernel
theorem dX5_birds_4 : decode cX5_birds 4 = .ok (.aload_n 0, 1) := by decide +kernel
theorem dX5_birds_5 : decode cX5_birds 5 = .ok (.getfield 10, 3) := by decide +kernel
theorem dX5_birds_8 : decode cX5_birds 8 = .ok (.invokevirtual 47, 3) := by decide +kernel
theorem dX5_birds_11 : decode cX5_birds 11 = .ok (.aload_n 0, 1) := by decide +kernel
theorem dX5_birds_12 : decode cX5_birds 12 = .ok (.aload_n 0, 1) := by decide +kernel
theorem dX5_birds_13 : decode cX5_birds 13 = .ok (.getfield 16, 3) := by decide +kernel
theorem dX5_birds_16 : decode cX5_birds 16 = .ok (.iload_n 1, 1) := by decide +kernel
theorem dX5_birds_17 : decode cX5_birds 17 = .ok (.iload_n 2, 1) := by decide +kernel
theorem dX5_birds_18 : decode cX5_birds 18 = .ok (.invokevirtual 64, 3) := by decide +kernel
theorem dX5_birds_21 : decode cX5_birds 21 = .ok (.invokevirtual 55, 3) := by decide +kernel
theorem dX5_birds_24 : decode cX5_birds 24 = .ok (.ireturn, 1) := by decide +kernel
theorem dX5_run_0 : decode cX5_run 0 = .ok (.aload_n 0, 1) := by decide +kernel
theorem dX5_run_1 : decode cX5_run 1 = .ok (.getfield 16, 3) := by decide +kernel
theorem dX5_run_4 : decode cX5_run 4 = .ok (.aload_n 0, 1) := by decide +kernel
theorem dX5_run_5 : decode cX5_run 5 = .ok (.getfield 10, 3) := by decide +kernel
theorem dX5_run_8 : decode cX5_run 8 = .ok (.invokevirtual 47, 3) := by decide +kernel
theorem dX5_run_11 : decode cX5_run 11 = .ok (.aload_n 0, 1) := by decide +kernel
theorem dX5_run_12 : decode cX5_run 12 = .ok (.aload_n 0, 1) := by decide +kernel
theorem dX5_run_13 : decode cX5_run 13 = .ok (.getfield 16, 3) := by decide +kernel
theorem dX5_run_16 : decode cX5_run 16 = .ok (.iload_n 1, 1) := by decide +kernel
theorem dX5_run_17 : decode cX5_run 17 = .ok (.aload_n 0, 1) := by decide +kernel
theorem dX5_run_18 : decode cX5_run 18 = .ok (.getfield 22, 3) := by decide +kernel
theorem dX5_run_21 : decode cX5_run 21 = .ok (.invokevirtual 68, 3) := by decide +kernel
theorem dX5_run_24 : decode cX5_run 24 = .ok (.invokevirtual 55, 3) := by decide +kernel
theorem dX5_run_27 : decode cX5_run 27 = .ok (.ireturn, 1) := by decide +kernel
theorem dX5_dredge_0 : decode cX5_dredge 0 = .ok (.aload_n 0, 1) := by decide +kernel
theorem dX5_dredge_1 : decode cX5_dredge 1 = .ok (.getfield 16, 3) := by decide +kernel
theorem dX5_dredge_4 : decode cX5_dredge 4 = .ok (.aload_n 0, 1) := by decide +kernel
theorem dX5_dredge_5 : decode cX5_dredge 5 = .ok (.getfield 10, 3) := by decide +kernel
theorem dX5_dredge_8 : decode cX5_dredge 8 = .ok (.invokevirtual 47, 3) := by decide +kernel
theorem dX5_dredge_11 : decode cX5_dredge 11 = .ok (.aload_n 0, 1) := by decide +kernel
theorem dX5_dredge_12 : decode cX5_dredge 12 = .ok (.aload_n 0, 1) := by decide +kernel
theorem dX5_dredge_13 : decode cX5_dredge 13 = .ok (.getfield 16, 3) := by decide +kernel
theorem dX5_dredge_16 : decode cX5_dredge 16 = .ok (.iload_n 1, 1) := by decide +kernel
theorem dX5_dredge_17 : decode cX5_dredge 17 = .ok (.invokevirtual 72, 3) := by decide +kernel
theorem dX5_dredge_20 : decode cX5_dredge 20 = .ok (.invokevirtual 55, 3) := by decide +kernel
theorem dX5_dredge_23 : decode cX5_dredge 23 = .ok (.ireturn, 1) := by decide +kernel
theorem dX5_set_0 : decode cX5_set 0 = .ok (.aload_n 0, 1) := by decide +kernel
theorem dX5_set_1 : decode cX5_set 1 = .ok (.getfield 16, 3) := by decide +kernel
theorem dX5_set_4 : decode cX5_set 4 = .ok (.aload_n 0, 1) := by decide +kernel
theorem dX5_set_5 : decode cX5_set 5 = .ok (.getfield 10, 3) := by decide +kernel
theorem dX5_set_8 : decode cX5_set 8 = .ok (.invokevirtual 47, 3) := by decide +kernel
theorem dX5_set_11 : decode cX5_set 11 = .ok (.aload_n 0, 1) := by decide +kernel
theorem dX5_set_12 : decode cX5_set 12 = .ok (.aload_n 0, 1) := by decide +kernel
theorem dX5_set_13 : decode cX5_set 13 = .ok (.getfield 16, 3) := by decide +kernel
theorem dX5_set_16 : decode cX5_set 16 = .ok (.iload_n 1, 1) := by decide +kernel
theorem dX5_set_17 : decode cX5_set 17 = .ok (.iload_n 2, 1) := by decide +kernel
theorem dX5_set_18 : decode cX5_set 18 = .ok (.invokevirtual 75, 3) := by decide +kernel
theorem dX5_set_21 : decode cX5_set 21 = .ok (.invokevirtual 55, 3) := by decide +kernel
theorem dX5_set_24 : decode cX5_set 24 = .ok (.ireturn, 1) := by decide +kernel
theorem dX5_sea_0 : decode cX5_sea 0 = .ok (.iload_n 1, 1) := by decide +kernel
theorem dX5_sea_1 : decode cX5_sea 1 = .ok (.ifCond .lt 10, 3) := by decide +kernel
theorem dX5_sea_4 : decode cX5_sea 4 = .ok (.iload_n 1, 1) := by decide +kernel
theorem dX5_sea_5 : decode cX5_sea 5 = .ok (.sipush 9999, 3) := by decide +kernel
theorem dX5_sea_8 : decode cX5_sea 8 = .ok (.if_icmp .le 6, 3) := by decide +kernel
theorem dX5_sea_11 : decode cX5_sea 11 = .ok (.ldc 78, 2) := by decide +kernel
theorem dX5_sea_13 : decode cX5_sea 13 = .ok (.ireturn, 1) := by decide +kernel
theorem dX5_sea_14 : decode cX5_sea 14 = .ok (.iload_n 1, 1) := by decide +kernel
theorem dX5_sea_15 : decode cX5_sea 15 = .ok (.invokestatic 79, 3) := by decide +kernel
theorem dX5_sea_18 : decode cX5_sea 18 = .ok (.ireturn, 1) := by decide +kernel
theorem dX5_now_0 : decode cX5_now 0 = .ok (.iload_n 1, 1) := by decide +kernel
theorem dX5_now_1 : decode cX5_now 1 = .ok (.tableswitch 197 0 12 #[67, 75, 87, 99, 110, 118, 126, 134, 142, 150, 158, 166, 182], 67) := by decide +kernel
theorem dX5_now_68 : decode cX5_now 68 = .ok (.aload_n 0, 1) := by decide +kernel
theorem dX5_now_69 : decode cX5_now 69 = .ok (.getfield 10, 3) := by decide +kernel
theorem dX5_now_72 : decode cX5_now 72 = .ok (.getfield 82, 3) := by decide +kernel
theorem dX5_now_75 : decode cX5_now 75 = .ok (.ireturn, 1) := by decide +kernel
theorem dX5_now_76 : decode cX5_now 76 = .ok (.aload_n 0, 1) := by decide +kernel
theorem dX5_now_77 : decode cX5_now 77 = .ok (.getfield 10, 3) := by decide +kernel
theorem dX5_now_80 : decode cX5_now 80 = .ok (.getfield 82, 3) := by decide +kernel
theorem dX5_now_83 : decode cX5_now 83 = .ok (.sipush 144, 3) := by decide +kernel
theorem dX5_now_86 : decode cX5_now 86 = .ok (.idiv, 1) := by decide +kernel
theorem dX5_now_87 : decode cX5_now 87 = .ok (.ireturn, 1) := by decide +kernel
theorem dX5_now_88 : decode cX5_now 88 = .ok (.aload_n 0, 1) := by decide +kernel
theorem dX5_now_89 : decode cX5_now 89 = .ok (.getfield 10, 3) := by decide +kernel
theorem dX5_now_92 : decode cX5_now 92 = .ok (.getfield 82, 3) := by decide +kernel
theorem dX5_now_95 : decode cX5_now 95 = .ok (.sipush 144, 3) := by decide +kernel
theorem dX5_now_98 : decode cX5_now 98 = .ok (.irem, 1) := by decide +kernel
theorem dX5_now_99 : decode cX5_now 99 = .ok (.ireturn, 1) := by decide +kernel
theorem dX5_now_100 : decode cX5_now 100 = .ok (.aload_n 0, 1) := by decide +kernel
theorem dX5_now_101 : decode cX5_now 101 = .ok (.getfield 10, 3) := by decide +kernel
theorem dX5_now_104 : decode cX5_now 104 = .ok (.getfield 82, 3) := by decide +kernel
theorem dX5_now_107 : decode cX5_now 107 = .ok (.invokestatic 79, 3) := by decide +kernel
theorem dX5_now_110 : decode cX5_now 110 = .ok (.ireturn, 1) := by decide +kernel
theorem dX5_now_111 : decode cX5_now 111 = .ok (.aload_n 0, 1) := by decide +kernel
theorem dX5_now_112 : decode cX5_now 112 = .ok (.getfield 10, 3) := by decide +kernel
theorem dX5_now_115 : decode cX5_now 115 = .ok (.invokevirtual 86, 3) := by decide +kernel
theorem dX5_now_118 : decode cX5_now 118 = .ok (.ireturn, 1) := by decide +kernel
theorem dX5_now_119 : decode cX5_now 119 = .ok (.aload_n 0, 1) := by decide +kernel
theorem dX5_now_120 : decode cX5_now 120 = .ok (.getfield 10, 3) := by decide +kernel
theorem dX5_now_123 : decode cX5_now 123 = .ok (.invokevirtual 90, 3) := by decide +kernel
theorem dX5_now_126 : decode cX5_now 126 = .ok (.ireturn, 1) := by decide +kernel
theorem dX5_now_127 : decode cX5_now 127 = .ok (.aload_n 0, 1) := by decide +kernel
theorem dX5_now_128 : decode cX5_now 128 = .ok (.getfield 10, 3) := by decide +kernel
theorem dX5_now_131 : decode cX5_now 131 = .ok (.getfield 93, 3) := by decide +kernel
theorem dX5_now_134 : decode cX5_now 134 = .ok (.ireturn, 1) := by decide +kernel
theorem dX5_now_135 : decode cX5_now 135 = .ok (.aload_n 0, 1) := by decide +kernel
theorem dX5_now_136 : decode cX5_now 136 = .ok (.getfield 10, 3) := by decide +kernel
theorem dX5_now_139 : decode cX5_now 139 = .ok (.getfield 96, 3) := by decide +kernel
theorem dX5_now_142 : decode cX5_now 142 = .ok (.ireturn, 1) := by decide +kernel
theorem dX5_now_143 : decode cX5_now 143 = .ok (.aload_n 0, 1) := by decide +kernel
theorem dX5_now_144 : decode cX5_now 144 = .ok (.getfield 10, 3) := by decide +kernel
theorem dX5_now_147 : decode cX5_now 147 = .ok (.getfield 99, 3) := by decide +kernel
theorem dX5_now_150 : decode cX5_now 150 = .ok (.ireturn, 1) := by decide +kernel
theorem dX5_now_151 : decode cX5_now 151 = .ok (.aload_n 0, 1) := by decide +kernel
theorem dX5_now_152 : decode cX5_now 152 = .ok (.getfield 10, 3) := by decide +kernel
theorem dX5_now_155 : decode cX5_now 155 = .ok (.getfield 102, 3) := by decide +kernel
theorem dX5_now_158 : decode cX5_now 158 = .ok (.ireturn, 1) := by decide +kernel
theorem dX5_now_159 : decode cX5_now 159 = .ok (.aload_n 0, 1) := by decide +kernel
theorem dX5_now_160 : decode cX5_now 160 = .ok (.getfield 10, 3) := by decide +kernel
theorem dX5_now_163 : decode cX5_now 163 = .ok (.getfield 105, 3) := by decide +kernel
theorem dX5_now_166 : decode cX5_now 166 = .ok (.ireturn, 1) := by decide +kernel
theorem dX5_now_167 : decode cX5_now 167 = .ok (.aload_n 0, 1) := by decide +kernel
theorem dX5_now_168 : decode cX5_now 168 = .ok (.getfield 10, 3) := by decide +kernel
theorem dX5_now_171 : decode cX5_now 171 = .ok (.invokevirtual 108, 3) := by decide +kernel
theorem dX5_now_174 : decode cX5_now 174 = .ok (.ifCond .eq 7, 3) := by decide +kernel
theorem dX5_now_177 : decode cX5_now 177 = .ok (.iconst 1, 1) := by decide +kernel
theorem dX5_now_178 : decode cX5_now 178 = .ok (.goto 4, 3) := by decide +kernel
theorem dX5_now_181 : decode cX5_now 181 = .ok (.iconst 0, 1) := by decide +kernel
theorem dX5_now_182 : decode cX5_now 182 = .ok (.ireturn, 1) := by decide +kernel
theorem dX5_now_183 : decode cX5_now 183 = .ok (.aload_n 0, 1) := by decide +kernel
theorem dX5_now_184 : decode cX5_now 184 = .ok (.getfield 10, 3) := by decide +kernel
theorem dX5_now_187 : decode cX5_now 187 = .ok (.getfield 82, 3) := by decide +kernel
theorem dX5_now_190 : decode cX5_now 190 = .ok (.sipush 144, 3) := by decide +kernel
theorem dX5_now_193 : decode cX5_now 193 = .ok (.idiv, 1) := by decide +kernel
theorem dX5_now_194 : decode cX5_now 194 = .ok (.invokestatic 112, 3) := by decide +kernel
theorem dX5_now_197 : decode cX5_now 197 = .ok (.ireturn, 1) := by decide +kernel
theorem dX5_now_198 : decode cX5_now 198 = .ok (.ldc 78, 2) := by decide +kernel
theorem dX5_now_200 : decode cX5_now 200 = .ok (.ireturn, 1) := by decide +kernel
theorem dX5_record_0 : decode cX5_record 0 = .ok (.iload_n 1, 1) := by decide +kernel
theorem dX5_record_1 : decode cX5_record 1 = .ok (.ifCond .lt 13, 3) := by decide +kernel
theorem dX5_record_4 : decode cX5_record 4 = .ok (.iload_n 2, 1) := by decide +kernel
theorem dX5_record_5 : decode cX5_record 5 = .ok (.ifCond .lt 9, 3) := by decide +kernel
theorem dX5_record_8 : decode cX5_record 8 = .ok (.iload_n 2, 1) := by decide +kernel
theorem dX5_record_9 : decode cX5_record 9 = .ok (.bipush 6, 2) := by decide +kernel
theorem dX5_record_11 : decode cX5_record 11 = .ok (.if_icmp .lt 6, 3) := by decide +kernel
theorem dX5_record_14 : decode cX5_record 14 = .ok (.ldc 78, 2) := by decide +kernel
theorem dX5_record_16 : decode cX5_record 16 = .ok (.ireturn, 1) := by decide +kernel
theorem dX5_record_17 : decode cX5_record 17 = .ok (.iload_n 1, 1) := by decide +kernel
theorem dX5_record_18 : decode cX5_record 18 = .ok (.aload_n 0, 1) := by decide +kernel
theorem dX5_record_19 : decode cX5_record 19 = .ok (.getfield 10, 3) := by decide +kernel
theorem dX5_record_22 : decode cX5_record 22 = .ok (.invokevirtual 115, 3) := by decide +kernel
theorem dX5_record_25 : decode cX5_record 25 = .ok (.if_icmp .lt 14, 3) := by decide +kernel
theorem dX5_record_28 : decode cX5_record 28 = .ok (.iload_n 1, 1) := by decide +kernel
theorem dX5_record_29 : decode cX5_record 29 = .ok (.aload_n 0, 1) := by decide +kernel
theorem dX5_record_30 : decode cX5_record 30 = .ok (.getfield 10, 3) := by decide +kernel
theorem dX5_record_33 : decode cX5_record 33 = .ok (.invokevirtual 118, 3) := by decide +kernel
theorem dX5_record_36 : decode cX5_record 36 = .ok (.if_icmp .le 6, 3) := by decide +kernel
theorem dX5_record_39 : decode cX5_record 39 = .ok (.ldc 121, 2) := by decide +kernel
theorem dX5_record_41 : decode cX5_record 41 = .ok (.ireturn, 1) := by decide +kernel
theorem dX5_record_42 : decode cX5_record 42 = .ok (.aload_n 0, 1) := by decide +kernel
theorem dX5_record_43 : decode cX5_record 43 = .ok (.getfield 10, 3) := by decide +kernel
theorem dX5_record_46 : decode cX5_record 46 = .ok (.getfield 122, 3) := by decide +kernel
theorem dX5_record_49 : decode cX5_record 49 = .ok (.iload_n 1, 1) := by decide +kernel
theorem dX5_record_50 : decode cX5_record 50 = .ok (.invokestatic 126, 3) := by decide +kernel
theorem dX5_record_53 : decode cX5_record 53 = .ok (.iload_n 2, 1) := by decide +kernel
theorem dX5_record_54 : decode cX5_record 54 = .ok (.iadd, 1) := by decide +kernel
theorem dX5_record_55 : decode cX5_record 55 = .ok (.iaload, 1) := by decide +kernel
theorem dX5_record_56 : decode cX5_record 56 = .ok (.ireturn, 1) := by decide +kernel
theorem dX5_next_0 : decode cX5_next 0 = .ok (.aload_n 0, 1) := by decide +kernel
theorem dX5_next_1 : decode cX5_next 1 = .ok (.getfield 22, 3) := by decide +kernel
theorem dX5_next_4 : decode cX5_next 4 = .ok (.aload_n 0, 1) := by decide +kernel
theorem dX5_next_5 : decode cX5_next 5 = .ok (.getfield 10, 3) := by decide +kernel
theorem dX5_next_8 : decode cX5_next 8 = .ok (.aload_n 0, 1) := by decide +kernel
theorem dX5_next_9 : decode cX5_next 9 = .ok (.getfield 10, 3) := by decide +kernel
theorem dX5_next_12 : decode cX5_next 12 = .ok (.invokevirtual 90, 3) := by decide +kernel
theorem dX5_next_15 : decode cX5_next 15 = .ok (.invokevirtual 129, 3) := by decide +kernel
theorem dX5_next_18 : decode cX5_next 18 = .ok (.iload_n 1, 1) := by decide +kernel
theorem dX5_next_19 : decode cX5_next 19 = .ok (.tableswitch 97 0 6 #[41, 49, 57, 65, 73, 81, 89], 41) := by decide +kernel
theorem dX5_next_60 : decode cX5_next 60 = .ok (.aload_n 0, 1) := by decide +kernel
theorem dX5_next_61 : decode cX5_next 61 = .ok (.getfield 22, 3) := by decide +kernel
theorem dX5_next_64 : decode cX5_next 64 = .ok (.getfield 133, 3) := by decide +kernel
theorem dX5_next_67 : decode cX5_next 67 = .ok (.ireturn, 1) := by decide +kernel
theorem dX5_next_68 : decode cX5_next 68 = .ok (.aload_n 0, 1) := by decide +kernel
theorem dX5_next_69 : decode cX5_next 69 = .ok (.getfield 22, 3) := by decide +kernel
theorem dX5_next_72 : decode cX5_next 72 = .ok (.getfield 136, 3) := by decide +kernel
theorem dX5_next_75 : decode cX5_next 75 = .ok (.ireturn, 1) := by decide +kernel
theorem dX5_next_76 : decode cX5_next 76 = .ok (.aload_n 0, 1) := by decide +kernel
theorem dX5_next_77 : decode cX5_next 77 = .ok (.getfield 22, 3) := by decide +kernel
theorem dX5_next_80 : decode cX5_next 80 = .ok (.getfield 139, 3) := by decide +kernel
theorem dX5_next_83 : decode cX5_next 83 = .ok (.ireturn, 1) := by decide +kernel
theorem dX5_next_84 : decode cX5_next 84 = .ok (.aload_n 0, 1) := by decide +kernel
theorem dX5_next_85 : decode cX5_next 85 = .ok (.getfield 22, 3) := by decide +kernel
theorem dX5_next_88 : decode cX5_next 88 = .ok (.getfield 142, 3) := by decide +kernel
theorem dX5_next_91 : decode cX5_next 91 = .ok (.ireturn, 1) := by decide +kernel
theorem dX5_next_92 : decode cX5_next 92 = .ok (.aload_n 0, 1) := by decide +kernel
theorem dX5_next_93 : decode cX5_next 93 = .ok (.getfield 22, 3) := by decide +kernel
theorem dX5_next_96 : decode cX5_next 96 = .ok (.getfield 145, 3) := by decide +kernel
theorem dX5_next_99 : decode cX5_next 99 = .ok (.ireturn, 1) := by decide +kernel
theorem dX5_next_100 : decode cX5_next 100 = .ok (.aload_n 0, 1) := by decide +kernel
theorem dX5_next_101 : decode cX5_next 101 = .ok (.getfield 22, 3) := by decide +kernel
theorem dX5_next_104 : decode cX5_next 104 = .ok (.getfield 148, 3) := by decide +kernel
theorem dX5_next_107 : decode cX5_next 107 = .ok (.ireturn, 1) := by decide +kernel
theorem dX5_next_108 : decode cX5_next 108 = .ok (.aload_n 0, 1) := by decide +kernel
theorem dX5_next_109 : decode cX5_next 109 = .ok (.getfield 22, 3) := by decide +kernel
theorem dX5_next_112 : decode cX5_next 112 = .ok (.getfield 151, 3) := by decide +kernel
theorem dX5_next_115 : decode cX5_next 115 = .ok (.ireturn, 1) := by decide +kernel
theorem dX5_next_116 : decode cX5_next 116 = .ok (.ldc 78, 2) := by decide +kernel
theorem dX5_next_118 : decode cX5_next 118 = .ok (.ireturn, 1) := by decide +kernel
theorem dX5_would_0 : decode cX5_would 0 = .ok (.iload_n 1, 1) := by decide +kernel
theorem dX5_would_1 : decode cX5_would 1 = .ok (.ifCond .lt 19, 3) := by decide +kernel
theorem dX5_would_4 : decode cX5_would 4 = .ok (.iload_n 1, 1) := by decide +kernel
theorem dX5_would_5 : decode cX5_would 5 = .ok (.sipush 300, 3) := by decide +kernel
theorem dX5_would_8 : decode cX5_would 8 = .ok (.if_icmp .gt 12, 3) := by decide +kernel
theorem dX5_would_11 : decode cX5_would 11 = .ok (.iload_n 2, 1) := by decide +kernel
theorem dX5_would_12 : decode cX5_would 12 = .ok (.ifCond .lt 8, 3) := by decide +kernel
theorem dX5_would_15 : decode cX5_would 15 = .ok (.iload_n 2, 1) := by decide +kernel
theorem dX5_would_16 : decode cX5_would 16 = .ok (.iconst 3, 1) := by decide +kernel
theorem dX5_would_17 : decode cX5_would 17 = .ok (.if_icmp .le 6, 3) := by decide +kernel
theorem dX5_would_20 : decode cX5_would 20 = .ok (.ldc 78, 2) := by decide +kernel
theorem dX5_would_22 : decode cX5_would 22 = .ok (.ireturn, 1) := by decide +kernel
theorem dX5_would_23 : decode cX5_would 23 = .ok (.aload_n 0, 1) := by decide +kernel
theorem dX5_would_24 : decode cX5_would 24 = .ok (.getfield 16, 3) := by decide +kernel
theorem dX5_would_27 : decode cX5_would 27 = .ok (.aload_n 0, 1) := by decide +kernel
theorem dX5_would_28 : decode cX5_would 28 = .ok (.getfield 10, 3) := by decide +kernel
theorem dX5_would_31 : decode cX5_would 31 = .ok (.invokevirtual 47, 3) := by decide +kernel
theorem dX5_would_34 : decode cX5_would 34 = .ok (.aload_n 0, 1) := by decide +kernel
theorem dX5_would_35 : decode cX5_would 35 = .ok (.getfield 16, 3) := by decide +kernel
theorem dX5_would_38 : decode cX5_would 38 = .ok (.iload_n 1, 1) := by decide +kernel
theorem dX5_would_39 : decode cX5_would 39 = .ok (.aload_n 0, 1) := by decide +kernel
theorem dX5_would_40 : decode cX5_would 40 = .ok (.getfield 22, 3) := by decide +kernel
theorem dX5_would_43 : decode cX5_would 43 = .ok (.invokevirtual 154, 3) := by decide +kernel
theorem dX5_would_46 : decode cX5_would 46 = .ok (.iload_n 2, 1) := by decide +kernel
theorem dX5_would_47 : decode cX5_would 47 = .ok (.tableswitch 73 0 2 #[25, 33, 53], 25) := by decide +kernel
theorem dX5_would_72 : decode cX5_would 72 = .ok (.aload_n 0, 1) := by decide +kernel
theorem dX5_would_73 : decode cX5_would 73 = .ok (.getfield 16, 3) := by decide +kernel
theorem dX5_would_76 : decode cX5_would 76 = .ok (.invokevirtual 86, 3) := by decide +kernel
theorem dX5_would_79 : decode cX5_would 79 = .ok (.ireturn, 1) := by decide +kernel
theorem dX5_would_80 : decode cX5_would 80 = .ok (.aload_n 0, 1) := by decide +kernel
theorem dX5_would_81 : decode cX5_would 81 = .ok (.getfield 16, 3) := by decide +kernel
theorem dX5_would_84 : decode cX5_would 84 = .ok (.getfield 158, 3) := by decide +kernel
theorem dX5_would_87 : decode cX5_would 87 = .ok (.iconst 0, 1) := by decide +kernel
theorem dX5_would_88 : decode cX5_would 88 = .ok (.iaload, 1) := by decide +kernel
theorem dX5_would_89 : decode cX5_would 89 = .ok (.aload_n 0, 1) := by decide +kernel
theorem dX5_would_90 : decode cX5_would 90 = .ok (.getfield 10, 3) := by decide +kernel
theorem dX5_would_93 : decode cX5_would 93 = .ok (.getfield 158, 3) := by decide +kernel
theorem dX5_would_96 : decode cX5_would 96 = .ok (.iconst 0, 1) := by decide +kernel
theorem dX5_would_97 : decode cX5_would 97 = .ok (.iaload, 1) := by decide +kernel
theorem dX5_would_98 : decode cX5_would 98 = .ok (.isub, 1) := by decide +kernel
theorem dX5_would_99 : decode cX5_would 99 = .ok (.ireturn, 1) := by decide +kernel
theorem dX5_would_100 : decode cX5_would 100 = .ok (.aload_n 0, 1) := by decide +kernel
theorem dX5_would_101 : decode cX5_would 101 = .ok (.getfield 16, 3) := by decide +kernel
theorem dX5_would_104 : decode cX5_would 104 = .ok (.getfield 158, 3) := by decide +kernel
theorem dX5_would_107 : decode cX5_would 107 = .ok (.iconst 1, 1) := by decide +kernel
theorem dX5_would_108 : decode cX5_would 108 = .ok (.iaload, 1) := by decide +kernel
theorem dX5_would_109 : decode cX5_would 109 = .ok (.aload_n 0, 1) := by decide +kernel
theorem dX5_would_110 : decode cX5_would 110 = .ok (.getfield 10, 3) := by decide +kernel
theorem dX5_would_113 : decode cX5_would 113 = .ok (.getfield 158, 3) := by decide +kernel
theorem dX5_would_116 : decode cX5_would 116 = .ok (.iconst 1, 1) := by decide +kernel
theorem dX5_would_117 : decode cX5_would 117 = .ok (.iaload, 1) := by decide +kernel
theorem dX5_would_118 : decode cX5_would 118 = .ok (.isub, 1) := by decide +kernel
theorem dX5_would_119 : decode cX5_would 119 = .ok (.ireturn, 1) := by decide +kernel
theorem dX5_would_120 : decode cX5_would 120 = .ok (.aload_n 0, 1) := by decide +kernel
theorem dX5_would_121 : decode cX5_would 121 = .ok (.getfield 16, 3) := by decide +kernel
theorem dX5_would_124 : decode cX5_would 124 = .ok (.getfield 96, 3) := by decide +kernel
theorem dX5_would_127 : decode cX5_would 127 = .ok (.ireturn, 1) := by decide +kernel
theorem dX5_seaAt_0 : decode cX5_seaAt 0 = .ok (.iload_n 1, 1) := by decide +kernel
theorem dX5_seaAt_1 : decode cX5_seaAt 1 = .ok (.sipush (-400), 3) := by decide +kernel
theorem dX5_seaAt_4 : decode cX5_seaAt 4 = .ok (.if_icmp .lt 10, 3) := by decide +kernel
theorem dX5_seaAt_7 : decode cX5_seaAt 7 = .ok (.iload_n 1, 1) := by decide +kernel
theorem dX5_seaAt_8 : decode cX5_seaAt 8 = .ok (.sipush 400, 3) := by decide +kernel
theorem dX5_seaAt_11 : decode cX5_seaAt 11 = .ok (.if_icmp .le 6, 3) := by decide +kernel
theorem dX5_seaAt_14 : decode cX5_seaAt 14 = .ok (.ldc 78, 2) := by decide +kernel
theorem dX5_seaAt_16 : decode cX5_seaAt 16 = .ok (.ireturn, 1) := by decide +kernel
theorem dX5_seaAt_17 : decode cX5_seaAt 17 = .ok (.iconst 0, 1) := by decide +kernel
theorem dX5_seaAt_18 : decode cX5_seaAt 18 = .ok (.istore_n 2, 1) := by decide +kernel
theorem dX5_seaAt_19 : decode cX5_seaAt 19 = .ok (.iload_n 2, 1) := by decide +kernel
theorem dX5_seaAt_20 : decode cX5_seaAt 20 = .ok (.sipush 2016, 3) := by decide +kernel
theorem dX5_seaAt_23 : decode cX5_seaAt 23 = .ok (.if_icmp .gt 27, 3) := by decide +kernel
theorem dX5_seaAt_26 : decode cX5_seaAt 26 = .ok (.aload_n 0, 1) := by decide +kernel
theorem dX5_seaAt_27 : decode cX5_seaAt 27 = .ok (.getfield 10, 3) := by decide +kernel
theorem dX5_seaAt_30 : decode cX5_seaAt 30 = .ok (.getfield 82, 3) := by decide +kernel
theorem dX5_seaAt_33 : decode cX5_seaAt 33 = .ok (.iload_n 2, 1) := by decide +kernel
theorem dX5_seaAt_34 : decode cX5_seaAt 34 = .ok (.iadd, 1) := by decide +kernel
theorem dX5_seaAt_35 : decode cX5_seaAt 35 = .ok (.invokestatic 79, 3) := by decide +kernel
theorem dX5_seaAt_38 : decode cX5_seaAt 38 = .ok (.iload_n 1, 1) := by decide +kernel
theorem dX5_seaAt_39 : decode cX5_seaAt 39 = .ok (.if_icmp .lt 5, 3) := by decide +kernel
theorem dX5_seaAt_42 : decode cX5_seaAt 42 = .ok (.iload_n 2, 1) := by decide +kernel
theorem dX5_seaAt_43 : decode cX5_seaAt 43 = .ok (.ireturn, 1) := by decide +kernel
theorem dX5_seaAt_44 : decode cX5_seaAt 44 = .ok (.iinc 2 1, 3) := by decide +kernel
theorem dX5_seaAt_47 : decode cX5_seaAt 47 = .ok (.goto (-28), 3) := by decide +kernel
theorem dX5_seaAt_50 : decode cX5_seaAt 50 = .ok (.ldc 121, 2) := by decide +kernel
theorem dX5_seaAt_52 : decode cX5_seaAt 52 = .ok (.ireturn, 1) := by decide +kernel
theorem dX5_best_0 : decode cX5_best 0 = .ok (.iload_n 1, 1) := by decide +kernel
theorem dX5_best_1 : decode cX5_best 1 = .ok (.iconst 1, 1) := by decide +kernel
theorem dX5_best_2 : decode cX5_best 2 = .ok (.if_icmp .lt 19, 3) := by decide +kernel
theorem dX5_best_5 : decode cX5_best 5 = .ok (.iload_n 1, 1) := by decide +kernel
theorem dX5_best_6 : decode cX5_best 6 = .ok (.sipush 150, 3) := by decide +kernel
theorem dX5_best_9 : decode cX5_best 9 = .ok (.if_icmp .gt 12, 3) := by decide +kernel
theorem dX5_best_12 : decode cX5_best 12 = .ok (.iload_n 2, 1) := by decide +kernel
theorem dX5_best_13 : decode cX5_best 13 = .ok (.ifCond .lt 8, 3) := by decide +kernel
theorem dX5_best_16 : decode cX5_best 16 = .ok (.iload_n 2, 1) := by decide +kernel
theorem dX5_best_17 : decode cX5_best 17 = .ok (.iconst 1, 1) := by decide +kernel
theorem dX5_best_18 : decode cX5_best 18 = .ok (.if_icmp .le 6, 3) := by decide +kernel
theorem dX5_best_21 : decode cX5_best 21 = .ok (.ldc 78, 2) := by decide +kernel
theorem dX5_best_23 : decode cX5_best 23 = .ok (.ireturn, 1) := by decide +kernel
theorem dX5_best_24 : decode cX5_best 24 = .ok (.iconst 0, 1) := by decide +kernel
theorem dX5_best_25 : decode cX5_best 25 = .ok (.istore_n 3, 1) := by decide +kernel
theorem dX5_best_26 : decode cX5_best 26 = .ok (.aload_n 0, 1) := by decide +kernel
theorem dX5_best_27 : decode cX5_best 27 = .ok (.iconst 0, 1) := by decide +kernel
theorem dX5_best_28 : decode cX5_best 28 = .ok (.iload_n 1, 1) := by decide +kernel
theorem dX5_best_29 : decode cX5_best 29 = .ok (.invokevirtual 161, 3) := by decide +kernel
theorem dX5_best_32 : decode cX5_best 32 = .ok (.istore 4, 2) := by decide +kernel
theorem dX5_best_34 : decode cX5_best 34 = .ok (.iconst 1, 1) := by decide +kernel
theorem dX5_best_35 : decode cX5_best 35 = .ok (.istore 5, 2) := by decide +kernel
theorem dX5_best_37 : decode cX5_best 37 = .ok (.iload 5, 2) := by decide +kernel
theorem dX5_best_39 : decode cX5_best 39 = .ok (.bipush 6, 2) := by decide +kernel
theorem dX5_best_41 : decode cX5_best 41 = .ok (.if_icmp .gt 32, 3) := by decide +kernel
theorem dX5_best_44 : decode cX5_best 44 = .ok (.aload_n 0, 1) := by decide +kernel
theorem dX5_best_45 : decode cX5_best 45 = .ok (.iload 5, 2) := by decide +kernel
theorem dX5_best_47 : decode cX5_best 47 = .ok (.iload_n 1, 1) := by decide +kernel
theorem dX5_best_48 : decode cX5_best 48 = .ok (.invokevirtual 161, 3) := by decide +kernel
theorem dX5_best_51 : decode cX5_best 51 = .ok (.istore 6, 2) := by decide +kernel
theorem dX5_best_53 : decode cX5_best 53 = .ok (.iload 6, 2) := by decide +kernel
theorem dX5_best_55 : decode cX5_best 55 = .ok (.iload 4, 2) := by decide +kernel
theorem dX5_best_57 : decode cX5_best 57 = .ok (.if_icmp .le 10, 3) := by decide +kernel
theorem dX5_best_60 : decode cX5_best 60 = .ok (.iload 5, 2) := by decide +kernel
theorem dX5_best_62 : decode cX5_best 62 = .ok (.istore_n 3, 1) := by decide +kernel
theorem dX5_best_63 : decode cX5_best 63 = .ok (.iload 6, 2) := by decide +kernel
theorem dX5_best_65 : decode cX5_best 65 = .ok (.istore 4, 2) := by decide +kernel
theorem dX5_best_67 : decode cX5_best 67 = .ok (.iinc 5 1, 3) := by decide +kernel
theorem dX5_best_70 : decode cX5_best 70 = .ok (.goto (-33), 3) := by decide +kernel
theorem dX5_best_73 : decode cX5_best 73 = .ok (.iload_n 2, 1) := by decide +kernel
theorem dX5_best_74 : decode cX5_best 74 = .ok (.ifCond .ne 7, 3) := by decide +kernel
theorem dX5_best_77 : decode cX5_best 77 = .ok (.iload_n 3, 1) := by decide +kernel
theorem dX5_best_78 : decode cX5_best 78 = .ok (.goto 5, 3) := by decide +kernel
theorem dX5_best_81 : decode cX5_best 81 = .ok (.iload 4, 2) := by decide +kernel
theorem dX5_best_83 : decode cX5_best 83 = .ok (.ireturn, 1) := by decide +kernel
theorem dX5_gatesFor_0 : decode cX5_gatesFor 0 = .ok (.iload_n 1, 1) := by decide +kernel
theorem dX5_gatesFor_1 : decode cX5_gatesFor 1 = .ok (.iconst 1, 1) := by decide +kernel
theorem dX5_gatesFor_2 : decode cX5_gatesFor 2 = .ok (.if_icmp .lt 24, 3) := by decide +kernel
theorem dX5_gatesFor_5 : decode cX5_gatesFor 5 = .ok (.iload_n 1, 1) := by decide +kernel
theorem dX5_gatesFor_6 : decode cX5_gatesFor 6 = .ok (.sipush 150, 3) := by decide +kernel
theorem dX5_gatesFor_9 : decode cX5_gatesFor 9 = .ok (.if_icmp .gt 17, 3) := by decide +kernel
theorem dX5_gatesFor_12 : decode cX5_gatesFor 12 = .ok (.iload_n 2, 1) := by decide +kernel
theorem dX5_gatesFor_13 : decode cX5_gatesFor 13 = .ok (.sipush (-400), 3) := by decide +kernel
theorem dX5_gatesFor_16 : decode cX5_gatesFor 16 = .ok (.if_icmp .lt 10, 3) := by decide +kernel
theorem dX5_gatesFor_19 : decode cX5_gatesFor 19 = .ok (.iload_n 2, 1) := by decide +kernel
theorem dX5_gatesFor_20 : decode cX5_gatesFor 20 = .ok (.sipush 600, 3) := by decide +kernel
theorem dX5_gatesFor_23 : decode cX5_gatesFor 23 = .ok (.if_icmp .le 6, 3) := by decide +kernel
theorem dX5_gatesFor_26 : decode cX5_gatesFor 26 = .ok (.ldc 78, 2) := by decide +kernel
theorem dX5_gatesFor_28 : decode cX5_gatesFor 28 = .ok (.ireturn, 1) := by decide +kernel
theorem dX5_gatesFor_29 : decode cX5_gatesFor 29 = .ok (.iconst 0, 1) := by decide +kernel
theorem dX5_gatesFor_30 : decode cX5_gatesFor 30 = .ok (.istore_n 3, 1) := by decide +kernel
theorem dX5_gatesFor_31 : decode cX5_gatesFor 31 = .ok (.aload_n 0, 1) := by decide +kernel
theorem dX5_gatesFor_32 : decode cX5_gatesFor 32 = .ok (.iconst 0, 1) := by decide +kernel
theorem dX5_gatesFor_33 : decode cX5_gatesFor 33 = .ok (.iload_n 1, 1) := by decide +kernel
theorem dX5_gatesFor_34 : decode cX5_gatesFor 34 = .ok (.invokevirtual 164, 3) := by decide +kernel
theorem dX5_gatesFor_37 : decode cX5_gatesFor 37 = .ok (.iload_n 2, 1) := by decide +kernel
theorem dX5_gatesFor_38 : decode cX5_gatesFor 38 = .ok (.isub, 1) := by decide +kernel
theorem dX5_gatesFor_39 : decode cX5_gatesFor 39 = .ok (.invokestatic 167, 3) := by decide +kernel
theorem dX5_gatesFor_42 : decode cX5_gatesFor 42 = .ok (.istore 4, 2) := by decide +kernel
theorem dX5_gatesFor_44 : decode cX5_gatesFor 44 = .ok (.iconst 1, 1) := by decide +kernel
theorem dX5_gatesFor_45 : decode cX5_gatesFor 45 = .ok (.istore 5, 2) := by decide +kernel
theorem dX5_gatesFor_47 : decode cX5_gatesFor 47 = .ok (.iload 5, 2) := by decide +kernel
theorem dX5_gatesFor_49 : decode cX5_gatesFor 49 = .ok (.bipush 8, 2) := by decide +kernel
theorem dX5_gatesFor_51 : decode cX5_gatesFor 51 = .ok (.if_icmp .gt 37, 3) := by decide +kernel
theorem dX5_gatesFor_54 : decode cX5_gatesFor 54 = .ok (.aload_n 0, 1) := by decide +kernel
theorem dX5_gatesFor_55 : decode cX5_gatesFor 55 = .ok (.iload 5, 2) := by decide +kernel
theorem dX5_gatesFor_57 : decode cX5_gatesFor 57 = .ok (.iload_n 1, 1) := by decide +kernel
theorem dX5_gatesFor_58 : decode cX5_gatesFor 58 = .ok (.invokevirtual 164, 3) := by decide +kernel
theorem dX5_gatesFor_61 : decode cX5_gatesFor 61 = .ok (.iload_n 2, 1) := by decide +kernel
theorem dX5_gatesFor_62 : decode cX5_gatesFor 62 = .ok (.isub, 1) := by decide +kernel
theorem dX5_gatesFor_63 : decode cX5_gatesFor 63 = .ok (.invokestatic 167, 3) := by decide +kernel
theorem dX5_gatesFor_66 : decode cX5_gatesFor 66 = .ok (.istore 6, 2) := by decide +kernel
theorem dX5_gatesFor_68 : decode cX5_gatesFor 68 = .ok (.iload 6, 2) := by decide +kernel
theorem dX5_gatesFor_70 : decode cX5_gatesFor 70 = .ok (.iload 4, 2) := by decide +kernel
theorem dX5_gatesFor_72 : decode cX5_gatesFor 72 = .ok (.if_icmp .ge 10, 3) := by decide +kernel
theorem dX5_gatesFor_75 : decode cX5_gatesFor 75 = .ok (.iload 5, 2) := by decide +kernel
theorem dX5_gatesFor_77 : decode cX5_gatesFor 77 = .ok (.istore_n 3, 1) := by decide +kernel
theorem dX5_gatesFor_78 : decode cX5_gatesFor 78 = .ok (.iload 6, 2) := by decide +kernel
theorem dX5_gatesFor_80 : decode cX5_gatesFor 80 = .ok (.istore 4, 2) := by decide +kernel
theorem dX5_gatesFor_82 : decode cX5_gatesFor 82 = .ok (.iinc 5 1, 3) := by decide +kernel
theorem dX5_gatesFor_85 : decode cX5_gatesFor 85 = .ok (.goto (-38), 3) := by decide +kernel
theorem dX5_gatesFor_88 : decode cX5_gatesFor 88 = .ok (.iload_n 3, 1) := by decide +kernel
theorem dX5_gatesFor_89 : decode cX5_gatesFor 89 = .ok (.ireturn, 1) := by decide +kernel
theorem dX5_bestDay_0 : decode cX5_bestDay 0 = .ok (.ldc 121, 2) := by decide +kernel
theorem dX5_bestDay_2 : decode cX5_bestDay 2 = .ok (.istore_n 1, 1) := by decide +kernel
theorem dX5_bestDay_3 : decode cX5_bestDay 3 = .ok (.iconst (-1), 1) := by decide +kernel
theorem dX5_bestDay_4 : decode cX5_bestDay 4 = .ok (.istore_n 2, 1) := by decide +kernel
theorem dX5_bestDay_5 : decode cX5_bestDay 5 = .ok (.aload_n 0, 1) := by decide +kernel
theorem dX5_bestDay_6 : decode cX5_bestDay 6 = .ok (.getfield 10, 3) := by decide +kernel
theorem dX5_bestDay_9 : decode cX5_bestDay 9 = .ok (.invokevirtual 118, 3) := by decide +kernel
theorem dX5_bestDay_12 : decode cX5_bestDay 12 = .ok (.istore_n 3, 1) := by decide +kernel
theorem dX5_bestDay_13 : decode cX5_bestDay 13 = .ok (.aload_n 0, 1) := by decide +kernel
theorem dX5_bestDay_14 : decode cX5_bestDay 14 = .ok (.getfield 10, 3) := by decide +kernel
theorem dX5_bestDay_17 : decode cX5_bestDay 17 = .ok (.invokevirtual 115, 3) := by decide +kernel
theorem dX5_bestDay_20 : decode cX5_bestDay 20 = .ok (.istore 4, 2) := by decide +kernel
theorem dX5_bestDay_22 : decode cX5_bestDay 22 = .ok (.iload 4, 2) := by decide +kernel
theorem dX5_bestDay_24 : decode cX5_bestDay 24 = .ok (.iload_n 3, 1) := by decide +kernel
theorem dX5_bestDay_25 : decode cX5_bestDay 25 = .ok (.if_icmp .gt 38, 3) := by decide +kernel
theorem dX5_bestDay_28 : decode cX5_bestDay 28 = .ok (.aload_n 0, 1) := by decide +kernel
theorem dX5_bestDay_29 : decode cX5_bestDay 29 = .ok (.getfield 10, 3) := by decide +kernel
theorem dX5_bestDay_32 : decode cX5_bestDay 32 = .ok (.getfield 122, 3) := by decide +kernel
theorem dX5_bestDay_35 : decode cX5_bestDay 35 = .ok (.iload 4, 2) := by decide +kernel
theorem dX5_bestDay_37 : decode cX5_bestDay 37 = .ok (.invokestatic 126, 3) := by decide +kernel
theorem dX5_bestDay_40 : decode cX5_bestDay 40 = .ok (.iconst 0, 1) := by decide +kernel
theorem dX5_bestDay_41 : decode cX5_bestDay 41 = .ok (.iadd, 1) := by decide +kernel
theorem dX5_bestDay_42 : decode cX5_bestDay 42 = .ok (.iaload, 1) := by decide +kernel
theorem dX5_bestDay_43 : decode cX5_bestDay 43 = .ok (.istore 5, 2) := by decide +kernel
theorem dX5_bestDay_45 : decode cX5_bestDay 45 = .ok (.iload 5, 2) := by decide +kernel
theorem dX5_bestDay_47 : decode cX5_bestDay 47 = .ok (.iload_n 2, 1) := by decide +kernel
theorem dX5_bestDay_48 : decode cX5_bestDay 48 = .ok (.if_icmp .le 9, 3) := by decide +kernel
theorem dX5_bestDay_51 : decode cX5_bestDay 51 = .ok (.iload 4, 2) := by decide +kernel
theorem dX5_bestDay_53 : decode cX5_bestDay 53 = .ok (.istore_n 1, 1) := by decide +kernel
theorem dX5_bestDay_54 : decode cX5_bestDay 54 = .ok (.iload 5, 2) := by decide +kernel
theorem dX5_bestDay_56 : decode cX5_bestDay 56 = .ok (.istore_n 2, 1) := by decide +kernel
theorem dX5_bestDay_57 : decode cX5_bestDay 57 = .ok (.iinc 4 1, 3) := by decide +kernel
theorem dX5_bestDay_60 : decode cX5_bestDay 60 = .ok (.goto (-38), 3) := by decide +kernel
theorem dX5_bestDay_63 : decode cX5_bestDay 63 = .ok (.iload_n 1, 1) := by decide +kernel
theorem dX5_bestDay_64 : decode cX5_bestDay 64 = .ok (.ireturn, 1) := by decide +kernel
theorem dX5_share_0 : decode cX5_share 0 = .ok (.aload_n 0, 1) := by decide +kernel
theorem dX5_share_1 : decode cX5_share 1 = .ok (.getfield 10, 3) := by decide +kernel
theorem dX5_share_4 : decode cX5_share 4 = .ok (.getfield 158, 3) := by decide +kernel
theorem dX5_share_7 : decode cX5_share 7 = .ok (.iconst 0, 1) := by decide +kernel
theorem dX5_share_8 : decode cX5_share 8 = .ok (.iaload, 1) := by decide +kernel
theorem dX5_share_9 : decode cX5_share 9 = .ok (.istore_n 1, 1) := by decide +kernel
theorem dX5_share_10 : decode cX5_share 10 = .ok (.iload_n 1, 1) := by decide +kernel
theorem dX5_share_11 : decode cX5_share 11 = .ok (.ifCond .gt 6, 3) := by decide +kernel
theorem dX5_share_14 : decode cX5_share 14 = .ok (.ldc 121, 2) := by decide +kernel
theorem dX5_share_16 : decode cX5_share 16 = .ok (.ireturn, 1) := by decide +kernel
theorem dX5_share_17 : decode cX5_share 17 = .ok (.aload_n 0, 1) := by decide +kernel
theorem dX5_share_18 : decode cX5_share 18 = .ok (.getfield 10, 3) := by decide +kernel
theorem dX5_share_21 : decode cX5_share 21 = .ok (.getfield 158, 3) := by decide +kernel
theorem dX5_share_24 : decode cX5_share 24 = .ok (.iconst 1, 1) := by decide +kernel
theorem dX5_share_25 : decode cX5_share 25 = .ok (.iaload, 1) := by decide +kernel
theorem dX5_share_26 : decode cX5_share 26 = .ok (.i2f, 1) := by decide +kernel
theorem dX5_share_27 : decode cX5_share 27 = .ok (.iload_n 1, 1) := by decide +kernel
theorem dX5_share_28 : decode cX5_share 28 = .ok (.i2f, 1) := by decide +kernel
theorem dX5_share_29 : decode cX5_share 29 = .ok (.fdiv, 1) := by decide +kernel
theorem dX5_share_30 : decode cX5_share 30 = .ok (.invokestatic 172, 3) := by decide +kernel
theorem dX5_share_33 : decode cX5_share 33 = .ok (.ireturn, 1) := by decide +kernel
theorem dX5_count_0 : decode cX5_count 0 = .ok (.iload_n 1, 1) := by decide +kernel
theorem dX5_count_1 : decode cX5_count 1 = .ok (.ifCond .lt 19, 3) := by decide +kernel
theorem dX5_count_4 : decode cX5_count 4 = .ok (.iload_n 1, 1) := by decide +kernel
theorem dX5_count_5 : decode cX5_count 5 = .ok (.bipush 7, 2) := by decide +kernel
theorem dX5_count_7 : decode cX5_count 7 = .ok (.if_icmp .ge 13, 3) := by decide +kernel
theorem dX5_count_10 : decode cX5_count 10 = .ok (.aload_n 0, 1) := by decide +kernel
theorem dX5_count_11 : decode cX5_count 11 = .ok (.getfield 10, 3) := by decide +kernel
theorem dX5_count_14 : decode cX5_count 14 = .ok (.getfield 158, 3) := by decide +kernel
theorem dX5_count_17 : decode cX5_count 17 = .ok (.iload_n 1, 1) := by decide +kernel
theorem dX5_count_18 : decode cX5_count 18 = .ok (.iaload, 1) := by decide +kernel
theorem dX5_count_19 : decode cX5_count 19 = .ok (.ireturn, 1) := by decide +kernel
theorem dX5_count_20 : decode cX5_count 20 = .ok (.iload_n 1, 1) := by decide +kernel
theorem dX5_count_21 : decode cX5_count 21 = .ok (.bipush 20, 2) := by decide +kernel
theorem dX5_count_23 : decode cX5_count 23 = .ok (.if_icmp .lt 22, 3) := by decide +kernel
theorem dX5_count_26 : decode cX5_count 26 = .ok (.iload_n 1, 1) := by decide +kernel
theorem dX5_count_27 : decode cX5_count 27 = .ok (.bipush 23, 2) := by decide +kernel
theorem dX5_count_29 : decode cX5_count 29 = .ok (.if_icmp .ge 16, 3) := by decide +kernel
theorem dX5_count_32 : decode cX5_count 32 = .ok (.aload_n 0, 1) := by decide +kernel
theorem dX5_count_33 : decode cX5_count 33 = .ok (.getfield 10, 3) := by decide +kernel
theorem dX5_count_36 : decode cX5_count 36 = .ok (.getfield 176, 3) := by decide +kernel
theorem dX5_count_39 : decode cX5_count 39 = .ok (.iload_n 1, 1) := by decide +kernel
theorem dX5_count_40 : decode cX5_count 40 = .ok (.bipush 20, 2) := by decide +kernel
theorem dX5_count_42 : decode cX5_count 42 = .ok (.isub, 1) := by decide +kernel
theorem dX5_count_43 : decode cX5_count 43 = .ok (.iaload, 1) := by decide +kernel
theorem dX5_count_44 : decode cX5_count 44 = .ok (.ireturn, 1) := by decide +kernel
theorem dX5_count_45 : decode cX5_count 45 = .ok (.iload_n 1, 1) := by decide +kernel
theorem dX5_count_46 : decode cX5_count 46 = .ok (.tableswitch 60 7 9 #[26, 44, 52], 26) := by decide +kernel
theorem dX5_count_72 : decode cX5_count 72 = .ok (.aload_n 0, 1) := by decide +kernel
theorem dX5_count_73 : decode cX5_count 73 = .ok (.getfield 10, 3) := by decide +kernel
theorem dX5_count_76 : decode cX5_count 76 = .ok (.invokevirtual 118, 3) := by decide +kernel
theorem dX5_count_79 : decode cX5_count 79 = .ok (.aload_n 0, 1) := by decide +kernel
theorem dX5_count_80 : decode cX5_count 80 = .ok (.getfield 10, 3) := by decide +kernel
theorem dX5_count_83 : decode cX5_count 83 = .ok (.invokevirtual 115, 3) := by decide +kernel
theorem dX5_count_86 : decode cX5_count 86 = .ok (.isub, 1) := by decide +kernel
theorem dX5_count_87 : decode cX5_count 87 = .ok (.iconst 1, 1) := by decide +kernel
theorem dX5_count_88 : decode cX5_count 88 = .ok (.iadd, 1) := by decide +kernel
theorem dX5_count_89 : decode cX5_count 89 = .ok (.ireturn, 1) := by decide +kernel
theorem dX5_count_90 : decode cX5_count 90 = .ok (.aload_n 0, 1) := by decide +kernel
theorem dX5_count_91 : decode cX5_count 91 = .ok (.getfield 29, 3) := by decide +kernel
theorem dX5_count_94 : decode cX5_count 94 = .ok (.getfield 179, 3) := by decide +kernel
theorem dX5_count_97 : decode cX5_count 97 = .ok (.ireturn, 1) := by decide +kernel
theorem dX5_count_98 : decode cX5_count 98 = .ok (.aload_n 0, 1) := by decide +kernel
theorem dX5_count_99 : decode cX5_count 99 = .ok (.getfield 36, 3) := by decide +kernel
theorem dX5_count_102 : decode cX5_count 102 = .ok (.getfield 182, 3) := by decide +kernel
theorem dX5_count_105 : decode cX5_count 105 = .ok (.ireturn, 1) := by decide +kernel
theorem dX5_count_106 : decode cX5_count 106 = .ok (.ldc 78, 2) := by decide +kernel
theorem dX5_count_108 : decode cX5_count 108 = .ok (.ireturn, 1) := by decide +kernel
theorem dX5_undo_0 : decode cX5_undo 0 = .ok (.aload_n 0, 1) := by decide +kernel
theorem dX5_undo_1 : decode cX5_undo 1 = .ok (.getfield 29, 3) := by decide +kernel
theorem dX5_undo_4 : decode cX5_undo 4 = .ok (.getfield 179, 3) := by decide +kernel
theorem dX5_undo_7 : decode cX5_undo 7 = .ok (.ifCond .ne 6, 3) := by decide +kernel
theorem dX5_undo_10 : decode cX5_undo 10 = .ok (.ldc 185, 2) := by decide +kernel
theorem dX5_undo_12 : decode cX5_undo 12 = .ok (.ireturn, 1) := by decide +kernel
theorem dX5_undo_13 : decode cX5_undo 13 = .ok (.aload_n 0, 1) := by decide +kernel
theorem dX5_undo_14 : decode cX5_undo 14 = .ok (.getfield 29, 3) := by decide +kernel
theorem dX5_undo_17 : decode cX5_undo 17 = .ok (.aload_n 0, 1) := by decide +kernel
theorem dX5_undo_18 : decode cX5_undo 18 = .ok (.getfield 10, 3) := by decide +kernel
theorem dX5_undo_21 : decode cX5_undo 21 = .ok (.invokevirtual 186, 3) := by decide +kernel
theorem dX5_undo_24 : decode cX5_undo 24 = .ok (.aload_n 0, 1) := by decide +kernel
theorem dX5_undo_25 : decode cX5_undo 25 = .ok (.getfield 29, 3) := by decide +kernel
theorem dX5_undo_28 : decode cX5_undo 28 = .ok (.getfield 179, 3) := by decide +kernel
theorem dX5_undo_31 : decode cX5_undo 31 = .ok (.ireturn, 1) := by decide +kernel
theorem dX5_type_0 : decode cX5_type 0 = .ok (.iload_n 1, 1) := by decide +kernel
theorem dX5_type_1 : decode cX5_type 1 = .ok (.bipush 32, 2) := by decide +kernel
theorem dX5_type_3 : decode cX5_type 3 = .ok (.if_icmp .lt 9, 3) := by decide +kernel
theorem dX5_type_6 : decode cX5_type 6 = .ok (.iload_n 1, 1) := by decide +kernel
theorem dX5_type_7 : decode cX5_type 7 = .ok (.bipush 126, 2) := by decide +kernel
theorem dX5_type_9 : decode cX5_type 9 = .ok (.if_icmp .le 6, 3) := by decide +kernel
theorem dX5_type_12 : decode cX5_type 12 = .ok (.ldc 78, 2) := by decide +kernel
theorem dX5_type_14 : decode cX5_type 14 = .ok (.ireturn, 1) := by decide +kernel
theorem dX5_type_15 : decode cX5_type 15 = .ok (.aload_n 0, 1) := by decide +kernel
theorem dX5_type_16 : decode cX5_type 16 = .ok (.getfield 36, 3) := by decide +kernel
theorem dX5_type_19 : decode cX5_type 19 = .ok (.getfield 182, 3) := by decide +kernel
theorem dX5_type_22 : decode cX5_type 22 = .ok (.bipush 60, 2) := by decide +kernel
theorem dX5_type_24 : decode cX5_type 24 = .ok (.if_icmp .lt 6, 3) := by decide +kernel
theorem dX5_type_27 : decode cX5_type 27 = .ok (.ldc 189, 2) := by decide +kernel
theorem dX5_type_29 : decode cX5_type 29 = .ok (.ireturn, 1) := by decide +kernel
theorem dX5_type_30 : decode cX5_type 30 = .ok (.aload_n 0, 1) := by decide +kernel
theorem dX5_type_31 : decode cX5_type 31 = .ok (.getfield 36, 3) := by decide +kernel
theorem dX5_type_34 : decode cX5_type 34 = .ok (.iload_n 1, 1) := by decide +kernel
theorem dX5_type_35 : decode cX5_type 35 = .ok (.i2c, 1) := by decide +kernel
theorem dX5_type_36 : decode cX5_type 36 = .ok (.invokevirtual 190, 3) := by decide +kernel
theorem dX5_type_39 : decode cX5_type 39 = .ok (.aload_n 0, 1) := by decide +kernel
theorem dX5_type_40 : decode cX5_type 40 = .ok (.getfield 36, 3) := by decide +kernel
theorem dX5_type_43 : decode cX5_type 43 = .ok (.getfield 182, 3) := by decide +kernel
theorem dX5_type_46 : decode cX5_type 46 = .ok (.ireturn, 1) := by decide +kernel
theorem dX5_clearText_0 : decode cX5_clearText 0 = .ok (.aload_n 0, 1) := by decide +kernel
theorem dX5_clearText_1 : decode cX5_clearText 1 = .ok (.getfield 36, 3) := by decide +kernel
theorem dX5_clearText_4 : decode cX5_clearText 4 = .ok (.getfield 182, 3) := by decide +kernel
theorem dX5_clearText_7 : decode cX5_clearText 7 = .ok (.istore_n 1, 1) := by decide +kernel
theorem dX5_clearText_8 : decode cX5_clearText 8 = .ok (.aload_n 0, 1) := by decide +kernel
theorem dX5_clearText_9 : decode cX5_clearText 9 = .ok (.getfield 36, 3) := by decide +kernel
theorem dX5_clearText_12 : decode cX5_clearText 12 = .ok (.iconst 0, 1) := by decide +kernel
theorem dX5_clearText_13 : decode cX5_clearText 13 = .ok (.putfield 182, 3) := by decide +kernel
theorem dX5_clearText_16 : decode cX5_clearText 16 = .ok (.iload_n 1, 1) := by decide +kernel
theorem dX5_clearText_17 : decode cX5_clearText 17 = .ok (.ireturn, 1) := by decide +kernel
theorem dX5_fault_0 : decode cX5_fault 0 = .ok (.iload_n 1, 1) := by decide +kernel
theorem dX5_fault_1 : decode cX5_fault 1 = .ok (.ifCond .lt 8, 3) := by decide +kernel
theorem dX5_fault_4 : decode cX5_fault 4 = .ok (.iload_n 1, 1) := by decide +kernel
theorem dX5_fault_5 : decode cX5_fault 5 = .ok (.iconst 2, 1) := by decide +kernel
theorem dX5_fault_6 : decode cX5_fault 6 = .ok (.if_icmp .le 6, 3) := by decide +kernel
theorem dX5_fault_9 : decode cX5_fault 9 = .ok (.ldc 78, 2) := by decide +kernel
theorem dX5_fault_11 : decode cX5_fault 11 = .ok (.ireturn, 1) := by decide +kernel
theorem dX5_fault_12 : decode cX5_fault 12 = .ok (.aload_n 0, 1) := by decide +kernel
theorem dX5_fault_13 : decode cX5_fault 13 = .ok (.getfield 16, 3) := by decide +kernel
theorem dX5_fault_16 : decode cX5_fault 16 = .ok (.aload_n 0, 1) := by decide +kernel
theorem dX5_fault_17 : decode cX5_fault 17 = .ok (.getfield 10, 3) := by decide +kernel
theorem dX5_fault_20 : decode cX5_fault 20 = .ok (.invokevirtual 47, 3) := by decide +kernel
theorem dX5_fault_23 : decode cX5_fault 23 = .ok (.aload_n 0, 1) := by decide +kernel
theorem dX5_fault_24 : decode cX5_fault 24 = .ok (.getfield 43, 3) := by decide +kernel
theorem dX5_fault_27 : decode cX5_fault 27 = .ok (.aload_n 0, 1) := by decide +kernel
theorem dX5_fault_28 : decode cX5_fault 28 = .ok (.getfield 36, 3) := by decide +kernel
theorem dX5_fault_31 : decode cX5_fault 31 = .ok (.aload_n 0, 1) := by decide +kernel
theorem dX5_fault_32 : decode cX5_fault 32 = .ok (.getfield 16, 3) := by decide +kernel
theorem dX5_fault_35 : decode cX5_fault 35 = .ok (.aload_n 0, 1) := by decide +kernel
theorem dX5_fault_36 : decode cX5_fault 36 = .ok (.getfield 22, 3) := by decide +kernel
theorem dX5_fault_39 : decode cX5_fault 39 = .ok (.invokevirtual 194, 3) := by decide +kernel
theorem dX5_fault_42 : decode cX5_fault 42 = .ok (.aload_n 0, 1) := by decide +kernel
theorem dX5_fault_43 : decode cX5_fault 43 = .ok (.getfield 43, 3) := by decide +kernel
theorem dX5_fault_46 : decode cX5_fault 46 = .ok (.getfield 198, 3) := by decide +kernel
theorem dX5_fault_49 : decode cX5_fault 49 = .ok (.ifCond .ne 6, 3) := by decide +kernel
theorem dX5_fault_52 : decode cX5_fault 52 = .ok (.ldc 121, 2) := by decide +kernel
theorem dX5_fault_54 : decode cX5_fault 54 = .ok (.ireturn, 1) := by decide +kernel
theorem dX5_fault_55 : decode cX5_fault 55 = .ok (.iload_n 1, 1) := by decide +kernel
theorem dX5_fault_56 : decode cX5_fault 56 = .ok (.lookupswitch 44 #[(0, 28), (1, 36)], 28) := by decide +kernel
theorem dX5_fault_84 : decode cX5_fault 84 = .ok (.aload_n 0, 1) := by decide +kernel
theorem dX5_fault_85 : decode cX5_fault 85 = .ok (.getfield 43, 3) := by decide +kernel
theorem dX5_fault_88 : decode cX5_fault 88 = .ok (.getfield 201, 3) := by decide +kernel
theorem dX5_fault_91 : decode cX5_fault 91 = .ok (.ireturn, 1) := by decide +kernel
theorem dX5_fault_92 : decode cX5_fault 92 = .ok (.aload_n 0, 1) := by decide +kernel
theorem dX5_fault_93 : decode cX5_fault 93 = .ok (.getfield 43, 3) := by decide +kernel
theorem dX5_fault_96 : decode cX5_fault 96 = .ok (.getfield 198, 3) := by decide +kernel
theorem dX5_fault_99 : decode cX5_fault 99 = .ok (.ireturn, 1) := by decide +kernel
theorem dX5_fault_100 : decode cX5_fault 100 = .ok (.aload_n 0, 1) := by decide +kernel
theorem dX5_fault_101 : decode cX5_fault 101 = .ok (.getfield 43, 3) := by decide +kernel
theorem dX5_fault_104 : decode cX5_fault 104 = .ok (.getfield 204, 3) := by decide +kernel
theorem dX5_fault_107 : decode cX5_fault 107 = .ok (.ireturn, 1) := by decide +kernel
theorem dX5_play_0 : decode cX5_play 0 = .ok (.aload_n 0, 1) := by decide +kernel
theorem dX5_play_1 : decode cX5_play 1 = .ok (.getfield 16, 3) := by decide +kernel
theorem dX5_play_4 : decode cX5_play 4 = .ok (.aload_n 0, 1) := by decide +kernel
theorem dX5_play_5 : decode cX5_play 5 = .ok (.getfield 10, 3) := by decide +kernel
theorem dX5_play_8 : decode cX5_play 8 = .ok (.invokevirtual 47, 3) := by decide +kernel
theorem dX5_play_11 : decode cX5_play 11 = .ok (.aload_n 0, 1) := by decide +kernel
theorem dX5_play_12 : decode cX5_play 12 = .ok (.getfield 43, 3) := by decide +kernel
theorem dX5_play_15 : decode cX5_play 15 = .ok (.aload_n 0, 1) := by decide +kernel
theorem dX5_play_16 : decode cX5_play 16 = .ok (.getfield 36, 3) := by decide +kernel
theorem dX5_play_19 : decode cX5_play 19 = .ok (.aload_n 0, 1) := by decide +kernel
theorem dX5_play_20 : decode cX5_play 20 = .ok (.getfield 16, 3) := by decide +kernel
theorem dX5_play_23 : decode cX5_play 23 = .ok (.aload_n 0, 1) := by decide +kernel
theorem dX5_play_24 : decode cX5_play 24 = .ok (.getfield 22, 3) := by decide +kernel
theorem dX5_play_27 : decode cX5_play 27 = .ok (.invokevirtual 194, 3) := by decide +kernel
theorem dX5_play_30 : decode cX5_play 30 = .ok (.aload_n 0, 1) := by decide +kernel
theorem dX5_play_31 : decode cX5_play 31 = .ok (.aload_n 0, 1) := by decide +kernel
theorem dX5_play_32 : decode cX5_play 32 = .ok (.getfield 43, 3) := by decide +kernel
theorem dX5_play_35 : decode cX5_play 35 = .ok (.getfield 198, 3) := by decide +kernel
theorem dX5_play_38 : decode cX5_play 38 = .ok (.ifCond .ne 13, 3) := by decide +kernel
theorem dX5_play_41 : decode cX5_play 41 = .ok (.aload_n 0, 1) := by decide +kernel
theorem dX5_play_42 : decode cX5_play 42 = .ok (.getfield 43, 3) := by decide +kernel
theorem dX5_play_45 : decode cX5_play 45 = .ok (.getfield 207, 3) := by decide +kernel
theorem dX5_play_48 : decode cX5_play 48 = .ok (.goto 5, 3) := by decide +kernel
theorem dX5_play_51 : decode cX5_play 51 = .ok (.ldc 185, 2) := by decide +kernel
theorem dX5_play_53 : decode cX5_play 53 = .ok (.invokevirtual 55, 3) := by decide +kernel
theorem dX5_play_56 : decode cX5_play 56 = .ok (.ireturn, 1) := by decide +kernel
theorem dX5_settle_0 : decode cX5_settle 0 = .ok (.iload_n 1, 1) := by decide +kernel
theorem dX5_settle_1 : decode cX5_settle 1 = .ok (.invokestatic 210, 3) := by decide +kernel
theorem dX5_settle_4 : decode cX5_settle 4 = .ok (.ifCond .ne 25, 3) := by decide +kernel
theorem dX5_settle_7 : decode cX5_settle 7 = .ok (.aload_n 0, 1) := by decide +kernel
theorem dX5_settle_8 : decode cX5_settle 8 = .ok (.getfield 29, 3) := by decide +kernel
theorem dX5_settle_11 : decode cX5_settle 11 = .ok (.aload_n 0, 1) := by decide +kernel
theorem dX5_settle_12 : decode cX5_settle 12 = .ok (.getfield 10, 3) := by decide +kernel
theorem dX5_settle_15 : decode cX5_settle 15 = .ok (.invokevirtual 214, 3) := by decide +kernel
theorem dX5_settle_18 : decode cX5_settle 18 = .ok (.aload_n 0, 1) := by decide +kernel
theorem dX5_settle_19 : decode cX5_settle 19 = .ok (.getfield 10, 3) := by decide +kernel
theorem dX5_settle_22 : decode cX5_settle 22 = .ok (.aload_n 0, 1) := by decide +kernel
theorem dX5_settle_23 : decode cX5_settle 23 = .ok (.getfield 16, 3) := by decide +kernel
theorem dX5_settle_26 : decode cX5_settle 26 = .ok (.invokevirtual 47, 3) := by decide +kernel
theorem dX5_settle_29 : decode cX5_settle 29 = .ok (.iload_n 1, 1) := by decide +kernel
theorem dX5_settle_30 : decode cX5_settle 30 = .ok (.ireturn, 1) := by decide +kernel
theorem dX5_gainWith_0 : decode cX5_gainWith 0 = .ok (.aload_n 0, 1) := by decide +kernel
theorem dX5_gainWith_1 : decode cX5_gainWith 1 = .ok (.getfield 16, 3) := by decide +kernel
theorem dX5_gainWith_4 : decode cX5_gainWith 4 = .ok (.aload_n 0, 1) := by decide +kernel
theorem dX5_gainWith_5 : decode cX5_gainWith 5 = .ok (.getfield 10, 3) := by decide +kernel
theorem dX5_gainWith_8 : decode cX5_gainWith 8 = .ok (.invokevirtual 47, 3) := by decide +kernel
theorem dX5_gainWith_11 : decode cX5_gainWith 11 = .ok (.aload_n 0, 1) := by decide +kernel
theorem dX5_gainWith_12 : decode cX5_gainWith 12 = .ok (.getfield 16, 3) := by decide +kernel
theorem dX5_gainWith_15 : decode cX5_gainWith 15 = .ok (.iload_n 1, 1) := by decide +kernel
theorem dX5_gainWith_16 : decode cX5_gainWith 16 = .ok (.putfield 102, 3) := by decide +kernel
theorem dX5_gainWith_19 : decode cX5_gainWith 19 = .ok (.aload_n 0, 1) := by decide +kernel
theorem dX5_gainWith_20 : decode cX5_gainWith 20 = .ok (.getfield 16, 3) := by decide +kernel
theorem dX5_gainWith_23 : decode cX5_gainWith 23 = .ok (.iload_n 2, 1) := by decide +kernel
theorem dX5_gainWith_24 : decode cX5_gainWith 24 = .ok (.aload_n 0, 1) := by decide +kernel
theorem dX5_gainWith_25 : decode cX5_gainWith 25 = .ok (.getfield 22, 3) := by decide +kernel
theorem dX5_gainWith_28 : decode cX5_gainWith 28 = .ok (.invokevirtual 154, 3) := by decide +kernel
theorem dX5_gainWith_31 : decode cX5_gainWith 31 = .ok (.aload_n 0, 1) := by decide +kernel
theorem dX5_gainWith_32 : decode cX5_gainWith 32 = .ok (.getfield 16, 3) := by decide +kernel
theorem dX5_gainWith_35 : decode cX5_gainWith 35 = .ok (.invokevirtual 217, 3) := by decide +kernel
theorem dX5_gainWith_38 : decode cX5_gainWith 38 = .ok (.aload_n 0, 1) := by decide +kernel
theorem dX5_gainWith_39 : decode cX5_gainWith 39 = .ok (.getfield 10, 3) := by decide +kernel
theorem dX5_gainWith_42 : decode cX5_gainWith 42 = .ok (.invokevirtual 217, 3) := by decide +kernel
theorem dX5_gainWith_45 : decode cX5_gainWith 45 = .ok (.isub, 1) := by decide +kernel
theorem dX5_gainWith_46 : decode cX5_gainWith 46 = .ok (.ireturn, 1) := by decide +kernel
theorem dX5_levelWith_0 : decode cX5_levelWith 0 = .ok (.aload_n 0, 1) := by decide +kernel
theorem dX5_levelWith_1 : decode cX5_levelWith 1 = .ok (.getfield 16, 3) := by decide +kernel
theorem dX5_levelWith_4 : decode cX5_levelWith 4 = .ok (.aload_n 0, 1) := by decide +kernel
theorem dX5_levelWith_5 : decode cX5_levelWith 5 = .ok (.getfield 10, 3) := by decide +kernel
theorem dX5_levelWith_8 : decode cX5_levelWith 8 = .ok (.invokevirtual 47, 3) := by decide +kernel
theorem dX5_levelWith_11 : decode cX5_levelWith 11 = .ok (.aload_n 0, 1) := by decide +kernel
theorem dX5_levelWith_12 : decode cX5_levelWith 12 = .ok (.getfield 16, 3) := by decide +kernel
theorem dX5_levelWith_15 : decode cX5_levelWith 15 = .ok (.iload_n 1, 1) := by decide +kernel
theorem dX5_levelWith_16 : decode cX5_levelWith 16 = .ok (.putfield 99, 3) := by decide +kernel
theorem dX5_levelWith_19 : decode cX5_levelWith 19 = .ok (.aload_n 0, 1) := by decide +kernel
theorem dX5_levelWith_20 : decode cX5_levelWith 20 = .ok (.getfield 16, 3) := by decide +kernel
theorem dX5_levelWith_23 : decode cX5_levelWith 23 = .ok (.iload_n 2, 1) := by decide +kernel
theorem dX5_levelWith_24 : decode cX5_levelWith 24 = .ok (.aload_n 0, 1) := by decide +kernel
theorem dX5_levelWith_25 : decode cX5_levelWith 25 = .ok (.getfield 22, 3) := by decide +kernel
theorem dX5_levelWith_28 : decode cX5_levelWith 28 = .ok (.invokevirtual 154, 3) := by decide +kernel
theorem dX5_levelWith_31 : decode cX5_levelWith 31 = .ok (.aload_n 0, 1) := by decide +kernel
theorem dX5_levelWith_32 : decode cX5_levelWith 32 = .ok (.getfield 16, 3) := by decide +kernel
theorem dX5_levelWith_35 : decode cX5_levelWith 35 = .ok (.invokevirtual 86, 3) := by decide +kernel
theorem dX5_levelWith_38 : decode cX5_levelWith 38 = .ok (.ireturn, 1) := by decide +kernel
theorem dX5_isError_0 : decode cX5_isError 0 = .ok (.iload_n 0, 1) := by decide +kernel
theorem dX5_isError_1 : decode cX5_isError 1 = .ok (.ldc 78, 2) := by decide +kernel
theorem dX5_isError_3 : decode cX5_isError 3 = .ok (.if_icmp .gt 7, 3) := by decide +kernel
theorem dX5_isError_6 : decode cX5_isError 6 = .ok (.iconst 1, 1) := by decide +kernel
theorem dX5_isError_7 : decode cX5_isError 7 = .ok (.goto 4, 3) := by decide +kernel
theorem dX5_isError_10 : decode cX5_isError 10 = .ok (.iconst 0, 1) := by decide +kernel
theorem dX5_isError_11 : decode cX5_isError 11 = .ok (.ireturn, 1) := by decide +kernel
theorem dX5_tideHeight_0 : decode cX5_tideHeight 0 = .ok (.iload_n 0, 1) := by decide +kernel
theorem dX5_tideHeight_1 : decode cX5_tideHeight 1 = .ok (.bipush 14, 2) := by decide +kernel
theorem dX5_tideHeight_3 : decode cX5_tideHeight 3 = .ok (.irem, 1) := by decide +kernel
theorem dX5_tideHeight_4 : decode cX5_tideHeight 4 = .ok (.bipush 7, 2) := by decide +kernel
theorem dX5_tideHeight_6 : decode cX5_tideHeight 6 = .ok (.isub, 1) := by decide +kernel
theorem dX5_tideHeight_7 : decode cX5_tideHeight 7 = .ok (.istore_n 1, 1) := by decide +kernel
theorem dX5_tideHeight_8 : decode cX5_tideHeight 8 = .ok (.sipush 200, 3) := by decide +kernel
theorem dX5_tideHeight_11 : decode cX5_tideHeight 11 = .ok (.bipush 20, 2) := by decide +kernel
theorem dX5_tideHeight_13 : decode cX5_tideHeight 13 = .ok (.iload_n 1, 1) := by decide +kernel
theorem dX5_tideHeight_14 : decode cX5_tideHeight 14 = .ok (.ifCond .ge 8, 3) := by decide +kernel
theorem dX5_tideHeight_17 : decode cX5_tideHeight 17 = .ok (.iload_n 1, 1) := by decide +kernel
theorem dX5_tideHeight_18 : decode cX5_tideHeight 18 = .ok (.ineg, 1) := by decide +kernel
theorem dX5_tideHeight_19 : decode cX5_tideHeight 19 = .ok (.goto 4, 3) := by decide +kernel
theorem dX5_tideHeight_22 : decode cX5_tideHeight 22 = .ok (.iload_n 1, 1) := by decide +kernel
theorem dX5_tideHeight_23 : decode cX5_tideHeight 23 = .ok (.imul, 1) := by decide +kernel
theorem dX5_tideHeight_24 : decode cX5_tideHeight 24 = .ok (.iadd, 1) := by decide +kernel
theorem dX5_tideHeight_25 : decode cX5_tideHeight 25 = .ok (.ireturn, 1) := by decide +kernel
theorem dX5_seaLevel_0 : decode cX5_seaLevel 0 = .ok (.iload_n 0, 1) := by decide +kernel
theorem dX5_seaLevel_1 : decode cX5_seaLevel 1 = .ok (.sipush 144, 3) := by decide +kernel
theorem dX5_seaLevel_4 : decode cX5_seaLevel 4 = .ok (.idiv, 1) := by decide +kernel
theorem dX5_seaLevel_5 : decode cX5_seaLevel 5 = .ok (.invokestatic 112, 3) := by decide +kernel
theorem dX5_seaLevel_8 : decode cX5_seaLevel 8 = .ok (.istore_n 1, 1) := by decide +kernel
theorem dX5_seaLevel_9 : decode cX5_seaLevel 9 = .ok (.iload_n 0, 1) := by decide +kernel
theorem dX5_seaLevel_10 : decode cX5_seaLevel 10 = .ok (.bipush 74, 2) := by decide +kernel
theorem dX5_seaLevel_12 : decode cX5_seaLevel 12 = .ok (.irem, 1) := by decide +kernel
theorem dX5_seaLevel_13 : decode cX5_seaLevel 13 = .ok (.istore_n 2, 1) := by decide +kernel
theorem dX5_seaLevel_14 : decode cX5_seaLevel 14 = .ok (.iload_n 2, 1) := by decide +kernel
theorem dX5_seaLevel_15 : decode cX5_seaLevel 15 = .ok (.bipush 37, 2) := by decide +kernel
theorem dX5_seaLevel_17 : decode cX5_seaLevel 17 = .ok (.if_icmp .ge 14, 3) := by decide +kernel
theorem dX5_seaLevel_20 : decode cX5_seaLevel 20 = .ok (.iconst 2, 1) := by decide +kernel
theorem dX5_seaLevel_21 : decode cX5_seaLevel 21 = .ok (.iload_n 1, 1) := by decide +kernel
theorem dX5_seaLevel_22 : decode cX5_seaLevel 22 = .ok (.imul, 1) := by decide +kernel
theorem dX5_seaLevel_23 : decode cX5_seaLevel 23 = .ok (.iload_n 2, 1) := by decide +kernel
theorem dX5_seaLevel_24 : decode cX5_seaLevel 24 = .ok (.imul, 1) := by decide +kernel
theorem dX5_seaLevel_25 : decode cX5_seaLevel 25 = .ok (.bipush 37, 2) := by decide +kernel
theorem dX5_seaLevel_27 : decode cX5_seaLevel 27 = .ok (.idiv, 1) := by decide +kernel
theorem dX5_seaLevel_28 : decode cX5_seaLevel 28 = .ok (.iload_n 1, 1) := by decide +kernel
theorem dX5_seaLevel_29 : decode cX5_seaLevel 29 = .ok (.isub, 1) := by decide +kernel
theorem dX5_seaLevel_30 : decode cX5_seaLevel 30 = .ok (.ireturn, 1) := by decide +kernel
theorem dX5_seaLevel_31 : decode cX5_seaLevel 31 = .ok (.iload_n 1, 1) := by decide +kernel
theorem dX5_seaLevel_32 : decode cX5_seaLevel 32 = .ok (.iconst 2, 1) := by decide +kernel
theorem dX5_seaLevel_33 : decode cX5_seaLevel 33 = .ok (.iload_n 1, 1) := by decide +kernel
theorem dX5_seaLevel_34 : decode cX5_seaLevel 34 = .ok (.imul, 1) := by decide +kernel
theorem dX5_seaLevel_35 : decode cX5_seaLevel 35 = .ok (.iload_n 2, 1) := by decide +kernel
theorem dX5_seaLevel_36 : decode cX5_seaLevel 36 = .ok (.bipush 37, 2) := by decide +kernel
theorem dX5_seaLevel_38 : decode cX5_seaLevel 38 = .ok (.isub, 1) := by decide +kernel
theorem dX5_seaLevel_39 : decode cX5_seaLevel 39 = .ok (.imul, 1) := by decide +kernel
theorem dX5_seaLevel_40 : decode cX5_seaLevel 40 = .ok (.bipush 37, 2) := by decide +kernel
theorem dX5_seaLevel_42 : decode cX5_seaLevel 42 = .ok (.idiv, 1) := by decide +kernel
theorem dX5_seaLevel_43 : decode cX5_seaLevel 43 = .ok (.isub, 1) := by decide +kernel
theorem dX5_seaLevel_44 : decode cX5_seaLevel 44 = .ok (.ireturn, 1) := by decide +kernel
theorem dX5_recordStart_0 : decode cX5_recordStart 0 = .ok (.iload_n 0, 1) := by decide +kernel
theorem dX5_recordStart_1 : decode cX5_recordStart 1 = .ok (.bipush 10, 2) := by decide +kernel
theorem dX5_recordStart_3 : decode cX5_recordStart 3 = .ok (.invokestatic 220, 3) := by decide +kernel
theorem dX5_recordStart_6 : decode cX5_recordStart 6 = .ok (.bipush 6, 2) := by decide +kernel
theorem dX5_recordStart_8 : decode cX5_recordStart 8 = .ok (.imul, 1) := by decide +kernel
theorem dX5_recordStart_9 : decode cX5_recordStart 9 = .ok (.ireturn, 1) := by decide +kernel
theorem dX5_floatBits_0 : decode cX5_floatBits 0 = .ok (.fload_n 0, 1) := by decide +kernel
theorem dX5_floatBits_1 : decode cX5_floatBits 1 = .ok (.fconst 0, 1) := by decide +kernel
theorem dX5_floatBits_2 : decode cX5_floatBits 2 = .ok (.fcmp .l, 1) := by decide +kernel
theorem dX5_floatBits_3 : decode cX5_floatBits 3 = .ok (.ifCond .gt 5, 3) := by decide +kernel
theorem dX5_floatBits_6 : decode cX5_floatBits 6 = .ok (.iconst 0, 1) := by decide +kernel
theorem dX5_floatBits_7 : decode cX5_floatBits 7 = .ok (.ireturn, 1) := by decide +kernel
theorem dX5_floatBits_8 : decode cX5_floatBits 8 = .ok (.bipush 127, 2) := by decide +kernel
theorem dX5_floatBits_10 : decode cX5_floatBits 10 = .ok (.istore_n 1, 1) := by decide +kernel
theorem dX5_floatBits_11 : decode cX5_floatBits 11 = .ok (.fload_n 0, 1) := by decide +kernel
theorem dX5_floatBits_12 : decode cX5_floatBits 12 = .ok (.fstore_n 2, 1) := by decide +kernel
theorem dX5_floatBits_13 : decode cX5_floatBits 13 = .ok (.iconst 0, 1) := by decide +kernel
theorem dX5_floatBits_14 : decode cX5_floatBits 14 = .ok (.istore_n 3, 1) := by decide +kernel
theorem dX5_floatBits_15 : decode cX5_floatBits 15 = .ok (.iload_n 3, 1) := by decide +kernel
theorem dX5_floatBits_16 : decode cX5_floatBits 16 = .ok (.sipush 128, 3) := by decide +kernel
theorem dX5_floatBits_19 : decode cX5_floatBits 19 = .ok (.if_icmp .ge 22, 3) := by decide +kernel
theorem dX5_floatBits_22 : decode cX5_floatBits 22 = .ok (.fload_n 2, 1) := by decide +kernel
theorem dX5_floatBits_23 : decode cX5_floatBits 23 = .ok (.fconst 2, 1) := by decide +kernel
theorem dX5_floatBits_24 : decode cX5_floatBits 24 = .ok (.fcmp .l, 1) := by decide +kernel
theorem dX5_floatBits_25 : decode cX5_floatBits 25 = .ok (.ifCond .lt 16, 3) := by decide +kernel
theorem dX5_floatBits_28 : decode cX5_floatBits 28 = .ok (.fload_n 2, 1) := by decide +kernel
theorem dX5_floatBits_29 : decode cX5_floatBits 29 = .ok (.fconst 2, 1) := by decide +kernel
theorem dX5_floatBits_30 : decode cX5_floatBits 30 = .ok (.fdiv, 1) := by decide +kernel
theorem dX5_floatBits_31 : decode cX5_floatBits 31 = .ok (.fstore_n 2, 1) := by decide +kernel
theorem dX5_floatBits_32 : decode cX5_floatBits 32 = .ok (.iinc 1 1, 3) := by decide +kernel
theorem dX5_floatBits_35 : decode cX5_floatBits 35 = .ok (.iinc 3 1, 3) := by decide +kernel
theorem dX5_floatBits_38 : decode cX5_floatBits 38 = .ok (.goto (-23), 3) := by decide +kernel
theorem dX5_floatBits_41 : decode cX5_floatBits 41 = .ok (.iconst 0, 1) := by decide +kernel
theorem dX5_floatBits_42 : decode cX5_floatBits 42 = .ok (.istore_n 3, 1) := by decide +kernel
theorem dX5_floatBits_43 : decode cX5_floatBits 43 = .ok (.iload_n 3, 1) := by decide +kernel
theorem dX5_floatBits_44 : decode cX5_floatBits 44 = .ok (.sipush 128, 3) := by decide +kernel
theorem dX5_floatBits_47 : decode cX5_floatBits 47 = .ok (.if_icmp .ge 22, 3) := by decide +kernel
theorem dX5_floatBits_50 : decode cX5_floatBits 50 = .ok (.fload_n 2, 1) := by decide +kernel
theorem dX5_floatBits_51 : decode cX5_floatBits 51 = .ok (.fconst 1, 1) := by decide +kernel
theorem dX5_floatBits_52 : decode cX5_floatBits 52 = .ok (.fcmp .g, 1) := by decide +kernel
theorem dX5_floatBits_53 : decode cX5_floatBits 53 = .ok (.ifCond .ge 16, 3) := by decide +kernel
theorem dX5_floatBits_56 : decode cX5_floatBits 56 = .ok (.fload_n 2, 1) := by decide +kernel
theorem dX5_floatBits_57 : decode cX5_floatBits 57 = .ok (.fconst 2, 1) := by decide +kernel
theorem dX5_floatBits_58 : decode cX5_floatBits 58 = .ok (.fmul, 1) := by decide +kernel
theorem dX5_floatBits_59 : decode cX5_floatBits 59 = .ok (.fstore_n 2, 1) := by decide +kernel
theorem dX5_floatBits_60 : decode cX5_floatBits 60 = .ok (.iinc 1 (-1), 3) := by decide +kernel
theorem dX5_floatBits_63 : decode cX5_floatBits 63 = .ok (.iinc 3 1, 3) := by decide +kernel
theorem dX5_floatBits_66 : decode cX5_floatBits 66 = .ok (.goto (-23), 3) := by decide +kernel
theorem dX5_floatBits_69 : decode cX5_floatBits 69 = .ok (.fload_n 2, 1) := by decide +kernel
theorem dX5_floatBits_70 : decode cX5_floatBits 70 = .ok (.ldc 223, 2) := by decide +kernel
theorem dX5_floatBits_72 : decode cX5_floatBits 72 = .ok (.fmul, 1) := by decide +kernel
theorem dX5_floatBits_73 : decode cX5_floatBits 73 = .ok (.f2i, 1) := by decide +kernel
theorem dX5_floatBits_74 : decode cX5_floatBits 74 = .ok (.ldc 224, 2) := by decide +kernel
theorem dX5_floatBits_76 : decode cX5_floatBits 76 = .ok (.isub, 1) := by decide +kernel
theorem dX5_floatBits_77 : decode cX5_floatBits 77 = .ok (.istore_n 3, 1) := by decide +kernel
theorem dX5_floatBits_78 : decode cX5_floatBits 78 = .ok (.iload_n 1, 1) := by decide +kernel
theorem dX5_floatBits_79 : decode cX5_floatBits 79 = .ok (.ldc 224, 2) := by decide +kernel
theorem dX5_floatBits_81 : decode cX5_floatBits 81 = .ok (.imul, 1) := by decide +kernel
theorem dX5_floatBits_82 : decode cX5_floatBits 82 = .ok (.iload_n 3, 1) := by decide +kernel
theorem dX5_floatBits_83 : decode cX5_floatBits 83 = .ok (.iadd, 1) := by decide +kernel
theorem dX5_floatBits_84 : decode cX5_floatBits 84 = .ok (.ireturn, 1) := by decide +kernel
theorem dX6_init_0 : decode cX6_init 0 = .ok (.aload_n 0, 1) := by decide +kernel
theorem dX6_init_1 : decode cX6_init 1 = .ok (.invokespecial 1, 3) := by decide +kernel
theorem dX6_init_4 : decode cX6_init 4 = .ok (.aload_n 0, 1) := by decide +kernel
theorem dX6_init_5 : decode cX6_init 5 = .ok (.bipush 89, 2) := by decide +kernel
theorem dX6_init_7 : decode cX6_init 7 = .ok (.newarray .int, 2) := by decide +kernel
theorem dX6_init_9 : decode cX6_init 9 = .ok (.putfield 7, 3) := by decide +kernel
theorem dX6_init_12 : decode cX6_init 12 = .ok (.aload_n 0, 1) := by decide +kernel
theorem dX6_init_13 : decode cX6_init 13 = .ok (.sipush 356, 3) := by decide +kernel
theorem dX6_init_16 : decode cX6_init 16 = .ok (.newarray .int, 2) := by decide +kernel
theorem dX6_init_18 : decode cX6_init 18 = .ok (.putfield 13, 3) := by decide +kernel
theorem dX6_init_21 : decode cX6_init 21 = .ok (.aload_n 0, 1) := by decide +kernel
theorem dX6_init_22 : decode cX6_init 22 = .ok (.bipush 89, 2) := by decide +kernel
theorem dX6_init_24 : decode cX6_init 24 = .ok (.newarray .int, 2) := by decide +kernel
theorem dX6_init_26 : decode cX6_init 26 = .ok (.putfield 16, 3) := by decide +kernel
theorem dX6_init_29 : decode cX6_init 29 = .ok (.aload_n 0, 1) := by decide +kernel
theorem dX6_init_30 : decode cX6_init 30 = .ok (.bipush 89, 2) := by decide +kernel
theorem dX6_init_32 : decode cX6_init 32 = .ok (.newarray .int, 2) := by decide +kernel
theorem dX6_init_34 : decode cX6_init 34 = .ok (.putfield 19, 3) := by decide +kernel
theorem dX6_init_37 : decode cX6_init 37 = .ok (.aload_n 0, 1) := by decide +kernel
theorem dX6_init_38 : decode cX6_init 38 = .ok (.bipush 60, 2) := by decide +kernel
theorem dX6_init_40 : decode cX6_init 40 = .ok (.newarray .int, 2) := by decide +kernel
theorem dX6_init_42 : decode cX6_init 42 = .ok (.putfield 22, 3) := by decide +kernel
theorem dX6_init_45 : decode cX6_init 45 = .ok (.aload_n 0, 1) := by decide +kernel
theorem dX6_init_46 : decode cX6_init 46 = .ok (.iconst 2, 1) := by decide +kernel
theorem dX6_init_47 : decode cX6_init 47 = .ok (.newarray .int, 2) := by decide +kernel
theorem dX6_init_49 : decode cX6_init 49 = .ok (.putfield 25, 3) := by decide +kernel
theorem dX6_init_52 : decode cX6_init 52 = .ok (.aload_n 0, 1) := by decide +kernel
theorem dX6_init_53 : decode cX6_init 53 = .ok (.getfield 7, 3) := by decide +kernel
theorem dX6_init_56 : decode cX6_init 56 = .ok (.iconst 1, 1) := by decide +kernel
theorem dX6_init_57 : decode cX6_init 57 = .ok (.ldc 28, 2) := by decide +kernel
theorem dX6_init_59 : decode cX6_init 59 = .ok (.iastore, 1) := by decide +kernel
theorem dX6_init_60 : decode cX6_init 60 = .ok (.aload_n 0, 1) := by decide +kernel
theorem dX6_init_61 : decode cX6_init 61 = .ok (.getfield 7, 3) := by decide +kernel
theorem dX6_init_64 : decode cX6_init 64 = .ok (.bipush 8, 2) := by decide +kernel
theorem dX6_init_66 : decode cX6_init 66 = .ok (.bipush 120, 2) := by decide +kernel
theorem dX6_init_68 : decode cX6_init 68 = .ok (.iastore, 1) := by decide +kernel
theorem dX6_init_69 : decode cX6_init 69 = .ok (.aload_n 0, 1) := by decide +kernel
theorem dX6_init_70 : decode cX6_init 70 = .ok (.getfield 7, 3) := by decide +kernel
theorem dX6_init_73 : decode cX6_init 73 = .ok (.bipush 9, 2) := by decide +kernel
theorem dX6_init_75 : decode cX6_init 75 = .ok (.bipush 40, 2) := by decide +kernel
theorem dX6_init_77 : decode cX6_init 77 = .ok (.iastore, 1) := by decide +kernel
theorem dX6_init_78 : decode cX6_init 78 = .ok (.aload_n 0, 1) := by decide +kernel
theorem dX6_init_79 : decode cX6_init 79 = .ok (.getfield 7, 3) := by decide +kernel
theorem dX6_init_82 : decode cX6_init 82 = .ok (.bipush 10, 2) := by decide +kernel
theorem dX6_init_84 : decode cX6_init 84 = .ok (.sipush 1500, 3) := by decide +kernel
theorem dX6_init_87 : decode cX6_init 87 = .ok (.iastore, 1) := by decide +kernel
theorem dX6_init_88 : decode cX6_init 88 = .ok (.return_, 1) := by decide +kernel
theorem dX6_in_0 : decode cX6_in 0 = .ok (.iload_n 0, 1) := by decide +kernel
theorem dX6_in_1 : decode cX6_in 1 = .ok (.iload_n 1, 1) := by decide +kernel
theorem dX6_in_2 : decode cX6_in 2 = .ok (.if_icmp .lt 12, 3) := by decide +kernel
theorem dX6_in_5 : decode cX6_in 5 = .ok (.iload_n 0, 1) := by decide +kernel
theorem dX6_in_6 : decode cX6_in 6 = .ok (.iload_n 2, 1) := by decide +kernel
theorem dX6_in_7 : decode cX6_in 7 = .ok (.if_icmp .gt 7, 3) := by decide +kernel
theorem dX6_in_10 : decode cX6_in 10 = .ok (.iconst 1, 1) := by decide +kernel
theorem dX6_in_11 : decode cX6_in 11 = .ok (.goto 4, 3) := by decide +kernel
theorem dX6_in_14 : decode cX6_in 14 = .ok (.iconst 0, 1) := by decide +kernel
theorem dX6_in_15 : decode cX6_in 15 = .ok (.ireturn, 1) := by decide +kernel
theorem dX6_size_0 : decode cX6_size 0 = .ok (.iload_n 0, 1) := by decide +kernel
theorem dX6_size_1 : decode cX6_size 1 = .ok (.ifCond .ge 8, 3) := by decide +kernel
theorem dX6_size_4 : decode cX6_size 4 = .ok (.iload_n 0, 1) := by decide +kernel
theorem dX6_size_5 : decode cX6_size 5 = .ok (.ineg, 1) := by decide +kernel
theorem dX6_size_6 : decode cX6_size 6 = .ok (.goto 4, 3) := by decide +kernel
theorem dX6_size_9 : decode cX6_size 9 = .ok (.iload_n 0, 1) := by decide +kernel
theorem dX6_size_10 : decode cX6_size 10 = .ok (.ireturn, 1) := by decide +kernel
theorem dX6_copies_0 : decode cX6_copies 0 = .ok (.iconst 0, 1) := by decide +kernel
theorem dX6_copies_1 : decode cX6_copies 1 = .ok (.istore_n 2, 1) := by decide +kernel
theorem dX6_copies_2 : decode cX6_copies 2 = .ok (.iload_n 2, 1) := by decide +kernel
theorem dX6_copies_3 : decode cX6_copies 3 = .ok (.bipush 89, 2) := by decide +kernel
theorem dX6_copies_5 : decode cX6_copies 5 = .ok (.if_icmp .ge 15, 3) := by decide +kernel
theorem dX6_copies_8 : decode cX6_copies 8 = .ok (.aload_n 1, 1) := by decide +kernel
theorem dX6_copies_9 : decode cX6_copies 9 = .ok (.iload_n 2, 1) := by decide +kernel
theorem dX6_copies_10 : decode cX6_copies 10 = .ok (.aload_n 0, 1) := by decide +kernel
theorem dX6_copies_11 : decode cX6_copies 11 = .ok (.iload_n 2, 1) := by decide +kernel
theorem dX6_copies_12 : decode cX6_copies 12 = .ok (.iaload, 1) := by decide +kernel
theorem dX6_copies_13 : decode cX6_copies 13 = .ok (.iastore, 1) := by decide +kernel
theorem dX6_copies_14 : decode cX6_copies 14 = .ok (.iinc 2 1, 3) := by decide +kernel
theorem dX6_copies_17 : decode cX6_copies 17 = .ok (.goto (-15), 3) := by decide +kernel
theorem dX6_copies_20 : decode cX6_copies 20 = .ok (.return_, 1) := by decide +kernel
theorem dX6_changes_0 : decode cX6_changes 0 = .ok (.aload_n 0, 1) := by decide +kernel
theorem dX6_changes_1 : decode cX6_changes 1 = .ok (.getfield 29, 3) := by decide +kernel
theorem dX6_changes_4 : decode cX6_changes 4 = .ok (.ifCond .eq 4, 3) := by decide +kernel
theorem dX6_changes_7 : decode cX6_changes 7 = .ok (.return_, 1) := by decide +kernel
theorem dX6_changes_8 : decode cX6_changes 8 = .ok (.aload_n 0, 1) := by decide +kernel
theorem dX6_changes_9 : decode cX6_changes 9 = .ok (.getfield 33, 3) := by decide +kernel
theorem dX6_changes_12 : decode cX6_changes 12 = .ok (.iconst 4, 1) := by decide +kernel
theorem dX6_changes_13 : decode cX6_changes 13 = .ok (.if_icmp .ne 43, 3) := by decide +kernel
theorem dX6_changes_16 : decode cX6_changes 16 = .ok (.iconst 0, 1) := by decide +kernel
theorem dX6_changes_17 : decode cX6_changes 17 = .ok (.istore_n 1, 1) := by decide +kernel
theorem dX6_changes_18 : decode cX6_changes 18 = .ok (.iload_n 1, 1) := by decide +kernel
theorem dX6_changes_19 : decode cX6_changes 19 = .ok (.sipush 267, 3) := by decide +kernel
theorem dX6_changes_22 : decode cX6_changes 22 = .ok (.if_icmp .ge 24, 3) := by decide +kernel
theorem dX6_changes_25 : decode cX6_changes 25 = .ok (.aload_n 0, 1) := by decide +kernel
theorem dX6_changes_26 : decode cX6_changes 26 = .ok (.getfield 13, 3) := by decide +kernel
theorem dX6_changes_29 : decode cX6_changes 29 = .ok (.iload_n 1, 1) := by decide +kernel
theorem dX6_changes_30 : decode cX6_changes 30 = .ok (.aload_n 0, 1) := by decide +kernel
theorem dX6_changes_31 : decode cX6_changes 31 = .ok (.getfield 13, 3) := by decide +kernel
theorem dX6_changes_34 : decode cX6_changes 34 = .ok (.iload_n 1, 1) := by decide +kernel
theorem dX6_changes_35 : decode cX6_changes 35 = .ok (.bipush 89, 2) := by decide +kernel
theorem dX6_changes_37 : decode cX6_changes 37 = .ok (.iadd, 1) := by decide +kernel
theorem dX6_changes_38 : decode cX6_changes 38 = .ok (.iaload, 1) := by decide +kernel
theorem dX6_changes_39 : decode cX6_changes 39 = .ok (.iastore, 1) := by decide +kernel
theorem dX6_changes_40 : decode cX6_changes 40 = .ok (.iinc 1 1, 3) := by decide +kernel
theorem dX6_changes_43 : decode cX6_changes 43 = .ok (.goto (-25), 3) := by decide +kernel
theorem dX6_changes_46 : decode cX6_changes 46 = .ok (.aload_n 0, 1) := by decide +kernel
theorem dX6_changes_47 : decode cX6_changes 47 = .ok (.dup, 1) := by decide +kernel
theorem dX6_changes_48 : decode cX6_changes 48 = .ok (.getfield 33, 3) := by decide +kernel
theorem dX6_changes_51 : decode cX6_changes 51 = .ok (.iconst 1, 1) := by decide +kernel
theorem dX6_changes_52 : decode cX6_changes 52 = .ok (.isub, 1) := by decide +kernel
theorem dX6_changes_53 : decode cX6_changes 53 = .ok (.putfield 33, 3) := by decide +kernel
theorem dX6_changes_56 : decode cX6_changes 56 = .ok (.iconst 0, 1) := by decide +kernel
theorem dX6_changes_57 : decode cX6_changes 57 = .ok (.istore_n 1, 1) := by decide +kernel
theorem dX6_changes_58 : decode cX6_changes 58 = .ok (.iload_n 1, 1) := by decide +kernel
theorem dX6_changes_59 : decode cX6_changes 59 = .ok (.bipush 89, 2) := by decide +kernel
theorem dX6_changes_61 : decode cX6_changes 61 = .ok (.if_icmp .ge 29, 3) := by decide +kernel
theorem dX6_changes_64 : decode cX6_changes 64 = .ok (.aload_n 0, 1) := by decide +kernel
theorem dX6_changes_65 : decode cX6_changes 65 = .ok (.getfield 13, 3) := by decide +kernel
theorem dX6_changes_68 : decode cX6_changes 68 = .ok (.bipush 89, 2) := by decide +kernel
theorem dX6_changes_70 : decode cX6_changes 70 = .ok (.aload_n 0, 1) := by decide +kernel
theorem dX6_changes_71 : decode cX6_changes 71 = .ok (.getfield 33, 3) := by decide +kernel
theorem dX6_changes_74 : decode cX6_changes 74 = .ok (.imul, 1) := by decide +kernel
theorem dX6_changes_75 : decode cX6_changes 75 = .ok (.iload_n 1, 1) := by decide +kernel
theorem dX6_changes_76 : decode cX6_changes 76 = .ok (.iadd, 1) := by decide +kernel
theorem dX6_changes_77 : decode cX6_changes 77 = .ok (.aload_n 0, 1) := by decide +kernel
theorem dX6_changes_78 : decode cX6_changes 78 = .ok (.getfield 7, 3) := by decide +kernel
theorem dX6_changes_81 : decode cX6_changes 81 = .ok (.iload_n 1, 1) := by decide +kernel
theorem dX6_changes_82 : decode cX6_changes 82 = .ok (.iaload, 1) := by decide +kernel
theorem dX6_changes_83 : decode cX6_changes 83 = .ok (.iastore, 1) := by decide +kernel
theorem dX6_changes_84 : decode cX6_changes 84 = .ok (.iinc 1 1, 3) := by decide +kernel
theorem dX6_changes_87 : decode cX6_changes 87 = .ok (.goto (-29), 3) := by decide +kernel
theorem dX6_changes_90 : decode cX6_changes 90 = .ok (.aload_n 0, 1) := by decide +kernel
theorem dX6_changes_91 : decode cX6_changes 91 = .ok (.dup, 1) := by decide +kernel
theorem dX6_changes_92 : decode cX6_changes 92 = .ok (.getfield 33, 3) := by decide +kernel
theorem dX6_changes_95 : decode cX6_changes 95 = .ok (.iconst 1, 1) := by decide +kernel
theorem dX6_changes_96 : decode cX6_changes 96 = .ok (.iadd, 1) := by decide +kernel
theorem dX6_changes_97 : decode cX6_changes 97 = .ok (.putfield 33, 3) := by decide +kernel
theorem dX6_changes_100 : decode cX6_changes 100 = .ok (.return_, 1) := by decide +kernel
theorem dX6_sets_0 : decode cX6_sets 0 = .ok (.aload_n 0, 1) := by decide +kernel
theorem dX6_sets_1 : decode cX6_sets 1 = .ok (.invokevirtual 37, 3) := by decide +kernel
theorem dX6_sets_4 : decode cX6_sets 4 = .ok (.aload_n 0, 1) := by decide +kernel
theorem dX6_sets_5 : decode cX6_sets 5 = .ok (.getfield 7, 3) := by decide +kernel
theorem dX6_sets_8 : decode cX6_sets 8 = .ok (.iload_n 1, 1) := by decide +kernel
theorem dX6_sets_9 : decode cX6_sets 9 = .ok (.iaload, 1) := by decide +kernel
theorem dX6_sets_10 : decode cX6_sets 10 = .ok (.istore_n 3, 1) := by decide +kernel
theorem dX6_sets_11 : decode cX6_sets 11 = .ok (.aload_n 0, 1) := by decide +kernel
theorem dX6_sets_12 : decode cX6_sets 12 = .ok (.getfield 7, 3) := by decide +kernel
theorem dX6_sets_15 : decode cX6_sets 15 = .ok (.iload_n 1, 1) := by decide +kernel
theorem dX6_sets_16 : decode cX6_sets 16 = .ok (.iload_n 2, 1) := by decide +kernel
theorem dX6_sets_17 : decode cX6_sets 17 = .ok (.iastore, 1) := by decide +kernel
theorem dX6_sets_18 : decode cX6_sets 18 = .ok (.iload_n 3, 1) := by decide +kernel
theorem dX6_sets_19 : decode cX6_sets 19 = .ok (.ireturn, 1) := by decide +kernel
theorem dX6_gates_0 : decode cX6_gates 0 = .ok (.iload_n 1, 1) := by decide +kernel
theorem dX6_gates_1 : decode cX6_gates 1 = .ok (.iconst 0, 1) := by decide +kernel
theorem dX6_gates_2 : decode cX6_gates 2 = .ok (.bipush 8, 2) := by decide +kernel
theorem dX6_gates_4 : decode cX6_gates 4 = .ok (.invokestatic 40, 3) := by decide +kernel
theorem dX6_gates_7 : decode cX6_gates 7 = .ok (.ifCond .eq 12, 3) := by decide +kernel
theorem dX6_gates_10 : decode cX6_gates 10 = .ok (.aload_n 0, 1) := by decide +kernel
theorem dX6_gates_11 : decode cX6_gates 11 = .ok (.iconst 3, 1) := by decide +kernel
theorem dX6_gates_12 : decode cX6_gates 12 = .ok (.iload_n 1, 1) := by decide +kernel
theorem dX6_gates_13 : decode cX6_gates 13 = .ok (.invokevirtual 44, 3) := by decide +kernel
theorem dX6_gates_16 : decode cX6_gates 16 = .ok (.goto 5, 3) := by decide +kernel
theorem dX6_gates_19 : decode cX6_gates 19 = .ok (.ldc 48, 2) := by decide +kernel
theorem dX6_gates_21 : decode cX6_gates 21 = .ok (.ireturn, 1) := by decide +kernel
theorem dX6_turbines_0 : decode cX6_turbines 0 = .ok (.iload_n 1, 1) := by decide +kernel
theorem dX6_turbines_1 : decode cX6_turbines 1 = .ok (.iconst 0, 1) := by decide +kernel
theorem dX6_turbines_2 : decode cX6_turbines 2 = .ok (.bipush 6, 2) := by decide +kernel
theorem dX6_turbines_4 : decode cX6_turbines 4 = .ok (.invokestatic 40, 3) := by decide +kernel
theorem dX6_turbines_7 : decode cX6_turbines 7 = .ok (.ifCond .eq 12, 3) := by decide +kernel
theorem dX6_turbines_10 : decode cX6_turbines 10 = .ok (.aload_n 0, 1) := by decide +kernel
theorem dX6_turbines_11 : decode cX6_turbines 11 = .ok (.iconst 4, 1) := by decide +kernel
theorem dX6_turbines_12 : decode cX6_turbines 12 = .ok (.iload_n 1, 1) := by decide +kernel
theorem dX6_turbines_13 : decode cX6_turbines 13 = .ok (.invokevirtual 44, 3) := by decide +kernel
theorem dX6_turbines_16 : decode cX6_turbines 16 = .ok (.goto 5, 3) := by decide +kernel
theorem dX6_turbines_19 : decode cX6_turbines 19 = .ok (.ldc 48, 2) := by decide +kernel
theorem dX6_turbines_21 : decode cX6_turbines 21 = .ok (.ireturn, 1) := by decide +kernel
theorem dX6_pump_0 : decode cX6_pump 0 = .ok (.iload_n 1, 1) := by decide +kernel
theorem dX6_pump_1 : decode cX6_pump 1 = .ok (.sipush (-500), 3) := by decide +kernel
theorem dX6_pump_4 : decode cX6_pump 4 = .ok (.sipush 500, 3) := by decide +kernel
theorem dX6_pump_7 : decode cX6_pump 7 = .ok (.invokestatic 40, 3) := by decide +kernel
theorem dX6_pump_10 : decode cX6_pump 10 = .ok (.ifCond .eq 12, 3) := by decide +kernel
theorem dX6_pump_13 : decode cX6_pump 13 = .ok (.aload_n 0, 1) := by decide +kernel
theorem dX6_pump_14 : decode cX6_pump 14 = .ok (.iconst 5, 1) := by decide +kernel
theorem dX6_pump_15 : decode cX6_pump 15 = .ok (.iload_n 1, 1) := by decide +kernel
theorem dX6_pump_16 : decode cX6_pump 16 = .ok (.invokevirtual 44, 3) := by decide +kernel
theorem dX6_pump_19 : decode cX6_pump 19 = .ok (.goto 5, 3) := by decide +kernel
theorem dX6_pump_22 : decode cX6_pump 22 = .ok (.ldc 48, 2) := by decide +kernel
theorem dX6_pump_24 : decode cX6_pump 24 = .ok (.ireturn, 1) := by decide +kernel
theorem dX6_birds_0 : decode cX6_birds 0 = .ok (.iload_n 1, 1) := by decide +kernel
theorem dX6_birds_1 : decode cX6_birds 1 = .ok (.iconst 0, 1) := by decide +kernel
theorem dX6_birds_2 : decode cX6_birds 2 = .ok (.sipush 143, 3) := by decide +kernel
theorem dX6_birds_5 : decode cX6_birds 5 = .ok (.invokestatic 40, 3) := by decide +kernel
theorem dX6_birds_8 : decode cX6_birds 8 = .ok (.ifCond .eq 14, 3) := by decide +kernel
theorem dX6_birds_11 : decode cX6_birds 11 = .ok (.iload_n 2, 1) := by decide +kernel
theorem dX6_birds_12 : decode cX6_birds 12 = .ok (.iconst 0, 1) := by decide +kernel
theorem dX6_birds_13 : decode cX6_birds 13 = .ok (.sipush 144, 3) := by decide +kernel
theorem dX6_birds_16 : decode cX6_birds 16 = .ok (.invokestatic 40, 3) := by decide +kernel
theorem dX6_birds_19 : decode cX6_birds 19 = .ok (.ifCond .ne 6, 3) := by decide +kernel
theorem dX6_birds_22 : decode cX6_birds 22 = .ok (.ldc 48, 2) := by decide +kernel
theorem dX6_birds_24 : decode cX6_birds 24 = .ok (.ireturn, 1) := by decide +kernel
theorem dX6_birds_25 : decode cX6_birds 25 = .ok (.aload_n 0, 1) := by decide +kernel
theorem dX6_birds_26 : decode cX6_birds 26 = .ok (.invokevirtual 37, 3) := by decide +kernel
theorem dX6_birds_29 : decode cX6_birds 29 = .ok (.aload_n 0, 1) := by decide +kernel
theorem dX6_birds_30 : decode cX6_birds 30 = .ok (.getfield 7, 3) := by decide +kernel
theorem dX6_birds_33 : decode cX6_birds 33 = .ok (.bipush 6, 2) := by decide +kernel
theorem dX6_birds_35 : decode cX6_birds 35 = .ok (.iload_n 1, 1) := by decide +kernel
theorem dX6_birds_36 : decode cX6_birds 36 = .ok (.iastore, 1) := by decide +kernel
theorem dX6_birds_37 : decode cX6_birds 37 = .ok (.aload_n 0, 1) := by decide +kernel
theorem dX6_birds_38 : decode cX6_birds 38 = .ok (.getfield 7, 3) := by decide +kernel
theorem dX6_birds_41 : decode cX6_birds 41 = .ok (.bipush 7, 2) := by decide +kernel
theorem dX6_birds_43 : decode cX6_birds 43 = .ok (.iload_n 2, 1) := by decide +kernel
theorem dX6_birds_44 : decode cX6_birds 44 = .ok (.iastore, 1) := by decide +kernel
theorem dX6_birds_45 : decode cX6_birds 45 = .ok (.iload_n 1, 1) := by decide +kernel
theorem dX6_birds_46 : decode cX6_birds 46 = .ok (.iload_n 2, 1) := by decide +kernel
theorem dX6_birds_47 : decode cX6_birds 47 = .ok (.if_icmp .ge 9, 3) := by decide +kernel
theorem dX6_birds_50 : decode cX6_birds 50 = .ok (.iload_n 2, 1) := by decide +kernel
theorem dX6_birds_51 : decode cX6_birds 51 = .ok (.iload_n 1, 1) := by decide +kernel
theorem dX6_birds_52 : decode cX6_birds 52 = .ok (.isub, 1) := by decide +kernel
theorem dX6_birds_53 : decode cX6_birds 53 = .ok (.goto 4, 3) := by decide +kernel
theorem dX6_birds_56 : decode cX6_birds 56 = .ok (.iconst 0, 1) := by decide +kernel
theorem dX6_birds_57 : decode cX6_birds 57 = .ok (.ireturn, 1) := by decide +kernel
theorem dX6_tide_0 : decode cX6_tide 0 = .ok (.sipush 200, 3) := by decide +kernel
theorem dX6_tide_3 : decode cX6_tide 3 = .ok (.bipush 20, 2) := by decide +kernel
theorem dX6_tide_5 : decode cX6_tide 5 = .ok (.iload_n 0, 1) := by decide +kernel
theorem dX6_tide_6 : decode cX6_tide 6 = .ok (.sipush 144, 3) := by decide +kernel
theorem dX6_tide_9 : decode cX6_tide 9 = .ok (.idiv, 1) := by decide +kernel
theorem dX6_tide_10 : decode cX6_tide 10 = .ok (.bipush 14, 2) := by decide +kernel
theorem dX6_tide_12 : decode cX6_tide 12 = .ok (.irem, 1) := by decide +kernel
theorem dX6_tide_13 : decode cX6_tide 13 = .ok (.bipush 7, 2) := by decide +kernel
theorem dX6_tide_15 : decode cX6_tide 15 = .ok (.isub, 1) := by decide +kernel
theorem dX6_tide_16 : decode cX6_tide 16 = .ok (.invokestatic 49, 3) := by decide +kernel
theorem dX6_tide_19 : decode cX6_tide 19 = .ok (.imul, 1) := by decide +kernel
theorem dX6_tide_20 : decode cX6_tide 20 = .ok (.iadd, 1) := by decide +kernel
theorem dX6_tide_21 : decode cX6_tide 21 = .ok (.ireturn, 1) := by decide +kernel
theorem dX6_seaLevel_0 : decode cX6_seaLevel 0 = .ok (.iload_n 0, 1) := by decide +kernel
theorem dX6_seaLevel_1 : decode cX6_seaLevel 1 = .ok (.invokestatic 53, 3) := by decide +kernel
theorem dX6_seaLevel_4 : decode cX6_seaLevel 4 = .ok (.istore_n 1, 1) := by decide +kernel
theorem dX6_seaLevel_5 : decode cX6_seaLevel 5 = .ok (.iload_n 0, 1) := by decide +kernel
theorem dX6_seaLevel_6 : decode cX6_seaLevel 6 = .ok (.bipush 74, 2) := by decide +kernel
theorem dX6_seaLevel_8 : decode cX6_seaLevel 8 = .ok (.irem, 1) := by decide +kernel
theorem dX6_seaLevel_9 : decode cX6_seaLevel 9 = .ok (.istore_n 2, 1) := by decide +kernel
theorem dX6_seaLevel_10 : decode cX6_seaLevel 10 = .ok (.iload_n 2, 1) := by decide +kernel
theorem dX6_seaLevel_11 : decode cX6_seaLevel 11 = .ok (.bipush 37, 2) := by decide +kernel
theorem dX6_seaLevel_13 : decode cX6_seaLevel 13 = .ok (.if_icmp .ge 16, 3) := by decide +kernel
theorem dX6_seaLevel_16 : decode cX6_seaLevel 16 = .ok (.iconst 2, 1) := by decide +kernel
theorem dX6_seaLevel_17 : decode cX6_seaLevel 17 = .ok (.iload_n 1, 1) := by decide +kernel
theorem dX6_seaLevel_18 : decode cX6_seaLevel 18 = .ok (.imul, 1) := by decide +kernel
theorem dX6_seaLevel_19 : decode cX6_seaLevel 19 = .ok (.iload_n 2, 1) := by decide +kernel
theorem dX6_seaLevel_20 : decode cX6_seaLevel 20 = .ok (.imul, 1) := by decide +kernel
theorem dX6_seaLevel_21 : decode cX6_seaLevel 21 = .ok (.bipush 37, 2) := by decide +kernel
theorem dX6_seaLevel_23 : decode cX6_seaLevel 23 = .ok (.idiv, 1) := by decide +kernel
theorem dX6_seaLevel_24 : decode cX6_seaLevel 24 = .ok (.iload_n 1, 1) := by decide +kernel
theorem dX6_seaLevel_25 : decode cX6_seaLevel 25 = .ok (.isub, 1) := by decide +kernel
theorem dX6_seaLevel_26 : decode cX6_seaLevel 26 = .ok (.goto 16, 3) := by decide +kernel
theorem dX6_seaLevel_29 : decode cX6_seaLevel 29 = .ok (.iload_n 1, 1) := by decide +kernel
theorem dX6_seaLevel_30 : decode cX6_seaLevel 30 = .ok (.iconst 2, 1) := by decide +kernel
theorem dX6_seaLevel_31 : decode cX6_seaLevel 31 = .ok (.iload_n 1, 1) := by decide +kernel
theorem dX6_seaLevel_32 : decode cX6_seaLevel 32 = .ok (.imul, 1) := by decide +kernel
theorem dX6_seaLevel_33 : decode cX6_seaLevel 33 = .ok (.iload_n 2, 1) := by decide +kernel
theorem dX6_seaLevel_34 : decode cX6_seaLevel 34 = .ok (.bipush 37, 2) := by decide +kernel
theorem dX6_seaLevel_36 : decode cX6_seaLevel 36 = .ok (.isub, 1) := by decide +kernel
theorem dX6_seaLevel_37 : decode cX6_seaLevel 37 = .ok (.imul, 1) := by decide +kernel
theorem dX6_seaLevel_38 : decode cX6_seaLevel 38 = .ok (.bipush 37, 2) := by decide +kernel
theorem dX6_seaLevel_40 : decode cX6_seaLevel 40 = .ok (.idiv, 1) := by decide +kernel
theorem dX6_seaLevel_41 : decode cX6_seaLevel 41 = .ok (.isub, 1) := by decide +kernel
theorem dX6_seaLevel_42 : decode cX6_seaLevel 42 = .ok (.ireturn, 1) := by decide +kernel
theorem dX6_level_0 : decode cX6_level 0 = .ok (.aload_n 0, 1) := by decide +kernel
theorem dX6_level_1 : decode cX6_level 1 = .ok (.getfield 7, 3) := by decide +kernel
theorem dX6_level_4 : decode cX6_level 4 = .ok (.iconst 1, 1) := by decide +kernel
theorem dX6_level_5 : decode cX6_level 5 = .ok (.iaload, 1) := by decide +kernel
theorem dX6_level_6 : decode cX6_level 6 = .ok (.aload_n 0, 1) := by decide +kernel
theorem dX6_level_7 : decode cX6_level 7 = .ok (.getfield 7, 3) := by decide +kernel
theorem dX6_level_10 : decode cX6_level 10 = .ok (.iconst 2, 1) := by decide +kernel
theorem dX6_level_11 : decode cX6_level 11 = .ok (.iaload, 1) := by decide +kernel
theorem dX6_level_12 : decode cX6_level 12 = .ok (.iadd, 1) := by decide +kernel
theorem dX6_level_13 : decode cX6_level 13 = .ok (.bipush 100, 2) := by decide +kernel
theorem dX6_level_15 : decode cX6_level 15 = .ok (.idiv, 1) := by decide +kernel
theorem dX6_level_16 : decode cX6_level 16 = .ok (.sipush 400, 3) := by decide +kernel
theorem dX6_level_19 : decode cX6_level 19 = .ok (.isub, 1) := by decide +kernel
theorem dX6_level_20 : decode cX6_level 20 = .ok (.ireturn, 1) := by decide +kernel
theorem dX6_head_0 : decode cX6_head 0 = .ok (.aload_n 0, 1) := by decide +kernel
theorem dX6_head_1 : decode cX6_head 1 = .ok (.getfield 7, 3) := by decide +kernel
theorem dX6_head_4 : decode cX6_head 4 = .ok (.iconst 0, 1) := by decide +kernel
theorem dX6_head_5 : decode cX6_head 5 = .ok (.iaload, 1) := by decide +kernel
theorem dX6_head_6 : decode cX6_head 6 = .ok (.invokestatic 56, 3) := by decide +kernel
theorem dX6_head_9 : decode cX6_head 9 = .ok (.aload_n 0, 1) := by decide +kernel
theorem dX6_head_10 : decode cX6_head 10 = .ok (.invokevirtual 59, 3) := by decide +kernel
theorem dX6_head_13 : decode cX6_head 13 = .ok (.isub, 1) := by decide +kernel
theorem dX6_head_14 : decode cX6_head 14 = .ok (.ireturn, 1) := by decide +kernel
theorem dX6_isBirds_0 : decode cX6_isBirds 0 = .ok (.aload_n 0, 1) := by decide +kernel
theorem dX6_isBirds_1 : decode cX6_isBirds 1 = .ok (.getfield 7, 3) := by decide +kernel
theorem dX6_isBirds_4 : decode cX6_isBirds 4 = .ok (.iconst 0, 1) := by decide +kernel
theorem dX6_isBirds_5 : decode cX6_isBirds 5 = .ok (.iaload, 1) := by decide +kernel
theorem dX6_isBirds_6 : decode cX6_isBirds 6 = .ok (.sipush 144, 3) := by decide +kernel
theorem dX6_isBirds_9 : decode cX6_isBirds 9 = .ok (.irem, 1) := by decide +kernel
theorem dX6_isBirds_10 : decode cX6_isBirds 10 = .ok (.aload_n 0, 1) := by decide +kernel
theorem dX6_isBirds_11 : decode cX6_isBirds 11 = .ok (.getfield 7, 3) := by decide +kernel
theorem dX6_isBirds_14 : decode cX6_isBirds 14 = .ok (.bipush 6, 2) := by decide +kernel
theorem dX6_isBirds_16 : decode cX6_isBirds 16 = .ok (.iaload, 1) := by decide +kernel
theorem dX6_isBirds_17 : decode cX6_isBirds 17 = .ok (.if_icmp .lt 27, 3) := by decide +kernel
theorem dX6_isBirds_20 : decode cX6_isBirds 20 = .ok (.aload_n 0, 1) := by decide +kernel
theorem dX6_isBirds_21 : decode cX6_isBirds 21 = .ok (.getfield 7, 3) := by decide +kernel
theorem dX6_isBirds_24 : decode cX6_isBirds 24 = .ok (.iconst 0, 1) := by decide +kernel
theorem dX6_isBirds_25 : decode cX6_isBirds 25 = .ok (.iaload, 1) := by decide +kernel
theorem dX6_isBirds_26 : decode cX6_isBirds 26 = .ok (.sipush 144, 3) := by decide +kernel
theorem dX6_isBirds_29 : decode cX6_isBirds 29 = .ok (.irem, 1) := by decide +kernel
theorem dX6_isBirds_30 : decode cX6_isBirds 30 = .ok (.aload_n 0, 1) := by decide +kernel
theorem dX6_isBirds_31 : decode cX6_isBirds 31 = .ok (.getfield 7, 3) := by decide +kernel
theorem dX6_isBirds_34 : decode cX6_isBirds 34 = .ok (.bipush 7, 2) := by decide +kernel
theorem dX6_isBirds_36 : decode cX6_isBirds 36 = .ok (.iaload, 1) := by decide +kernel
theorem dX6_isBirds_37 : decode cX6_isBirds 37 = .ok (.if_icmp .ge 7, 3) := by decide +kernel
theorem dX6_isBirds_40 : decode cX6_isBirds 40 = .ok (.iconst 1, 1) := by decide +kernel
theorem dX6_isBirds_41 : decode cX6_isBirds 41 = .ok (.goto 4, 3) := by decide +kernel
theorem dX6_isBirds_44 : decode cX6_isBirds 44 = .ok (.iconst 0, 1) := by decide +kernel
theorem dX6_isBirds_45 : decode cX6_isBirds 45 = .ok (.ireturn, 1) := by decide +kernel
theorem dX6_weighs_0 : decode cX6_weighs 0 = .ok (.aload_n 0, 1) := by decide +kernel
theorem dX6_weighs_1 : decode cX6_weighs 1 = .ok (.invokevirtual 63, 3) := by decide +kernel
theorem dX6_weighs_4 : decode cX6_weighs 4 = .ok (.istore_n 1, 1) := by decide +kernel
theorem dX6_weighs_5 : decode cX6_weighs 5 = .ok (.iload_n 1, 1) := by decide +kernel
theorem dX6_weighs_6 : decode cX6_weighs 6 = .ok (.invokestatic 49, 3) := by decide +kernel
theorem dX6_weighs_9 : decode cX6_weighs 9 = .ok (.aload_n 0, 1) := by decide +kernel
theorem dX6_weighs_10 : decode cX6_weighs 10 = .ok (.getfield 7, 3) := by decide +kernel
theorem dX6_weighs_13 : decode cX6_weighs 13 = .ok (.bipush 8, 2) := by decide +kernel
theorem dX6_weighs_15 : decode cX6_weighs 15 = .ok (.iaload, 1) := by decide +kernel
theorem dX6_weighs_16 : decode cX6_weighs 16 = .ok (.if_icmp .lt 7, 3) := by decide +kernel
theorem dX6_weighs_19 : decode cX6_weighs 19 = .ok (.iconst 1, 1) := by decide +kernel
theorem dX6_weighs_20 : decode cX6_weighs 20 = .ok (.goto 4, 3) := by decide +kernel
theorem dX6_weighs_23 : decode cX6_weighs 23 = .ok (.iconst 0, 1) := by decide +kernel
theorem dX6_weighs_24 : decode cX6_weighs 24 = .ok (.istore_n 2, 1) := by decide +kernel
theorem dX6_weighs_25 : decode cX6_weighs 25 = .ok (.aload_n 0, 1) := by decide +kernel
theorem dX6_weighs_26 : decode cX6_weighs 26 = .ok (.invokevirtual 66, 3) := by decide +kernel
theorem dX6_weighs_29 : decode cX6_weighs 29 = .ok (.ifCond .ne 21, 3) := by decide +kernel
theorem dX6_weighs_32 : decode cX6_weighs 32 = .ok (.iload_n 1, 1) := by decide +kernel
theorem dX6_weighs_33 : decode cX6_weighs 33 = .ok (.invokestatic 49, 3) := by decide +kernel
theorem dX6_weighs_36 : decode cX6_weighs 36 = .ok (.aload_n 0, 1) := by decide +kernel
theorem dX6_weighs_37 : decode cX6_weighs 37 = .ok (.getfield 7, 3) := by decide +kernel
theorem dX6_weighs_40 : decode cX6_weighs 40 = .ok (.bipush 9, 2) := by decide +kernel
theorem dX6_weighs_42 : decode cX6_weighs 42 = .ok (.iaload, 1) := by decide +kernel
theorem dX6_weighs_43 : decode cX6_weighs 43 = .ok (.if_icmp .gt 7, 3) := by decide +kernel
theorem dX6_weighs_46 : decode cX6_weighs 46 = .ok (.iconst 1, 1) := by decide +kernel
theorem dX6_weighs_47 : decode cX6_weighs 47 = .ok (.goto 4, 3) := by decide +kernel
theorem dX6_weighs_50 : decode cX6_weighs 50 = .ok (.iconst 0, 1) := by decide +kernel
theorem dX6_weighs_51 : decode cX6_weighs 51 = .ok (.istore_n 3, 1) := by decide +kernel
theorem dX6_weighs_52 : decode cX6_weighs 52 = .ok (.aload_n 0, 1) := by decide +kernel
theorem dX6_weighs_53 : decode cX6_weighs 53 = .ok (.aload_n 0, 1) := by decide +kernel
theorem dX6_weighs_54 : decode cX6_weighs 54 = .ok (.invokevirtual 66, 3) := by decide +kernel
theorem dX6_weighs_57 : decode cX6_weighs 57 = .ok (.ifCond .eq 7, 3) := by decide +kernel
theorem dX6_weighs_60 : decode cX6_weighs 60 = .ok (.iconst 0, 1) := by decide +kernel
theorem dX6_weighs_61 : decode cX6_weighs 61 = .ok (.goto 13, 3) := by decide +kernel
theorem dX6_weighs_64 : decode cX6_weighs 64 = .ok (.aload_n 0, 1) := by decide +kernel
theorem dX6_weighs_65 : decode cX6_weighs 65 = .ok (.getfield 7, 3) := by decide +kernel
theorem dX6_weighs_68 : decode cX6_weighs 68 = .ok (.iconst 3, 1) := by decide +kernel
theorem dX6_weighs_69 : decode cX6_weighs 69 = .ok (.iaload, 1) := by decide +kernel
theorem dX6_weighs_70 : decode cX6_weighs 70 = .ok (.iload_n 1, 1) := by decide +kernel
theorem dX6_weighs_71 : decode cX6_weighs 71 = .ok (.imul, 1) := by decide +kernel
theorem dX6_weighs_72 : decode cX6_weighs 72 = .ok (.iconst 2, 1) := by decide +kernel
theorem dX6_weighs_73 : decode cX6_weighs 73 = .ok (.imul, 1) := by decide +kernel
theorem dX6_weighs_74 : decode cX6_weighs 74 = .ok (.putfield 70, 3) := by decide +kernel
theorem dX6_weighs_77 : decode cX6_weighs 77 = .ok (.aload_n 0, 1) := by decide +kernel
theorem dX6_weighs_78 : decode cX6_weighs 78 = .ok (.iload_n 2, 1) := by decide +kernel
theorem dX6_weighs_79 : decode cX6_weighs 79 = .ok (.ifCond .eq 14, 3) := by decide +kernel
theorem dX6_weighs_82 : decode cX6_weighs 82 = .ok (.aload_n 0, 1) := by decide +kernel
theorem dX6_weighs_83 : decode cX6_weighs 83 = .ok (.getfield 7, 3) := by decide +kernel
theorem dX6_weighs_86 : decode cX6_weighs 86 = .ok (.iconst 4, 1) := by decide +kernel
theorem dX6_weighs_87 : decode cX6_weighs 87 = .ok (.iaload, 1) := by decide +kernel
theorem dX6_weighs_88 : decode cX6_weighs 88 = .ok (.iload_n 1, 1) := by decide +kernel
theorem dX6_weighs_89 : decode cX6_weighs 89 = .ok (.imul, 1) := by decide +kernel
theorem dX6_weighs_90 : decode cX6_weighs 90 = .ok (.goto 4, 3) := by decide +kernel
theorem dX6_weighs_93 : decode cX6_weighs 93 = .ok (.iconst 0, 1) := by decide +kernel
theorem dX6_weighs_94 : decode cX6_weighs 94 = .ok (.putfield 73, 3) := by decide +kernel
theorem dX6_weighs_97 : decode cX6_weighs 97 = .ok (.aload_n 0, 1) := by decide +kernel
theorem dX6_weighs_98 : decode cX6_weighs 98 = .ok (.iload_n 3, 1) := by decide +kernel
theorem dX6_weighs_99 : decode cX6_weighs 99 = .ok (.ifCond .eq 12, 3) := by decide +kernel
theorem dX6_weighs_102 : decode cX6_weighs 102 = .ok (.aload_n 0, 1) := by decide +kernel
theorem dX6_weighs_103 : decode cX6_weighs 103 = .ok (.getfield 7, 3) := by decide +kernel
theorem dX6_weighs_106 : decode cX6_weighs 106 = .ok (.iconst 5, 1) := by decide +kernel
theorem dX6_weighs_107 : decode cX6_weighs 107 = .ok (.iaload, 1) := by decide +kernel
theorem dX6_weighs_108 : decode cX6_weighs 108 = .ok (.goto 4, 3) := by decide +kernel
theorem dX6_weighs_111 : decode cX6_weighs 111 = .ok (.iconst 0, 1) := by decide +kernel
theorem dX6_weighs_112 : decode cX6_weighs 112 = .ok (.putfield 76, 3) := by decide +kernel
theorem dX6_weighs_115 : decode cX6_weighs 115 = .ok (.aload_n 0, 1) := by decide +kernel
theorem dX6_weighs_116 : decode cX6_weighs 116 = .ok (.aload_n 0, 1) := by decide +kernel
theorem dX6_weighs_117 : decode cX6_weighs 117 = .ok (.getfield 73, 3) := by decide +kernel
theorem dX6_weighs_120 : decode cX6_weighs 120 = .ok (.invokestatic 49, 3) := by decide +kernel
theorem dX6_weighs_123 : decode cX6_weighs 123 = .ok (.iload_n 1, 1) := by decide +kernel
theorem dX6_weighs_124 : decode cX6_weighs 124 = .ok (.invokestatic 49, 3) := by decide +kernel
theorem dX6_weighs_127 : decode cX6_weighs 127 = .ok (.imul, 1) := by decide +kernel
theorem dX6_weighs_128 : decode cX6_weighs 128 = .ok (.bipush 100, 2) := by decide +kernel
theorem dX6_weighs_130 : decode cX6_weighs 130 = .ok (.idiv, 1) := by decide +kernel
theorem dX6_weighs_131 : decode cX6_weighs 131 = .ok (.putfield 79, 3) := by decide +kernel
theorem dX6_weighs_134 : decode cX6_weighs 134 = .ok (.aload_n 0, 1) := by decide +kernel
theorem dX6_weighs_135 : decode cX6_weighs 135 = .ok (.aload_n 0, 1) := by decide +kernel
theorem dX6_weighs_136 : decode cX6_weighs 136 = .ok (.getfield 76, 3) := by decide +kernel
theorem dX6_weighs_139 : decode cX6_weighs 139 = .ok (.invokestatic 49, 3) := by decide +kernel
theorem dX6_weighs_142 : decode cX6_weighs 142 = .ok (.bipush 20, 2) := by decide +kernel
theorem dX6_weighs_144 : decode cX6_weighs 144 = .ok (.iload_n 1, 1) := by decide +kernel
theorem dX6_weighs_145 : decode cX6_weighs 145 = .ok (.invokestatic 49, 3) := by decide +kernel
theorem dX6_weighs_148 : decode cX6_weighs 148 = .ok (.iadd, 1) := by decide +kernel
theorem dX6_weighs_149 : decode cX6_weighs 149 = .ok (.imul, 1) := by decide +kernel
theorem dX6_weighs_150 : decode cX6_weighs 150 = .ok (.bipush 100, 2) := by decide +kernel
theorem dX6_weighs_152 : decode cX6_weighs 152 = .ok (.idiv, 1) := by decide +kernel
theorem dX6_weighs_153 : decode cX6_weighs 153 = .ok (.putfield 82, 3) := by decide +kernel
theorem dX6_weighs_156 : decode cX6_weighs 156 = .ok (.aload_n 0, 1) := by decide +kernel
theorem dX6_weighs_157 : decode cX6_weighs 157 = .ok (.aload_n 0, 1) := by decide +kernel
theorem dX6_weighs_158 : decode cX6_weighs 158 = .ok (.getfield 70, 3) := by decide +kernel
theorem dX6_weighs_161 : decode cX6_weighs 161 = .ok (.aload_n 0, 1) := by decide +kernel
theorem dX6_weighs_162 : decode cX6_weighs 162 = .ok (.getfield 73, 3) := by decide +kernel
theorem dX6_weighs_165 : decode cX6_weighs 165 = .ok (.iadd, 1) := by decide +kernel
theorem dX6_weighs_166 : decode cX6_weighs 166 = .ok (.aload_n 0, 1) := by decide +kernel
theorem dX6_weighs_167 : decode cX6_weighs 167 = .ok (.getfield 76, 3) := by decide +kernel
theorem dX6_weighs_170 : decode cX6_weighs 170 = .ok (.iadd, 1) := by decide +kernel
theorem dX6_weighs_171 : decode cX6_weighs 171 = .ok (.putfield 85, 3) := by decide +kernel
theorem dX6_weighs_174 : decode cX6_weighs 174 = .ok (.aload_n 0, 1) := by decide +kernel
theorem dX6_weighs_175 : decode cX6_weighs 175 = .ok (.aload_n 0, 1) := by decide +kernel
theorem dX6_weighs_176 : decode cX6_weighs 176 = .ok (.getfield 7, 3) := by decide +kernel
theorem dX6_weighs_179 : decode cX6_weighs 179 = .ok (.iconst 1, 1) := by decide +kernel
theorem dX6_weighs_180 : decode cX6_weighs 180 = .ok (.iaload, 1) := by decide +kernel
theorem dX6_weighs_181 : decode cX6_weighs 181 = .ok (.aload_n 0, 1) := by decide +kernel
theorem dX6_weighs_182 : decode cX6_weighs 182 = .ok (.getfield 85, 3) := by decide +kernel
theorem dX6_weighs_185 : decode cX6_weighs 185 = .ok (.iadd, 1) := by decide +kernel
theorem dX6_weighs_186 : decode cX6_weighs 186 = .ok (.ldc 88, 2) := by decide +kernel
theorem dX6_weighs_188 : decode cX6_weighs 188 = .ok (.if_icmp .le 15, 3) := by decide +kernel
theorem dX6_weighs_191 : decode cX6_weighs 191 = .ok (.ldc 88, 2) := by decide +kernel
theorem dX6_weighs_193 : decode cX6_weighs 193 = .ok (.aload_n 0, 1) := by decide +kernel
theorem dX6_weighs_194 : decode cX6_weighs 194 = .ok (.getfield 7, 3) := by decide +kernel
theorem dX6_weighs_197 : decode cX6_weighs 197 = .ok (.iconst 1, 1) := by decide +kernel
theorem dX6_weighs_198 : decode cX6_weighs 198 = .ok (.iaload, 1) := by decide +kernel
theorem dX6_weighs_199 : decode cX6_weighs 199 = .ok (.isub, 1) := by decide +kernel
theorem dX6_weighs_200 : decode cX6_weighs 200 = .ok (.goto 31, 3) := by decide +kernel
theorem dX6_weighs_203 : decode cX6_weighs 203 = .ok (.aload_n 0, 1) := by decide +kernel
theorem dX6_weighs_204 : decode cX6_weighs 204 = .ok (.getfield 7, 3) := by decide +kernel
theorem dX6_weighs_207 : decode cX6_weighs 207 = .ok (.iconst 1, 1) := by decide +kernel
theorem dX6_weighs_208 : decode cX6_weighs 208 = .ok (.iaload, 1) := by decide +kernel
theorem dX6_weighs_209 : decode cX6_weighs 209 = .ok (.aload_n 0, 1) := by decide +kernel
theorem dX6_weighs_210 : decode cX6_weighs 210 = .ok (.getfield 85, 3) := by decide +kernel
theorem dX6_weighs_213 : decode cX6_weighs 213 = .ok (.iadd, 1) := by decide +kernel
theorem dX6_weighs_214 : decode cX6_weighs 214 = .ok (.ifCond .ge 13, 3) := by decide +kernel
theorem dX6_weighs_217 : decode cX6_weighs 217 = .ok (.aload_n 0, 1) := by decide +kernel
theorem dX6_weighs_218 : decode cX6_weighs 218 = .ok (.getfield 7, 3) := by decide +kernel
theorem dX6_weighs_221 : decode cX6_weighs 221 = .ok (.iconst 1, 1) := by decide +kernel
theorem dX6_weighs_222 : decode cX6_weighs 222 = .ok (.iaload, 1) := by decide +kernel
theorem dX6_weighs_223 : decode cX6_weighs 223 = .ok (.ineg, 1) := by decide +kernel
theorem dX6_weighs_224 : decode cX6_weighs 224 = .ok (.goto 7, 3) := by decide +kernel
theorem dX6_weighs_227 : decode cX6_weighs 227 = .ok (.aload_n 0, 1) := by decide +kernel
theorem dX6_weighs_228 : decode cX6_weighs 228 = .ok (.getfield 85, 3) := by decide +kernel
theorem dX6_weighs_231 : decode cX6_weighs 231 = .ok (.putfield 85, 3) := by decide +kernel
theorem dX6_weighs_234 : decode cX6_weighs 234 = .ok (.aload_n 0, 1) := by decide +kernel
theorem dX6_weighs_235 : decode cX6_weighs 235 = .ok (.iconst 0, 1) := by decide +kernel
theorem dX6_weighs_236 : decode cX6_weighs 236 = .ok (.putfield 89, 3) := by decide +kernel
theorem dX6_weighs_239 : decode cX6_weighs 239 = .ok (.aload_n 0, 1) := by decide +kernel
theorem dX6_weighs_240 : decode cX6_weighs 240 = .ok (.getfield 85, 3) := by decide +kernel
theorem dX6_weighs_243 : decode cX6_weighs 243 = .ok (.ifCond .le 50, 3) := by decide +kernel
theorem dX6_weighs_246 : decode cX6_weighs 246 = .ok (.aload_n 0, 1) := by decide +kernel
theorem dX6_weighs_247 : decode cX6_weighs 247 = .ok (.aload_n 0, 1) := by decide +kernel
theorem dX6_weighs_248 : decode cX6_weighs 248 = .ok (.getfield 85, 3) := by decide +kernel
theorem dX6_weighs_251 : decode cX6_weighs 251 = .ok (.bipush 50, 2) := by decide +kernel
theorem dX6_weighs_253 : decode cX6_weighs 253 = .ok (.idiv, 1) := by decide +kernel
theorem dX6_weighs_254 : decode cX6_weighs 254 = .ok (.sipush 20000, 3) := by decide +kernel
theorem dX6_weighs_257 : decode cX6_weighs 257 = .ok (.aload_n 0, 1) := by decide +kernel
theorem dX6_weighs_258 : decode cX6_weighs 258 = .ok (.getfield 7, 3) := by decide +kernel
theorem dX6_weighs_261 : decode cX6_weighs 261 = .ok (.iconst 2, 1) := by decide +kernel
theorem dX6_weighs_262 : decode cX6_weighs 262 = .ok (.iaload, 1) := by decide +kernel
theorem dX6_weighs_263 : decode cX6_weighs 263 = .ok (.isub, 1) := by decide +kernel
theorem dX6_weighs_264 : decode cX6_weighs 264 = .ok (.if_icmp .ge 13, 3) := by decide +kernel
theorem dX6_weighs_267 : decode cX6_weighs 267 = .ok (.aload_n 0, 1) := by decide +kernel
theorem dX6_weighs_268 : decode cX6_weighs 268 = .ok (.getfield 85, 3) := by decide +kernel
theorem dX6_weighs_271 : decode cX6_weighs 271 = .ok (.bipush 50, 2) := by decide +kernel
theorem dX6_weighs_273 : decode cX6_weighs 273 = .ok (.idiv, 1) := by decide +kernel
theorem dX6_weighs_274 : decode cX6_weighs 274 = .ok (.goto 13, 3) := by decide +kernel
theorem dX6_weighs_277 : decode cX6_weighs 277 = .ok (.sipush 20000, 3) := by decide +kernel
theorem dX6_weighs_280 : decode cX6_weighs 280 = .ok (.aload_n 0, 1) := by decide +kernel
theorem dX6_weighs_281 : decode cX6_weighs 281 = .ok (.getfield 7, 3) := by decide +kernel
theorem dX6_weighs_284 : decode cX6_weighs 284 = .ok (.iconst 2, 1) := by decide +kernel
theorem dX6_weighs_285 : decode cX6_weighs 285 = .ok (.iaload, 1) := by decide +kernel
theorem dX6_weighs_286 : decode cX6_weighs 286 = .ok (.isub, 1) := by decide +kernel
theorem dX6_weighs_287 : decode cX6_weighs 287 = .ok (.putfield 89, 3) := by decide +kernel
theorem dX6_weighs_290 : decode cX6_weighs 290 = .ok (.goto 58, 3) := by decide +kernel
theorem dX6_weighs_293 : decode cX6_weighs 293 = .ok (.aload_n 0, 1) := by decide +kernel
theorem dX6_weighs_294 : decode cX6_weighs 294 = .ok (.getfield 85, 3) := by decide +kernel
theorem dX6_weighs_297 : decode cX6_weighs 297 = .ok (.aload_n 0, 1) := by decide +kernel
theorem dX6_weighs_298 : decode cX6_weighs 298 = .ok (.getfield 7, 3) := by decide +kernel
theorem dX6_weighs_301 : decode cX6_weighs 301 = .ok (.bipush 10, 2) := by decide +kernel
theorem dX6_weighs_303 : decode cX6_weighs 303 = .ok (.iaload, 1) := by decide +kernel
theorem dX6_weighs_304 : decode cX6_weighs 304 = .ok (.ineg, 1) := by decide +kernel
theorem dX6_weighs_305 : decode cX6_weighs 305 = .ok (.if_icmp .gt 43, 3) := by decide +kernel
theorem dX6_weighs_308 : decode cX6_weighs 308 = .ok (.aload_n 0, 1) := by decide +kernel
theorem dX6_weighs_309 : decode cX6_weighs 309 = .ok (.aload_n 0, 1) := by decide +kernel
theorem dX6_weighs_310 : decode cX6_weighs 310 = .ok (.getfield 85, 3) := by decide +kernel
theorem dX6_weighs_313 : decode cX6_weighs 313 = .ok (.ineg, 1) := by decide +kernel
theorem dX6_weighs_314 : decode cX6_weighs 314 = .ok (.bipush 20, 2) := by decide +kernel
theorem dX6_weighs_316 : decode cX6_weighs 316 = .ok (.idiv, 1) := by decide +kernel
theorem dX6_weighs_317 : decode cX6_weighs 317 = .ok (.aload_n 0, 1) := by decide +kernel
theorem dX6_weighs_318 : decode cX6_weighs 318 = .ok (.getfield 7, 3) := by decide +kernel
theorem dX6_weighs_321 : decode cX6_weighs 321 = .ok (.iconst 2, 1) := by decide +kernel
theorem dX6_weighs_322 : decode cX6_weighs 322 = .ok (.iaload, 1) := by decide +kernel
theorem dX6_weighs_323 : decode cX6_weighs 323 = .ok (.if_icmp .ge 15, 3) := by decide +kernel
theorem dX6_weighs_326 : decode cX6_weighs 326 = .ok (.aload_n 0, 1) := by decide +kernel
theorem dX6_weighs_327 : decode cX6_weighs 327 = .ok (.getfield 85, 3) := by decide +kernel
theorem dX6_weighs_330 : decode cX6_weighs 330 = .ok (.ineg, 1) := by decide +kernel
theorem dX6_weighs_331 : decode cX6_weighs 331 = .ok (.bipush 20, 2) := by decide +kernel
theorem dX6_weighs_333 : decode cX6_weighs 333 = .ok (.idiv, 1) := by decide +kernel
theorem dX6_weighs_334 : decode cX6_weighs 334 = .ok (.ineg, 1) := by decide +kernel
theorem dX6_weighs_335 : decode cX6_weighs 335 = .ok (.goto 10, 3) := by decide +kernel
theorem dX6_weighs_338 : decode cX6_weighs 338 = .ok (.aload_n 0, 1) := by decide +kernel
theorem dX6_weighs_339 : decode cX6_weighs 339 = .ok (.getfield 7, 3) := by decide +kernel
theorem dX6_weighs_342 : decode cX6_weighs 342 = .ok (.iconst 2, 1) := by decide +kernel
theorem dX6_weighs_343 : decode cX6_weighs 343 = .ok (.iaload, 1) := by decide +kernel
theorem dX6_weighs_344 : decode cX6_weighs 344 = .ok (.ineg, 1) := by decide +kernel
theorem dX6_weighs_345 : decode cX6_weighs 345 = .ok (.putfield 89, 3) := by decide +kernel
theorem dX6_weighs_348 : decode cX6_weighs 348 = .ok (.return_, 1) := by decide +kernel
theorem dX6_recordOf_0 : decode cX6_recordOf 0 = .ok (.iconst 0, 1) := by decide +kernel
theorem dX6_recordOf_1 : decode cX6_recordOf 1 = .ok (.istore_n 2, 1) := by decide +kernel
theorem dX6_recordOf_2 : decode cX6_recordOf 2 = .ok (.iload_n 2, 1) := by decide +kernel
theorem dX6_recordOf_3 : decode cX6_recordOf 3 = .ok (.aload_n 0, 1) := by decide +kernel
theorem dX6_recordOf_4 : decode cX6_recordOf 4 = .ok (.getfield 7, 3) := by decide +kernel
theorem dX6_recordOf_7 : decode cX6_recordOf 7 = .ok (.bipush 18, 2) := by decide +kernel
theorem dX6_recordOf_9 : decode cX6_recordOf 9 = .ok (.iaload, 1) := by decide +kernel
theorem dX6_recordOf_10 : decode cX6_recordOf 10 = .ok (.if_icmp .ge 33, 3) := by decide +kernel
theorem dX6_recordOf_13 : decode cX6_recordOf 13 = .ok (.aload_n 0, 1) := by decide +kernel
theorem dX6_recordOf_14 : decode cX6_recordOf 14 = .ok (.getfield 7, 3) := by decide +kernel
theorem dX6_recordOf_17 : decode cX6_recordOf 17 = .ok (.bipush 19, 2) := by decide +kernel
theorem dX6_recordOf_19 : decode cX6_recordOf 19 = .ok (.bipush 7, 2) := by decide +kernel
theorem dX6_recordOf_21 : decode cX6_recordOf 21 = .ok (.iload_n 2, 1) := by decide +kernel
theorem dX6_recordOf_22 : decode cX6_recordOf 22 = .ok (.imul, 1) := by decide +kernel
theorem dX6_recordOf_23 : decode cX6_recordOf 23 = .ok (.iadd, 1) := by decide +kernel
theorem dX6_recordOf_24 : decode cX6_recordOf 24 = .ok (.iaload, 1) := by decide +kernel
theorem dX6_recordOf_25 : decode cX6_recordOf 25 = .ok (.iload_n 1, 1) := by decide +kernel
theorem dX6_recordOf_26 : decode cX6_recordOf 26 = .ok (.if_icmp .ne 11, 3) := by decide +kernel
theorem dX6_recordOf_29 : decode cX6_recordOf 29 = .ok (.bipush 19, 2) := by decide +kernel
theorem dX6_recordOf_31 : decode cX6_recordOf 31 = .ok (.bipush 7, 2) := by decide +kernel
theorem dX6_recordOf_33 : decode cX6_recordOf 33 = .ok (.iload_n 2, 1) := by decide +kernel
theorem dX6_recordOf_34 : decode cX6_recordOf 34 = .ok (.imul, 1) := by decide +kernel
theorem dX6_recordOf_35 : decode cX6_recordOf 35 = .ok (.iadd, 1) := by decide +kernel
theorem dX6_recordOf_36 : decode cX6_recordOf 36 = .ok (.ireturn, 1) := by decide +kernel
theorem dX6_recordOf_37 : decode cX6_recordOf 37 = .ok (.iinc 2 1, 3) := by decide +kernel
theorem dX6_recordOf_40 : decode cX6_recordOf 40 = .ok (.goto (-38), 3) := by decide +kernel
theorem dX6_recordOf_43 : decode cX6_recordOf 43 = .ok (.ldc 92, 2) := by decide +kernel
theorem dX6_recordOf_45 : decode cX6_recordOf 45 = .ok (.ireturn, 1) := by decide +kernel
theorem dX6_opens_0 : decode cX6_opens 0 = .ok (.aload_n 0, 1) := by decide +kernel
theorem dX6_opens_1 : decode cX6_opens 1 = .ok (.iload_n 1, 1) := by decide +kernel
theorem dX6_opens_2 : decode cX6_opens 2 = .ok (.invokevirtual 93, 3) := by decide +kernel
theorem dX6_opens_5 : decode cX6_opens 5 = .ok (.istore_n 2, 1) := by decide +kernel
theorem dX6_opens_6 : decode cX6_opens 6 = .ok (.iload_n 2, 1) := by decide +kernel
theorem dX6_opens_7 : decode cX6_opens 7 = .ok (.ifCond .lt 5, 3) := by decide +kernel
theorem dX6_opens_10 : decode cX6_opens 10 = .ok (.iload_n 2, 1) := by decide +kernel
theorem dX6_opens_11 : decode cX6_opens 11 = .ok (.ireturn, 1) := by decide +kernel
theorem dX6_opens_12 : decode cX6_opens 12 = .ok (.aload_n 0, 1) := by decide +kernel
theorem dX6_opens_13 : decode cX6_opens 13 = .ok (.getfield 7, 3) := by decide +kernel
theorem dX6_opens_16 : decode cX6_opens 16 = .ok (.bipush 18, 2) := by decide +kernel
theorem dX6_opens_18 : decode cX6_opens 18 = .ok (.iaload, 1) := by decide +kernel
theorem dX6_opens_19 : decode cX6_opens 19 = .ok (.bipush 10, 2) := by decide +kernel
theorem dX6_opens_21 : decode cX6_opens 21 = .ok (.if_icmp .ne 44, 3) := by decide +kernel
theorem dX6_opens_24 : decode cX6_opens 24 = .ok (.bipush 19, 2) := by decide +kernel
theorem dX6_opens_26 : decode cX6_opens 26 = .ok (.istore_n 3, 1) := by decide +kernel
theorem dX6_opens_27 : decode cX6_opens 27 = .ok (.iload_n 3, 1) := by decide +kernel
theorem dX6_opens_28 : decode cX6_opens 28 = .ok (.bipush 82, 2) := by decide +kernel
theorem dX6_opens_30 : decode cX6_opens 30 = .ok (.if_icmp .ge 24, 3) := by decide +kernel
theorem dX6_opens_33 : decode cX6_opens 33 = .ok (.aload_n 0, 1) := by decide +kernel
theorem dX6_opens_34 : decode cX6_opens 34 = .ok (.getfield 7, 3) := by decide +kernel
theorem dX6_opens_37 : decode cX6_opens 37 = .ok (.iload_n 3, 1) := by decide +kernel
theorem dX6_opens_38 : decode cX6_opens 38 = .ok (.aload_n 0, 1) := by decide +kernel
theorem dX6_opens_39 : decode cX6_opens 39 = .ok (.getfield 7, 3) := by decide +kernel
theorem dX6_opens_42 : decode cX6_opens 42 = .ok (.iload_n 3, 1) := by decide +kernel
theorem dX6_opens_43 : decode cX6_opens 43 = .ok (.bipush 7, 2) := by decide +kernel
theorem dX6_opens_45 : decode cX6_opens 45 = .ok (.iadd, 1) := by decide +kernel
theorem dX6_opens_46 : decode cX6_opens 46 = .ok (.iaload, 1) := by decide +kernel
theorem dX6_opens_47 : decode cX6_opens 47 = .ok (.iastore, 1) := by decide +kernel
theorem dX6_opens_48 : decode cX6_opens 48 = .ok (.iinc 3 1, 3) := by decide +kernel
theorem dX6_opens_51 : decode cX6_opens 51 = .ok (.goto (-24), 3) := by decide +kernel
theorem dX6_opens_54 : decode cX6_opens 54 = .ok (.aload_n 0, 1) := by decide +kernel
theorem dX6_opens_55 : decode cX6_opens 55 = .ok (.getfield 7, 3) := by decide +kernel
theorem dX6_opens_58 : decode cX6_opens 58 = .ok (.bipush 18, 2) := by decide +kernel
theorem dX6_opens_60 : decode cX6_opens 60 = .ok (.dup2, 1) := by decide +kernel
theorem dX6_opens_61 : decode cX6_opens 61 = .ok (.iaload, 1) := by decide +kernel
theorem dX6_opens_62 : decode cX6_opens 62 = .ok (.iconst 1, 1) := by decide +kernel
theorem dX6_opens_63 : decode cX6_opens 63 = .ok (.isub, 1) := by decide +kernel
theorem dX6_opens_64 : decode cX6_opens 64 = .ok (.iastore, 1) := by decide +kernel
theorem dX6_opens_65 : decode cX6_opens 65 = .ok (.bipush 19, 2) := by decide +kernel
theorem dX6_opens_67 : decode cX6_opens 67 = .ok (.bipush 7, 2) := by decide +kernel
theorem dX6_opens_69 : decode cX6_opens 69 = .ok (.aload_n 0, 1) := by decide +kernel
theorem dX6_opens_70 : decode cX6_opens 70 = .ok (.getfield 7, 3) := by decide +kernel
theorem dX6_opens_73 : decode cX6_opens 73 = .ok (.bipush 18, 2) := by decide +kernel
theorem dX6_opens_75 : decode cX6_opens 75 = .ok (.iaload, 1) := by decide +kernel
theorem dX6_opens_76 : decode cX6_opens 76 = .ok (.imul, 1) := by decide +kernel
theorem dX6_opens_77 : decode cX6_opens 77 = .ok (.iadd, 1) := by decide +kernel
theorem dX6_opens_78 : decode cX6_opens 78 = .ok (.istore_n 3, 1) := by decide +kernel
theorem dX6_opens_79 : decode cX6_opens 79 = .ok (.aload_n 0, 1) := by decide +kernel
theorem dX6_opens_80 : decode cX6_opens 80 = .ok (.getfield 7, 3) := by decide +kernel
theorem dX6_opens_83 : decode cX6_opens 83 = .ok (.iload_n 3, 1) := by decide +kernel
theorem dX6_opens_84 : decode cX6_opens 84 = .ok (.iload_n 1, 1) := by decide +kernel
theorem dX6_opens_85 : decode cX6_opens 85 = .ok (.iastore, 1) := by decide +kernel
theorem dX6_opens_86 : decode cX6_opens 86 = .ok (.iconst 1, 1) := by decide +kernel
theorem dX6_opens_87 : decode cX6_opens 87 = .ok (.istore 4, 2) := by decide +kernel
theorem dX6_opens_89 : decode cX6_opens 89 = .ok (.iload 4, 2) := by decide +kernel
theorem dX6_opens_91 : decode cX6_opens 91 = .ok (.bipush 7, 2) := by decide +kernel
theorem dX6_opens_93 : decode cX6_opens 93 = .ok (.if_icmp .ge 19, 3) := by decide +kernel
theorem dX6_opens_96 : decode cX6_opens 96 = .ok (.aload_n 0, 1) := by decide +kernel
theorem dX6_opens_97 : decode cX6_opens 97 = .ok (.getfield 7, 3) := by decide +kernel
theorem dX6_opens_100 : decode cX6_opens 100 = .ok (.iload_n 3, 1) := by decide +kernel
theorem dX6_opens_101 : decode cX6_opens 101 = .ok (.iload 4, 2) := by decide +kernel
theorem dX6_opens_103 : decode cX6_opens 103 = .ok (.iadd, 1) := by decide +kernel
theorem dX6_opens_104 : decode cX6_opens 104 = .ok (.iconst 0, 1) := by decide +kernel
theorem dX6_opens_105 : decode cX6_opens 105 = .ok (.iastore, 1) := by decide +kernel
theorem dX6_opens_106 : decode cX6_opens 106 = .ok (.iinc 4 1, 3) := by decide +kernel
theorem dX6_opens_109 : decode cX6_opens 109 = .ok (.goto (-20), 3) := by decide +kernel
theorem dX6_opens_112 : decode cX6_opens 112 = .ok (.aload_n 0, 1) := by decide +kernel
theorem dX6_opens_113 : decode cX6_opens 113 = .ok (.getfield 7, 3) := by decide +kernel
theorem dX6_opens_116 : decode cX6_opens 116 = .ok (.iload_n 3, 1) := by decide +kernel
theorem dX6_opens_117 : decode cX6_opens 117 = .ok (.iconst 3, 1) := by decide +kernel
theorem dX6_opens_118 : decode cX6_opens 118 = .ok (.iadd, 1) := by decide +kernel
theorem dX6_opens_119 : decode cX6_opens 119 = .ok (.aload_n 0, 1) := by decide +kernel
theorem dX6_opens_120 : decode cX6_opens 120 = .ok (.invokevirtual 59, 3) := by decide +kernel
theorem dX6_opens_123 : decode cX6_opens 123 = .ok (.iastore, 1) := by decide +kernel
theorem dX6_opens_124 : decode cX6_opens 124 = .ok (.aload_n 0, 1) := by decide +kernel
theorem dX6_opens_125 : decode cX6_opens 125 = .ok (.getfield 7, 3) := by decide +kernel
theorem dX6_opens_128 : decode cX6_opens 128 = .ok (.iload_n 3, 1) := by decide +kernel
theorem dX6_opens_129 : decode cX6_opens 129 = .ok (.iconst 4, 1) := by decide +kernel
theorem dX6_opens_130 : decode cX6_opens 130 = .ok (.iadd, 1) := by decide +kernel
theorem dX6_opens_131 : decode cX6_opens 131 = .ok (.aload_n 0, 1) := by decide +kernel
theorem dX6_opens_132 : decode cX6_opens 132 = .ok (.invokevirtual 59, 3) := by decide +kernel
theorem dX6_opens_135 : decode cX6_opens 135 = .ok (.iastore, 1) := by decide +kernel
theorem dX6_opens_136 : decode cX6_opens 136 = .ok (.aload_n 0, 1) := by decide +kernel
theorem dX6_opens_137 : decode cX6_opens 137 = .ok (.getfield 7, 3) := by decide +kernel
theorem dX6_opens_140 : decode cX6_opens 140 = .ok (.bipush 18, 2) := by decide +kernel
theorem dX6_opens_142 : decode cX6_opens 142 = .ok (.dup2, 1) := by decide +kernel
theorem dX6_opens_143 : decode cX6_opens 143 = .ok (.iaload, 1) := by decide +kernel
theorem dX6_opens_144 : decode cX6_opens 144 = .ok (.iconst 1, 1) := by decide +kernel
theorem dX6_opens_145 : decode cX6_opens 145 = .ok (.iadd, 1) := by decide +kernel
theorem dX6_opens_146 : decode cX6_opens 146 = .ok (.iastore, 1) := by decide +kernel
theorem dX6_opens_147 : decode cX6_opens 147 = .ok (.iload_n 3, 1) := by decide +kernel
theorem dX6_opens_148 : decode cX6_opens 148 = .ok (.ireturn, 1) := by decide +kernel
theorem dX6_tick_0 : decode cX6_tick 0 = .ok (.aload_n 0, 1) := by decide +kernel
theorem dX6_tick_1 : decode cX6_tick 1 = .ok (.invokevirtual 96, 3) := by decide +kernel
theorem dX6_tick_4 : decode cX6_tick 4 = .ok (.aload_n 0, 1) := by decide +kernel
theorem dX6_tick_5 : decode cX6_tick 5 = .ok (.getfield 7, 3) := by decide +kernel
theorem dX6_tick_8 : decode cX6_tick 8 = .ok (.iconst 0, 1) := by decide +kernel
theorem dX6_tick_9 : decode cX6_tick 9 = .ok (.iaload, 1) := by decide +kernel
theorem dX6_tick_10 : decode cX6_tick 10 = .ok (.sipush 144, 3) := by decide +kernel
theorem dX6_tick_13 : decode cX6_tick 13 = .ok (.idiv, 1) := by decide +kernel
theorem dX6_tick_14 : decode cX6_tick 14 = .ok (.istore_n 1, 1) := by decide +kernel
theorem dX6_tick_15 : decode cX6_tick 15 = .ok (.aload_n 0, 1) := by decide +kernel
theorem dX6_tick_16 : decode cX6_tick 16 = .ok (.getfield 7, 3) := by decide +kernel
theorem dX6_tick_19 : decode cX6_tick 19 = .ok (.iconst 1, 1) := by decide +kernel
theorem dX6_tick_20 : decode cX6_tick 20 = .ok (.dup2, 1) := by decide +kernel
theorem dX6_tick_21 : decode cX6_tick 21 = .ok (.iaload, 1) := by decide +kernel
theorem dX6_tick_22 : decode cX6_tick 22 = .ok (.aload_n 0, 1) := by decide +kernel
theorem dX6_tick_23 : decode cX6_tick 23 = .ok (.getfield 85, 3) := by decide +kernel
theorem dX6_tick_26 : decode cX6_tick 26 = .ok (.iadd, 1) := by decide +kernel
theorem dX6_tick_27 : decode cX6_tick 27 = .ok (.iastore, 1) := by decide +kernel
theorem dX6_tick_28 : decode cX6_tick 28 = .ok (.aload_n 0, 1) := by decide +kernel
theorem dX6_tick_29 : decode cX6_tick 29 = .ok (.getfield 7, 3) := by decide +kernel
theorem dX6_tick_32 : decode cX6_tick 32 = .ok (.iconst 2, 1) := by decide +kernel
theorem dX6_tick_33 : decode cX6_tick 33 = .ok (.dup2, 1) := by decide +kernel
theorem dX6_tick_34 : decode cX6_tick 34 = .ok (.iaload, 1) := by decide +kernel
theorem dX6_tick_35 : decode cX6_tick 35 = .ok (.aload_n 0, 1) := by decide +kernel
theorem dX6_tick_36 : decode cX6_tick 36 = .ok (.getfield 89, 3) := by decide +kernel
theorem dX6_tick_39 : decode cX6_tick 39 = .ok (.iadd, 1) := by decide +kernel
theorem dX6_tick_40 : decode cX6_tick 40 = .ok (.iastore, 1) := by decide +kernel
theorem dX6_tick_41 : decode cX6_tick 41 = .ok (.aload_n 0, 1) := by decide +kernel
theorem dX6_tick_42 : decode cX6_tick 42 = .ok (.getfield 7, 3) := by decide +kernel
theorem dX6_tick_45 : decode cX6_tick 45 = .ok (.iconst 0, 1) := by decide +kernel
theorem dX6_tick_46 : decode cX6_tick 46 = .ok (.dup2, 1) := by decide +kernel
theorem dX6_tick_47 : decode cX6_tick 47 = .ok (.iaload, 1) := by decide +kernel
theorem dX6_tick_48 : decode cX6_tick 48 = .ok (.iconst 1, 1) := by decide +kernel
theorem dX6_tick_49 : decode cX6_tick 49 = .ok (.iadd, 1) := by decide +kernel
theorem dX6_tick_50 : decode cX6_tick 50 = .ok (.iastore, 1) := by decide +kernel
theorem dX6_tick_51 : decode cX6_tick 51 = .ok (.aload_n 0, 1) := by decide +kernel
theorem dX6_tick_52 : decode cX6_tick 52 = .ok (.getfield 7, 3) := by decide +kernel
theorem dX6_tick_55 : decode cX6_tick 55 = .ok (.bipush 11, 2) := by decide +kernel
theorem dX6_tick_57 : decode cX6_tick 57 = .ok (.dup2, 1) := by decide +kernel
theorem dX6_tick_58 : decode cX6_tick 58 = .ok (.iaload, 1) := by decide +kernel
theorem dX6_tick_59 : decode cX6_tick 59 = .ok (.aload_n 0, 1) := by decide +kernel
theorem dX6_tick_60 : decode cX6_tick 60 = .ok (.getfield 79, 3) := by decide +kernel
theorem dX6_tick_63 : decode cX6_tick 63 = .ok (.iadd, 1) := by decide +kernel
theorem dX6_tick_64 : decode cX6_tick 64 = .ok (.iastore, 1) := by decide +kernel
theorem dX6_tick_65 : decode cX6_tick 65 = .ok (.aload_n 0, 1) := by decide +kernel
theorem dX6_tick_66 : decode cX6_tick 66 = .ok (.getfield 7, 3) := by decide +kernel
theorem dX6_tick_69 : decode cX6_tick 69 = .ok (.bipush 12, 2) := by decide +kernel
theorem dX6_tick_71 : decode cX6_tick 71 = .ok (.dup2, 1) := by decide +kernel
theorem dX6_tick_72 : decode cX6_tick 72 = .ok (.iaload, 1) := by decide +kernel
theorem dX6_tick_73 : decode cX6_tick 73 = .ok (.aload_n 0, 1) := by decide +kernel
theorem dX6_tick_74 : decode cX6_tick 74 = .ok (.getfield 82, 3) := by decide +kernel
theorem dX6_tick_77 : decode cX6_tick 77 = .ok (.iadd, 1) := by decide +kernel
theorem dX6_tick_78 : decode cX6_tick 78 = .ok (.iastore, 1) := by decide +kernel
theorem dX6_tick_79 : decode cX6_tick 79 = .ok (.aload_n 0, 1) := by decide +kernel
theorem dX6_tick_80 : decode cX6_tick 80 = .ok (.getfield 7, 3) := by decide +kernel
theorem dX6_tick_83 : decode cX6_tick 83 = .ok (.bipush 13, 2) := by decide +kernel
theorem dX6_tick_85 : decode cX6_tick 85 = .ok (.dup2, 1) := by decide +kernel
theorem dX6_tick_86 : decode cX6_tick 86 = .ok (.iaload, 1) := by decide +kernel
theorem dX6_tick_87 : decode cX6_tick 87 = .ok (.aload_n 0, 1) := by decide +kernel
theorem dX6_tick_88 : decode cX6_tick 88 = .ok (.getfield 85, 3) := by decide +kernel
theorem dX6_tick_91 : decode cX6_tick 91 = .ok (.ifCond .le 10, 3) := by decide +kernel
theorem dX6_tick_94 : decode cX6_tick 94 = .ok (.aload_n 0, 1) := by decide +kernel
theorem dX6_tick_95 : decode cX6_tick 95 = .ok (.getfield 85, 3) := by decide +kernel
theorem dX6_tick_98 : decode cX6_tick 98 = .ok (.goto 4, 3) := by decide +kernel
theorem dX6_tick_101 : decode cX6_tick 101 = .ok (.iconst 0, 1) := by decide +kernel
theorem dX6_tick_102 : decode cX6_tick 102 = .ok (.iadd, 1) := by decide +kernel
theorem dX6_tick_103 : decode cX6_tick 103 = .ok (.iastore, 1) := by decide +kernel
theorem dX6_tick_104 : decode cX6_tick 104 = .ok (.aload_n 0, 1) := by decide +kernel
theorem dX6_tick_105 : decode cX6_tick 105 = .ok (.getfield 7, 3) := by decide +kernel
theorem dX6_tick_108 : decode cX6_tick 108 = .ok (.bipush 14, 2) := by decide +kernel
theorem dX6_tick_110 : decode cX6_tick 110 = .ok (.dup2, 1) := by decide +kernel
theorem dX6_tick_111 : decode cX6_tick 111 = .ok (.iaload, 1) := by decide +kernel
theorem dX6_tick_112 : decode cX6_tick 112 = .ok (.aload_n 0, 1) := by decide +kernel
theorem dX6_tick_113 : decode cX6_tick 113 = .ok (.getfield 85, 3) := by decide +kernel
theorem dX6_tick_116 : decode cX6_tick 116 = .ok (.ifCond .ge 11, 3) := by decide +kernel
theorem dX6_tick_119 : decode cX6_tick 119 = .ok (.aload_n 0, 1) := by decide +kernel
theorem dX6_tick_120 : decode cX6_tick 120 = .ok (.getfield 85, 3) := by decide +kernel
theorem dX6_tick_123 : decode cX6_tick 123 = .ok (.ineg, 1) := by decide +kernel
theorem dX6_tick_124 : decode cX6_tick 124 = .ok (.goto 4, 3) := by decide +kernel
theorem dX6_tick_127 : decode cX6_tick 127 = .ok (.iconst 0, 1) := by decide +kernel
theorem dX6_tick_128 : decode cX6_tick 128 = .ok (.iadd, 1) := by decide +kernel
theorem dX6_tick_129 : decode cX6_tick 129 = .ok (.iastore, 1) := by decide +kernel
theorem dX6_tick_130 : decode cX6_tick 130 = .ok (.aload_n 0, 1) := by decide +kernel
theorem dX6_tick_131 : decode cX6_tick 131 = .ok (.getfield 7, 3) := by decide +kernel
theorem dX6_tick_134 : decode cX6_tick 134 = .ok (.bipush 16, 2) := by decide +kernel
theorem dX6_tick_136 : decode cX6_tick 136 = .ok (.dup2, 1) := by decide +kernel
theorem dX6_tick_137 : decode cX6_tick 137 = .ok (.iaload, 1) := by decide +kernel
theorem dX6_tick_138 : decode cX6_tick 138 = .ok (.aload_n 0, 1) := by decide +kernel
theorem dX6_tick_139 : decode cX6_tick 139 = .ok (.getfield 89, 3) := by decide +kernel
theorem dX6_tick_142 : decode cX6_tick 142 = .ok (.ifCond .le 10, 3) := by decide +kernel
theorem dX6_tick_145 : decode cX6_tick 145 = .ok (.aload_n 0, 1) := by decide +kernel
theorem dX6_tick_146 : decode cX6_tick 146 = .ok (.getfield 89, 3) := by decide +kernel
theorem dX6_tick_149 : decode cX6_tick 149 = .ok (.goto 4, 3) := by decide +kernel
theorem dX6_tick_152 : decode cX6_tick 152 = .ok (.iconst 0, 1) := by decide +kernel
theorem dX6_tick_153 : decode cX6_tick 153 = .ok (.iadd, 1) := by decide +kernel
theorem dX6_tick_154 : decode cX6_tick 154 = .ok (.iastore, 1) := by decide +kernel
theorem dX6_tick_155 : decode cX6_tick 155 = .ok (.aload_n 0, 1) := by decide +kernel
theorem dX6_tick_156 : decode cX6_tick 156 = .ok (.getfield 7, 3) := by decide +kernel
theorem dX6_tick_159 : decode cX6_tick 159 = .ok (.bipush 17, 2) := by decide +kernel
theorem dX6_tick_161 : decode cX6_tick 161 = .ok (.dup2, 1) := by decide +kernel
theorem dX6_tick_162 : decode cX6_tick 162 = .ok (.iaload, 1) := by decide +kernel
theorem dX6_tick_163 : decode cX6_tick 163 = .ok (.aload_n 0, 1) := by decide +kernel
theorem dX6_tick_164 : decode cX6_tick 164 = .ok (.getfield 89, 3) := by decide +kernel
theorem dX6_tick_167 : decode cX6_tick 167 = .ok (.ifCond .ge 11, 3) := by decide +kernel
theorem dX6_tick_170 : decode cX6_tick 170 = .ok (.aload_n 0, 1) := by decide +kernel
theorem dX6_tick_171 : decode cX6_tick 171 = .ok (.getfield 89, 3) := by decide +kernel
theorem dX6_tick_174 : decode cX6_tick 174 = .ok (.ineg, 1) := by decide +kernel
theorem dX6_tick_175 : decode cX6_tick 175 = .ok (.goto 4, 3) := by decide +kernel
theorem dX6_tick_178 : decode cX6_tick 178 = .ok (.iconst 0, 1) := by decide +kernel
theorem dX6_tick_179 : decode cX6_tick 179 = .ok (.iadd, 1) := by decide +kernel
theorem dX6_tick_180 : decode cX6_tick 180 = .ok (.iastore, 1) := by decide +kernel
theorem dX6_tick_181 : decode cX6_tick 181 = .ok (.aload_n 0, 1) := by decide +kernel
theorem dX6_tick_182 : decode cX6_tick 182 = .ok (.iload_n 1, 1) := by decide +kernel
theorem dX6_tick_183 : decode cX6_tick 183 = .ok (.invokevirtual 99, 3) := by decide +kernel
theorem dX6_tick_186 : decode cX6_tick 186 = .ok (.istore_n 2, 1) := by decide +kernel
theorem dX6_tick_187 : decode cX6_tick 187 = .ok (.aload_n 0, 1) := by decide +kernel
theorem dX6_tick_188 : decode cX6_tick 188 = .ok (.getfield 7, 3) := by decide +kernel
theorem dX6_tick_191 : decode cX6_tick 191 = .ok (.iload_n 2, 1) := by decide +kernel
theorem dX6_tick_192 : decode cX6_tick 192 = .ok (.iconst 1, 1) := by decide +kernel
theorem dX6_tick_193 : decode cX6_tick 193 = .ok (.iadd, 1) := by decide +kernel
theorem dX6_tick_194 : decode cX6_tick 194 = .ok (.dup2, 1) := by decide +kernel
theorem dX6_tick_195 : decode cX6_tick 195 = .ok (.iaload, 1) := by decide +kernel
theorem dX6_tick_196 : decode cX6_tick 196 = .ok (.aload_n 0, 1) := by decide +kernel
theorem dX6_tick_197 : decode cX6_tick 197 = .ok (.getfield 79, 3) := by decide +kernel
theorem dX6_tick_200 : decode cX6_tick 200 = .ok (.iadd, 1) := by decide +kernel
theorem dX6_tick_201 : decode cX6_tick 201 = .ok (.iastore, 1) := by decide +kernel
theorem dX6_tick_202 : decode cX6_tick 202 = .ok (.aload_n 0, 1) := by decide +kernel
theorem dX6_tick_203 : decode cX6_tick 203 = .ok (.getfield 7, 3) := by decide +kernel
theorem dX6_tick_206 : decode cX6_tick 206 = .ok (.iload_n 2, 1) := by decide +kernel
theorem dX6_tick_207 : decode cX6_tick 207 = .ok (.iconst 2, 1) := by decide +kernel
theorem dX6_tick_208 : decode cX6_tick 208 = .ok (.iadd, 1) := by decide +kernel
theorem dX6_tick_209 : decode cX6_tick 209 = .ok (.dup2, 1) := by decide +kernel
theorem dX6_tick_210 : decode cX6_tick 210 = .ok (.iaload, 1) := by decide +kernel
theorem dX6_tick_211 : decode cX6_tick 211 = .ok (.aload_n 0, 1) := by decide +kernel
theorem dX6_tick_212 : decode cX6_tick 212 = .ok (.getfield 82, 3) := by decide +kernel
theorem dX6_tick_215 : decode cX6_tick 215 = .ok (.iadd, 1) := by decide +kernel
theorem dX6_tick_216 : decode cX6_tick 216 = .ok (.iastore, 1) := by decide +kernel
theorem dX6_tick_217 : decode cX6_tick 217 = .ok (.aload_n 0, 1) := by decide +kernel
theorem dX6_tick_218 : decode cX6_tick 218 = .ok (.getfield 7, 3) := by decide +kernel
theorem dX6_tick_221 : decode cX6_tick 221 = .ok (.iload_n 2, 1) := by decide +kernel
theorem dX6_tick_222 : decode cX6_tick 222 = .ok (.iconst 3, 1) := by decide +kernel
theorem dX6_tick_223 : decode cX6_tick 223 = .ok (.iadd, 1) := by decide +kernel
theorem dX6_tick_224 : decode cX6_tick 224 = .ok (.aload_n 0, 1) := by decide +kernel
theorem dX6_tick_225 : decode cX6_tick 225 = .ok (.invokevirtual 59, 3) := by decide +kernel
theorem dX6_tick_228 : decode cX6_tick 228 = .ok (.aload_n 0, 1) := by decide +kernel
theorem dX6_tick_229 : decode cX6_tick 229 = .ok (.getfield 7, 3) := by decide +kernel
theorem dX6_tick_232 : decode cX6_tick 232 = .ok (.iload_n 2, 1) := by decide +kernel
theorem dX6_tick_233 : decode cX6_tick 233 = .ok (.iconst 3, 1) := by decide +kernel
theorem dX6_tick_234 : decode cX6_tick 234 = .ok (.iadd, 1) := by decide +kernel
theorem dX6_tick_235 : decode cX6_tick 235 = .ok (.iaload, 1) := by decide +kernel
theorem dX6_tick_236 : decode cX6_tick 236 = .ok (.if_icmp .le 10, 3) := by decide +kernel
theorem dX6_tick_239 : decode cX6_tick 239 = .ok (.aload_n 0, 1) := by decide +kernel
theorem dX6_tick_240 : decode cX6_tick 240 = .ok (.invokevirtual 59, 3) := by decide +kernel
theorem dX6_tick_243 : decode cX6_tick 243 = .ok (.goto 11, 3) := by decide +kernel
theorem dX6_tick_246 : decode cX6_tick 246 = .ok (.aload_n 0, 1) := by decide +kernel
theorem dX6_tick_247 : decode cX6_tick 247 = .ok (.getfield 7, 3) := by decide +kernel
theorem dX6_tick_250 : decode cX6_tick 250 = .ok (.iload_n 2, 1) := by decide +kernel
theorem dX6_tick_251 : decode cX6_tick 251 = .ok (.iconst 3, 1) := by decide +kernel
theorem dX6_tick_252 : decode cX6_tick 252 = .ok (.iadd, 1) := by decide +kernel
theorem dX6_tick_253 : decode cX6_tick 253 = .ok (.iaload, 1) := by decide +kernel
theorem dX6_tick_254 : decode cX6_tick 254 = .ok (.iastore, 1) := by decide +kernel
theorem dX6_tick_255 : decode cX6_tick 255 = .ok (.aload_n 0, 1) := by decide +kernel
theorem dX6_tick_256 : decode cX6_tick 256 = .ok (.getfield 7, 3) := by decide +kernel
theorem dX6_tick_259 : decode cX6_tick 259 = .ok (.iload_n 2, 1) := by decide +kernel
theorem dX6_tick_260 : decode cX6_tick 260 = .ok (.iconst 4, 1) := by decide +kernel
theorem dX6_tick_261 : decode cX6_tick 261 = .ok (.iadd, 1) := by decide +kernel
theorem dX6_tick_262 : decode cX6_tick 262 = .ok (.aload_n 0, 1) := by decide +kernel
theorem dX6_tick_263 : decode cX6_tick 263 = .ok (.invokevirtual 59, 3) := by decide +kernel
theorem dX6_tick_266 : decode cX6_tick 266 = .ok (.aload_n 0, 1) := by decide +kernel
theorem dX6_tick_267 : decode cX6_tick 267 = .ok (.getfield 7, 3) := by decide +kernel
theorem dX6_tick_270 : decode cX6_tick 270 = .ok (.iload_n 2, 1) := by decide +kernel
theorem dX6_tick_271 : decode cX6_tick 271 = .ok (.iconst 4, 1) := by decide +kernel
theorem dX6_tick_272 : decode cX6_tick 272 = .ok (.iadd, 1) := by decide +kernel
theorem dX6_tick_273 : decode cX6_tick 273 = .ok (.iaload, 1) := by decide +kernel
theorem dX6_tick_274 : decode cX6_tick 274 = .ok (.if_icmp .ge 10, 3) := by decide +kernel
theorem dX6_tick_277 : decode cX6_tick 277 = .ok (.aload_n 0, 1) := by decide +kernel
theorem dX6_tick_278 : decode cX6_tick 278 = .ok (.invokevirtual 59, 3) := by decide +kernel
theorem dX6_tick_281 : decode cX6_tick 281 = .ok (.goto 11, 3) := by decide +kernel
theorem dX6_tick_284 : decode cX6_tick 284 = .ok (.aload_n 0, 1) := by decide +kernel
theorem dX6_tick_285 : decode cX6_tick 285 = .ok (.getfield 7, 3) := by decide +kernel
theorem dX6_tick_288 : decode cX6_tick 288 = .ok (.iload_n 2, 1) := by decide +kernel
theorem dX6_tick_289 : decode cX6_tick 289 = .ok (.iconst 4, 1) := by decide +kernel
theorem dX6_tick_290 : decode cX6_tick 290 = .ok (.iadd, 1) := by decide +kernel
theorem dX6_tick_291 : decode cX6_tick 291 = .ok (.iaload, 1) := by decide +kernel
theorem dX6_tick_292 : decode cX6_tick 292 = .ok (.iastore, 1) := by decide +kernel
theorem dX6_tick_293 : decode cX6_tick 293 = .ok (.aload_n 0, 1) := by decide +kernel
theorem dX6_tick_294 : decode cX6_tick 294 = .ok (.getfield 7, 3) := by decide +kernel
theorem dX6_tick_297 : decode cX6_tick 297 = .ok (.iload_n 2, 1) := by decide +kernel
theorem dX6_tick_298 : decode cX6_tick 298 = .ok (.iconst 5, 1) := by decide +kernel
theorem dX6_tick_299 : decode cX6_tick 299 = .ok (.iadd, 1) := by decide +kernel
theorem dX6_tick_300 : decode cX6_tick 300 = .ok (.dup2, 1) := by decide +kernel
theorem dX6_tick_301 : decode cX6_tick 301 = .ok (.iaload, 1) := by decide +kernel
theorem dX6_tick_302 : decode cX6_tick 302 = .ok (.aload_n 0, 1) := by decide +kernel
theorem dX6_tick_303 : decode cX6_tick 303 = .ok (.getfield 85, 3) := by decide +kernel
theorem dX6_tick_306 : decode cX6_tick 306 = .ok (.ifCond .le 10, 3) := by decide +kernel
theorem dX6_tick_309 : decode cX6_tick 309 = .ok (.aload_n 0, 1) := by decide +kernel
theorem dX6_tick_310 : decode cX6_tick 310 = .ok (.getfield 85, 3) := by decide +kernel
theorem dX6_tick_313 : decode cX6_tick 313 = .ok (.goto 4, 3) := by decide +kernel
theorem dX6_tick_316 : decode cX6_tick 316 = .ok (.iconst 0, 1) := by decide +kernel
theorem dX6_tick_317 : decode cX6_tick 317 = .ok (.iadd, 1) := by decide +kernel
theorem dX6_tick_318 : decode cX6_tick 318 = .ok (.iastore, 1) := by decide +kernel
theorem dX6_tick_319 : decode cX6_tick 319 = .ok (.aload_n 0, 1) := by decide +kernel
theorem dX6_tick_320 : decode cX6_tick 320 = .ok (.getfield 7, 3) := by decide +kernel
theorem dX6_tick_323 : decode cX6_tick 323 = .ok (.iload_n 2, 1) := by decide +kernel
theorem dX6_tick_324 : decode cX6_tick 324 = .ok (.bipush 6, 2) := by decide +kernel
theorem dX6_tick_326 : decode cX6_tick 326 = .ok (.iadd, 1) := by decide +kernel
theorem dX6_tick_327 : decode cX6_tick 327 = .ok (.dup2, 1) := by decide +kernel
theorem dX6_tick_328 : decode cX6_tick 328 = .ok (.iaload, 1) := by decide +kernel
theorem dX6_tick_329 : decode cX6_tick 329 = .ok (.aload_n 0, 1) := by decide +kernel
theorem dX6_tick_330 : decode cX6_tick 330 = .ok (.getfield 85, 3) := by decide +kernel
theorem dX6_tick_333 : decode cX6_tick 333 = .ok (.ifCond .ge 11, 3) := by decide +kernel
theorem dX6_tick_336 : decode cX6_tick 336 = .ok (.aload_n 0, 1) := by decide +kernel
theorem dX6_tick_337 : decode cX6_tick 337 = .ok (.getfield 85, 3) := by decide +kernel
theorem dX6_tick_340 : decode cX6_tick 340 = .ok (.ineg, 1) := by decide +kernel
theorem dX6_tick_341 : decode cX6_tick 341 = .ok (.goto 4, 3) := by decide +kernel
theorem dX6_tick_344 : decode cX6_tick 344 = .ok (.iconst 0, 1) := by decide +kernel
theorem dX6_tick_345 : decode cX6_tick 345 = .ok (.iadd, 1) := by decide +kernel
theorem dX6_tick_346 : decode cX6_tick 346 = .ok (.iastore, 1) := by decide +kernel
theorem dX6_tick_347 : decode cX6_tick 347 = .ok (.return_, 1) := by decide +kernel
theorem dX6_ticks_0 : decode cX6_ticks 0 = .ok (.iconst 0, 1) := by decide +kernel
theorem dX6_ticks_1 : decode cX6_ticks 1 = .ok (.istore_n 2, 1) := by decide +kernel
theorem dX6_ticks_2 : decode cX6_ticks 2 = .ok (.iload_n 2, 1) := by decide +kernel
theorem dX6_ticks_3 : decode cX6_ticks 3 = .ok (.iload_n 1, 1) := by decide +kernel
theorem dX6_ticks_4 : decode cX6_ticks 4 = .ok (.if_icmp .ge 13, 3) := by decide +kernel
theorem dX6_ticks_7 : decode cX6_ticks 7 = .ok (.aload_n 0, 1) := by decide +kernel
theorem dX6_ticks_8 : decode cX6_ticks 8 = .ok (.invokevirtual 102, 3) := by decide +kernel
theorem dX6_ticks_11 : decode cX6_ticks 11 = .ok (.iinc 2 1, 3) := by decide +kernel
theorem dX6_ticks_14 : decode cX6_ticks 14 = .ok (.goto (-12), 3) := by decide +kernel
theorem dX6_ticks_17 : decode cX6_ticks 17 = .ok (.return_, 1) := by decide +kernel
theorem dX6_run_0 : decode cX6_run 0 = .ok (.iload_n 1, 1) := by decide +kernel
theorem dX6_run_1 : decode cX6_run 1 = .ok (.iconst 1, 1) := by decide +kernel
theorem dX6_run_2 : decode cX6_run 2 = .ok (.sipush 300, 3) := by decide +kernel
theorem dX6_run_5 : decode cX6_run 5 = .ok (.invokestatic 40, 3) := by decide +kernel
theorem dX6_run_8 : decode cX6_run 8 = .ok (.ifCond .ne 6, 3) := by decide +kernel
theorem dX6_run_11 : decode cX6_run 11 = .ok (.ldc 48, 2) := by decide +kernel
theorem dX6_run_13 : decode cX6_run 13 = .ok (.ireturn, 1) := by decide +kernel
theorem dX6_run_14 : decode cX6_run 14 = .ok (.aload_n 0, 1) := by decide +kernel
theorem dX6_run_15 : decode cX6_run 15 = .ok (.getfield 7, 3) := by decide +kernel
theorem dX6_run_18 : decode cX6_run 18 = .ok (.iconst 0, 1) := by decide +kernel
theorem dX6_run_19 : decode cX6_run 19 = .ok (.iaload, 1) := by decide +kernel
theorem dX6_run_20 : decode cX6_run 20 = .ok (.iload_n 1, 1) := by decide +kernel
theorem dX6_run_21 : decode cX6_run 21 = .ok (.iadd, 1) := by decide +kernel
theorem dX6_run_22 : decode cX6_run 22 = .ok (.sipush 9999, 3) := by decide +kernel
theorem dX6_run_25 : decode cX6_run 25 = .ok (.if_icmp .le 6, 3) := by decide +kernel
theorem dX6_run_28 : decode cX6_run 28 = .ok (.ldc 105, 2) := by decide +kernel
theorem dX6_run_30 : decode cX6_run 30 = .ok (.ireturn, 1) := by decide +kernel
theorem dX6_run_31 : decode cX6_run 31 = .ok (.aload_n 0, 1) := by decide +kernel
theorem dX6_run_32 : decode cX6_run 32 = .ok (.invokevirtual 37, 3) := by decide +kernel
theorem dX6_run_35 : decode cX6_run 35 = .ok (.aload_n 0, 1) := by decide +kernel
theorem dX6_run_36 : decode cX6_run 36 = .ok (.iload_n 1, 1) := by decide +kernel
theorem dX6_run_37 : decode cX6_run 37 = .ok (.invokevirtual 106, 3) := by decide +kernel
theorem dX6_run_40 : decode cX6_run 40 = .ok (.aload_n 0, 1) := by decide +kernel
theorem dX6_run_41 : decode cX6_run 41 = .ok (.invokevirtual 59, 3) := by decide +kernel
theorem dX6_run_44 : decode cX6_run 44 = .ok (.ireturn, 1) := by decide +kernel
theorem dX6_dredge_0 : decode cX6_dredge 0 = .ok (.iload_n 1, 1) := by decide +kernel
theorem dX6_dredge_1 : decode cX6_dredge 1 = .ok (.iconst 1, 1) := by decide +kernel
theorem dX6_dredge_2 : decode cX6_dredge 2 = .ok (.sipush 20000, 3) := by decide +kernel
theorem dX6_dredge_5 : decode cX6_dredge 5 = .ok (.invokestatic 40, 3) := by decide +kernel
theorem dX6_dredge_8 : decode cX6_dredge 8 = .ok (.ifCond .ne 6, 3) := by decide +kernel
theorem dX6_dredge_11 : decode cX6_dredge 11 = .ok (.ldc 48, 2) := by decide +kernel
theorem dX6_dredge_13 : decode cX6_dredge 13 = .ok (.ireturn, 1) := by decide +kernel
theorem dX6_dredge_14 : decode cX6_dredge 14 = .ok (.aload_n 0, 1) := by decide +kernel
theorem dX6_dredge_15 : decode cX6_dredge 15 = .ok (.getfield 7, 3) := by decide +kernel
theorem dX6_dredge_18 : decode cX6_dredge 18 = .ok (.iconst 2, 1) := by decide +kernel
theorem dX6_dredge_19 : decode cX6_dredge 19 = .ok (.iaload, 1) := by decide +kernel
theorem dX6_dredge_20 : decode cX6_dredge 20 = .ok (.iload_n 1, 1) := by decide +kernel
theorem dX6_dredge_21 : decode cX6_dredge 21 = .ok (.if_icmp .ge 6, 3) := by decide +kernel
theorem dX6_dredge_24 : decode cX6_dredge 24 = .ok (.ldc 110, 2) := by decide +kernel
theorem dX6_dredge_26 : decode cX6_dredge 26 = .ok (.ireturn, 1) := by decide +kernel
theorem dX6_dredge_27 : decode cX6_dredge 27 = .ok (.aload_n 0, 1) := by decide +kernel
theorem dX6_dredge_28 : decode cX6_dredge 28 = .ok (.invokevirtual 37, 3) := by decide +kernel
theorem dX6_dredge_31 : decode cX6_dredge 31 = .ok (.aload_n 0, 1) := by decide +kernel
theorem dX6_dredge_32 : decode cX6_dredge 32 = .ok (.getfield 7, 3) := by decide +kernel
theorem dX6_dredge_35 : decode cX6_dredge 35 = .ok (.iconst 2, 1) := by decide +kernel
theorem dX6_dredge_36 : decode cX6_dredge 36 = .ok (.dup2, 1) := by decide +kernel
theorem dX6_dredge_37 : decode cX6_dredge 37 = .ok (.iaload, 1) := by decide +kernel
theorem dX6_dredge_38 : decode cX6_dredge 38 = .ok (.iload_n 1, 1) := by decide +kernel
theorem dX6_dredge_39 : decode cX6_dredge 39 = .ok (.isub, 1) := by decide +kernel
theorem dX6_dredge_40 : decode cX6_dredge 40 = .ok (.iastore, 1) := by decide +kernel
theorem dX6_dredge_41 : decode cX6_dredge 41 = .ok (.aload_n 0, 1) := by decide +kernel
theorem dX6_dredge_42 : decode cX6_dredge 42 = .ok (.getfield 7, 3) := by decide +kernel
theorem dX6_dredge_45 : decode cX6_dredge 45 = .ok (.bipush 15, 2) := by decide +kernel
theorem dX6_dredge_47 : decode cX6_dredge 47 = .ok (.dup2, 1) := by decide +kernel
theorem dX6_dredge_48 : decode cX6_dredge 48 = .ok (.iaload, 1) := by decide +kernel
theorem dX6_dredge_49 : decode cX6_dredge 49 = .ok (.iload_n 1, 1) := by decide +kernel
theorem dX6_dredge_50 : decode cX6_dredge 50 = .ok (.iadd, 1) := by decide +kernel
theorem dX6_dredge_51 : decode cX6_dredge 51 = .ok (.iastore, 1) := by decide +kernel
theorem dX6_dredge_52 : decode cX6_dredge 52 = .ok (.aload_n 0, 1) := by decide +kernel
theorem dX6_dredge_53 : decode cX6_dredge 53 = .ok (.getfield 7, 3) := by decide +kernel
theorem dX6_dredge_56 : decode cX6_dredge 56 = .ok (.iconst 2, 1) := by decide +kernel
theorem dX6_dredge_57 : decode cX6_dredge 57 = .ok (.iaload, 1) := by decide +kernel
theorem dX6_dredge_58 : decode cX6_dredge 58 = .ok (.ireturn, 1) := by decide +kernel
theorem dX6_mostOf_0 : decode cX6_mostOf 0 = .ok (.iload_n 0, 1) := by decide +kernel
theorem dX6_mostOf_1 : decode cX6_mostOf 1 = .ok (.iconst 2, 1) := by decide +kernel
theorem dX6_mostOf_2 : decode cX6_mostOf 2 = .ok (.if_icmp .ne 9, 3) := by decide +kernel
theorem dX6_mostOf_5 : decode cX6_mostOf 5 = .ok (.sipush 9999, 3) := by decide +kernel
theorem dX6_mostOf_8 : decode cX6_mostOf 8 = .ok (.goto 6, 3) := by decide +kernel
theorem dX6_mostOf_11 : decode cX6_mostOf 11 = .ok (.sipush 400, 3) := by decide +kernel
theorem dX6_mostOf_14 : decode cX6_mostOf 14 = .ok (.ireturn, 1) := by decide +kernel
theorem dX6_set_0 : decode cX6_set 0 = .ok (.iload_n 1, 1) := by decide +kernel
theorem dX6_set_1 : decode cX6_set 1 = .ok (.iconst 0, 1) := by decide +kernel
theorem dX6_set_2 : decode cX6_set 2 = .ok (.iconst 2, 1) := by decide +kernel
theorem dX6_set_3 : decode cX6_set 3 = .ok (.invokestatic 40, 3) := by decide +kernel
theorem dX6_set_6 : decode cX6_set 6 = .ok (.ifCond .eq 24, 3) := by decide +kernel
theorem dX6_set_9 : decode cX6_set 9 = .ok (.iload_n 2, 1) := by decide +kernel
theorem dX6_set_10 : decode cX6_set 10 = .ok (.iload_n 1, 1) := by decide +kernel
theorem dX6_set_11 : decode cX6_set 11 = .ok (.iconst 1, 1) := by decide +kernel
theorem dX6_set_12 : decode cX6_set 12 = .ok (.if_icmp .ne 7, 3) := by decide +kernel
theorem dX6_set_15 : decode cX6_set 15 = .ok (.iconst 0, 1) := by decide +kernel
theorem dX6_set_16 : decode cX6_set 16 = .ok (.goto 4, 3) := by decide +kernel
theorem dX6_set_19 : decode cX6_set 19 = .ok (.iconst 1, 1) := by decide +kernel
theorem dX6_set_20 : decode cX6_set 20 = .ok (.iload_n 1, 1) := by decide +kernel
theorem dX6_set_21 : decode cX6_set 21 = .ok (.invokestatic 111, 3) := by decide +kernel
theorem dX6_set_24 : decode cX6_set 24 = .ok (.invokestatic 40, 3) := by decide +kernel
theorem dX6_set_27 : decode cX6_set 27 = .ok (.ifCond .ne 6, 3) := by decide +kernel
theorem dX6_set_30 : decode cX6_set 30 = .ok (.ldc 48, 2) := by decide +kernel
theorem dX6_set_32 : decode cX6_set 32 = .ok (.ireturn, 1) := by decide +kernel
theorem dX6_set_33 : decode cX6_set 33 = .ok (.aload_n 0, 1) := by decide +kernel
theorem dX6_set_34 : decode cX6_set 34 = .ok (.bipush 8, 2) := by decide +kernel
theorem dX6_set_36 : decode cX6_set 36 = .ok (.iload_n 1, 1) := by decide +kernel
theorem dX6_set_37 : decode cX6_set 37 = .ok (.iadd, 1) := by decide +kernel
theorem dX6_set_38 : decode cX6_set 38 = .ok (.iload_n 2, 1) := by decide +kernel
theorem dX6_set_39 : decode cX6_set 39 = .ok (.invokevirtual 44, 3) := by decide +kernel
theorem dX6_set_42 : decode cX6_set 42 = .ok (.ireturn, 1) := by decide +kernel
theorem dX6_sea_0 : decode cX6_sea 0 = .ok (.iload_n 1, 1) := by decide +kernel
theorem dX6_sea_1 : decode cX6_sea 1 = .ok (.iconst 0, 1) := by decide +kernel
theorem dX6_sea_2 : decode cX6_sea 2 = .ok (.sipush 9999, 3) := by decide +kernel
theorem dX6_sea_5 : decode cX6_sea 5 = .ok (.invokestatic 40, 3) := by decide +kernel
theorem dX6_sea_8 : decode cX6_sea 8 = .ok (.ifCond .eq 10, 3) := by decide +kernel
theorem dX6_sea_11 : decode cX6_sea 11 = .ok (.iload_n 1, 1) := by decide +kernel
theorem dX6_sea_12 : decode cX6_sea 12 = .ok (.invokestatic 56, 3) := by decide +kernel
theorem dX6_sea_15 : decode cX6_sea 15 = .ok (.goto 5, 3) := by decide +kernel
theorem dX6_sea_18 : decode cX6_sea 18 = .ok (.ldc 48, 2) := by decide +kernel
theorem dX6_sea_20 : decode cX6_sea 20 = .ok (.ireturn, 1) := by decide +kernel
theorem dX6_now_0 : decode cX6_now 0 = .ok (.iload_n 1, 1) := by decide +kernel
theorem dX6_now_1 : decode cX6_now 1 = .ok (.tableswitch 151 0 12 #[67, 74, 85, 96, 106, 111, 116, 116, 116, 116, 116, 128, 141], 67) := by decide +kernel
theorem dX6_now_68 : decode cX6_now 68 = .ok (.aload_n 0, 1) := by decide +kernel
theorem dX6_now_69 : decode cX6_now 69 = .ok (.getfield 7, 3) := by decide +kernel
theorem dX6_now_72 : decode cX6_now 72 = .ok (.iconst 0, 1) := by decide +kernel
theorem dX6_now_73 : decode cX6_now 73 = .ok (.iaload, 1) := by decide +kernel
theorem dX6_now_74 : decode cX6_now 74 = .ok (.ireturn, 1) := by decide +kernel
theorem dX6_now_75 : decode cX6_now 75 = .ok (.aload_n 0, 1) := by decide +kernel
theorem dX6_now_76 : decode cX6_now 76 = .ok (.getfield 7, 3) := by decide +kernel
theorem dX6_now_79 : decode cX6_now 79 = .ok (.iconst 0, 1) := by decide +kernel
theorem dX6_now_80 : decode cX6_now 80 = .ok (.iaload, 1) := by decide +kernel
theorem dX6_now_81 : decode cX6_now 81 = .ok (.sipush 144, 3) := by decide +kernel
theorem dX6_now_84 : decode cX6_now 84 = .ok (.idiv, 1) := by decide +kernel
theorem dX6_now_85 : decode cX6_now 85 = .ok (.ireturn, 1) := by decide +kernel
theorem dX6_now_86 : decode cX6_now 86 = .ok (.aload_n 0, 1) := by decide +kernel
theorem dX6_now_87 : decode cX6_now 87 = .ok (.getfield 7, 3) := by decide +kernel
theorem dX6_now_90 : decode cX6_now 90 = .ok (.iconst 0, 1) := by decide +kernel
theorem dX6_now_91 : decode cX6_now 91 = .ok (.iaload, 1) := by decide +kernel
theorem dX6_now_92 : decode cX6_now 92 = .ok (.sipush 144, 3) := by decide +kernel
theorem dX6_now_95 : decode cX6_now 95 = .ok (.irem, 1) := by decide +kernel
theorem dX6_now_96 : decode cX6_now 96 = .ok (.ireturn, 1) := by decide +kernel
theorem dX6_now_97 : decode cX6_now 97 = .ok (.aload_n 0, 1) := by decide +kernel
theorem dX6_now_98 : decode cX6_now 98 = .ok (.getfield 7, 3) := by decide +kernel
theorem dX6_now_101 : decode cX6_now 101 = .ok (.iconst 0, 1) := by decide +kernel
theorem dX6_now_102 : decode cX6_now 102 = .ok (.iaload, 1) := by decide +kernel
theorem dX6_now_103 : decode cX6_now 103 = .ok (.invokestatic 56, 3) := by decide +kernel
theorem dX6_now_106 : decode cX6_now 106 = .ok (.ireturn, 1) := by decide +kernel
theorem dX6_now_107 : decode cX6_now 107 = .ok (.aload_n 0, 1) := by decide +kernel
theorem dX6_now_108 : decode cX6_now 108 = .ok (.invokevirtual 59, 3) := by decide +kernel
theorem dX6_now_111 : decode cX6_now 111 = .ok (.ireturn, 1) := by decide +kernel
theorem dX6_now_112 : decode cX6_now 112 = .ok (.aload_n 0, 1) := by decide +kernel
theorem dX6_now_113 : decode cX6_now 113 = .ok (.invokevirtual 63, 3) := by decide +kernel
theorem dX6_now_116 : decode cX6_now 116 = .ok (.ireturn, 1) := by decide +kernel
theorem dX6_now_117 : decode cX6_now 117 = .ok (.aload_n 0, 1) := by decide +kernel
theorem dX6_now_118 : decode cX6_now 118 = .ok (.getfield 7, 3) := by decide +kernel
theorem dX6_now_121 : decode cX6_now 121 = .ok (.iconst 1, 1) := by decide +kernel
theorem dX6_now_122 : decode cX6_now 122 = .ok (.iload_n 1, 1) := by decide +kernel
theorem dX6_now_123 : decode cX6_now 123 = .ok (.iadd, 1) := by decide +kernel
theorem dX6_now_124 : decode cX6_now 124 = .ok (.bipush 6, 2) := by decide +kernel
theorem dX6_now_126 : decode cX6_now 126 = .ok (.isub, 1) := by decide +kernel
theorem dX6_now_127 : decode cX6_now 127 = .ok (.iaload, 1) := by decide +kernel
theorem dX6_now_128 : decode cX6_now 128 = .ok (.ireturn, 1) := by decide +kernel
theorem dX6_now_129 : decode cX6_now 129 = .ok (.aload_n 0, 1) := by decide +kernel
theorem dX6_now_130 : decode cX6_now 130 = .ok (.invokevirtual 66, 3) := by decide +kernel
theorem dX6_now_133 : decode cX6_now 133 = .ok (.ifCond .eq 7, 3) := by decide +kernel
theorem dX6_now_136 : decode cX6_now 136 = .ok (.iconst 1, 1) := by decide +kernel
theorem dX6_now_137 : decode cX6_now 137 = .ok (.goto 4, 3) := by decide +kernel
theorem dX6_now_140 : decode cX6_now 140 = .ok (.iconst 0, 1) := by decide +kernel
theorem dX6_now_141 : decode cX6_now 141 = .ok (.ireturn, 1) := by decide +kernel
theorem dX6_now_142 : decode cX6_now 142 = .ok (.aload_n 0, 1) := by decide +kernel
theorem dX6_now_143 : decode cX6_now 143 = .ok (.getfield 7, 3) := by decide +kernel
theorem dX6_now_146 : decode cX6_now 146 = .ok (.iconst 0, 1) := by decide +kernel
theorem dX6_now_147 : decode cX6_now 147 = .ok (.iaload, 1) := by decide +kernel
theorem dX6_now_148 : decode cX6_now 148 = .ok (.invokestatic 53, 3) := by decide +kernel
theorem dX6_now_151 : decode cX6_now 151 = .ok (.ireturn, 1) := by decide +kernel
theorem dX6_now_152 : decode cX6_now 152 = .ok (.ldc 48, 2) := by decide +kernel
theorem dX6_now_154 : decode cX6_now 154 = .ok (.ireturn, 1) := by decide +kernel
theorem dX6_record_0 : decode cX6_record 0 = .ok (.iload_n 1, 1) := by decide +kernel
theorem dX6_record_1 : decode cX6_record 1 = .ok (.ifCond .lt 12, 3) := by decide +kernel
theorem dX6_record_4 : decode cX6_record 4 = .ok (.iload_n 2, 1) := by decide +kernel
theorem dX6_record_5 : decode cX6_record 5 = .ok (.iconst 0, 1) := by decide +kernel
theorem dX6_record_6 : decode cX6_record 6 = .ok (.iconst 5, 1) := by decide +kernel
theorem dX6_record_7 : decode cX6_record 7 = .ok (.invokestatic 40, 3) := by decide +kernel
theorem dX6_record_10 : decode cX6_record 10 = .ok (.ifCond .ne 6, 3) := by decide +kernel
theorem dX6_record_13 : decode cX6_record 13 = .ok (.ldc 48, 2) := by decide +kernel
theorem dX6_record_15 : decode cX6_record 15 = .ok (.ireturn, 1) := by decide +kernel
theorem dX6_record_16 : decode cX6_record 16 = .ok (.aload_n 0, 1) := by decide +kernel
theorem dX6_record_17 : decode cX6_record 17 = .ok (.iload_n 1, 1) := by decide +kernel
theorem dX6_record_18 : decode cX6_record 18 = .ok (.invokevirtual 93, 3) := by decide +kernel
theorem dX6_record_21 : decode cX6_record 21 = .ok (.istore_n 3, 1) := by decide +kernel
theorem dX6_record_22 : decode cX6_record 22 = .ok (.iload_n 3, 1) := by decide +kernel
theorem dX6_record_23 : decode cX6_record 23 = .ok (.ifCond .ge 8, 3) := by decide +kernel
theorem dX6_record_26 : decode cX6_record 26 = .ok (.ldc 92, 2) := by decide +kernel
theorem dX6_record_28 : decode cX6_record 28 = .ok (.goto 13, 3) := by decide +kernel
theorem dX6_record_31 : decode cX6_record 31 = .ok (.aload_n 0, 1) := by decide +kernel
theorem dX6_record_32 : decode cX6_record 32 = .ok (.getfield 7, 3) := by decide +kernel
theorem dX6_record_35 : decode cX6_record 35 = .ok (.iload_n 3, 1) := by decide +kernel
theorem dX6_record_36 : decode cX6_record 36 = .ok (.iconst 1, 1) := by decide +kernel
theorem dX6_record_37 : decode cX6_record 37 = .ok (.iadd, 1) := by decide +kernel
theorem dX6_record_38 : decode cX6_record 38 = .ok (.iload_n 2, 1) := by decide +kernel
theorem dX6_record_39 : decode cX6_record 39 = .ok (.iadd, 1) := by decide +kernel
theorem dX6_record_40 : decode cX6_record 40 = .ok (.iaload, 1) := by decide +kernel
theorem dX6_record_41 : decode cX6_record 41 = .ok (.ireturn, 1) := by decide +kernel
theorem dX6_next_0 : decode cX6_next 0 = .ok (.iload_n 1, 1) := by decide +kernel
theorem dX6_next_1 : decode cX6_next 1 = .ok (.iconst 0, 1) := by decide +kernel
theorem dX6_next_2 : decode cX6_next 2 = .ok (.bipush 6, 2) := by decide +kernel
theorem dX6_next_4 : decode cX6_next 4 = .ok (.invokestatic 40, 3) := by decide +kernel
theorem dX6_next_7 : decode cX6_next 7 = .ok (.ifCond .ne 6, 3) := by decide +kernel
theorem dX6_next_10 : decode cX6_next 10 = .ok (.ldc 48, 2) := by decide +kernel
theorem dX6_next_12 : decode cX6_next 12 = .ok (.ireturn, 1) := by decide +kernel
theorem dX6_next_13 : decode cX6_next 13 = .ok (.aload_n 0, 1) := by decide +kernel
theorem dX6_next_14 : decode cX6_next 14 = .ok (.invokevirtual 96, 3) := by decide +kernel
theorem dX6_next_17 : decode cX6_next 17 = .ok (.iload_n 1, 1) := by decide +kernel
theorem dX6_next_18 : decode cX6_next 18 = .ok (.tableswitch 68 0 5 #[38, 43, 48, 53, 58, 63], 38) := by decide +kernel
theorem dX6_next_56 : decode cX6_next 56 = .ok (.aload_n 0, 1) := by decide +kernel
theorem dX6_next_57 : decode cX6_next 57 = .ok (.getfield 70, 3) := by decide +kernel
theorem dX6_next_60 : decode cX6_next 60 = .ok (.ireturn, 1) := by decide +kernel
theorem dX6_next_61 : decode cX6_next 61 = .ok (.aload_n 0, 1) := by decide +kernel
theorem dX6_next_62 : decode cX6_next 62 = .ok (.getfield 73, 3) := by decide +kernel
theorem dX6_next_65 : decode cX6_next 65 = .ok (.ireturn, 1) := by decide +kernel
theorem dX6_next_66 : decode cX6_next 66 = .ok (.aload_n 0, 1) := by decide +kernel
theorem dX6_next_67 : decode cX6_next 67 = .ok (.getfield 76, 3) := by decide +kernel
theorem dX6_next_70 : decode cX6_next 70 = .ok (.ireturn, 1) := by decide +kernel
theorem dX6_next_71 : decode cX6_next 71 = .ok (.aload_n 0, 1) := by decide +kernel
theorem dX6_next_72 : decode cX6_next 72 = .ok (.getfield 85, 3) := by decide +kernel
theorem dX6_next_75 : decode cX6_next 75 = .ok (.ireturn, 1) := by decide +kernel
theorem dX6_next_76 : decode cX6_next 76 = .ok (.aload_n 0, 1) := by decide +kernel
theorem dX6_next_77 : decode cX6_next 77 = .ok (.getfield 79, 3) := by decide +kernel
theorem dX6_next_80 : decode cX6_next 80 = .ok (.ireturn, 1) := by decide +kernel
theorem dX6_next_81 : decode cX6_next 81 = .ok (.aload_n 0, 1) := by decide +kernel
theorem dX6_next_82 : decode cX6_next 82 = .ok (.getfield 82, 3) := by decide +kernel
theorem dX6_next_85 : decode cX6_next 85 = .ok (.ireturn, 1) := by decide +kernel
theorem dX6_next_86 : decode cX6_next 86 = .ok (.aload_n 0, 1) := by decide +kernel
theorem dX6_next_87 : decode cX6_next 87 = .ok (.getfield 89, 3) := by decide +kernel
theorem dX6_next_90 : decode cX6_next 90 = .ok (.ireturn, 1) := by decide +kernel
theorem dX6_would_0 : decode cX6_would 0 = .ok (.iload_n 1, 1) := by decide +kernel
theorem dX6_would_1 : decode cX6_would 1 = .ok (.iconst 0, 1) := by decide +kernel
theorem dX6_would_2 : decode cX6_would 2 = .ok (.sipush 300, 3) := by decide +kernel
theorem dX6_would_5 : decode cX6_would 5 = .ok (.invokestatic 40, 3) := by decide +kernel
theorem dX6_would_8 : decode cX6_would 8 = .ok (.ifCond .eq 12, 3) := by decide +kernel
theorem dX6_would_11 : decode cX6_would 11 = .ok (.iload_n 2, 1) := by decide +kernel
theorem dX6_would_12 : decode cX6_would 12 = .ok (.iconst 0, 1) := by decide +kernel
theorem dX6_would_13 : decode cX6_would 13 = .ok (.iconst 3, 1) := by decide +kernel
theorem dX6_would_14 : decode cX6_would 14 = .ok (.invokestatic 40, 3) := by decide +kernel
theorem dX6_would_17 : decode cX6_would 17 = .ok (.ifCond .ne 6, 3) := by decide +kernel
theorem dX6_would_20 : decode cX6_would 20 = .ok (.ldc 48, 2) := by decide +kernel
theorem dX6_would_22 : decode cX6_would 22 = .ok (.ireturn, 1) := by decide +kernel
theorem dX6_would_23 : decode cX6_would 23 = .ok (.aload_n 0, 1) := by decide +kernel
theorem dX6_would_24 : decode cX6_would 24 = .ok (.getfield 7, 3) := by decide +kernel
theorem dX6_would_27 : decode cX6_would 27 = .ok (.aload_n 0, 1) := by decide +kernel
theorem dX6_would_28 : decode cX6_would 28 = .ok (.getfield 19, 3) := by decide +kernel
theorem dX6_would_31 : decode cX6_would 31 = .ok (.invokestatic 114, 3) := by decide +kernel
theorem dX6_would_34 : decode cX6_would 34 = .ok (.aload_n 0, 1) := by decide +kernel
theorem dX6_would_35 : decode cX6_would 35 = .ok (.iload_n 1, 1) := by decide +kernel
theorem dX6_would_36 : decode cX6_would 36 = .ok (.invokevirtual 106, 3) := by decide +kernel
theorem dX6_would_39 : decode cX6_would 39 = .ok (.iload_n 2, 1) := by decide +kernel
theorem dX6_would_40 : decode cX6_would 40 = .ok (.ifCond .ne 10, 3) := by decide +kernel
theorem dX6_would_43 : decode cX6_would 43 = .ok (.aload_n 0, 1) := by decide +kernel
theorem dX6_would_44 : decode cX6_would 44 = .ok (.invokevirtual 59, 3) := by decide +kernel
theorem dX6_would_47 : decode cX6_would 47 = .ok (.goto 55, 3) := by decide +kernel
theorem dX6_would_50 : decode cX6_would 50 = .ok (.iload_n 2, 1) := by decide +kernel
theorem dX6_would_51 : decode cX6_would 51 = .ok (.iconst 1, 1) := by decide +kernel
theorem dX6_would_52 : decode cX6_would 52 = .ok (.if_icmp .ne 21, 3) := by decide +kernel
theorem dX6_would_55 : decode cX6_would 55 = .ok (.aload_n 0, 1) := by decide +kernel
theorem dX6_would_56 : decode cX6_would 56 = .ok (.getfield 7, 3) := by decide +kernel
theorem dX6_would_59 : decode cX6_would 59 = .ok (.bipush 11, 2) := by decide +kernel
theorem dX6_would_61 : decode cX6_would 61 = .ok (.iaload, 1) := by decide +kernel
theorem dX6_would_62 : decode cX6_would 62 = .ok (.aload_n 0, 1) := by decide +kernel
theorem dX6_would_63 : decode cX6_would 63 = .ok (.getfield 19, 3) := by decide +kernel
theorem dX6_would_66 : decode cX6_would 66 = .ok (.bipush 11, 2) := by decide +kernel
theorem dX6_would_68 : decode cX6_would 68 = .ok (.iaload, 1) := by decide +kernel
theorem dX6_would_69 : decode cX6_would 69 = .ok (.isub, 1) := by decide +kernel
theorem dX6_would_70 : decode cX6_would 70 = .ok (.goto 32, 3) := by decide +kernel
theorem dX6_would_73 : decode cX6_would 73 = .ok (.iload_n 2, 1) := by decide +kernel
theorem dX6_would_74 : decode cX6_would 74 = .ok (.iconst 2, 1) := by decide +kernel
theorem dX6_would_75 : decode cX6_would 75 = .ok (.if_icmp .ne 21, 3) := by decide +kernel
theorem dX6_would_78 : decode cX6_would 78 = .ok (.aload_n 0, 1) := by decide +kernel
theorem dX6_would_79 : decode cX6_would 79 = .ok (.getfield 7, 3) := by decide +kernel
theorem dX6_would_82 : decode cX6_would 82 = .ok (.bipush 12, 2) := by decide +kernel
theorem dX6_would_84 : decode cX6_would 84 = .ok (.iaload, 1) := by decide +kernel
theorem dX6_would_85 : decode cX6_would 85 = .ok (.aload_n 0, 1) := by decide +kernel
theorem dX6_would_86 : decode cX6_would 86 = .ok (.getfield 19, 3) := by decide +kernel
theorem dX6_would_89 : decode cX6_would 89 = .ok (.bipush 12, 2) := by decide +kernel
theorem dX6_would_91 : decode cX6_would 91 = .ok (.iaload, 1) := by decide +kernel
theorem dX6_would_92 : decode cX6_would 92 = .ok (.isub, 1) := by decide +kernel
theorem dX6_would_93 : decode cX6_would 93 = .ok (.goto 9, 3) := by decide +kernel
theorem dX6_would_96 : decode cX6_would 96 = .ok (.aload_n 0, 1) := by decide +kernel
theorem dX6_would_97 : decode cX6_would 97 = .ok (.getfield 7, 3) := by decide +kernel
theorem dX6_would_100 : decode cX6_would 100 = .ok (.iconst 2, 1) := by decide +kernel
theorem dX6_would_101 : decode cX6_would 101 = .ok (.iaload, 1) := by decide +kernel
theorem dX6_would_102 : decode cX6_would 102 = .ok (.istore_n 3, 1) := by decide +kernel
theorem dX6_would_103 : decode cX6_would 103 = .ok (.aload_n 0, 1) := by decide +kernel
theorem dX6_would_104 : decode cX6_would 104 = .ok (.getfield 19, 3) := by decide +kernel
theorem dX6_would_107 : decode cX6_would 107 = .ok (.aload_n 0, 1) := by decide +kernel
theorem dX6_would_108 : decode cX6_would 108 = .ok (.getfield 7, 3) := by decide +kernel
theorem dX6_would_111 : decode cX6_would 111 = .ok (.invokestatic 114, 3) := by decide +kernel
theorem dX6_would_114 : decode cX6_would 114 = .ok (.iload_n 3, 1) := by decide +kernel
theorem dX6_would_115 : decode cX6_would 115 = .ok (.ireturn, 1) := by decide +kernel
theorem dX6_seaAt_0 : decode cX6_seaAt 0 = .ok (.iload_n 1, 1) := by decide +kernel
theorem dX6_seaAt_1 : decode cX6_seaAt 1 = .ok (.sipush (-400), 3) := by decide +kernel
theorem dX6_seaAt_4 : decode cX6_seaAt 4 = .ok (.sipush 400, 3) := by decide +kernel
theorem dX6_seaAt_7 : decode cX6_seaAt 7 = .ok (.invokestatic 40, 3) := by decide +kernel
theorem dX6_seaAt_10 : decode cX6_seaAt 10 = .ok (.ifCond .ne 6, 3) := by decide +kernel
theorem dX6_seaAt_13 : decode cX6_seaAt 13 = .ok (.ldc 48, 2) := by decide +kernel
theorem dX6_seaAt_15 : decode cX6_seaAt 15 = .ok (.ireturn, 1) := by decide +kernel
theorem dX6_seaAt_16 : decode cX6_seaAt 16 = .ok (.iconst 0, 1) := by decide +kernel
theorem dX6_seaAt_17 : decode cX6_seaAt 17 = .ok (.istore_n 2, 1) := by decide +kernel
theorem dX6_seaAt_18 : decode cX6_seaAt 18 = .ok (.iload_n 2, 1) := by decide +kernel
theorem dX6_seaAt_19 : decode cX6_seaAt 19 = .ok (.sipush 2016, 3) := by decide +kernel
theorem dX6_seaAt_22 : decode cX6_seaAt 22 = .ok (.if_icmp .gt 26, 3) := by decide +kernel
theorem dX6_seaAt_25 : decode cX6_seaAt 25 = .ok (.aload_n 0, 1) := by decide +kernel
theorem dX6_seaAt_26 : decode cX6_seaAt 26 = .ok (.getfield 7, 3) := by decide +kernel
theorem dX6_seaAt_29 : decode cX6_seaAt 29 = .ok (.iconst 0, 1) := by decide +kernel
theorem dX6_seaAt_30 : decode cX6_seaAt 30 = .ok (.iaload, 1) := by decide +kernel
theorem dX6_seaAt_31 : decode cX6_seaAt 31 = .ok (.iload_n 2, 1) := by decide +kernel
theorem dX6_seaAt_32 : decode cX6_seaAt 32 = .ok (.iadd, 1) := by decide +kernel
theorem dX6_seaAt_33 : decode cX6_seaAt 33 = .ok (.invokestatic 56, 3) := by decide +kernel
theorem dX6_seaAt_36 : decode cX6_seaAt 36 = .ok (.iload_n 1, 1) := by decide +kernel
theorem dX6_seaAt_37 : decode cX6_seaAt 37 = .ok (.if_icmp .lt 5, 3) := by decide +kernel
theorem dX6_seaAt_40 : decode cX6_seaAt 40 = .ok (.iload_n 2, 1) := by decide +kernel
theorem dX6_seaAt_41 : decode cX6_seaAt 41 = .ok (.ireturn, 1) := by decide +kernel
theorem dX6_seaAt_42 : decode cX6_seaAt 42 = .ok (.iinc 2 1, 3) := by decide +kernel
theorem dX6_seaAt_45 : decode cX6_seaAt 45 = .ok (.goto (-27), 3) := by decide +kernel
theorem dX6_seaAt_48 : decode cX6_seaAt 48 = .ok (.ldc 92, 2) := by decide +kernel
theorem dX6_seaAt_50 : decode cX6_seaAt 50 = .ok (.ireturn, 1) := by decide +kernel
theorem dX6_best_0 : decode cX6_best 0 = .ok (.iload_n 1, 1) := by decide +kernel
theorem dX6_best_1 : decode cX6_best 1 = .ok (.iconst 1, 1) := by decide +kernel
theorem dX6_best_2 : decode cX6_best 2 = .ok (.sipush 150, 3) := by decide +kernel
theorem dX6_best_5 : decode cX6_best 5 = .ok (.invokestatic 40, 3) := by decide +kernel
theorem dX6_best_8 : decode cX6_best 8 = .ok (.ifCond .eq 12, 3) := by decide +kernel
theorem dX6_best_11 : decode cX6_best 11 = .ok (.iload_n 2, 1) := by decide +kernel
theorem dX6_best_12 : decode cX6_best 12 = .ok (.iconst 0, 1) := by decide +kernel
theorem dX6_best_13 : decode cX6_best 13 = .ok (.iconst 1, 1) := by decide +kernel
theorem dX6_best_14 : decode cX6_best 14 = .ok (.invokestatic 40, 3) := by decide +kernel
theorem dX6_best_17 : decode cX6_best 17 = .ok (.ifCond .ne 6, 3) := by decide +kernel
theorem dX6_best_20 : decode cX6_best 20 = .ok (.ldc 48, 2) := by decide +kernel
theorem dX6_best_22 : decode cX6_best 22 = .ok (.ireturn, 1) := by decide +kernel
theorem dX6_best_23 : decode cX6_best 23 = .ok (.aload_n 0, 1) := by decide +kernel
theorem dX6_best_24 : decode cX6_best 24 = .ok (.getfield 7, 3) := by decide +kernel
theorem dX6_best_27 : decode cX6_best 27 = .ok (.aload_n 0, 1) := by decide +kernel
theorem dX6_best_28 : decode cX6_best 28 = .ok (.getfield 19, 3) := by decide +kernel
theorem dX6_best_31 : decode cX6_best 31 = .ok (.invokestatic 114, 3) := by decide +kernel
theorem dX6_best_34 : decode cX6_best 34 = .ok (.iconst 0, 1) := by decide +kernel
theorem dX6_best_35 : decode cX6_best 35 = .ok (.istore_n 3, 1) := by decide +kernel
theorem dX6_best_36 : decode cX6_best 36 = .ok (.iconst 0, 1) := by decide +kernel
theorem dX6_best_37 : decode cX6_best 37 = .ok (.istore 4, 2) := by decide +kernel
theorem dX6_best_39 : decode cX6_best 39 = .ok (.iconst 0, 1) := by decide +kernel
theorem dX6_best_40 : decode cX6_best 40 = .ok (.istore 5, 2) := by decide +kernel
theorem dX6_best_42 : decode cX6_best 42 = .ok (.iload 5, 2) := by decide +kernel
theorem dX6_best_44 : decode cX6_best 44 = .ok (.bipush 7, 2) := by decide +kernel
theorem dX6_best_46 : decode cX6_best 46 = .ok (.if_icmp .ge 111, 3) := by decide +kernel
theorem dX6_best_49 : decode cX6_best 49 = .ok (.aload_n 0, 1) := by decide +kernel
theorem dX6_best_50 : decode cX6_best 50 = .ok (.getfield 7, 3) := by decide +kernel
theorem dX6_best_53 : decode cX6_best 53 = .ok (.iconst 4, 1) := by decide +kernel
theorem dX6_best_54 : decode cX6_best 54 = .ok (.iload 5, 2) := by decide +kernel
theorem dX6_best_56 : decode cX6_best 56 = .ok (.iastore, 1) := by decide +kernel
theorem dX6_best_57 : decode cX6_best 57 = .ok (.aload_n 0, 1) := by decide +kernel
theorem dX6_best_58 : decode cX6_best 58 = .ok (.iload_n 1, 1) := by decide +kernel
theorem dX6_best_59 : decode cX6_best 59 = .ok (.invokevirtual 106, 3) := by decide +kernel
theorem dX6_best_62 : decode cX6_best 62 = .ok (.aload_n 0, 1) := by decide +kernel
theorem dX6_best_63 : decode cX6_best 63 = .ok (.getfield 7, 3) := by decide +kernel
theorem dX6_best_66 : decode cX6_best 66 = .ok (.bipush 11, 2) := by decide +kernel
theorem dX6_best_68 : decode cX6_best 68 = .ok (.iaload, 1) := by decide +kernel
theorem dX6_best_69 : decode cX6_best 69 = .ok (.aload_n 0, 1) := by decide +kernel
theorem dX6_best_70 : decode cX6_best 70 = .ok (.getfield 19, 3) := by decide +kernel
theorem dX6_best_73 : decode cX6_best 73 = .ok (.bipush 11, 2) := by decide +kernel
theorem dX6_best_75 : decode cX6_best 75 = .ok (.iaload, 1) := by decide +kernel
theorem dX6_best_76 : decode cX6_best 76 = .ok (.isub, 1) := by decide +kernel
theorem dX6_best_77 : decode cX6_best 77 = .ok (.aload_n 0, 1) := by decide +kernel
theorem dX6_best_78 : decode cX6_best 78 = .ok (.getfield 7, 3) := by decide +kernel
theorem dX6_best_81 : decode cX6_best 81 = .ok (.bipush 12, 2) := by decide +kernel
theorem dX6_best_83 : decode cX6_best 83 = .ok (.iaload, 1) := by decide +kernel
theorem dX6_best_84 : decode cX6_best 84 = .ok (.aload_n 0, 1) := by decide +kernel
theorem dX6_best_85 : decode cX6_best 85 = .ok (.getfield 19, 3) := by decide +kernel
theorem dX6_best_88 : decode cX6_best 88 = .ok (.bipush 12, 2) := by decide +kernel
theorem dX6_best_90 : decode cX6_best 90 = .ok (.iaload, 1) := by decide +kernel
theorem dX6_best_91 : decode cX6_best 91 = .ok (.isub, 1) := by decide +kernel
theorem dX6_best_92 : decode cX6_best 92 = .ok (.isub, 1) := by decide +kernel
theorem dX6_best_93 : decode cX6_best 93 = .ok (.istore 6, 2) := by decide +kernel
theorem dX6_best_95 : decode cX6_best 95 = .ok (.aload_n 0, 1) := by decide +kernel
theorem dX6_best_96 : decode cX6_best 96 = .ok (.getfield 19, 3) := by decide +kernel
theorem dX6_best_99 : decode cX6_best 99 = .ok (.aload_n 0, 1) := by decide +kernel
theorem dX6_best_100 : decode cX6_best 100 = .ok (.getfield 7, 3) := by decide +kernel
theorem dX6_best_103 : decode cX6_best 103 = .ok (.invokestatic 114, 3) := by decide +kernel
theorem dX6_best_106 : decode cX6_best 106 = .ok (.iload 5, 2) := by decide +kernel
theorem dX6_best_108 : decode cX6_best 108 = .ok (.ifCond .eq 10, 3) := by decide +kernel
theorem dX6_best_111 : decode cX6_best 111 = .ok (.iload 6, 2) := by decide +kernel
theorem dX6_best_113 : decode cX6_best 113 = .ok (.iload 4, 2) := by decide +kernel
theorem dX6_best_115 : decode cX6_best 115 = .ok (.if_icmp .le 7, 3) := by decide +kernel
theorem dX6_best_118 : decode cX6_best 118 = .ok (.iconst 1, 1) := by decide +kernel
theorem dX6_best_119 : decode cX6_best 119 = .ok (.goto 4, 3) := by decide +kernel
theorem dX6_best_122 : decode cX6_best 122 = .ok (.iconst 0, 1) := by decide +kernel
theorem dX6_best_123 : decode cX6_best 123 = .ok (.istore 7, 2) := by decide +kernel
theorem dX6_best_125 : decode cX6_best 125 = .ok (.iload 7, 2) := by decide +kernel
theorem dX6_best_127 : decode cX6_best 127 = .ok (.ifCond .eq 8, 3) := by decide +kernel
theorem dX6_best_130 : decode cX6_best 130 = .ok (.iload 5, 2) := by decide +kernel
theorem dX6_best_132 : decode cX6_best 132 = .ok (.goto 4, 3) := by decide +kernel
theorem dX6_best_135 : decode cX6_best 135 = .ok (.iload_n 3, 1) := by decide +kernel
theorem dX6_best_136 : decode cX6_best 136 = .ok (.istore_n 3, 1) := by decide +kernel
theorem dX6_best_137 : decode cX6_best 137 = .ok (.iload 7, 2) := by decide +kernel
theorem dX6_best_139 : decode cX6_best 139 = .ok (.ifCond .eq 8, 3) := by decide +kernel
theorem dX6_best_142 : decode cX6_best 142 = .ok (.iload 6, 2) := by decide +kernel
theorem dX6_best_144 : decode cX6_best 144 = .ok (.goto 5, 3) := by decide +kernel
theorem dX6_best_147 : decode cX6_best 147 = .ok (.iload 4, 2) := by decide +kernel
theorem dX6_best_149 : decode cX6_best 149 = .ok (.istore 4, 2) := by decide +kernel
theorem dX6_best_151 : decode cX6_best 151 = .ok (.iinc 5 1, 3) := by decide +kernel
theorem dX6_best_154 : decode cX6_best 154 = .ok (.goto (-112), 3) := by decide +kernel
theorem dX6_best_157 : decode cX6_best 157 = .ok (.iload_n 2, 1) := by decide +kernel
theorem dX6_best_158 : decode cX6_best 158 = .ok (.ifCond .ne 7, 3) := by decide +kernel
theorem dX6_best_161 : decode cX6_best 161 = .ok (.iload_n 3, 1) := by decide +kernel
theorem dX6_best_162 : decode cX6_best 162 = .ok (.goto 5, 3) := by decide +kernel
theorem dX6_best_165 : decode cX6_best 165 = .ok (.iload 4, 2) := by decide +kernel
theorem dX6_best_167 : decode cX6_best 167 = .ok (.ireturn, 1) := by decide +kernel
theorem dX6_gatesFor_0 : decode cX6_gatesFor 0 = .ok (.iload_n 1, 1) := by decide +kernel
theorem dX6_gatesFor_1 : decode cX6_gatesFor 1 = .ok (.iconst 1, 1) := by decide +kernel
theorem dX6_gatesFor_2 : decode cX6_gatesFor 2 = .ok (.sipush 150, 3) := by decide +kernel
theorem dX6_gatesFor_5 : decode cX6_gatesFor 5 = .ok (.invokestatic 40, 3) := by decide +kernel
theorem dX6_gatesFor_8 : decode cX6_gatesFor 8 = .ok (.ifCond .eq 16, 3) := by decide +kernel
theorem dX6_gatesFor_11 : decode cX6_gatesFor 11 = .ok (.iload_n 2, 1) := by decide +kernel
theorem dX6_gatesFor_12 : decode cX6_gatesFor 12 = .ok (.sipush (-400), 3) := by decide +kernel
theorem dX6_gatesFor_15 : decode cX6_gatesFor 15 = .ok (.sipush 600, 3) := by decide +kernel
theorem dX6_gatesFor_18 : decode cX6_gatesFor 18 = .ok (.invokestatic 40, 3) := by decide +kernel
theorem dX6_gatesFor_21 : decode cX6_gatesFor 21 = .ok (.ifCond .ne 6, 3) := by decide +kernel
theorem dX6_gatesFor_24 : decode cX6_gatesFor 24 = .ok (.ldc 48, 2) := by decide +kernel
theorem dX6_gatesFor_26 : decode cX6_gatesFor 26 = .ok (.ireturn, 1) := by decide +kernel
theorem dX6_gatesFor_27 : decode cX6_gatesFor 27 = .ok (.aload_n 0, 1) := by decide +kernel
theorem dX6_gatesFor_28 : decode cX6_gatesFor 28 = .ok (.getfield 7, 3) := by decide +kernel
theorem dX6_gatesFor_31 : decode cX6_gatesFor 31 = .ok (.aload_n 0, 1) := by decide +kernel
theorem dX6_gatesFor_32 : decode cX6_gatesFor 32 = .ok (.getfield 19, 3) := by decide +kernel
theorem dX6_gatesFor_35 : decode cX6_gatesFor 35 = .ok (.invokestatic 114, 3) := by decide +kernel
theorem dX6_gatesFor_38 : decode cX6_gatesFor 38 = .ok (.iconst 0, 1) := by decide +kernel
theorem dX6_gatesFor_39 : decode cX6_gatesFor 39 = .ok (.istore_n 3, 1) := by decide +kernel
theorem dX6_gatesFor_40 : decode cX6_gatesFor 40 = .ok (.iconst 0, 1) := by decide +kernel
theorem dX6_gatesFor_41 : decode cX6_gatesFor 41 = .ok (.istore 4, 2) := by decide +kernel
theorem dX6_gatesFor_43 : decode cX6_gatesFor 43 = .ok (.iconst 0, 1) := by decide +kernel
theorem dX6_gatesFor_44 : decode cX6_gatesFor 44 = .ok (.istore 5, 2) := by decide +kernel
theorem dX6_gatesFor_46 : decode cX6_gatesFor 46 = .ok (.iload 5, 2) := by decide +kernel
theorem dX6_gatesFor_48 : decode cX6_gatesFor 48 = .ok (.bipush 9, 2) := by decide +kernel
theorem dX6_gatesFor_50 : decode cX6_gatesFor 50 = .ok (.if_icmp .ge 89, 3) := by decide +kernel
theorem dX6_gatesFor_53 : decode cX6_gatesFor 53 = .ok (.aload_n 0, 1) := by decide +kernel
theorem dX6_gatesFor_54 : decode cX6_gatesFor 54 = .ok (.getfield 7, 3) := by decide +kernel
theorem dX6_gatesFor_57 : decode cX6_gatesFor 57 = .ok (.iconst 3, 1) := by decide +kernel
theorem dX6_gatesFor_58 : decode cX6_gatesFor 58 = .ok (.iload 5, 2) := by decide +kernel
theorem dX6_gatesFor_60 : decode cX6_gatesFor 60 = .ok (.iastore, 1) := by decide +kernel
theorem dX6_gatesFor_61 : decode cX6_gatesFor 61 = .ok (.aload_n 0, 1) := by decide +kernel
theorem dX6_gatesFor_62 : decode cX6_gatesFor 62 = .ok (.iload_n 1, 1) := by decide +kernel
theorem dX6_gatesFor_63 : decode cX6_gatesFor 63 = .ok (.invokevirtual 106, 3) := by decide +kernel
theorem dX6_gatesFor_66 : decode cX6_gatesFor 66 = .ok (.aload_n 0, 1) := by decide +kernel
theorem dX6_gatesFor_67 : decode cX6_gatesFor 67 = .ok (.invokevirtual 59, 3) := by decide +kernel
theorem dX6_gatesFor_70 : decode cX6_gatesFor 70 = .ok (.iload_n 2, 1) := by decide +kernel
theorem dX6_gatesFor_71 : decode cX6_gatesFor 71 = .ok (.isub, 1) := by decide +kernel
theorem dX6_gatesFor_72 : decode cX6_gatesFor 72 = .ok (.invokestatic 49, 3) := by decide +kernel
theorem dX6_gatesFor_75 : decode cX6_gatesFor 75 = .ok (.istore 6, 2) := by decide +kernel
theorem dX6_gatesFor_77 : decode cX6_gatesFor 77 = .ok (.aload_n 0, 1) := by decide +kernel
theorem dX6_gatesFor_78 : decode cX6_gatesFor 78 = .ok (.getfield 19, 3) := by decide +kernel
theorem dX6_gatesFor_81 : decode cX6_gatesFor 81 = .ok (.aload_n 0, 1) := by decide +kernel
theorem dX6_gatesFor_82 : decode cX6_gatesFor 82 = .ok (.getfield 7, 3) := by decide +kernel
theorem dX6_gatesFor_85 : decode cX6_gatesFor 85 = .ok (.invokestatic 114, 3) := by decide +kernel
theorem dX6_gatesFor_88 : decode cX6_gatesFor 88 = .ok (.iload 5, 2) := by decide +kernel
theorem dX6_gatesFor_90 : decode cX6_gatesFor 90 = .ok (.ifCond .eq 10, 3) := by decide +kernel
theorem dX6_gatesFor_93 : decode cX6_gatesFor 93 = .ok (.iload 6, 2) := by decide +kernel
theorem dX6_gatesFor_95 : decode cX6_gatesFor 95 = .ok (.iload 4, 2) := by decide +kernel
theorem dX6_gatesFor_97 : decode cX6_gatesFor 97 = .ok (.if_icmp .ge 7, 3) := by decide +kernel
theorem dX6_gatesFor_100 : decode cX6_gatesFor 100 = .ok (.iconst 1, 1) := by decide +kernel
theorem dX6_gatesFor_101 : decode cX6_gatesFor 101 = .ok (.goto 4, 3) := by decide +kernel
theorem dX6_gatesFor_104 : decode cX6_gatesFor 104 = .ok (.iconst 0, 1) := by decide +kernel
theorem dX6_gatesFor_105 : decode cX6_gatesFor 105 = .ok (.istore 7, 2) := by decide +kernel
theorem dX6_gatesFor_107 : decode cX6_gatesFor 107 = .ok (.iload 7, 2) := by decide +kernel
theorem dX6_gatesFor_109 : decode cX6_gatesFor 109 = .ok (.ifCond .eq 8, 3) := by decide +kernel
theorem dX6_gatesFor_112 : decode cX6_gatesFor 112 = .ok (.iload 5, 2) := by decide +kernel
theorem dX6_gatesFor_114 : decode cX6_gatesFor 114 = .ok (.goto 4, 3) := by decide +kernel
theorem dX6_gatesFor_117 : decode cX6_gatesFor 117 = .ok (.iload_n 3, 1) := by decide +kernel
theorem dX6_gatesFor_118 : decode cX6_gatesFor 118 = .ok (.istore_n 3, 1) := by decide +kernel
theorem dX6_gatesFor_119 : decode cX6_gatesFor 119 = .ok (.iload 7, 2) := by decide +kernel
theorem dX6_gatesFor_121 : decode cX6_gatesFor 121 = .ok (.ifCond .eq 8, 3) := by decide +kernel
theorem dX6_gatesFor_124 : decode cX6_gatesFor 124 = .ok (.iload 6, 2) := by decide +kernel
theorem dX6_gatesFor_126 : decode cX6_gatesFor 126 = .ok (.goto 5, 3) := by decide +kernel
theorem dX6_gatesFor_129 : decode cX6_gatesFor 129 = .ok (.iload 4, 2) := by decide +kernel
theorem dX6_gatesFor_131 : decode cX6_gatesFor 131 = .ok (.istore 4, 2) := by decide +kernel
theorem dX6_gatesFor_133 : decode cX6_gatesFor 133 = .ok (.iinc 5 1, 3) := by decide +kernel
theorem dX6_gatesFor_136 : decode cX6_gatesFor 136 = .ok (.goto (-90), 3) := by decide +kernel
theorem dX6_gatesFor_139 : decode cX6_gatesFor 139 = .ok (.iload_n 3, 1) := by decide +kernel
theorem dX6_gatesFor_140 : decode cX6_gatesFor 140 = .ok (.ireturn, 1) := by decide +kernel
theorem dX6_bestDay_0 : decode cX6_bestDay 0 = .ok (.ldc 92, 2) := by decide +kernel
theorem dX6_bestDay_2 : decode cX6_bestDay 2 = .ok (.istore_n 1, 1) := by decide +kernel
theorem dX6_bestDay_3 : decode cX6_bestDay 3 = .ok (.iconst 0, 1) := by decide +kernel
theorem dX6_bestDay_4 : decode cX6_bestDay 4 = .ok (.istore_n 2, 1) := by decide +kernel
theorem dX6_bestDay_5 : decode cX6_bestDay 5 = .ok (.iload_n 2, 1) := by decide +kernel
theorem dX6_bestDay_6 : decode cX6_bestDay 6 = .ok (.aload_n 0, 1) := by decide +kernel
theorem dX6_bestDay_7 : decode cX6_bestDay 7 = .ok (.getfield 7, 3) := by decide +kernel
theorem dX6_bestDay_10 : decode cX6_bestDay 10 = .ok (.bipush 18, 2) := by decide +kernel
theorem dX6_bestDay_12 : decode cX6_bestDay 12 = .ok (.iaload, 1) := by decide +kernel
theorem dX6_bestDay_13 : decode cX6_bestDay 13 = .ok (.if_icmp .ge 50, 3) := by decide +kernel
theorem dX6_bestDay_16 : decode cX6_bestDay 16 = .ok (.iload_n 1, 1) := by decide +kernel
theorem dX6_bestDay_17 : decode cX6_bestDay 17 = .ok (.ifCond .lt 28, 3) := by decide +kernel
theorem dX6_bestDay_20 : decode cX6_bestDay 20 = .ok (.aload_n 0, 1) := by decide +kernel
theorem dX6_bestDay_21 : decode cX6_bestDay 21 = .ok (.getfield 7, 3) := by decide +kernel
theorem dX6_bestDay_24 : decode cX6_bestDay 24 = .ok (.bipush 19, 2) := by decide +kernel
theorem dX6_bestDay_26 : decode cX6_bestDay 26 = .ok (.bipush 7, 2) := by decide +kernel
theorem dX6_bestDay_28 : decode cX6_bestDay 28 = .ok (.iload_n 2, 1) := by decide +kernel
theorem dX6_bestDay_29 : decode cX6_bestDay 29 = .ok (.imul, 1) := by decide +kernel
theorem dX6_bestDay_30 : decode cX6_bestDay 30 = .ok (.iadd, 1) := by decide +kernel
theorem dX6_bestDay_31 : decode cX6_bestDay 31 = .ok (.iconst 1, 1) := by decide +kernel
theorem dX6_bestDay_32 : decode cX6_bestDay 32 = .ok (.iadd, 1) := by decide +kernel
theorem dX6_bestDay_33 : decode cX6_bestDay 33 = .ok (.iaload, 1) := by decide +kernel
theorem dX6_bestDay_34 : decode cX6_bestDay 34 = .ok (.aload_n 0, 1) := by decide +kernel
theorem dX6_bestDay_35 : decode cX6_bestDay 35 = .ok (.getfield 7, 3) := by decide +kernel
theorem dX6_bestDay_38 : decode cX6_bestDay 38 = .ok (.iload_n 1, 1) := by decide +kernel
theorem dX6_bestDay_39 : decode cX6_bestDay 39 = .ok (.iconst 1, 1) := by decide +kernel
theorem dX6_bestDay_40 : decode cX6_bestDay 40 = .ok (.iadd, 1) := by decide +kernel
theorem dX6_bestDay_41 : decode cX6_bestDay 41 = .ok (.iaload, 1) := by decide +kernel
theorem dX6_bestDay_42 : decode cX6_bestDay 42 = .ok (.if_icmp .le 13, 3) := by decide +kernel
theorem dX6_bestDay_45 : decode cX6_bestDay 45 = .ok (.bipush 19, 2) := by decide +kernel
theorem dX6_bestDay_47 : decode cX6_bestDay 47 = .ok (.bipush 7, 2) := by decide +kernel
theorem dX6_bestDay_49 : decode cX6_bestDay 49 = .ok (.iload_n 2, 1) := by decide +kernel
theorem dX6_bestDay_50 : decode cX6_bestDay 50 = .ok (.imul, 1) := by decide +kernel
theorem dX6_bestDay_51 : decode cX6_bestDay 51 = .ok (.iadd, 1) := by decide +kernel
theorem dX6_bestDay_52 : decode cX6_bestDay 52 = .ok (.goto 4, 3) := by decide +kernel
theorem dX6_bestDay_55 : decode cX6_bestDay 55 = .ok (.iload_n 1, 1) := by decide +kernel
theorem dX6_bestDay_56 : decode cX6_bestDay 56 = .ok (.istore_n 1, 1) := by decide +kernel
theorem dX6_bestDay_57 : decode cX6_bestDay 57 = .ok (.iinc 2 1, 3) := by decide +kernel
theorem dX6_bestDay_60 : decode cX6_bestDay 60 = .ok (.goto (-55), 3) := by decide +kernel
theorem dX6_bestDay_63 : decode cX6_bestDay 63 = .ok (.iload_n 1, 1) := by decide +kernel
theorem dX6_bestDay_64 : decode cX6_bestDay 64 = .ok (.ifCond .ge 8, 3) := by decide +kernel
theorem dX6_bestDay_67 : decode cX6_bestDay 67 = .ok (.ldc 92, 2) := by decide +kernel
theorem dX6_bestDay_69 : decode cX6_bestDay 69 = .ok (.goto 9, 3) := by decide +kernel
theorem dX6_bestDay_72 : decode cX6_bestDay 72 = .ok (.aload_n 0, 1) := by decide +kernel
theorem dX6_bestDay_73 : decode cX6_bestDay 73 = .ok (.getfield 7, 3) := by decide +kernel
theorem dX6_bestDay_76 : decode cX6_bestDay 76 = .ok (.iload_n 1, 1) := by decide +kernel
theorem dX6_bestDay_77 : decode cX6_bestDay 77 = .ok (.iaload, 1) := by decide +kernel
theorem dX6_bestDay_78 : decode cX6_bestDay 78 = .ok (.ireturn, 1) := by decide +kernel
theorem dX6_share_0 : decode cX6_share 0 = .ok (.aload_n 0, 1) := by decide +kernel
theorem dX6_share_1 : decode cX6_share 1 = .ok (.getfield 7, 3) := by decide +kernel
theorem dX6_share_4 : decode cX6_share 4 = .ok (.bipush 12, 2) := by decide +kernel
theorem dX6_share_6 : decode cX6_share 6 = .ok (.iaload, 1) := by decide +kernel
theorem dX6_share_7 : decode cX6_share 7 = .ok (.i2f, 1) := by decide +kernel
theorem dX6_share_8 : decode cX6_share 8 = .ok (.aload_n 0, 1) := by decide +kernel
theorem dX6_share_9 : decode cX6_share 9 = .ok (.getfield 7, 3) := by decide +kernel
theorem dX6_share_12 : decode cX6_share 12 = .ok (.bipush 11, 2) := by decide +kernel
theorem dX6_share_14 : decode cX6_share 14 = .ok (.iaload, 1) := by decide +kernel
theorem dX6_share_15 : decode cX6_share 15 = .ok (.ifCond .ne 7, 3) := by decide +kernel
theorem dX6_share_18 : decode cX6_share 18 = .ok (.iconst 1, 1) := by decide +kernel
theorem dX6_share_19 : decode cX6_share 19 = .ok (.goto 10, 3) := by decide +kernel
theorem dX6_share_22 : decode cX6_share 22 = .ok (.aload_n 0, 1) := by decide +kernel
theorem dX6_share_23 : decode cX6_share 23 = .ok (.getfield 7, 3) := by decide +kernel
theorem dX6_share_26 : decode cX6_share 26 = .ok (.bipush 11, 2) := by decide +kernel
theorem dX6_share_28 : decode cX6_share 28 = .ok (.iaload, 1) := by decide +kernel
theorem dX6_share_29 : decode cX6_share 29 = .ok (.i2f, 1) := by decide +kernel
theorem dX6_share_30 : decode cX6_share 30 = .ok (.fdiv, 1) := by decide +kernel
theorem dX6_share_31 : decode cX6_share 31 = .ok (.fstore_n 1, 1) := by decide +kernel
theorem dX6_share_32 : decode cX6_share 32 = .ok (.aload_n 0, 1) := by decide +kernel
theorem dX6_share_33 : decode cX6_share 33 = .ok (.getfield 7, 3) := by decide +kernel
theorem dX6_share_36 : decode cX6_share 36 = .ok (.bipush 11, 2) := by decide +kernel
theorem dX6_share_38 : decode cX6_share 38 = .ok (.iaload, 1) := by decide +kernel
theorem dX6_share_39 : decode cX6_share 39 = .ok (.ifCond .ne 8, 3) := by decide +kernel
theorem dX6_share_42 : decode cX6_share 42 = .ok (.ldc 92, 2) := by decide +kernel
theorem dX6_share_44 : decode cX6_share 44 = .ok (.goto 7, 3) := by decide +kernel
theorem dX6_share_47 : decode cX6_share 47 = .ok (.fload_n 1, 1) := by decide +kernel
theorem dX6_share_48 : decode cX6_share 48 = .ok (.invokestatic 118, 3) := by decide +kernel
theorem dX6_share_51 : decode cX6_share 51 = .ok (.ireturn, 1) := by decide +kernel
theorem dX6_count_0 : decode cX6_count 0 = .ok (.iload_n 1, 1) := by decide +kernel
theorem dX6_count_1 : decode cX6_count 1 = .ok (.tableswitch 75 0 9 #[55, 55, 55, 55, 55, 55, 55, 55, 65, 70], 55) := by decide +kernel
theorem dX6_count_56 : decode cX6_count 56 = .ok (.aload_n 0, 1) := by decide +kernel
theorem dX6_count_57 : decode cX6_count 57 = .ok (.getfield 7, 3) := by decide +kernel
theorem dX6_count_60 : decode cX6_count 60 = .ok (.bipush 11, 2) := by decide +kernel
theorem dX6_count_62 : decode cX6_count 62 = .ok (.iload_n 1, 1) := by decide +kernel
theorem dX6_count_63 : decode cX6_count 63 = .ok (.iadd, 1) := by decide +kernel
theorem dX6_count_64 : decode cX6_count 64 = .ok (.iaload, 1) := by decide +kernel
theorem dX6_count_65 : decode cX6_count 65 = .ok (.ireturn, 1) := by decide +kernel
theorem dX6_count_66 : decode cX6_count 66 = .ok (.aload_n 0, 1) := by decide +kernel
theorem dX6_count_67 : decode cX6_count 67 = .ok (.getfield 33, 3) := by decide +kernel
theorem dX6_count_70 : decode cX6_count 70 = .ok (.ireturn, 1) := by decide +kernel
theorem dX6_count_71 : decode cX6_count 71 = .ok (.aload_n 0, 1) := by decide +kernel
theorem dX6_count_72 : decode cX6_count 72 = .ok (.getfield 124, 3) := by decide +kernel
theorem dX6_count_75 : decode cX6_count 75 = .ok (.ireturn, 1) := by decide +kernel
theorem dX6_count_76 : decode cX6_count 76 = .ok (.iload_n 1, 1) := by decide +kernel
theorem dX6_count_77 : decode cX6_count 77 = .ok (.bipush 20, 2) := by decide +kernel
theorem dX6_count_79 : decode cX6_count 79 = .ok (.bipush 22, 2) := by decide +kernel
theorem dX6_count_81 : decode cX6_count 81 = .ok (.invokestatic 40, 3) := by decide +kernel
theorem dX6_count_84 : decode cX6_count 84 = .ok (.ifCond .eq 18, 3) := by decide +kernel
theorem dX6_count_87 : decode cX6_count 87 = .ok (.aload_n 0, 1) := by decide +kernel
theorem dX6_count_88 : decode cX6_count 88 = .ok (.getfield 7, 3) := by decide +kernel
theorem dX6_count_91 : decode cX6_count 91 = .ok (.bipush 8, 2) := by decide +kernel
theorem dX6_count_93 : decode cX6_count 93 = .ok (.iload_n 1, 1) := by decide +kernel
theorem dX6_count_94 : decode cX6_count 94 = .ok (.iadd, 1) := by decide +kernel
theorem dX6_count_95 : decode cX6_count 95 = .ok (.bipush 20, 2) := by decide +kernel
theorem dX6_count_97 : decode cX6_count 97 = .ok (.isub, 1) := by decide +kernel
theorem dX6_count_98 : decode cX6_count 98 = .ok (.iaload, 1) := by decide +kernel
theorem dX6_count_99 : decode cX6_count 99 = .ok (.goto 5, 3) := by decide +kernel
theorem dX6_count_102 : decode cX6_count 102 = .ok (.ldc 48, 2) := by decide +kernel
theorem dX6_count_104 : decode cX6_count 104 = .ok (.ireturn, 1) := by decide +kernel
theorem dX6_undo_0 : decode cX6_undo 0 = .ok (.aload_n 0, 1) := by decide +kernel
theorem dX6_undo_1 : decode cX6_undo 1 = .ok (.getfield 33, 3) := by decide +kernel
theorem dX6_undo_4 : decode cX6_undo 4 = .ok (.ifCond .ne 6, 3) := by decide +kernel
theorem dX6_undo_7 : decode cX6_undo 7 = .ok (.ldc 110, 2) := by decide +kernel
theorem dX6_undo_9 : decode cX6_undo 9 = .ok (.ireturn, 1) := by decide +kernel
theorem dX6_undo_10 : decode cX6_undo 10 = .ok (.aload_n 0, 1) := by decide +kernel
theorem dX6_undo_11 : decode cX6_undo 11 = .ok (.dup, 1) := by decide +kernel
theorem dX6_undo_12 : decode cX6_undo 12 = .ok (.getfield 33, 3) := by decide +kernel
theorem dX6_undo_15 : decode cX6_undo 15 = .ok (.iconst 1, 1) := by decide +kernel
theorem dX6_undo_16 : decode cX6_undo 16 = .ok (.isub, 1) := by decide +kernel
theorem dX6_undo_17 : decode cX6_undo 17 = .ok (.putfield 33, 3) := by decide +kernel
theorem dX6_undo_20 : decode cX6_undo 20 = .ok (.iconst 0, 1) := by decide +kernel
theorem dX6_undo_21 : decode cX6_undo 21 = .ok (.istore_n 1, 1) := by decide +kernel
theorem dX6_undo_22 : decode cX6_undo 22 = .ok (.iload_n 1, 1) := by decide +kernel
theorem dX6_undo_23 : decode cX6_undo 23 = .ok (.bipush 89, 2) := by decide +kernel
theorem dX6_undo_25 : decode cX6_undo 25 = .ok (.if_icmp .ge 29, 3) := by decide +kernel
theorem dX6_undo_28 : decode cX6_undo 28 = .ok (.aload_n 0, 1) := by decide +kernel
theorem dX6_undo_29 : decode cX6_undo 29 = .ok (.getfield 7, 3) := by decide +kernel
theorem dX6_undo_32 : decode cX6_undo 32 = .ok (.iload_n 1, 1) := by decide +kernel
theorem dX6_undo_33 : decode cX6_undo 33 = .ok (.aload_n 0, 1) := by decide +kernel
theorem dX6_undo_34 : decode cX6_undo 34 = .ok (.getfield 13, 3) := by decide +kernel
theorem dX6_undo_37 : decode cX6_undo 37 = .ok (.bipush 89, 2) := by decide +kernel
theorem dX6_undo_39 : decode cX6_undo 39 = .ok (.aload_n 0, 1) := by decide +kernel
theorem dX6_undo_40 : decode cX6_undo 40 = .ok (.getfield 33, 3) := by decide +kernel
theorem dX6_undo_43 : decode cX6_undo 43 = .ok (.imul, 1) := by decide +kernel
theorem dX6_undo_44 : decode cX6_undo 44 = .ok (.iload_n 1, 1) := by decide +kernel
theorem dX6_undo_45 : decode cX6_undo 45 = .ok (.iadd, 1) := by decide +kernel
theorem dX6_undo_46 : decode cX6_undo 46 = .ok (.iaload, 1) := by decide +kernel
theorem dX6_undo_47 : decode cX6_undo 47 = .ok (.iastore, 1) := by decide +kernel
theorem dX6_undo_48 : decode cX6_undo 48 = .ok (.iinc 1 1, 3) := by decide +kernel
theorem dX6_undo_51 : decode cX6_undo 51 = .ok (.goto (-29), 3) := by decide +kernel
theorem dX6_undo_54 : decode cX6_undo 54 = .ok (.aload_n 0, 1) := by decide +kernel
theorem dX6_undo_55 : decode cX6_undo 55 = .ok (.getfield 33, 3) := by decide +kernel
theorem dX6_undo_58 : decode cX6_undo 58 = .ok (.ireturn, 1) := by decide +kernel
theorem dX6_type_0 : decode cX6_type 0 = .ok (.iload_n 1, 1) := by decide +kernel
theorem dX6_type_1 : decode cX6_type 1 = .ok (.bipush 32, 2) := by decide +kernel
theorem dX6_type_3 : decode cX6_type 3 = .ok (.bipush 126, 2) := by decide +kernel
theorem dX6_type_5 : decode cX6_type 5 = .ok (.invokestatic 40, 3) := by decide +kernel
theorem dX6_type_8 : decode cX6_type 8 = .ok (.ifCond .ne 6, 3) := by decide +kernel
theorem dX6_type_11 : decode cX6_type 11 = .ok (.ldc 48, 2) := by decide +kernel
theorem dX6_type_13 : decode cX6_type 13 = .ok (.ireturn, 1) := by decide +kernel
theorem dX6_type_14 : decode cX6_type 14 = .ok (.aload_n 0, 1) := by decide +kernel
theorem dX6_type_15 : decode cX6_type 15 = .ok (.getfield 124, 3) := by decide +kernel
theorem dX6_type_18 : decode cX6_type 18 = .ok (.bipush 60, 2) := by decide +kernel
theorem dX6_type_20 : decode cX6_type 20 = .ok (.if_icmp .ne 6, 3) := by decide +kernel
theorem dX6_type_23 : decode cX6_type 23 = .ok (.ldc 105, 2) := by decide +kernel
theorem dX6_type_25 : decode cX6_type 25 = .ok (.ireturn, 1) := by decide +kernel
theorem dX6_type_26 : decode cX6_type 26 = .ok (.aload_n 0, 1) := by decide +kernel
theorem dX6_type_27 : decode cX6_type 27 = .ok (.getfield 22, 3) := by decide +kernel
theorem dX6_type_30 : decode cX6_type 30 = .ok (.aload_n 0, 1) := by decide +kernel
theorem dX6_type_31 : decode cX6_type 31 = .ok (.getfield 124, 3) := by decide +kernel
theorem dX6_type_34 : decode cX6_type 34 = .ok (.iload_n 1, 1) := by decide +kernel
theorem dX6_type_35 : decode cX6_type 35 = .ok (.iastore, 1) := by decide +kernel
theorem dX6_type_36 : decode cX6_type 36 = .ok (.aload_n 0, 1) := by decide +kernel
theorem dX6_type_37 : decode cX6_type 37 = .ok (.dup, 1) := by decide +kernel
theorem dX6_type_38 : decode cX6_type 38 = .ok (.getfield 124, 3) := by decide +kernel
theorem dX6_type_41 : decode cX6_type 41 = .ok (.iconst 1, 1) := by decide +kernel
theorem dX6_type_42 : decode cX6_type 42 = .ok (.iadd, 1) := by decide +kernel
theorem dX6_type_43 : decode cX6_type 43 = .ok (.putfield 124, 3) := by decide +kernel
theorem dX6_type_46 : decode cX6_type 46 = .ok (.aload_n 0, 1) := by decide +kernel
theorem dX6_type_47 : decode cX6_type 47 = .ok (.getfield 124, 3) := by decide +kernel
theorem dX6_type_50 : decode cX6_type 50 = .ok (.ireturn, 1) := by decide +kernel
theorem dX6_clearText_0 : decode cX6_clearText 0 = .ok (.aload_n 0, 1) := by decide +kernel
theorem dX6_clearText_1 : decode cX6_clearText 1 = .ok (.getfield 124, 3) := by decide +kernel
theorem dX6_clearText_4 : decode cX6_clearText 4 = .ok (.istore_n 1, 1) := by decide +kernel
theorem dX6_clearText_5 : decode cX6_clearText 5 = .ok (.aload_n 0, 1) := by decide +kernel
theorem dX6_clearText_6 : decode cX6_clearText 6 = .ok (.iconst 0, 1) := by decide +kernel
theorem dX6_clearText_7 : decode cX6_clearText 7 = .ok (.putfield 124, 3) := by decide +kernel
theorem dX6_clearText_10 : decode cX6_clearText 10 = .ok (.iload_n 1, 1) := by decide +kernel
theorem dX6_clearText_11 : decode cX6_clearText 11 = .ok (.ireturn, 1) := by decide +kernel
theorem dX6_isAt_0 : decode cX6_isAt 0 = .ok (.aload_n 0, 1) := by decide +kernel
theorem dX6_isAt_1 : decode cX6_isAt 1 = .ok (.getfield 127, 3) := by decide +kernel
theorem dX6_isAt_4 : decode cX6_isAt 4 = .ok (.aload_n 0, 1) := by decide +kernel
theorem dX6_isAt_5 : decode cX6_isAt 5 = .ok (.getfield 124, 3) := by decide +kernel
theorem dX6_isAt_8 : decode cX6_isAt 8 = .ok (.if_icmp .ge 24, 3) := by decide +kernel
theorem dX6_isAt_11 : decode cX6_isAt 11 = .ok (.aload_n 0, 1) := by decide +kernel
theorem dX6_isAt_12 : decode cX6_isAt 12 = .ok (.getfield 22, 3) := by decide +kernel
theorem dX6_isAt_15 : decode cX6_isAt 15 = .ok (.aload_n 0, 1) := by decide +kernel
theorem dX6_isAt_16 : decode cX6_isAt 16 = .ok (.getfield 127, 3) := by decide +kernel
theorem dX6_isAt_19 : decode cX6_isAt 19 = .ok (.iaload, 1) := by decide +kernel
theorem dX6_isAt_20 : decode cX6_isAt 20 = .ok (.iload_n 1, 1) := by decide +kernel
theorem dX6_isAt_21 : decode cX6_isAt 21 = .ok (.iload_n 2, 1) := by decide +kernel
theorem dX6_isAt_22 : decode cX6_isAt 22 = .ok (.invokestatic 40, 3) := by decide +kernel
theorem dX6_isAt_25 : decode cX6_isAt 25 = .ok (.ifCond .eq 7, 3) := by decide +kernel
theorem dX6_isAt_28 : decode cX6_isAt 28 = .ok (.iconst 1, 1) := by decide +kernel
theorem dX6_isAt_29 : decode cX6_isAt 29 = .ok (.goto 4, 3) := by decide +kernel
theorem dX6_isAt_32 : decode cX6_isAt 32 = .ok (.iconst 0, 1) := by decide +kernel
theorem dX6_isAt_33 : decode cX6_isAt 33 = .ok (.ireturn, 1) := by decide +kernel
theorem dX6_sign_0 : decode cX6_sign 0 = .ok (.aload_n 0, 1) := by decide +kernel
theorem dX6_sign_1 : decode cX6_sign 1 = .ok (.iload_n 1, 1) := by decide +kernel
theorem dX6_sign_2 : decode cX6_sign 2 = .ok (.iload_n 1, 1) := by decide +kernel
theorem dX6_sign_3 : decode cX6_sign 3 = .ok (.invokevirtual 130, 3) := by decide +kernel
theorem dX6_sign_6 : decode cX6_sign 6 = .ok (.istore_n 2, 1) := by decide +kernel
theorem dX6_sign_7 : decode cX6_sign 7 = .ok (.aload_n 0, 1) := by decide +kernel
theorem dX6_sign_8 : decode cX6_sign 8 = .ok (.dup, 1) := by decide +kernel
theorem dX6_sign_9 : decode cX6_sign 9 = .ok (.getfield 127, 3) := by decide +kernel
theorem dX6_sign_12 : decode cX6_sign 12 = .ok (.iload_n 2, 1) := by decide +kernel
theorem dX6_sign_13 : decode cX6_sign 13 = .ok (.ifCond .eq 7, 3) := by decide +kernel
theorem dX6_sign_16 : decode cX6_sign 16 = .ok (.iconst 1, 1) := by decide +kernel
theorem dX6_sign_17 : decode cX6_sign 17 = .ok (.goto 4, 3) := by decide +kernel
theorem dX6_sign_20 : decode cX6_sign 20 = .ok (.iconst 0, 1) := by decide +kernel
theorem dX6_sign_21 : decode cX6_sign 21 = .ok (.iadd, 1) := by decide +kernel
theorem dX6_sign_22 : decode cX6_sign 22 = .ok (.putfield 127, 3) := by decide +kernel
theorem dX6_sign_25 : decode cX6_sign 25 = .ok (.iload_n 2, 1) := by decide +kernel
theorem dX6_sign_26 : decode cX6_sign 26 = .ok (.ireturn, 1) := by decide +kernel
theorem dX6_numbered_0 : decode cX6_numbered 0 = .ok (.aload_n 0, 1) := by decide +kernel
theorem dX6_numbered_1 : decode cX6_numbered 1 = .ok (.getfield 127, 3) := by decide +kernel
theorem dX6_numbered_4 : decode cX6_numbered 4 = .ok (.istore_n 2, 1) := by decide +kernel
theorem dX6_numbered_5 : decode cX6_numbered 5 = .ok (.aload_n 0, 1) := by decide +kernel
theorem dX6_numbered_6 : decode cX6_numbered 6 = .ok (.getfield 25, 3) := by decide +kernel
theorem dX6_numbered_9 : decode cX6_numbered 9 = .ok (.iload_n 1, 1) := by decide +kernel
theorem dX6_numbered_10 : decode cX6_numbered 10 = .ok (.iconst 0, 1) := by decide +kernel
theorem dX6_numbered_11 : decode cX6_numbered 11 = .ok (.iastore, 1) := by decide +kernel
theorem dX6_numbered_12 : decode cX6_numbered 12 = .ok (.aload_n 0, 1) := by decide +kernel
theorem dX6_numbered_13 : decode cX6_numbered 13 = .ok (.bipush 48, 2) := by decide +kernel
theorem dX6_numbered_15 : decode cX6_numbered 15 = .ok (.bipush 57, 2) := by decide +kernel
theorem dX6_numbered_17 : decode cX6_numbered 17 = .ok (.invokevirtual 130, 3) := by decide +kernel
theorem dX6_numbered_20 : decode cX6_numbered 20 = .ok (.ifCond .eq 54, 3) := by decide +kernel
theorem dX6_numbered_23 : decode cX6_numbered 23 = .ok (.aload_n 0, 1) := by decide +kernel
theorem dX6_numbered_24 : decode cX6_numbered 24 = .ok (.getfield 127, 3) := by decide +kernel
theorem dX6_numbered_27 : decode cX6_numbered 27 = .ok (.iload_n 2, 1) := by decide +kernel
theorem dX6_numbered_28 : decode cX6_numbered 28 = .ok (.isub, 1) := by decide +kernel
theorem dX6_numbered_29 : decode cX6_numbered 29 = .ok (.iconst 3, 1) := by decide +kernel
theorem dX6_numbered_30 : decode cX6_numbered 30 = .ok (.if_icmp .ge 44, 3) := by decide +kernel
theorem dX6_numbered_33 : decode cX6_numbered 33 = .ok (.aload_n 0, 1) := by decide +kernel
theorem dX6_numbered_34 : decode cX6_numbered 34 = .ok (.getfield 25, 3) := by decide +kernel
theorem dX6_numbered_37 : decode cX6_numbered 37 = .ok (.iload_n 1, 1) := by decide +kernel
theorem dX6_numbered_38 : decode cX6_numbered 38 = .ok (.bipush 10, 2) := by decide +kernel
theorem dX6_numbered_40 : decode cX6_numbered 40 = .ok (.aload_n 0, 1) := by decide +kernel
theorem dX6_numbered_41 : decode cX6_numbered 41 = .ok (.getfield 25, 3) := by decide +kernel
theorem dX6_numbered_44 : decode cX6_numbered 44 = .ok (.iload_n 1, 1) := by decide +kernel
theorem dX6_numbered_45 : decode cX6_numbered 45 = .ok (.iaload, 1) := by decide +kernel
theorem dX6_numbered_46 : decode cX6_numbered 46 = .ok (.imul, 1) := by decide +kernel
theorem dX6_numbered_47 : decode cX6_numbered 47 = .ok (.aload_n 0, 1) := by decide +kernel
theorem dX6_numbered_48 : decode cX6_numbered 48 = .ok (.getfield 22, 3) := by decide +kernel
theorem dX6_numbered_51 : decode cX6_numbered 51 = .ok (.aload_n 0, 1) := by decide +kernel
theorem dX6_numbered_52 : decode cX6_numbered 52 = .ok (.getfield 127, 3) := by decide +kernel
theorem dX6_numbered_55 : decode cX6_numbered 55 = .ok (.iaload, 1) := by decide +kernel
theorem dX6_numbered_56 : decode cX6_numbered 56 = .ok (.iadd, 1) := by decide +kernel
theorem dX6_numbered_57 : decode cX6_numbered 57 = .ok (.bipush 48, 2) := by decide +kernel
theorem dX6_numbered_59 : decode cX6_numbered 59 = .ok (.isub, 1) := by decide +kernel
theorem dX6_numbered_60 : decode cX6_numbered 60 = .ok (.iastore, 1) := by decide +kernel
theorem dX6_numbered_61 : decode cX6_numbered 61 = .ok (.aload_n 0, 1) := by decide +kernel
theorem dX6_numbered_62 : decode cX6_numbered 62 = .ok (.dup, 1) := by decide +kernel
theorem dX6_numbered_63 : decode cX6_numbered 63 = .ok (.getfield 127, 3) := by decide +kernel
theorem dX6_numbered_66 : decode cX6_numbered 66 = .ok (.iconst 1, 1) := by decide +kernel
theorem dX6_numbered_67 : decode cX6_numbered 67 = .ok (.iadd, 1) := by decide +kernel
theorem dX6_numbered_68 : decode cX6_numbered 68 = .ok (.putfield 127, 3) := by decide +kernel
theorem dX6_numbered_71 : decode cX6_numbered 71 = .ok (.goto (-59), 3) := by decide +kernel
theorem dX6_numbered_74 : decode cX6_numbered 74 = .ok (.aload_n 0, 1) := by decide +kernel
theorem dX6_numbered_75 : decode cX6_numbered 75 = .ok (.getfield 127, 3) := by decide +kernel
theorem dX6_numbered_78 : decode cX6_numbered 78 = .ok (.iload_n 2, 1) := by decide +kernel
theorem dX6_numbered_79 : decode cX6_numbered 79 = .ok (.if_icmp .le 7, 3) := by decide +kernel
theorem dX6_numbered_82 : decode cX6_numbered 82 = .ok (.iconst 1, 1) := by decide +kernel
theorem dX6_numbered_83 : decode cX6_numbered 83 = .ok (.goto 4, 3) := by decide +kernel
theorem dX6_numbered_86 : decode cX6_numbered 86 = .ok (.iconst 0, 1) := by decide +kernel
theorem dX6_numbered_87 : decode cX6_numbered 87 = .ok (.ireturn, 1) := by decide +kernel
theorem dX6_numbersOf_0 : decode cX6_numbersOf 0 = .ok (.iload_n 0, 1) := by decide +kernel
theorem dX6_numbersOf_1 : decode cX6_numbersOf 1 = .ok (.bipush 98, 2) := by decide +kernel
theorem dX6_numbersOf_3 : decode cX6_numbersOf 3 = .ok (.if_icmp .ne 7, 3) := by decide +kernel
theorem dX6_numbersOf_6 : decode cX6_numbersOf 6 = .ok (.iconst 2, 1) := by decide +kernel
theorem dX6_numbersOf_7 : decode cX6_numbersOf 7 = .ok (.goto 38, 3) := by decide +kernel
theorem dX6_numbersOf_10 : decode cX6_numbersOf 10 = .ok (.iload_n 0, 1) := by decide +kernel
theorem dX6_numbersOf_11 : decode cX6_numbersOf 11 = .ok (.bipush 103, 2) := by decide +kernel
theorem dX6_numbersOf_13 : decode cX6_numbersOf 13 = .ok (.if_icmp .eq 27, 3) := by decide +kernel
theorem dX6_numbersOf_16 : decode cX6_numbersOf 16 = .ok (.iload_n 0, 1) := by decide +kernel
theorem dX6_numbersOf_17 : decode cX6_numbersOf 17 = .ok (.bipush 116, 2) := by decide +kernel
theorem dX6_numbersOf_19 : decode cX6_numbersOf 19 = .ok (.if_icmp .eq 21, 3) := by decide +kernel
theorem dX6_numbersOf_22 : decode cX6_numbersOf 22 = .ok (.iload_n 0, 1) := by decide +kernel
theorem dX6_numbersOf_23 : decode cX6_numbersOf 23 = .ok (.bipush 112, 2) := by decide +kernel
theorem dX6_numbersOf_25 : decode cX6_numbersOf 25 = .ok (.if_icmp .eq 15, 3) := by decide +kernel
theorem dX6_numbersOf_28 : decode cX6_numbersOf 28 = .ok (.iload_n 0, 1) := by decide +kernel
theorem dX6_numbersOf_29 : decode cX6_numbersOf 29 = .ok (.bipush 113, 2) := by decide +kernel
theorem dX6_numbersOf_31 : decode cX6_numbersOf 31 = .ok (.if_icmp .eq 9, 3) := by decide +kernel
theorem dX6_numbersOf_34 : decode cX6_numbersOf 34 = .ok (.iload_n 0, 1) := by decide +kernel
theorem dX6_numbersOf_35 : decode cX6_numbersOf 35 = .ok (.bipush 114, 2) := by decide +kernel
theorem dX6_numbersOf_37 : decode cX6_numbersOf 37 = .ok (.if_icmp .ne 7, 3) := by decide +kernel
theorem dX6_numbersOf_40 : decode cX6_numbersOf 40 = .ok (.iconst 1, 1) := by decide +kernel
theorem dX6_numbersOf_41 : decode cX6_numbersOf 41 = .ok (.goto 4, 3) := by decide +kernel
theorem dX6_numbersOf_44 : decode cX6_numbersOf 44 = .ok (.iconst 0, 1) := by decide +kernel
theorem dX6_numbersOf_45 : decode cX6_numbersOf 45 = .ok (.ireturn, 1) := by decide +kernel
theorem dX6_reads_0 : decode cX6_reads 0 = .ok (.aload_n 0, 1) := by decide +kernel
theorem dX6_reads_1 : decode cX6_reads 1 = .ok (.aload_n 0, 1) := by decide +kernel
theorem dX6_reads_2 : decode cX6_reads 2 = .ok (.bipush 33, 2) := by decide +kernel
theorem dX6_reads_4 : decode cX6_reads 4 = .ok (.bipush 126, 2) := by decide +kernel
theorem dX6_reads_6 : decode cX6_reads 6 = .ok (.invokevirtual 130, 3) := by decide +kernel
theorem dX6_reads_9 : decode cX6_reads 9 = .ok (.ifCond .eq 15, 3) := by decide +kernel
theorem dX6_reads_12 : decode cX6_reads 12 = .ok (.aload_n 0, 1) := by decide +kernel
theorem dX6_reads_13 : decode cX6_reads 13 = .ok (.getfield 22, 3) := by decide +kernel
theorem dX6_reads_16 : decode cX6_reads 16 = .ok (.aload_n 0, 1) := by decide +kernel
theorem dX6_reads_17 : decode cX6_reads 17 = .ok (.getfield 127, 3) := by decide +kernel
theorem dX6_reads_20 : decode cX6_reads 20 = .ok (.iaload, 1) := by decide +kernel
theorem dX6_reads_21 : decode cX6_reads 21 = .ok (.goto 4, 3) := by decide +kernel
theorem dX6_reads_24 : decode cX6_reads 24 = .ok (.iconst 0, 1) := by decide +kernel
theorem dX6_reads_25 : decode cX6_reads 25 = .ok (.putfield 134, 3) := by decide +kernel
theorem dX6_reads_28 : decode cX6_reads 28 = .ok (.aload_n 0, 1) := by decide +kernel
theorem dX6_reads_29 : decode cX6_reads 29 = .ok (.getfield 134, 3) := by decide +kernel
theorem dX6_reads_32 : decode cX6_reads 32 = .ok (.invokestatic 137, 3) := by decide +kernel
theorem dX6_reads_35 : decode cX6_reads 35 = .ok (.istore_n 1, 1) := by decide +kernel
theorem dX6_reads_36 : decode cX6_reads 36 = .ok (.iload_n 1, 1) := by decide +kernel
theorem dX6_reads_37 : decode cX6_reads 37 = .ok (.ifCond .ne 5, 3) := by decide +kernel
theorem dX6_reads_40 : decode cX6_reads 40 = .ok (.iconst 0, 1) := by decide +kernel
theorem dX6_reads_41 : decode cX6_reads 41 = .ok (.ireturn, 1) := by decide +kernel
theorem dX6_reads_42 : decode cX6_reads 42 = .ok (.aload_n 0, 1) := by decide +kernel
theorem dX6_reads_43 : decode cX6_reads 43 = .ok (.dup, 1) := by decide +kernel
theorem dX6_reads_44 : decode cX6_reads 44 = .ok (.getfield 127, 3) := by decide +kernel
theorem dX6_reads_47 : decode cX6_reads 47 = .ok (.iconst 1, 1) := by decide +kernel
theorem dX6_reads_48 : decode cX6_reads 48 = .ok (.iadd, 1) := by decide +kernel
theorem dX6_reads_49 : decode cX6_reads 49 = .ok (.putfield 127, 3) := by decide +kernel
theorem dX6_reads_52 : decode cX6_reads 52 = .ok (.aload_n 0, 1) := by decide +kernel
theorem dX6_reads_53 : decode cX6_reads 53 = .ok (.iconst 0, 1) := by decide +kernel
theorem dX6_reads_54 : decode cX6_reads 54 = .ok (.invokevirtual 140, 3) := by decide +kernel
theorem dX6_reads_57 : decode cX6_reads 57 = .ok (.istore_n 2, 1) := by decide +kernel
theorem dX6_reads_58 : decode cX6_reads 58 = .ok (.iload_n 2, 1) := by decide +kernel
theorem dX6_reads_59 : decode cX6_reads 59 = .ok (.ifCond .eq 31, 3) := by decide +kernel
theorem dX6_reads_62 : decode cX6_reads 62 = .ok (.iload_n 1, 1) := by decide +kernel
theorem dX6_reads_63 : decode cX6_reads 63 = .ok (.iconst 2, 1) := by decide +kernel
theorem dX6_reads_64 : decode cX6_reads 64 = .ok (.if_icmp .ne 26, 3) := by decide +kernel
theorem dX6_reads_67 : decode cX6_reads 67 = .ok (.aload_n 0, 1) := by decide +kernel
theorem dX6_reads_68 : decode cX6_reads 68 = .ok (.bipush 44, 2) := by decide +kernel
theorem dX6_reads_70 : decode cX6_reads 70 = .ok (.invokevirtual 144, 3) := by decide +kernel
theorem dX6_reads_73 : decode cX6_reads 73 = .ok (.ifCond .eq 15, 3) := by decide +kernel
theorem dX6_reads_76 : decode cX6_reads 76 = .ok (.aload_n 0, 1) := by decide +kernel
theorem dX6_reads_77 : decode cX6_reads 77 = .ok (.iconst 1, 1) := by decide +kernel
theorem dX6_reads_78 : decode cX6_reads 78 = .ok (.invokevirtual 140, 3) := by decide +kernel
theorem dX6_reads_81 : decode cX6_reads 81 = .ok (.ifCond .eq 7, 3) := by decide +kernel
theorem dX6_reads_84 : decode cX6_reads 84 = .ok (.iconst 1, 1) := by decide +kernel
theorem dX6_reads_85 : decode cX6_reads 85 = .ok (.goto 4, 3) := by decide +kernel
theorem dX6_reads_88 : decode cX6_reads 88 = .ok (.iconst 0, 1) := by decide +kernel
theorem dX6_reads_89 : decode cX6_reads 89 = .ok (.istore_n 2, 1) := by decide +kernel
theorem dX6_reads_90 : decode cX6_reads 90 = .ok (.iload_n 2, 1) := by decide +kernel
theorem dX6_reads_91 : decode cX6_reads 91 = .ok (.ifCond .eq 16, 3) := by decide +kernel
theorem dX6_reads_94 : decode cX6_reads 94 = .ok (.aload_n 0, 1) := by decide +kernel
theorem dX6_reads_95 : decode cX6_reads 95 = .ok (.bipush 59, 2) := by decide +kernel
theorem dX6_reads_97 : decode cX6_reads 97 = .ok (.invokevirtual 144, 3) := by decide +kernel
theorem dX6_reads_100 : decode cX6_reads 100 = .ok (.ifCond .eq 7, 3) := by decide +kernel
theorem dX6_reads_103 : decode cX6_reads 103 = .ok (.iconst 1, 1) := by decide +kernel
theorem dX6_reads_104 : decode cX6_reads 104 = .ok (.goto 4, 3) := by decide +kernel
theorem dX6_reads_107 : decode cX6_reads 107 = .ok (.iconst 0, 1) := by decide +kernel
theorem dX6_reads_108 : decode cX6_reads 108 = .ok (.ireturn, 1) := by decide +kernel
theorem dX6_calls_0 : decode cX6_calls 0 = .ok (.aload_n 0, 1) := by decide +kernel
theorem dX6_calls_1 : decode cX6_calls 1 = .ok (.getfield 134, 3) := by decide +kernel
theorem dX6_calls_4 : decode cX6_calls 4 = .ok (.lookupswitch 114 #[(98, 97), (103, 52), (112, 74), (113, 85), (116, 63)], 52) := by decide +kernel
theorem dX6_calls_56 : decode cX6_calls 56 = .ok (.aload_n 0, 1) := by decide +kernel
theorem dX6_calls_57 : decode cX6_calls 57 = .ok (.aload_n 0, 1) := by decide +kernel
theorem dX6_calls_58 : decode cX6_calls 58 = .ok (.getfield 25, 3) := by decide +kernel
theorem dX6_calls_61 : decode cX6_calls 61 = .ok (.iconst 0, 1) := by decide +kernel
theorem dX6_calls_62 : decode cX6_calls 62 = .ok (.iaload, 1) := by decide +kernel
theorem dX6_calls_63 : decode cX6_calls 63 = .ok (.invokevirtual 147, 3) := by decide +kernel
theorem dX6_calls_66 : decode cX6_calls 66 = .ok (.ireturn, 1) := by decide +kernel
theorem dX6_calls_67 : decode cX6_calls 67 = .ok (.aload_n 0, 1) := by decide +kernel
theorem dX6_calls_68 : decode cX6_calls 68 = .ok (.aload_n 0, 1) := by decide +kernel
theorem dX6_calls_69 : decode cX6_calls 69 = .ok (.getfield 25, 3) := by decide +kernel
theorem dX6_calls_72 : decode cX6_calls 72 = .ok (.iconst 0, 1) := by decide +kernel
theorem dX6_calls_73 : decode cX6_calls 73 = .ok (.iaload, 1) := by decide +kernel
theorem dX6_calls_74 : decode cX6_calls 74 = .ok (.invokevirtual 150, 3) := by decide +kernel
theorem dX6_calls_77 : decode cX6_calls 77 = .ok (.ireturn, 1) := by decide +kernel
theorem dX6_calls_78 : decode cX6_calls 78 = .ok (.aload_n 0, 1) := by decide +kernel
theorem dX6_calls_79 : decode cX6_calls 79 = .ok (.aload_n 0, 1) := by decide +kernel
theorem dX6_calls_80 : decode cX6_calls 80 = .ok (.getfield 25, 3) := by decide +kernel
theorem dX6_calls_83 : decode cX6_calls 83 = .ok (.iconst 0, 1) := by decide +kernel
theorem dX6_calls_84 : decode cX6_calls 84 = .ok (.iaload, 1) := by decide +kernel
theorem dX6_calls_85 : decode cX6_calls 85 = .ok (.invokevirtual 153, 3) := by decide +kernel
theorem dX6_calls_88 : decode cX6_calls 88 = .ok (.ireturn, 1) := by decide +kernel
theorem dX6_calls_89 : decode cX6_calls 89 = .ok (.aload_n 0, 1) := by decide +kernel
theorem dX6_calls_90 : decode cX6_calls 90 = .ok (.aload_n 0, 1) := by decide +kernel
theorem dX6_calls_91 : decode cX6_calls 91 = .ok (.getfield 25, 3) := by decide +kernel
theorem dX6_calls_94 : decode cX6_calls 94 = .ok (.iconst 0, 1) := by decide +kernel
theorem dX6_calls_95 : decode cX6_calls 95 = .ok (.iaload, 1) := by decide +kernel
theorem dX6_calls_96 : decode cX6_calls 96 = .ok (.ineg, 1) := by decide +kernel
theorem dX6_calls_97 : decode cX6_calls 97 = .ok (.invokevirtual 153, 3) := by decide +kernel
theorem dX6_calls_100 : decode cX6_calls 100 = .ok (.ireturn, 1) := by decide +kernel
theorem dX6_calls_101 : decode cX6_calls 101 = .ok (.aload_n 0, 1) := by decide +kernel
theorem dX6_calls_102 : decode cX6_calls 102 = .ok (.aload_n 0, 1) := by decide +kernel
theorem dX6_calls_103 : decode cX6_calls 103 = .ok (.getfield 25, 3) := by decide +kernel
theorem dX6_calls_106 : decode cX6_calls 106 = .ok (.iconst 0, 1) := by decide +kernel
theorem dX6_calls_107 : decode cX6_calls 107 = .ok (.iaload, 1) := by decide +kernel
theorem dX6_calls_108 : decode cX6_calls 108 = .ok (.aload_n 0, 1) := by decide +kernel
theorem dX6_calls_109 : decode cX6_calls 109 = .ok (.getfield 25, 3) := by decide +kernel
theorem dX6_calls_112 : decode cX6_calls 112 = .ok (.iconst 1, 1) := by decide +kernel
theorem dX6_calls_113 : decode cX6_calls 113 = .ok (.iaload, 1) := by decide +kernel
theorem dX6_calls_114 : decode cX6_calls 114 = .ok (.invokevirtual 156, 3) := by decide +kernel
theorem dX6_calls_117 : decode cX6_calls 117 = .ok (.ireturn, 1) := by decide +kernel
theorem dX6_calls_118 : decode cX6_calls 118 = .ok (.aload_n 0, 1) := by decide +kernel
theorem dX6_calls_119 : decode cX6_calls 119 = .ok (.aload_n 0, 1) := by decide +kernel
theorem dX6_calls_120 : decode cX6_calls 120 = .ok (.getfield 25, 3) := by decide +kernel
theorem dX6_calls_123 : decode cX6_calls 123 = .ok (.iconst 0, 1) := by decide +kernel
theorem dX6_calls_124 : decode cX6_calls 124 = .ok (.iaload, 1) := by decide +kernel
theorem dX6_calls_125 : decode cX6_calls 125 = .ok (.invokevirtual 159, 3) := by decide +kernel
theorem dX6_calls_128 : decode cX6_calls 128 = .ok (.ireturn, 1) := by decide +kernel
theorem dX6_plays_0 : decode cX6_plays 0 = .ok (.aload_n 0, 1) := by decide +kernel
theorem dX6_plays_1 : decode cX6_plays 1 = .ok (.iconst 1, 1) := by decide +kernel
theorem dX6_plays_2 : decode cX6_plays 2 = .ok (.putfield 29, 3) := by decide +kernel
theorem dX6_plays_5 : decode cX6_plays 5 = .ok (.aload_n 0, 1) := by decide +kernel
theorem dX6_plays_6 : decode cX6_plays 6 = .ok (.iconst 0, 1) := by decide +kernel
theorem dX6_plays_7 : decode cX6_plays 7 = .ok (.putfield 127, 3) := by decide +kernel
theorem dX6_plays_10 : decode cX6_plays 10 = .ok (.aload_n 0, 1) := by decide +kernel
theorem dX6_plays_11 : decode cX6_plays 11 = .ok (.iconst 0, 1) := by decide +kernel
theorem dX6_plays_12 : decode cX6_plays 12 = .ok (.putfield 162, 3) := by decide +kernel
theorem dX6_plays_15 : decode cX6_plays 15 = .ok (.aload_n 0, 1) := by decide +kernel
theorem dX6_plays_16 : decode cX6_plays 16 = .ok (.iconst 0, 1) := by decide +kernel
theorem dX6_plays_17 : decode cX6_plays 17 = .ok (.putfield 165, 3) := by decide +kernel
theorem dX6_plays_20 : decode cX6_plays 20 = .ok (.iconst 1, 1) := by decide +kernel
theorem dX6_plays_21 : decode cX6_plays 21 = .ok (.istore_n 1, 1) := by decide +kernel
theorem dX6_plays_22 : decode cX6_plays 22 = .ok (.aload_n 0, 1) := by decide +kernel
theorem dX6_plays_23 : decode cX6_plays 23 = .ok (.getfield 127, 3) := by decide +kernel
theorem dX6_plays_26 : decode cX6_plays 26 = .ok (.aload_n 0, 1) := by decide +kernel
theorem dX6_plays_27 : decode cX6_plays 27 = .ok (.getfield 124, 3) := by decide +kernel
theorem dX6_plays_30 : decode cX6_plays 30 = .ok (.if_icmp .ge 96, 3) := by decide +kernel
theorem dX6_plays_33 : decode cX6_plays 33 = .ok (.iload_n 1, 1) := by decide +kernel
theorem dX6_plays_34 : decode cX6_plays 34 = .ok (.ifCond .eq 92, 3) := by decide +kernel
theorem dX6_plays_37 : decode cX6_plays 37 = .ok (.aload_n 0, 1) := by decide +kernel
theorem dX6_plays_38 : decode cX6_plays 38 = .ok (.aload_n 0, 1) := by decide +kernel
theorem dX6_plays_39 : decode cX6_plays 39 = .ok (.getfield 127, 3) := by decide +kernel
theorem dX6_plays_42 : decode cX6_plays 42 = .ok (.putfield 162, 3) := by decide +kernel
theorem dX6_plays_45 : decode cX6_plays 45 = .ok (.aload_n 0, 1) := by decide +kernel
theorem dX6_plays_46 : decode cX6_plays 46 = .ok (.invokevirtual 168, 3) := by decide +kernel
theorem dX6_plays_49 : decode cX6_plays 49 = .ok (.istore_n 2, 1) := by decide +kernel
theorem dX6_plays_50 : decode cX6_plays 50 = .ok (.iload_n 2, 1) := by decide +kernel
theorem dX6_plays_51 : decode cX6_plays 51 = .ok (.ifCond .eq 10, 3) := by decide +kernel
theorem dX6_plays_54 : decode cX6_plays 54 = .ok (.aload_n 0, 1) := by decide +kernel
theorem dX6_plays_55 : decode cX6_plays 55 = .ok (.invokevirtual 171, 3) := by decide +kernel
theorem dX6_plays_58 : decode cX6_plays 58 = .ok (.goto 4, 3) := by decide +kernel
theorem dX6_plays_61 : decode cX6_plays 61 = .ok (.iconst 0, 1) := by decide +kernel
theorem dX6_plays_62 : decode cX6_plays 62 = .ok (.istore_n 3, 1) := by decide +kernel
theorem dX6_plays_63 : decode cX6_plays 63 = .ok (.iload_n 2, 1) := by decide +kernel
theorem dX6_plays_64 : decode cX6_plays 64 = .ok (.ifCond .eq 13, 3) := by decide +kernel
theorem dX6_plays_67 : decode cX6_plays 67 = .ok (.iload_n 3, 1) := by decide +kernel
theorem dX6_plays_68 : decode cX6_plays 68 = .ok (.ldc 48, 2) := by decide +kernel
theorem dX6_plays_70 : decode cX6_plays 70 = .ok (.if_icmp .le 7, 3) := by decide +kernel
theorem dX6_plays_73 : decode cX6_plays 73 = .ok (.iconst 1, 1) := by decide +kernel
theorem dX6_plays_74 : decode cX6_plays 74 = .ok (.goto 4, 3) := by decide +kernel
theorem dX6_plays_77 : decode cX6_plays 77 = .ok (.iconst 0, 1) := by decide +kernel
theorem dX6_plays_78 : decode cX6_plays 78 = .ok (.istore_n 1, 1) := by decide +kernel
theorem dX6_plays_79 : decode cX6_plays 79 = .ok (.aload_n 0, 1) := by decide +kernel
theorem dX6_plays_80 : decode cX6_plays 80 = .ok (.iload_n 2, 1) := by decide +kernel
theorem dX6_plays_81 : decode cX6_plays 81 = .ok (.ifCond .eq 7, 3) := by decide +kernel
theorem dX6_plays_84 : decode cX6_plays 84 = .ok (.iconst 2, 1) := by decide +kernel
theorem dX6_plays_85 : decode cX6_plays 85 = .ok (.goto 4, 3) := by decide +kernel
theorem dX6_plays_88 : decode cX6_plays 88 = .ok (.iconst 1, 1) := by decide +kernel
theorem dX6_plays_89 : decode cX6_plays 89 = .ok (.putfield 174, 3) := by decide +kernel
theorem dX6_plays_92 : decode cX6_plays 92 = .ok (.aload_n 0, 1) := by decide +kernel
theorem dX6_plays_93 : decode cX6_plays 93 = .ok (.iload_n 2, 1) := by decide +kernel
theorem dX6_plays_94 : decode cX6_plays 94 = .ok (.ifCond .eq 7, 3) := by decide +kernel
theorem dX6_plays_97 : decode cX6_plays 97 = .ok (.iload_n 3, 1) := by decide +kernel
theorem dX6_plays_98 : decode cX6_plays 98 = .ok (.goto 12, 3) := by decide +kernel
theorem dX6_plays_101 : decode cX6_plays 101 = .ok (.aload_n 0, 1) := by decide +kernel
theorem dX6_plays_102 : decode cX6_plays 102 = .ok (.getfield 127, 3) := by decide +kernel
theorem dX6_plays_105 : decode cX6_plays 105 = .ok (.aload_n 0, 1) := by decide +kernel
theorem dX6_plays_106 : decode cX6_plays 106 = .ok (.getfield 162, 3) := by decide +kernel
theorem dX6_plays_109 : decode cX6_plays 109 = .ok (.isub, 1) := by decide +kernel
theorem dX6_plays_110 : decode cX6_plays 110 = .ok (.putfield 177, 3) := by decide +kernel
theorem dX6_plays_113 : decode cX6_plays 113 = .ok (.aload_n 0, 1) := by decide +kernel
theorem dX6_plays_114 : decode cX6_plays 114 = .ok (.dup, 1) := by decide +kernel
theorem dX6_plays_115 : decode cX6_plays 115 = .ok (.getfield 165, 3) := by decide +kernel
theorem dX6_plays_118 : decode cX6_plays 118 = .ok (.iconst 1, 1) := by decide +kernel
theorem dX6_plays_119 : decode cX6_plays 119 = .ok (.iadd, 1) := by decide +kernel
theorem dX6_plays_120 : decode cX6_plays 120 = .ok (.putfield 165, 3) := by decide +kernel
theorem dX6_plays_123 : decode cX6_plays 123 = .ok (.goto (-101), 3) := by decide +kernel
theorem dX6_plays_126 : decode cX6_plays 126 = .ok (.aload_n 0, 1) := by decide +kernel
theorem dX6_plays_127 : decode cX6_plays 127 = .ok (.iconst 0, 1) := by decide +kernel
theorem dX6_plays_128 : decode cX6_plays 128 = .ok (.putfield 29, 3) := by decide +kernel
theorem dX6_plays_131 : decode cX6_plays 131 = .ok (.iload_n 1, 1) := by decide +kernel
theorem dX6_plays_132 : decode cX6_plays 132 = .ok (.ireturn, 1) := by decide +kernel
theorem dX6_fault_0 : decode cX6_fault 0 = .ok (.iload_n 1, 1) := by decide +kernel
theorem dX6_fault_1 : decode cX6_fault 1 = .ok (.iconst 0, 1) := by decide +kernel
theorem dX6_fault_2 : decode cX6_fault 2 = .ok (.iconst 2, 1) := by decide +kernel
theorem dX6_fault_3 : decode cX6_fault 3 = .ok (.invokestatic 40, 3) := by decide +kernel
theorem dX6_fault_6 : decode cX6_fault 6 = .ok (.ifCond .ne 6, 3) := by decide +kernel
theorem dX6_fault_9 : decode cX6_fault 9 = .ok (.ldc 48, 2) := by decide +kernel
theorem dX6_fault_11 : decode cX6_fault 11 = .ok (.ireturn, 1) := by decide +kernel
theorem dX6_fault_12 : decode cX6_fault 12 = .ok (.aload_n 0, 1) := by decide +kernel
theorem dX6_fault_13 : decode cX6_fault 13 = .ok (.getfield 7, 3) := by decide +kernel
theorem dX6_fault_16 : decode cX6_fault 16 = .ok (.aload_n 0, 1) := by decide +kernel
theorem dX6_fault_17 : decode cX6_fault 17 = .ok (.getfield 16, 3) := by decide +kernel
theorem dX6_fault_20 : decode cX6_fault 20 = .ok (.invokestatic 114, 3) := by decide +kernel
theorem dX6_fault_23 : decode cX6_fault 23 = .ok (.aload_n 0, 1) := by decide +kernel
theorem dX6_fault_24 : decode cX6_fault 24 = .ok (.invokevirtual 180, 3) := by decide +kernel
theorem dX6_fault_27 : decode cX6_fault 27 = .ok (.istore_n 2, 1) := by decide +kernel
theorem dX6_fault_28 : decode cX6_fault 28 = .ok (.aload_n 0, 1) := by decide +kernel
theorem dX6_fault_29 : decode cX6_fault 29 = .ok (.getfield 16, 3) := by decide +kernel
theorem dX6_fault_32 : decode cX6_fault 32 = .ok (.aload_n 0, 1) := by decide +kernel
theorem dX6_fault_33 : decode cX6_fault 33 = .ok (.getfield 7, 3) := by decide +kernel
theorem dX6_fault_36 : decode cX6_fault 36 = .ok (.invokestatic 114, 3) := by decide +kernel
theorem dX6_fault_39 : decode cX6_fault 39 = .ok (.iload_n 2, 1) := by decide +kernel
theorem dX6_fault_40 : decode cX6_fault 40 = .ok (.ifCond .eq 8, 3) := by decide +kernel
theorem dX6_fault_43 : decode cX6_fault 43 = .ok (.ldc 92, 2) := by decide +kernel
theorem dX6_fault_45 : decode cX6_fault 45 = .ok (.goto 30, 3) := by decide +kernel
theorem dX6_fault_48 : decode cX6_fault 48 = .ok (.iload_n 1, 1) := by decide +kernel
theorem dX6_fault_49 : decode cX6_fault 49 = .ok (.ifCond .ne 10, 3) := by decide +kernel
theorem dX6_fault_52 : decode cX6_fault 52 = .ok (.aload_n 0, 1) := by decide +kernel
theorem dX6_fault_53 : decode cX6_fault 53 = .ok (.getfield 162, 3) := by decide +kernel
theorem dX6_fault_56 : decode cX6_fault 56 = .ok (.goto 19, 3) := by decide +kernel
theorem dX6_fault_59 : decode cX6_fault 59 = .ok (.iload_n 1, 1) := by decide +kernel
theorem dX6_fault_60 : decode cX6_fault 60 = .ok (.iconst 1, 1) := by decide +kernel
theorem dX6_fault_61 : decode cX6_fault 61 = .ok (.if_icmp .ne 10, 3) := by decide +kernel
theorem dX6_fault_64 : decode cX6_fault 64 = .ok (.aload_n 0, 1) := by decide +kernel
theorem dX6_fault_65 : decode cX6_fault 65 = .ok (.getfield 174, 3) := by decide +kernel
theorem dX6_fault_68 : decode cX6_fault 68 = .ok (.goto 7, 3) := by decide +kernel
theorem dX6_fault_71 : decode cX6_fault 71 = .ok (.aload_n 0, 1) := by decide +kernel
theorem dX6_fault_72 : decode cX6_fault 72 = .ok (.getfield 177, 3) := by decide +kernel
theorem dX6_fault_75 : decode cX6_fault 75 = .ok (.ireturn, 1) := by decide +kernel
theorem dX6_play_0 : decode cX6_play 0 = .ok (.aload_n 0, 1) := by decide +kernel
theorem dX6_play_1 : decode cX6_play 1 = .ok (.getfield 7, 3) := by decide +kernel
theorem dX6_play_4 : decode cX6_play 4 = .ok (.aload_n 0, 1) := by decide +kernel
theorem dX6_play_5 : decode cX6_play 5 = .ok (.getfield 16, 3) := by decide +kernel
theorem dX6_play_8 : decode cX6_play 8 = .ok (.invokestatic 114, 3) := by decide +kernel
theorem dX6_play_11 : decode cX6_play 11 = .ok (.aload_n 0, 1) := by decide +kernel
theorem dX6_play_12 : decode cX6_play 12 = .ok (.invokevirtual 180, 3) := by decide +kernel
theorem dX6_play_15 : decode cX6_play 15 = .ok (.istore_n 1, 1) := by decide +kernel
theorem dX6_play_16 : decode cX6_play 16 = .ok (.aload_n 0, 1) := by decide +kernel
theorem dX6_play_17 : decode cX6_play 17 = .ok (.getfield 16, 3) := by decide +kernel
theorem dX6_play_20 : decode cX6_play 20 = .ok (.aload_n 0, 1) := by decide +kernel
theorem dX6_play_21 : decode cX6_play 21 = .ok (.getfield 7, 3) := by decide +kernel
theorem dX6_play_24 : decode cX6_play 24 = .ok (.invokestatic 114, 3) := by decide +kernel
theorem dX6_play_27 : decode cX6_play 27 = .ok (.iload_n 1, 1) := by decide +kernel
theorem dX6_play_28 : decode cX6_play 28 = .ok (.ifCond .ne 6, 3) := by decide +kernel
theorem dX6_play_31 : decode cX6_play 31 = .ok (.ldc 110, 2) := by decide +kernel
theorem dX6_play_33 : decode cX6_play 33 = .ok (.ireturn, 1) := by decide +kernel
theorem dX6_play_34 : decode cX6_play 34 = .ok (.aload_n 0, 1) := by decide +kernel
theorem dX6_play_35 : decode cX6_play 35 = .ok (.invokevirtual 37, 3) := by decide +kernel
theorem dX6_play_38 : decode cX6_play 38 = .ok (.aload_n 0, 1) := by decide +kernel
theorem dX6_play_39 : decode cX6_play 39 = .ok (.invokevirtual 180, 3) := by decide +kernel
theorem dX6_play_42 : decode cX6_play 42 = .ok (.ifCond .eq 10, 3) := by decide +kernel
theorem dX6_play_45 : decode cX6_play 45 = .ok (.aload_n 0, 1) := by decide +kernel
theorem dX6_play_46 : decode cX6_play 46 = .ok (.getfield 165, 3) := by decide +kernel
theorem dX6_play_49 : decode cX6_play 49 = .ok (.goto 5, 3) := by decide +kernel
theorem dX6_play_52 : decode cX6_play 52 = .ok (.ldc 92, 2) := by decide +kernel
theorem dX6_play_54 : decode cX6_play 54 = .ok (.ireturn, 1) := by decide +kernel
theorem dJxf58ca_isNaN_12338_0 : decode cJxf58ca_isNaN_12338 0 = .ok (.fload_n 0, 1) := by decide +kernel
theorem dJxf58ca_isNaN_12338_1 : decode cJxf58ca_isNaN_12338 1 = .ok (.fload_n 0, 1) := by decide +kernel
theorem dJxf58ca_isNaN_12338_2 : decode cJxf58ca_isNaN_12338 2 = .ok (.fcmp .l, 1) := by decide +kernel
theorem dJxf58ca_isNaN_12338_3 : decode cJxf58ca_isNaN_12338 3 = .ok (.ifCond .eq 7, 3) := by decide +kernel
theorem dJxf58ca_isNaN_12338_6 : decode cJxf58ca_isNaN_12338 6 = .ok (.iconst 1, 1) := by decide +kernel
theorem dJxf58ca_isNaN_12338_7 : decode cJxf58ca_isNaN_12338 7 = .ok (.goto 4, 3) := by decide +kernel
theorem dJxf58ca_isNaN_12338_10 : decode cJxf58ca_isNaN_12338 10 = .ok (.iconst 0, 1) := by decide +kernel
theorem dJxf58ca_isNaN_12338_11 : decode cJxf58ca_isNaN_12338 11 = .ok (.ireturn, 1) := by decide +kernel
theorem dJxf58ca_floatToIntBits_5c35a_0 : decode cJxf58ca_floatToIntBits_5c35a 0 = .ok (.fload_n 0, 1) := by decide +kernel
theorem dJxf58ca_floatToIntBits_5c35a_1 : decode cJxf58ca_floatToIntBits_5c35a 1 = .ok (.invokestatic 59, 3) := by decide +kernel
theorem dJxf58ca_floatToIntBits_5c35a_4 : decode cJxf58ca_floatToIntBits_5c35a 4 = .ok (.ifCond .ne 8, 3) := by decide +kernel
theorem dJxf58ca_floatToIntBits_5c35a_7 : decode cJxf58ca_floatToIntBits_5c35a 7 = .ok (.fload_n 0, 1) := by decide +kernel
theorem dJxf58ca_floatToIntBits_5c35a_8 : decode cJxf58ca_floatToIntBits_5c35a 8 = .ok (.invokestatic 74, 3) := by decide +kernel
theorem dJxf58ca_floatToIntBits_5c35a_11 : decode cJxf58ca_floatToIntBits_5c35a 11 = .ok (.ireturn, 1) := by decide +kernel
theorem dJxf58ca_floatToIntBits_5c35a_12 : decode cJxf58ca_floatToIntBits_5c35a 12 = .ok (.ldc 77, 2) := by decide +kernel
theorem dJxf58ca_floatToIntBits_5c35a_14 : decode cJxf58ca_floatToIntBits_5c35a 14 = .ok (.ireturn, 1) := by decide +kernel
theorem dJ9_floorDiv_7cf53_0 : decode cJ9_floorDiv_7cf53 0 = .ok (.iload_n 0, 1) := by decide +kernel
theorem dJ9_floorDiv_7cf53_1 : decode cJ9_floorDiv_7cf53 1 = .ok (.iload_n 1, 1) := by decide +kernel
theorem dJ9_floorDiv_7cf53_2 : decode cJ9_floorDiv_7cf53 2 = .ok (.idiv, 1) := by decide +kernel
theorem dJ9_floorDiv_7cf53_3 : decode cJ9_floorDiv_7cf53 3 = .ok (.istore_n 2, 1) := by decide +kernel
theorem dJ9_floorDiv_7cf53_4 : decode cJ9_floorDiv_7cf53 4 = .ok (.iload_n 0, 1) := by decide +kernel
theorem dJ9_floorDiv_7cf53_5 : decode cJ9_floorDiv_7cf53 5 = .ok (.iload_n 1, 1) := by decide +kernel
theorem dJ9_floorDiv_7cf53_6 : decode cJ9_floorDiv_7cf53 6 = .ok (.ixor, 1) := by decide +kernel
theorem dJ9_floorDiv_7cf53_7 : decode cJ9_floorDiv_7cf53 7 = .ok (.ifCond .ge 14, 3) := by decide +kernel
theorem dJ9_floorDiv_7cf53_10 : decode cJ9_floorDiv_7cf53 10 = .ok (.iload_n 2, 1) := by decide +kernel
theorem dJ9_floorDiv_7cf53_11 : decode cJ9_floorDiv_7cf53 11 = .ok (.iload_n 1, 1) := by decide +kernel
theorem dJ9_floorDiv_7cf53_12 : decode cJ9_floorDiv_7cf53 12 = .ok (.imul, 1) := by decide +kernel
theorem dJ9_floorDiv_7cf53_13 : decode cJ9_floorDiv_7cf53 13 = .ok (.iload_n 0, 1) := by decide +kernel
theorem dJ9_floorDiv_7cf53_14 : decode cJ9_floorDiv_7cf53 14 = .ok (.if_icmp .eq 7, 3) := by decide +kernel
theorem dJ9_floorDiv_7cf53_17 : decode cJ9_floorDiv_7cf53 17 = .ok (.iload_n 2, 1) := by decide +kernel
theorem dJ9_floorDiv_7cf53_18 : decode cJ9_floorDiv_7cf53 18 = .ok (.iconst 1, 1) := by decide +kernel
theorem dJ9_floorDiv_7cf53_19 : decode cJ9_floorDiv_7cf53 19 = .ok (.isub, 1) := by decide +kernel
theorem dJ9_floorDiv_7cf53_20 : decode cJ9_floorDiv_7cf53 20 = .ok (.ireturn, 1) := by decide +kernel
theorem dJ9_floorDiv_7cf53_21 : decode cJ9_floorDiv_7cf53 21 = .ok (.iload_n 2, 1) := by decide +kernel
theorem dJ9_floorDiv_7cf53_22 : decode cJ9_floorDiv_7cf53 22 = .ok (.ireturn, 1) := by decide +kernel
theorem dJ9_floorMod_7cf53_0 : decode cJ9_floorMod_7cf53 0 = .ok (.iload_n 0, 1) := by decide +kernel
theorem dJ9_floorMod_7cf53_1 : decode cJ9_floorMod_7cf53 1 = .ok (.iload_n 1, 1) := by decide +kernel
theorem dJ9_floorMod_7cf53_2 : decode cJ9_floorMod_7cf53 2 = .ok (.irem, 1) := by decide +kernel
theorem dJ9_floorMod_7cf53_3 : decode cJ9_floorMod_7cf53 3 = .ok (.istore_n 2, 1) := by decide +kernel
theorem dJ9_floorMod_7cf53_4 : decode cJ9_floorMod_7cf53 4 = .ok (.iload_n 0, 1) := by decide +kernel
theorem dJ9_floorMod_7cf53_5 : decode cJ9_floorMod_7cf53 5 = .ok (.iload_n 1, 1) := by decide +kernel
theorem dJ9_floorMod_7cf53_6 : decode cJ9_floorMod_7cf53 6 = .ok (.ixor, 1) := by decide +kernel
theorem dJ9_floorMod_7cf53_7 : decode cJ9_floorMod_7cf53 7 = .ok (.ifCond .ge 11, 3) := by decide +kernel
theorem dJ9_floorMod_7cf53_10 : decode cJ9_floorMod_7cf53 10 = .ok (.iload_n 2, 1) := by decide +kernel
theorem dJ9_floorMod_7cf53_11 : decode cJ9_floorMod_7cf53 11 = .ok (.ifCond .eq 7, 3) := by decide +kernel
theorem dJ9_floorMod_7cf53_14 : decode cJ9_floorMod_7cf53 14 = .ok (.iload_n 2, 1) := by decide +kernel
theorem dJ9_floorMod_7cf53_15 : decode cJ9_floorMod_7cf53 15 = .ok (.iload_n 1, 1) := by decide +kernel
theorem dJ9_floorMod_7cf53_16 : decode cJ9_floorMod_7cf53 16 = .ok (.iadd, 1) := by decide +kernel
theorem dJ9_floorMod_7cf53_17 : decode cJ9_floorMod_7cf53 17 = .ok (.ireturn, 1) := by decide +kernel
theorem dJ9_floorMod_7cf53_18 : decode cJ9_floorMod_7cf53 18 = .ok (.iload_n 2, 1) := by decide +kernel
theorem dJ9_floorMod_7cf53_19 : decode cJ9_floorMod_7cf53 19 = .ok (.ireturn, 1) := by decide +kernel
theorem dJ9_abs_0f7a4_0 : decode cJ9_abs_0f7a4 0 = .ok (.iload_n 0, 1) := by decide +kernel
theorem dJ9_abs_0f7a4_1 : decode cJ9_abs_0f7a4 1 = .ok (.ifCond .ge 8, 3) := by decide +kernel
theorem dJ9_abs_0f7a4_4 : decode cJ9_abs_0f7a4 4 = .ok (.iload_n 0, 1) := by decide +kernel
theorem dJ9_abs_0f7a4_5 : decode cJ9_abs_0f7a4 5 = .ok (.ineg, 1) := by decide +kernel
theorem dJ9_abs_0f7a4_6 : decode cJ9_abs_0f7a4 6 = .ok (.goto 4, 3) := by decide +kernel
theorem dJ9_abs_0f7a4_9 : decode cJ9_abs_0f7a4 9 = .ok (.iload_n 0, 1) := by decide +kernel
theorem dJ9_abs_0f7a4_10 : decode cJ9_abs_0f7a4 10 = .ok (.ireturn, 1) := by decide +kernel
theorem dJ9_max_7cf53_0 : decode cJ9_max_7cf53 0 = .ok (.iload_n 0, 1) := by decide +kernel
theorem dJ9_max_7cf53_1 : decode cJ9_max_7cf53 1 = .ok (.iload_n 1, 1) := by decide +kernel
theorem dJ9_max_7cf53_2 : decode cJ9_max_7cf53 2 = .ok (.if_icmp .lt 7, 3) := by decide +kernel
theorem dJ9_max_7cf53_5 : decode cJ9_max_7cf53 5 = .ok (.iload_n 0, 1) := by decide +kernel
theorem dJ9_max_7cf53_6 : decode cJ9_max_7cf53 6 = .ok (.goto 4, 3) := by decide +kernel
theorem dJ9_max_7cf53_9 : decode cJ9_max_7cf53 9 = .ok (.iload_n 1, 1) := by decide +kernel
theorem dJ9_max_7cf53_10 : decode cJ9_max_7cf53 10 = .ok (.ireturn, 1) := by decide +kernel
theorem dJ9_min_7cf53_0 : decode cJ9_min_7cf53 0 = .ok (.iload_n 0, 1) := by decide +kernel
theorem dJ9_min_7cf53_1 : decode cJ9_min_7cf53 1 = .ok (.iload_n 1, 1) := by decide +kernel
theorem dJ9_min_7cf53_2 : decode cJ9_min_7cf53 2 = .ok (.if_icmp .gt 7, 3) := by decide +kernel
theorem dJ9_min_7cf53_5 : decode cJ9_min_7cf53 5 = .ok (.iload_n 0, 1) := by decide +kernel
theorem dJ9_min_7cf53_6 : decode cJ9_min_7cf53 6 = .ok (.goto 4, 3) := by decide +kernel
theorem dJ9_min_7cf53_9 : decode cJ9_min_7cf53 9 = .ok (.iload_n 1, 1) := by decide +kernel
theorem dJ9_min_7cf53_10 : decode cJ9_min_7cf53 10 = .ok (.ireturn, 1) := by decide +kernel
theorem dL_law_0 : decode cL_law 0 = .ok (.new 7, 3) := by decide +kernel
theorem dL_law_3 : decode cL_law 3 = .ok (.dup, 1) := by decide +kernel
theorem dL_law_4 : decode cL_law 4 = .ok (.invokespecial 9, 3) := by decide +kernel
theorem dL_law_7 : decode cL_law 7 = .ok (.astore_n 1, 1) := by decide +kernel
theorem dL_law_8 : decode cL_law 8 = .ok (.new 10, 3) := by decide +kernel
theorem dL_law_11 : decode cL_law 11 = .ok (.dup, 1) := by decide +kernel
theorem dL_law_12 : decode cL_law 12 = .ok (.invokespecial 12, 3) := by decide +kernel
theorem dL_law_15 : decode cL_law 15 = .ok (.astore_n 2, 1) := by decide +kernel
theorem dL_law_16 : decode cL_law 16 = .ok (.iconst 0, 1) := by decide +kernel
theorem dL_law_17 : decode cL_law 17 = .ok (.istore_n 3, 1) := by decide +kernel
theorem dL_law_18 : decode cL_law 18 = .ok (.iload_n 3, 1) := by decide +kernel
theorem dL_law_19 : decode cL_law 19 = .ok (.aload_n 0, 1) := by decide +kernel
theorem dL_law_20 : decode cL_law 20 = .ok (.arraylength, 1) := by decide +kernel
theorem dL_law_21 : decode cL_law 21 = .ok (.iconst 3, 1) := by decide +kernel
theorem dL_law_22 : decode cL_law 22 = .ok (.isub, 1) := by decide +kernel
theorem dL_law_23 : decode cL_law 23 = .ok (.if_icmp .gt 662, 3) := by decide +kernel
theorem dL_law_26 : decode cL_law 26 = .ok (.aload_n 0, 1) := by decide +kernel
theorem dL_law_27 : decode cL_law 27 = .ok (.iload_n 3, 1) := by decide +kernel
theorem dL_law_28 : decode cL_law 28 = .ok (.iaload, 1) := by decide +kernel
theorem dL_law_29 : decode cL_law 29 = .ok (.bipush 31, 2) := by decide +kernel
theorem dL_law_31 : decode cL_law 31 = .ok (.iand, 1) := by decide +kernel
theorem dL_law_32 : decode cL_law 32 = .ok (.tableswitch 647 0 22 #[108, 131, 154, 177, 210, 233, 256, 289, 312, 335, 368, 391, 424, 447, 480, 513, 526, 539, 562, 575, 598, 611, 634], 108) := by decide +kernel
theorem dL_law_140 : decode cL_law 140 = .ok (.aload_n 1, 1) := by decide +kernel
theorem dL_law_141 : decode cL_law 141 = .ok (.aload_n 0, 1) := by decide +kernel
theorem dL_law_142 : decode cL_law 142 = .ok (.iload_n 3, 1) := by decide +kernel
theorem dL_law_143 : decode cL_law 143 = .ok (.iconst 1, 1) := by decide +kernel
theorem dL_law_144 : decode cL_law 144 = .ok (.iadd, 1) := by decide +kernel
theorem dL_law_145 : decode cL_law 145 = .ok (.iaload, 1) := by decide +kernel
theorem dL_law_146 : decode cL_law 146 = .ok (.invokevirtual 13, 3) := by decide +kernel
theorem dL_law_149 : decode cL_law 149 = .ok (.aload_n 2, 1) := by decide +kernel
theorem dL_law_150 : decode cL_law 150 = .ok (.aload_n 0, 1) := by decide +kernel
theorem dL_law_151 : decode cL_law 151 = .ok (.iload_n 3, 1) := by decide +kernel
theorem dL_law_152 : decode cL_law 152 = .ok (.iconst 1, 1) := by decide +kernel
theorem dL_law_153 : decode cL_law 153 = .ok (.iadd, 1) := by decide +kernel
theorem dL_law_154 : decode cL_law 154 = .ok (.iaload, 1) := by decide +kernel
theorem dL_law_155 : decode cL_law 155 = .ok (.invokevirtual 17, 3) := by decide +kernel
theorem dL_law_158 : decode cL_law 158 = .ok (.if_icmp .eq 521, 3) := by decide +kernel
theorem dL_law_161 : decode cL_law 161 = .ok (.iconst 0, 1) := by decide +kernel
theorem dL_law_162 : decode cL_law 162 = .ok (.ireturn, 1) := by decide +kernel
theorem dL_law_163 : decode cL_law 163 = .ok (.aload_n 1, 1) := by decide +kernel
theorem dL_law_164 : decode cL_law 164 = .ok (.aload_n 0, 1) := by decide +kernel
theorem dL_law_165 : decode cL_law 165 = .ok (.iload_n 3, 1) := by decide +kernel
theorem dL_law_166 : decode cL_law 166 = .ok (.iconst 1, 1) := by decide +kernel
theorem dL_law_167 : decode cL_law 167 = .ok (.iadd, 1) := by decide +kernel
theorem dL_law_168 : decode cL_law 168 = .ok (.iaload, 1) := by decide +kernel
theorem dL_law_169 : decode cL_law 169 = .ok (.invokevirtual 18, 3) := by decide +kernel
theorem dL_law_172 : decode cL_law 172 = .ok (.aload_n 2, 1) := by decide +kernel
theorem dL_law_173 : decode cL_law 173 = .ok (.aload_n 0, 1) := by decide +kernel
theorem dL_law_174 : decode cL_law 174 = .ok (.iload_n 3, 1) := by decide +kernel
theorem dL_law_175 : decode cL_law 175 = .ok (.iconst 1, 1) := by decide +kernel
theorem dL_law_176 : decode cL_law 176 = .ok (.iadd, 1) := by decide +kernel
theorem dL_law_177 : decode cL_law 177 = .ok (.iaload, 1) := by decide +kernel
theorem dL_law_178 : decode cL_law 178 = .ok (.invokevirtual 21, 3) := by decide +kernel
theorem dL_law_181 : decode cL_law 181 = .ok (.if_icmp .eq 498, 3) := by decide +kernel
theorem dL_law_184 : decode cL_law 184 = .ok (.iconst 0, 1) := by decide +kernel
theorem dL_law_185 : decode cL_law 185 = .ok (.ireturn, 1) := by decide +kernel
theorem dL_law_186 : decode cL_law 186 = .ok (.aload_n 1, 1) := by decide +kernel
theorem dL_law_187 : decode cL_law 187 = .ok (.aload_n 0, 1) := by decide +kernel
theorem dL_law_188 : decode cL_law 188 = .ok (.iload_n 3, 1) := by decide +kernel
theorem dL_law_189 : decode cL_law 189 = .ok (.iconst 1, 1) := by decide +kernel
theorem dL_law_190 : decode cL_law 190 = .ok (.iadd, 1) := by decide +kernel
theorem dL_law_191 : decode cL_law 191 = .ok (.iaload, 1) := by decide +kernel
theorem dL_law_192 : decode cL_law 192 = .ok (.invokevirtual 22, 3) := by decide +kernel
theorem dL_law_195 : decode cL_law 195 = .ok (.aload_n 2, 1) := by decide +kernel
theorem dL_law_196 : decode cL_law 196 = .ok (.aload_n 0, 1) := by decide +kernel
theorem dL_law_197 : decode cL_law 197 = .ok (.iload_n 3, 1) := by decide +kernel
theorem dL_law_198 : decode cL_law 198 = .ok (.iconst 1, 1) := by decide +kernel
theorem dL_law_199 : decode cL_law 199 = .ok (.iadd, 1) := by decide +kernel
theorem dL_law_200 : decode cL_law 200 = .ok (.iaload, 1) := by decide +kernel
theorem dL_law_201 : decode cL_law 201 = .ok (.invokevirtual 25, 3) := by decide +kernel
theorem dL_law_204 : decode cL_law 204 = .ok (.if_icmp .eq 475, 3) := by decide +kernel
theorem dL_law_207 : decode cL_law 207 = .ok (.iconst 0, 1) := by decide +kernel
theorem dL_law_208 : decode cL_law 208 = .ok (.ireturn, 1) := by decide +kernel
theorem dL_law_209 : decode cL_law 209 = .ok (.aload_n 1, 1) := by decide +kernel
theorem dL_law_210 : decode cL_law 210 = .ok (.aload_n 0, 1) := by decide +kernel
theorem dL_law_211 : decode cL_law 211 = .ok (.iload_n 3, 1) := by decide +kernel
theorem dL_law_212 : decode cL_law 212 = .ok (.iconst 1, 1) := by decide +kernel
theorem dL_law_213 : decode cL_law 213 = .ok (.iadd, 1) := by decide +kernel
theorem dL_law_214 : decode cL_law 214 = .ok (.iaload, 1) := by decide +kernel
theorem dL_law_215 : decode cL_law 215 = .ok (.aload_n 0, 1) := by decide +kernel
theorem dL_law_216 : decode cL_law 216 = .ok (.iload_n 3, 1) := by decide +kernel
theorem dL_law_217 : decode cL_law 217 = .ok (.iconst 2, 1) := by decide +kernel
theorem dL_law_218 : decode cL_law 218 = .ok (.iadd, 1) := by decide +kernel
theorem dL_law_219 : decode cL_law 219 = .ok (.iaload, 1) := by decide +kernel
theorem dL_law_220 : decode cL_law 220 = .ok (.invokevirtual 26, 3) := by decide +kernel
theorem dL_law_223 : decode cL_law 223 = .ok (.aload_n 2, 1) := by decide +kernel
theorem dL_law_224 : decode cL_law 224 = .ok (.aload_n 0, 1) := by decide +kernel
theorem dL_law_225 : decode cL_law 225 = .ok (.iload_n 3, 1) := by decide +kernel
theorem dL_law_226 : decode cL_law 226 = .ok (.iconst 1, 1) := by decide +kernel
theorem dL_law_227 : decode cL_law 227 = .ok (.iadd, 1) := by decide +kernel
theorem dL_law_228 : decode cL_law 228 = .ok (.iaload, 1) := by decide +kernel
theorem dL_law_229 : decode cL_law 229 = .ok (.aload_n 0, 1) := by decide +kernel
theorem dL_law_230 : decode cL_law 230 = .ok (.iload_n 3, 1) := by decide +kernel
theorem dL_law_231 : decode cL_law 231 = .ok (.iconst 2, 1) := by decide +kernel
theorem dL_law_232 : decode cL_law 232 = .ok (.iadd, 1) := by decide +kernel
theorem dL_law_233 : decode cL_law 233 = .ok (.iaload, 1) := by decide +kernel
theorem dL_law_234 : decode cL_law 234 = .ok (.invokevirtual 30, 3) := by decide +kernel
theorem dL_law_237 : decode cL_law 237 = .ok (.if_icmp .eq 442, 3) := by decide +kernel
theorem dL_law_240 : decode cL_law 240 = .ok (.iconst 0, 1) := by decide +kernel
theorem dL_law_241 : decode cL_law 241 = .ok (.ireturn, 1) := by decide +kernel
theorem dL_law_242 : decode cL_law 242 = .ok (.aload_n 1, 1) := by decide +kernel
theorem dL_law_243 : decode cL_law 243 = .ok (.aload_n 0, 1) := by decide +kernel
theorem dL_law_244 : decode cL_law 244 = .ok (.iload_n 3, 1) := by decide +kernel
theorem dL_law_245 : decode cL_law 245 = .ok (.iconst 1, 1) := by decide +kernel
theorem dL_law_246 : decode cL_law 246 = .ok (.iadd, 1) := by decide +kernel
theorem dL_law_247 : decode cL_law 247 = .ok (.iaload, 1) := by decide +kernel
theorem dL_law_248 : decode cL_law 248 = .ok (.invokevirtual 31, 3) := by decide +kernel
theorem dL_law_251 : decode cL_law 251 = .ok (.aload_n 2, 1) := by decide +kernel
theorem dL_law_252 : decode cL_law 252 = .ok (.aload_n 0, 1) := by decide +kernel
theorem dL_law_253 : decode cL_law 253 = .ok (.iload_n 3, 1) := by decide +kernel
theorem dL_law_254 : decode cL_law 254 = .ok (.iconst 1, 1) := by decide +kernel
theorem dL_law_255 : decode cL_law 255 = .ok (.iadd, 1) := by decide +kernel
theorem dL_law_256 : decode cL_law 256 = .ok (.iaload, 1) := by decide +kernel
theorem dL_law_257 : decode cL_law 257 = .ok (.invokevirtual 34, 3) := by decide +kernel
theorem dL_law_260 : decode cL_law 260 = .ok (.if_icmp .eq 419, 3) := by decide +kernel
theorem dL_law_263 : decode cL_law 263 = .ok (.iconst 0, 1) := by decide +kernel
theorem dL_law_264 : decode cL_law 264 = .ok (.ireturn, 1) := by decide +kernel
theorem dL_law_265 : decode cL_law 265 = .ok (.aload_n 1, 1) := by decide +kernel
theorem dL_law_266 : decode cL_law 266 = .ok (.aload_n 0, 1) := by decide +kernel
theorem dL_law_267 : decode cL_law 267 = .ok (.iload_n 3, 1) := by decide +kernel
theorem dL_law_268 : decode cL_law 268 = .ok (.iconst 1, 1) := by decide +kernel
theorem dL_law_269 : decode cL_law 269 = .ok (.iadd, 1) := by decide +kernel
theorem dL_law_270 : decode cL_law 270 = .ok (.iaload, 1) := by decide +kernel
theorem dL_law_271 : decode cL_law 271 = .ok (.invokevirtual 35, 3) := by decide +kernel
theorem dL_law_274 : decode cL_law 274 = .ok (.aload_n 2, 1) := by decide +kernel
theorem dL_law_275 : decode cL_law 275 = .ok (.aload_n 0, 1) := by decide +kernel
theorem dL_law_276 : decode cL_law 276 = .ok (.iload_n 3, 1) := by decide +kernel
theorem dL_law_277 : decode cL_law 277 = .ok (.iconst 1, 1) := by decide +kernel
theorem dL_law_278 : decode cL_law 278 = .ok (.iadd, 1) := by decide +kernel
theorem dL_law_279 : decode cL_law 279 = .ok (.iaload, 1) := by decide +kernel
theorem dL_law_280 : decode cL_law 280 = .ok (.invokevirtual 38, 3) := by decide +kernel
theorem dL_law_283 : decode cL_law 283 = .ok (.if_icmp .eq 396, 3) := by decide +kernel
theorem dL_law_286 : decode cL_law 286 = .ok (.iconst 0, 1) := by decide +kernel
theorem dL_law_287 : decode cL_law 287 = .ok (.ireturn, 1) := by decide +kernel
theorem dL_law_288 : decode cL_law 288 = .ok (.aload_n 1, 1) := by decide +kernel
theorem dL_law_289 : decode cL_law 289 = .ok (.aload_n 0, 1) := by decide +kernel
theorem dL_law_290 : decode cL_law 290 = .ok (.iload_n 3, 1) := by decide +kernel
theorem dL_law_291 : decode cL_law 291 = .ok (.iconst 1, 1) := by decide +kernel
theorem dL_law_292 : decode cL_law 292 = .ok (.iadd, 1) := by decide +kernel
theorem dL_law_293 : decode cL_law 293 = .ok (.iaload, 1) := by decide +kernel
theorem dL_law_294 : decode cL_law 294 = .ok (.aload_n 0, 1) := by decide +kernel
theorem dL_law_295 : decode cL_law 295 = .ok (.iload_n 3, 1) := by decide +kernel
theorem dL_law_296 : decode cL_law 296 = .ok (.iconst 2, 1) := by decide +kernel
theorem dL_law_297 : decode cL_law 297 = .ok (.iadd, 1) := by decide +kernel
theorem dL_law_298 : decode cL_law 298 = .ok (.iaload, 1) := by decide +kernel
theorem dL_law_299 : decode cL_law 299 = .ok (.invokevirtual 39, 3) := by decide +kernel
theorem dL_law_302 : decode cL_law 302 = .ok (.aload_n 2, 1) := by decide +kernel
theorem dL_law_303 : decode cL_law 303 = .ok (.aload_n 0, 1) := by decide +kernel
theorem dL_law_304 : decode cL_law 304 = .ok (.iload_n 3, 1) := by decide +kernel
theorem dL_law_305 : decode cL_law 305 = .ok (.iconst 1, 1) := by decide +kernel
theorem dL_law_306 : decode cL_law 306 = .ok (.iadd, 1) := by decide +kernel
theorem dL_law_307 : decode cL_law 307 = .ok (.iaload, 1) := by decide +kernel
theorem dL_law_308 : decode cL_law 308 = .ok (.aload_n 0, 1) := by decide +kernel
theorem dL_law_309 : decode cL_law 309 = .ok (.iload_n 3, 1) := by decide +kernel
theorem dL_law_310 : decode cL_law 310 = .ok (.iconst 2, 1) := by decide +kernel
theorem dL_law_311 : decode cL_law 311 = .ok (.iadd, 1) := by decide +kernel
theorem dL_law_312 : decode cL_law 312 = .ok (.iaload, 1) := by decide +kernel
theorem dL_law_313 : decode cL_law 313 = .ok (.invokevirtual 42, 3) := by decide +kernel
theorem dL_law_316 : decode cL_law 316 = .ok (.if_icmp .eq 363, 3) := by decide +kernel
theorem dL_law_319 : decode cL_law 319 = .ok (.iconst 0, 1) := by decide +kernel
theorem dL_law_320 : decode cL_law 320 = .ok (.ireturn, 1) := by decide +kernel
theorem dL_law_321 : decode cL_law 321 = .ok (.aload_n 1, 1) := by decide +kernel
theorem dL_law_322 : decode cL_law 322 = .ok (.aload_n 0, 1) := by decide +kernel
theorem dL_law_323 : decode cL_law 323 = .ok (.iload_n 3, 1) := by decide +kernel
theorem dL_law_324 : decode cL_law 324 = .ok (.iconst 1, 1) := by decide +kernel
theorem dL_law_325 : decode cL_law 325 = .ok (.iadd, 1) := by decide +kernel
theorem dL_law_326 : decode cL_law 326 = .ok (.iaload, 1) := by decide +kernel
theorem dL_law_327 : decode cL_law 327 = .ok (.invokevirtual 43, 3) := by decide +kernel
theorem dL_law_330 : decode cL_law 330 = .ok (.aload_n 2, 1) := by decide +kernel
theorem dL_law_331 : decode cL_law 331 = .ok (.aload_n 0, 1) := by decide +kernel
theorem dL_law_332 : decode cL_law 332 = .ok (.iload_n 3, 1) := by decide +kernel
theorem dL_law_333 : decode cL_law 333 = .ok (.iconst 1, 1) := by decide +kernel
theorem dL_law_334 : decode cL_law 334 = .ok (.iadd, 1) := by decide +kernel
theorem dL_law_335 : decode cL_law 335 = .ok (.iaload, 1) := by decide +kernel
theorem dL_law_336 : decode cL_law 336 = .ok (.invokevirtual 46, 3) := by decide +kernel
theorem dL_law_339 : decode cL_law 339 = .ok (.if_icmp .eq 340, 3) := by decide +kernel
theorem dL_law_342 : decode cL_law 342 = .ok (.iconst 0, 1) := by decide +kernel
theorem dL_law_343 : decode cL_law 343 = .ok (.ireturn, 1) := by decide +kernel
theorem dL_law_344 : decode cL_law 344 = .ok (.aload_n 1, 1) := by decide +kernel
theorem dL_law_345 : decode cL_law 345 = .ok (.aload_n 0, 1) := by decide +kernel
theorem dL_law_346 : decode cL_law 346 = .ok (.iload_n 3, 1) := by decide +kernel
theorem dL_law_347 : decode cL_law 347 = .ok (.iconst 1, 1) := by decide +kernel
theorem dL_law_348 : decode cL_law 348 = .ok (.iadd, 1) := by decide +kernel
theorem dL_law_349 : decode cL_law 349 = .ok (.iaload, 1) := by decide +kernel
theorem dL_law_350 : decode cL_law 350 = .ok (.invokevirtual 47, 3) := by decide +kernel
theorem dL_law_353 : decode cL_law 353 = .ok (.aload_n 2, 1) := by decide +kernel
theorem dL_law_354 : decode cL_law 354 = .ok (.aload_n 0, 1) := by decide +kernel
theorem dL_law_355 : decode cL_law 355 = .ok (.iload_n 3, 1) := by decide +kernel
theorem dL_law_356 : decode cL_law 356 = .ok (.iconst 1, 1) := by decide +kernel
theorem dL_law_357 : decode cL_law 357 = .ok (.iadd, 1) := by decide +kernel
theorem dL_law_358 : decode cL_law 358 = .ok (.iaload, 1) := by decide +kernel
theorem dL_law_359 : decode cL_law 359 = .ok (.invokevirtual 50, 3) := by decide +kernel
theorem dL_law_362 : decode cL_law 362 = .ok (.if_icmp .eq 317, 3) := by decide +kernel
theorem dL_law_365 : decode cL_law 365 = .ok (.iconst 0, 1) := by decide +kernel
theorem dL_law_366 : decode cL_law 366 = .ok (.ireturn, 1) := by decide +kernel
theorem dL_law_367 : decode cL_law 367 = .ok (.aload_n 1, 1) := by decide +kernel
theorem dL_law_368 : decode cL_law 368 = .ok (.aload_n 0, 1) := by decide +kernel
theorem dL_law_369 : decode cL_law 369 = .ok (.iload_n 3, 1) := by decide +kernel
theorem dL_law_370 : decode cL_law 370 = .ok (.iconst 1, 1) := by decide +kernel
theorem dL_law_371 : decode cL_law 371 = .ok (.iadd, 1) := by decide +kernel
theorem dL_law_372 : decode cL_law 372 = .ok (.iaload, 1) := by decide +kernel
theorem dL_law_373 : decode cL_law 373 = .ok (.aload_n 0, 1) := by decide +kernel
theorem dL_law_374 : decode cL_law 374 = .ok (.iload_n 3, 1) := by decide +kernel
theorem dL_law_375 : decode cL_law 375 = .ok (.iconst 2, 1) := by decide +kernel
theorem dL_law_376 : decode cL_law 376 = .ok (.iadd, 1) := by decide +kernel
theorem dL_law_377 : decode cL_law 377 = .ok (.iaload, 1) := by decide +kernel
theorem dL_law_378 : decode cL_law 378 = .ok (.invokevirtual 51, 3) := by decide +kernel
theorem dL_law_381 : decode cL_law 381 = .ok (.aload_n 2, 1) := by decide +kernel
theorem dL_law_382 : decode cL_law 382 = .ok (.aload_n 0, 1) := by decide +kernel
theorem dL_law_383 : decode cL_law 383 = .ok (.iload_n 3, 1) := by decide +kernel
theorem dL_law_384 : decode cL_law 384 = .ok (.iconst 1, 1) := by decide +kernel
theorem dL_law_385 : decode cL_law 385 = .ok (.iadd, 1) := by decide +kernel
theorem dL_law_386 : decode cL_law 386 = .ok (.iaload, 1) := by decide +kernel
theorem dL_law_387 : decode cL_law 387 = .ok (.aload_n 0, 1) := by decide +kernel
theorem dL_law_388 : decode cL_law 388 = .ok (.iload_n 3, 1) := by decide +kernel
theorem dL_law_389 : decode cL_law 389 = .ok (.iconst 2, 1) := by decide +kernel
theorem dL_law_390 : decode cL_law 390 = .ok (.iadd, 1) := by decide +kernel
theorem dL_law_391 : decode cL_law 391 = .ok (.iaload, 1) := by decide +kernel
theorem dL_law_392 : decode cL_law 392 = .ok (.invokevirtual 54, 3) := by decide +kernel
theorem dL_law_395 : decode cL_law 395 = .ok (.if_icmp .eq 284, 3) := by decide +kernel
theorem dL_law_398 : decode cL_law 398 = .ok (.iconst 0, 1) := by decide +kernel
theorem dL_law_399 : decode cL_law 399 = .ok (.ireturn, 1) := by decide +kernel
theorem dL_law_400 : decode cL_law 400 = .ok (.aload_n 1, 1) := by decide +kernel
theorem dL_law_401 : decode cL_law 401 = .ok (.aload_n 0, 1) := by decide +kernel
theorem dL_law_402 : decode cL_law 402 = .ok (.iload_n 3, 1) := by decide +kernel
theorem dL_law_403 : decode cL_law 403 = .ok (.iconst 1, 1) := by decide +kernel
theorem dL_law_404 : decode cL_law 404 = .ok (.iadd, 1) := by decide +kernel
theorem dL_law_405 : decode cL_law 405 = .ok (.iaload, 1) := by decide +kernel
theorem dL_law_406 : decode cL_law 406 = .ok (.invokevirtual 55, 3) := by decide +kernel
theorem dL_law_409 : decode cL_law 409 = .ok (.aload_n 2, 1) := by decide +kernel
theorem dL_law_410 : decode cL_law 410 = .ok (.aload_n 0, 1) := by decide +kernel
theorem dL_law_411 : decode cL_law 411 = .ok (.iload_n 3, 1) := by decide +kernel
theorem dL_law_412 : decode cL_law 412 = .ok (.iconst 1, 1) := by decide +kernel
theorem dL_law_413 : decode cL_law 413 = .ok (.iadd, 1) := by decide +kernel
theorem dL_law_414 : decode cL_law 414 = .ok (.iaload, 1) := by decide +kernel
theorem dL_law_415 : decode cL_law 415 = .ok (.invokevirtual 58, 3) := by decide +kernel
theorem dL_law_418 : decode cL_law 418 = .ok (.if_icmp .eq 261, 3) := by decide +kernel
theorem dL_law_421 : decode cL_law 421 = .ok (.iconst 0, 1) := by decide +kernel
theorem dL_law_422 : decode cL_law 422 = .ok (.ireturn, 1) := by decide +kernel
theorem dL_law_423 : decode cL_law 423 = .ok (.aload_n 1, 1) := by decide +kernel
theorem dL_law_424 : decode cL_law 424 = .ok (.aload_n 0, 1) := by decide +kernel
theorem dL_law_425 : decode cL_law 425 = .ok (.iload_n 3, 1) := by decide +kernel
theorem dL_law_426 : decode cL_law 426 = .ok (.iconst 1, 1) := by decide +kernel
theorem dL_law_427 : decode cL_law 427 = .ok (.iadd, 1) := by decide +kernel
theorem dL_law_428 : decode cL_law 428 = .ok (.iaload, 1) := by decide +kernel
theorem dL_law_429 : decode cL_law 429 = .ok (.aload_n 0, 1) := by decide +kernel
theorem dL_law_430 : decode cL_law 430 = .ok (.iload_n 3, 1) := by decide +kernel
theorem dL_law_431 : decode cL_law 431 = .ok (.iconst 2, 1) := by decide +kernel
theorem dL_law_432 : decode cL_law 432 = .ok (.iadd, 1) := by decide +kernel
theorem dL_law_433 : decode cL_law 433 = .ok (.iaload, 1) := by decide +kernel
theorem dL_law_434 : decode cL_law 434 = .ok (.invokevirtual 59, 3) := by decide +kernel
theorem dL_law_437 : decode cL_law 437 = .ok (.aload_n 2, 1) := by decide +kernel
theorem dL_law_438 : decode cL_law 438 = .ok (.aload_n 0, 1) := by decide +kernel
theorem dL_law_439 : decode cL_law 439 = .ok (.iload_n 3, 1) := by decide +kernel
theorem dL_law_440 : decode cL_law 440 = .ok (.iconst 1, 1) := by decide +kernel
theorem dL_law_441 : decode cL_law 441 = .ok (.iadd, 1) := by decide +kernel
theorem dL_law_442 : decode cL_law 442 = .ok (.iaload, 1) := by decide +kernel
theorem dL_law_443 : decode cL_law 443 = .ok (.aload_n 0, 1) := by decide +kernel
theorem dL_law_444 : decode cL_law 444 = .ok (.iload_n 3, 1) := by decide +kernel
theorem dL_law_445 : decode cL_law 445 = .ok (.iconst 2, 1) := by decide +kernel
theorem dL_law_446 : decode cL_law 446 = .ok (.iadd, 1) := by decide +kernel
theorem dL_law_447 : decode cL_law 447 = .ok (.iaload, 1) := by decide +kernel
theorem dL_law_448 : decode cL_law 448 = .ok (.invokevirtual 62, 3) := by decide +kernel
theorem dL_law_451 : decode cL_law 451 = .ok (.if_icmp .eq 228, 3) := by decide +kernel
theorem dL_law_454 : decode cL_law 454 = .ok (.iconst 0, 1) := by decide +kernel
theorem dL_law_455 : decode cL_law 455 = .ok (.ireturn, 1) := by decide +kernel
theorem dL_law_456 : decode cL_law 456 = .ok (.aload_n 1, 1) := by decide +kernel
theorem dL_law_457 : decode cL_law 457 = .ok (.aload_n 0, 1) := by decide +kernel
theorem dL_law_458 : decode cL_law 458 = .ok (.iload_n 3, 1) := by decide +kernel
theorem dL_law_459 : decode cL_law 459 = .ok (.iconst 1, 1) := by decide +kernel
theorem dL_law_460 : decode cL_law 460 = .ok (.iadd, 1) := by decide +kernel
theorem dL_law_461 : decode cL_law 461 = .ok (.iaload, 1) := by decide +kernel
theorem dL_law_462 : decode cL_law 462 = .ok (.invokevirtual 63, 3) := by decide +kernel
theorem dL_law_465 : decode cL_law 465 = .ok (.aload_n 2, 1) := by decide +kernel
theorem dL_law_466 : decode cL_law 466 = .ok (.aload_n 0, 1) := by decide +kernel
theorem dL_law_467 : decode cL_law 467 = .ok (.iload_n 3, 1) := by decide +kernel
theorem dL_law_468 : decode cL_law 468 = .ok (.iconst 1, 1) := by decide +kernel
theorem dL_law_469 : decode cL_law 469 = .ok (.iadd, 1) := by decide +kernel
theorem dL_law_470 : decode cL_law 470 = .ok (.iaload, 1) := by decide +kernel
theorem dL_law_471 : decode cL_law 471 = .ok (.invokevirtual 66, 3) := by decide +kernel
theorem dL_law_474 : decode cL_law 474 = .ok (.if_icmp .eq 205, 3) := by decide +kernel
theorem dL_law_477 : decode cL_law 477 = .ok (.iconst 0, 1) := by decide +kernel
theorem dL_law_478 : decode cL_law 478 = .ok (.ireturn, 1) := by decide +kernel
theorem dL_law_479 : decode cL_law 479 = .ok (.aload_n 1, 1) := by decide +kernel
theorem dL_law_480 : decode cL_law 480 = .ok (.aload_n 0, 1) := by decide +kernel
theorem dL_law_481 : decode cL_law 481 = .ok (.iload_n 3, 1) := by decide +kernel
theorem dL_law_482 : decode cL_law 482 = .ok (.iconst 1, 1) := by decide +kernel
theorem dL_law_483 : decode cL_law 483 = .ok (.iadd, 1) := by decide +kernel
theorem dL_law_484 : decode cL_law 484 = .ok (.iaload, 1) := by decide +kernel
theorem dL_law_485 : decode cL_law 485 = .ok (.aload_n 0, 1) := by decide +kernel
theorem dL_law_486 : decode cL_law 486 = .ok (.iload_n 3, 1) := by decide +kernel
theorem dL_law_487 : decode cL_law 487 = .ok (.iconst 2, 1) := by decide +kernel
theorem dL_law_488 : decode cL_law 488 = .ok (.iadd, 1) := by decide +kernel
theorem dL_law_489 : decode cL_law 489 = .ok (.iaload, 1) := by decide +kernel
theorem dL_law_490 : decode cL_law 490 = .ok (.invokevirtual 67, 3) := by decide +kernel
theorem dL_law_493 : decode cL_law 493 = .ok (.aload_n 2, 1) := by decide +kernel
theorem dL_law_494 : decode cL_law 494 = .ok (.aload_n 0, 1) := by decide +kernel
theorem dL_law_495 : decode cL_law 495 = .ok (.iload_n 3, 1) := by decide +kernel
theorem dL_law_496 : decode cL_law 496 = .ok (.iconst 1, 1) := by decide +kernel
theorem dL_law_497 : decode cL_law 497 = .ok (.iadd, 1) := by decide +kernel
theorem dL_law_498 : decode cL_law 498 = .ok (.iaload, 1) := by decide +kernel
theorem dL_law_499 : decode cL_law 499 = .ok (.aload_n 0, 1) := by decide +kernel
theorem dL_law_500 : decode cL_law 500 = .ok (.iload_n 3, 1) := by decide +kernel
theorem dL_law_501 : decode cL_law 501 = .ok (.iconst 2, 1) := by decide +kernel
theorem dL_law_502 : decode cL_law 502 = .ok (.iadd, 1) := by decide +kernel
theorem dL_law_503 : decode cL_law 503 = .ok (.iaload, 1) := by decide +kernel
theorem dL_law_504 : decode cL_law 504 = .ok (.invokevirtual 70, 3) := by decide +kernel
theorem dL_law_507 : decode cL_law 507 = .ok (.if_icmp .eq 172, 3) := by decide +kernel
theorem dL_law_510 : decode cL_law 510 = .ok (.iconst 0, 1) := by decide +kernel
theorem dL_law_511 : decode cL_law 511 = .ok (.ireturn, 1) := by decide +kernel
theorem dL_law_512 : decode cL_law 512 = .ok (.aload_n 1, 1) := by decide +kernel
theorem dL_law_513 : decode cL_law 513 = .ok (.aload_n 0, 1) := by decide +kernel
theorem dL_law_514 : decode cL_law 514 = .ok (.iload_n 3, 1) := by decide +kernel
theorem dL_law_515 : decode cL_law 515 = .ok (.iconst 1, 1) := by decide +kernel
theorem dL_law_516 : decode cL_law 516 = .ok (.iadd, 1) := by decide +kernel
theorem dL_law_517 : decode cL_law 517 = .ok (.iaload, 1) := by decide +kernel
theorem dL_law_518 : decode cL_law 518 = .ok (.aload_n 0, 1) := by decide +kernel
theorem dL_law_519 : decode cL_law 519 = .ok (.iload_n 3, 1) := by decide +kernel
theorem dL_law_520 : decode cL_law 520 = .ok (.iconst 2, 1) := by decide +kernel
theorem dL_law_521 : decode cL_law 521 = .ok (.iadd, 1) := by decide +kernel
theorem dL_law_522 : decode cL_law 522 = .ok (.iaload, 1) := by decide +kernel
theorem dL_law_523 : decode cL_law 523 = .ok (.invokevirtual 71, 3) := by decide +kernel
theorem dL_law_526 : decode cL_law 526 = .ok (.aload_n 2, 1) := by decide +kernel
theorem dL_law_527 : decode cL_law 527 = .ok (.aload_n 0, 1) := by decide +kernel
theorem dL_law_528 : decode cL_law 528 = .ok (.iload_n 3, 1) := by decide +kernel
theorem dL_law_529 : decode cL_law 529 = .ok (.iconst 1, 1) := by decide +kernel
theorem dL_law_530 : decode cL_law 530 = .ok (.iadd, 1) := by decide +kernel
theorem dL_law_531 : decode cL_law 531 = .ok (.iaload, 1) := by decide +kernel
theorem dL_law_532 : decode cL_law 532 = .ok (.aload_n 0, 1) := by decide +kernel
theorem dL_law_533 : decode cL_law 533 = .ok (.iload_n 3, 1) := by decide +kernel
theorem dL_law_534 : decode cL_law 534 = .ok (.iconst 2, 1) := by decide +kernel
theorem dL_law_535 : decode cL_law 535 = .ok (.iadd, 1) := by decide +kernel
theorem dL_law_536 : decode cL_law 536 = .ok (.iaload, 1) := by decide +kernel
theorem dL_law_537 : decode cL_law 537 = .ok (.invokevirtual 74, 3) := by decide +kernel
theorem dL_law_540 : decode cL_law 540 = .ok (.if_icmp .eq 139, 3) := by decide +kernel
theorem dL_law_543 : decode cL_law 543 = .ok (.iconst 0, 1) := by decide +kernel
theorem dL_law_544 : decode cL_law 544 = .ok (.ireturn, 1) := by decide +kernel
theorem dL_law_545 : decode cL_law 545 = .ok (.aload_n 1, 1) := by decide +kernel
theorem dL_law_546 : decode cL_law 546 = .ok (.invokevirtual 75, 3) := by decide +kernel
theorem dL_law_549 : decode cL_law 549 = .ok (.aload_n 2, 1) := by decide +kernel
theorem dL_law_550 : decode cL_law 550 = .ok (.invokevirtual 79, 3) := by decide +kernel
theorem dL_law_553 : decode cL_law 553 = .ok (.if_icmp .eq 126, 3) := by decide +kernel
theorem dL_law_556 : decode cL_law 556 = .ok (.iconst 0, 1) := by decide +kernel
theorem dL_law_557 : decode cL_law 557 = .ok (.ireturn, 1) := by decide +kernel
theorem dL_law_558 : decode cL_law 558 = .ok (.aload_n 1, 1) := by decide +kernel
theorem dL_law_559 : decode cL_law 559 = .ok (.invokevirtual 80, 3) := by decide +kernel
theorem dL_law_562 : decode cL_law 562 = .ok (.aload_n 2, 1) := by decide +kernel
theorem dL_law_563 : decode cL_law 563 = .ok (.invokevirtual 83, 3) := by decide +kernel
theorem dL_law_566 : decode cL_law 566 = .ok (.if_icmp .eq 113, 3) := by decide +kernel
theorem dL_law_569 : decode cL_law 569 = .ok (.iconst 0, 1) := by decide +kernel
theorem dL_law_570 : decode cL_law 570 = .ok (.ireturn, 1) := by decide +kernel
theorem dL_law_571 : decode cL_law 571 = .ok (.aload_n 1, 1) := by decide +kernel
theorem dL_law_572 : decode cL_law 572 = .ok (.aload_n 0, 1) := by decide +kernel
theorem dL_law_573 : decode cL_law 573 = .ok (.iload_n 3, 1) := by decide +kernel
theorem dL_law_574 : decode cL_law 574 = .ok (.iconst 1, 1) := by decide +kernel
theorem dL_law_575 : decode cL_law 575 = .ok (.iadd, 1) := by decide +kernel
theorem dL_law_576 : decode cL_law 576 = .ok (.iaload, 1) := by decide +kernel
theorem dL_law_577 : decode cL_law 577 = .ok (.invokevirtual 84, 3) := by decide +kernel
theorem dL_law_580 : decode cL_law 580 = .ok (.aload_n 2, 1) := by decide +kernel
theorem dL_law_581 : decode cL_law 581 = .ok (.aload_n 0, 1) := by decide +kernel
theorem dL_law_582 : decode cL_law 582 = .ok (.iload_n 3, 1) := by decide +kernel
theorem dL_law_583 : decode cL_law 583 = .ok (.iconst 1, 1) := by decide +kernel
theorem dL_law_584 : decode cL_law 584 = .ok (.iadd, 1) := by decide +kernel
theorem dL_law_585 : decode cL_law 585 = .ok (.iaload, 1) := by decide +kernel
theorem dL_law_586 : decode cL_law 586 = .ok (.invokevirtual 87, 3) := by decide +kernel
theorem dL_law_589 : decode cL_law 589 = .ok (.if_icmp .eq 90, 3) := by decide +kernel
theorem dL_law_592 : decode cL_law 592 = .ok (.iconst 0, 1) := by decide +kernel
theorem dL_law_593 : decode cL_law 593 = .ok (.ireturn, 1) := by decide +kernel
theorem dL_law_594 : decode cL_law 594 = .ok (.aload_n 1, 1) := by decide +kernel
theorem dL_law_595 : decode cL_law 595 = .ok (.invokevirtual 88, 3) := by decide +kernel
theorem dL_law_598 : decode cL_law 598 = .ok (.aload_n 2, 1) := by decide +kernel
theorem dL_law_599 : decode cL_law 599 = .ok (.invokevirtual 91, 3) := by decide +kernel
theorem dL_law_602 : decode cL_law 602 = .ok (.if_icmp .eq 77, 3) := by decide +kernel
theorem dL_law_605 : decode cL_law 605 = .ok (.iconst 0, 1) := by decide +kernel
theorem dL_law_606 : decode cL_law 606 = .ok (.ireturn, 1) := by decide +kernel
theorem dL_law_607 : decode cL_law 607 = .ok (.aload_n 1, 1) := by decide +kernel
theorem dL_law_608 : decode cL_law 608 = .ok (.aload_n 0, 1) := by decide +kernel
theorem dL_law_609 : decode cL_law 609 = .ok (.iload_n 3, 1) := by decide +kernel
theorem dL_law_610 : decode cL_law 610 = .ok (.iconst 1, 1) := by decide +kernel
theorem dL_law_611 : decode cL_law 611 = .ok (.iadd, 1) := by decide +kernel
theorem dL_law_612 : decode cL_law 612 = .ok (.iaload, 1) := by decide +kernel
theorem dL_law_613 : decode cL_law 613 = .ok (.invokevirtual 92, 3) := by decide +kernel
theorem dL_law_616 : decode cL_law 616 = .ok (.aload_n 2, 1) := by decide +kernel
theorem dL_law_617 : decode cL_law 617 = .ok (.aload_n 0, 1) := by decide +kernel
theorem dL_law_618 : decode cL_law 618 = .ok (.iload_n 3, 1) := by decide +kernel
theorem dL_law_619 : decode cL_law 619 = .ok (.iconst 1, 1) := by decide +kernel
theorem dL_law_620 : decode cL_law 620 = .ok (.iadd, 1) := by decide +kernel
theorem dL_law_621 : decode cL_law 621 = .ok (.iaload, 1) := by decide +kernel
theorem dL_law_622 : decode cL_law 622 = .ok (.invokevirtual 95, 3) := by decide +kernel
theorem dL_law_625 : decode cL_law 625 = .ok (.if_icmp .eq 54, 3) := by decide +kernel
theorem dL_law_628 : decode cL_law 628 = .ok (.iconst 0, 1) := by decide +kernel
theorem dL_law_629 : decode cL_law 629 = .ok (.ireturn, 1) := by decide +kernel
theorem dL_law_630 : decode cL_law 630 = .ok (.aload_n 1, 1) := by decide +kernel
theorem dL_law_631 : decode cL_law 631 = .ok (.invokevirtual 96, 3) := by decide +kernel
theorem dL_law_634 : decode cL_law 634 = .ok (.aload_n 2, 1) := by decide +kernel
theorem dL_law_635 : decode cL_law 635 = .ok (.invokevirtual 99, 3) := by decide +kernel
theorem dL_law_638 : decode cL_law 638 = .ok (.if_icmp .eq 41, 3) := by decide +kernel
theorem dL_law_641 : decode cL_law 641 = .ok (.iconst 0, 1) := by decide +kernel
theorem dL_law_642 : decode cL_law 642 = .ok (.ireturn, 1) := by decide +kernel
theorem dL_law_643 : decode cL_law 643 = .ok (.aload_n 1, 1) := by decide +kernel
theorem dL_law_644 : decode cL_law 644 = .ok (.aload_n 0, 1) := by decide +kernel
theorem dL_law_645 : decode cL_law 645 = .ok (.iload_n 3, 1) := by decide +kernel
theorem dL_law_646 : decode cL_law 646 = .ok (.iconst 1, 1) := by decide +kernel
theorem dL_law_647 : decode cL_law 647 = .ok (.iadd, 1) := by decide +kernel
theorem dL_law_648 : decode cL_law 648 = .ok (.iaload, 1) := by decide +kernel
theorem dL_law_649 : decode cL_law 649 = .ok (.invokevirtual 100, 3) := by decide +kernel
theorem dL_law_652 : decode cL_law 652 = .ok (.aload_n 2, 1) := by decide +kernel
theorem dL_law_653 : decode cL_law 653 = .ok (.aload_n 0, 1) := by decide +kernel
theorem dL_law_654 : decode cL_law 654 = .ok (.iload_n 3, 1) := by decide +kernel
theorem dL_law_655 : decode cL_law 655 = .ok (.iconst 1, 1) := by decide +kernel
theorem dL_law_656 : decode cL_law 656 = .ok (.iadd, 1) := by decide +kernel
theorem dL_law_657 : decode cL_law 657 = .ok (.iaload, 1) := by decide +kernel
theorem dL_law_658 : decode cL_law 658 = .ok (.invokevirtual 103, 3) := by decide +kernel
theorem dL_law_661 : decode cL_law 661 = .ok (.if_icmp .eq 18, 3) := by decide +kernel
theorem dL_law_664 : decode cL_law 664 = .ok (.iconst 0, 1) := by decide +kernel
theorem dL_law_665 : decode cL_law 665 = .ok (.ireturn, 1) := by decide +kernel
theorem dL_law_666 : decode cL_law 666 = .ok (.aload_n 1, 1) := by decide +kernel
theorem dL_law_667 : decode cL_law 667 = .ok (.invokevirtual 104, 3) := by decide +kernel
theorem dL_law_670 : decode cL_law 670 = .ok (.aload_n 2, 1) := by decide +kernel
theorem dL_law_671 : decode cL_law 671 = .ok (.invokevirtual 107, 3) := by decide +kernel
theorem dL_law_674 : decode cL_law 674 = .ok (.if_icmp .eq 5, 3) := by decide +kernel
theorem dL_law_677 : decode cL_law 677 = .ok (.iconst 0, 1) := by decide +kernel
theorem dL_law_678 : decode cL_law 678 = .ok (.ireturn, 1) := by decide +kernel
theorem dL_law_679 : decode cL_law 679 = .ok (.iinc 3 3, 3) := by decide +kernel
theorem dL_law_682 : decode cL_law 682 = .ok (.goto (-664), 3) := by decide +kernel
theorem dL_law_685 : decode cL_law 685 = .ok (.iconst 1, 1) := by decide +kernel
theorem dL_law_686 : decode cL_law 686 = .ok (.ireturn, 1) := by decide +kernel
end
section
/-! THE GROUND: words by place, a world's calls, contracts of the shape that this claim uses -/
abbrev ag_T (cI cC cL : ClassId) : List (ClassId × FieldType) := [(cI, .int), (cC, .char), (cL, .object RX1)]
/-- the links among nest mates that the class uses -/
def ag_N (U : State) : Prop :=
  va_Nw (.methodLinkNest RX5 9 yX1_init RX5) U ∧ va_Nw (.methodLinkNest RX5 21 yX4_init RX5) U ∧ va_Nw (.methodLinkNest RX5 28 yX0_init RX5) U ∧ va_Nw (.methodLinkNest RX0 11 yX1_init RX5) U ∧
  va_Nw (.methodLinkNest RX5 35 yX3_init RX5) U ∧ va_Nw (.methodLinkNest RX5 42 yX2_init RX5) U ∧ va_Nw (.methodLinkNest RX1 53 yX5_seaLevel RX5) U ∧ va_Nw (.methodLinkNest RX1 114 yX5_recordStart RX5) U ∧
  va_Nw (.methodLinkNest RX2 38 yX5_isError RX5) U ∧ va_Nw (.fieldLinkNest RX1 80 RX5 "LEAST_SETTING" "[I" RX5) U ∧ va_Nw (.fieldLinkNest RX1 83 RX5 "MOST_SETTING" "[I" RX5) U
theorem ag_N.warm {s U : State} (hW : s.WarmedH U.vm) (h : ag_N s) : ag_N U := by
  obtain ⟨h1, h2, h3, h4, h5, h6, h7, h8, h9, h10, h11⟩ := h
  exact ⟨va_Nw.warmM hW h1, va_Nw.warmM hW h2, va_Nw.warmM hW h3, va_Nw.warmM hW h4, va_Nw.warmM hW h5, va_Nw.warmM hW h6, va_Nw.warmM hW h7, va_Nw.warmM hW h8, va_Nw.warmM hW h9, va_Nw.warmF hW h10, va_Nw.warmF hW h11⟩
theorem ag_N.same {u U : State} (e : u.vm = U.vm) (h : ag_N u) : ag_N U := by
  obtain ⟨h1, h2, h3, h4, h5, h6, h7, h8, h9, h10, h11⟩ := h
  exact ⟨va_Nw.same rfl e h1, va_Nw.same rfl e h2, va_Nw.same rfl e h3, va_Nw.same rfl e h4, va_Nw.same rfl e h5, va_Nw.same rfl e h6, va_Nw.same rfl e h7, va_Nw.same rfl e h8, va_Nw.same rfl e h9, va_Nw.same rfl e h10, va_Nw.same rfl e h11⟩
/-- the two static rows, out of reach of what may be changed -/
def ag_fL (j : Nat) : Value := .int (if j = 1 then 0 else 1)
def ag_fM (j : Nat) : Value := .int (if j = 2 then 9999 else 400)
def ag_ZZ (A : Nat → Prop) (U : State) (H : Heap) : Prop := ∃ tL tM : Nat, va_Z RX5 "LEAST_SETTING" "[I" (.ref tL) A U H ∧ va_T .int tL 3 ag_fL A U H ∧ va_Z RX5 "MOST_SETTING" "[I" (.ref tM) A U H ∧ va_T .int tM 3 ag_fM A U H
theorem ag_ZZ.moved {A : Nat → Prop} {u U : State} {H : Heap} (hvm : u.vm.Alike U.vm) (h : ag_ZZ A u H) : ag_ZZ A U H := by
  obtain ⟨tL, tM, h1, h2, h3, h4⟩ := h
  exact ⟨tL, tM, h1.moved hvm, h2.moved hvm, h3.moved hvm, h4.moved hvm⟩
theorem ag_ZZ.kept {A : Nat → Prop} {U : State} {H H1 : Heap} (h : ag_ZZ A U H) (hq : ∀ a : Nat, a < H.size → ¬ A a → H1[a]? = H[a]?) : ag_ZZ A U H1 := by
  obtain ⟨tL, tM, h1, h2, h3, h4⟩ := h
  exact ⟨tL, tM, h1.kept hq, h2.kept hq, h3.kept hq, h4.kept hq⟩
theorem ag_ZZ.narrow {A B : Nat → Prop} {U : State} {H : Heap} (h : ag_ZZ A U H) (hAB : ∀ q, B q → A q) : ag_ZZ B U H := by
  obtain ⟨tL, tM, h1, h2, h3, h4⟩ := h
  exact ⟨tL, tM, h1.narrow hAB, h2.narrow hAB, h3.narrow hAB, h4.narrow hAB⟩
def ag_NZ (A : Nat → Prop) (s : State) : Prop := ag_N s ∧ ag_ZZ A s s.heap
/-- the start of a method over the cells w; the cells are w' behind it, at the same addresses -/
def ag_In (D : va_G) (cI cC cL : ClassId) (w : va_W) (sz : Nat) : State → Prop := fun U => U.heap.size = sz ∧ va_P D vwCl w U.heap ∧ va_K D vwCl (ag_T cI cC cL) U ∧ va_D (fun _ => True) w ∧ ag_N U ∧ ag_ZZ (va_A w sz) U U.heap
def ag_Out (D : va_G) (w w' : va_W) (t : State) : Prop := va_P D vwCl w' t.heap ∧ w'.map Prod.fst = w.map Prod.fst
abbrev ag_rm (fr lo : Nat) : Room := { frames := fr, cells := 0, slots := 0, locals := lo }
def ag_MI (l : Launch) (y : MethodName) (code : ByteArray) (maxL : Nat) (ret : FieldType) (fr lo : Nat) (D : va_G) (cI cC cL : ClassId) (av : List Value) (w : va_W) (post : Int32 → va_W → Prop) : Prop :=
  ∀ sz : Nat, Met l y (.code y code maxL (some ret) :: gW) (ag_rm fr lo) (va_Pc av (ag_In D cI cC cL w sz)) (va_Qi post (ag_Out D w) (va_A w sz)) 0 0 (va_A w sz)
def ag_MV (l : Launch) (y : MethodName) (code : ByteArray) (maxL : Nat) (fr lo : Nat) (D : va_G) (cI cC cL : ClassId) (av : List Value) (w : va_W) (post : va_W → Prop) : Prop :=
  ∀ sz : Nat, Met l y (.code y code maxL none :: gW) (ag_rm fr lo) (va_Pc av (ag_In D cI cC cL w sz)) (va_Qv post (ag_Out D w) (va_A w sz)) 0 0 (va_A w sz)
theorem ag_In_blind {av : List Value} {D : va_G} {cI cC cL : ClassId} {w : va_W} {sz : Nat} : FrameBlind (va_Pc av (ag_In D cI cC cL w sz)) :=
  fun a U g mk q => ⟨q.1, q.2.1, q.2.2.1, va_K.moved (u := U) (U := U.calling g mk a) (Vm.Alike.refl U.vm) q.2.2.2.1, q.2.2.2.2.1, ag_N.same (u := U) rfl q.2.2.2.2.2.1, ag_ZZ.moved (u := U) (U := U.calling g mk a) (Vm.Alike.refl U.vm) q.2.2.2.2.2.2⟩
/-! putting the cells of a callee back among the caller's -/
def ag_put (w : va_W) : List Nat → va_W → va_W
  | i :: is, q :: qs => ag_put (w.set i q) is qs
  | _, _ => w
theorem ag_put_len : ∀ (is : List Nat) (w qs : va_W), (ag_put w is qs).length = w.length
  | [], w, qs => by cases qs <;> rfl
  | i :: is, w, [] => rfl
  | i :: is, w, q :: qs => by
    show (ag_put (w.set i q) is qs).length = w.length
    rw [ag_put_len is, List.length_set]
theorem ag_put_at : ∀ (is : List Nat) (w qs : va_W), is.length = qs.length → ∀ (k : Nat) (z : Nat × va_E), (ag_put w is qs)[k]? = some z → (∃ j : Nat, is[j]? = some k ∧ qs[j]? = some z) ∨ (k ∉ is ∧ w[k]? = some z)
  | [], w, [], _, k, z, h => Or.inr ⟨List.not_mem_nil, h⟩
  | [], w, _ :: _, e, _, _, _ => by cases e
  | _ :: _, w, [], e, _, _, _ => by cases e
  | i :: is, w, q :: qs, e, k, z, h => by
    rcases ag_put_at is (w.set i q) qs (Nat.succ.inj e) k z h with ⟨j, h1, h2⟩ | ⟨h1, h2⟩
    · exact Or.inl ⟨j + 1, h1, h2⟩
    · by_cases hk : k = i
      · subst hk
        have hl : k < w.length := by
          have := (List.getElem?_eq_some_iff.mp h2).1
          rwa [List.length_set] at this
        rw [List.getElem?_set_self hl] at h2
        exact Or.inl ⟨0, rfl, h2⟩
      · rw [List.getElem?_set_ne (Ne.symm hk)] at h2
        exact Or.inr ⟨fun hm => (List.mem_cons.mp hm).elim hk h1, h2⟩
theorem ag_at {is : List Nat} {w wc : va_W} (hC : is.map (fun i => w[i]?) = wc.map some) {j : Nat} {q : Nat × va_E} (hq : wc[j]? = some q) : ∃ i, is[j]? = some i ∧ w[i]? = some q := by
  have h1 : (is.map (fun i => w[i]?))[j]? = some (some q) := by rw [hC, List.getElem?_map, hq]; rfl
  rw [List.getElem?_map] at h1
  cases hi : is[j]? with
  | none => rw [hi] at h1; cases h1
  | some i => rw [hi] at h1; exact ⟨i, rfl, Option.some.inj h1⟩
theorem ag_fst {w1 wc : va_W} (h : w1.map Prod.fst = wc.map Prod.fst) {j : Nat} {q : Nat × va_E} (hq : w1[j]? = some q) : ∃ q2, wc[j]? = some q2 ∧ q2.1 = q.1 := by
  have h1 : (wc.map Prod.fst)[j]? = some q.1 := by rw [← h, List.getElem?_map, hq]; rfl
  rw [List.getElem?_map] at h1
  cases hi : wc[j]? with
  | none => rw [hi] at h1; cases h1
  | some q2 => rw [hi] at h1; exact ⟨q2, rfl, Option.some.inj h1⟩
theorem ag_same_len {w1 wc : va_W} (h : w1.map Prod.fst = wc.map Prod.fst) : w1.length = wc.length := by
  have := congrArg List.length h
  simpa using this
theorem ag_join {A0 : Nat → Prop} {D : va_G} {cl : List vw_C} {w wc w1 : va_W} {H H1 : Heap} (hP : va_P D cl w H) (hD : va_D A0 w) (is : List Nat) (hC : is.map (fun i => w[i]?) = wc.map some)
    (hk : ∀ q : Nat, q < H.size → ¬ va_A wc H.size q → H1[q]? = H[q]?) (hP1 : va_P D cl w1 H1) (ha : w1.map Prod.fst = wc.map Prod.fst) : va_P D cl (ag_put w is w1) H1 ∧ va_D A0 (ag_put w is w1) := by
  have hlen : is.length = w1.length := by
    rw [ag_same_len ha]
    have := congrArg List.length hC
    simpa using this
  have addr : ∀ (k : Nat) (z : Nat × va_E), (ag_put w is w1)[k]? = some z → ∃ z2, w[k]? = some z2 ∧ z2.1 = z.1 := by
    intro k z hz
    rcases ag_put_at is w w1 hlen k z hz with ⟨j, h1, h2⟩ | ⟨h1, h2⟩
    · obtain ⟨q2, h3, h4⟩ := ag_fst ha h2
      obtain ⟨i, h5, h6⟩ := ag_at hC h3
      rw [h1] at h5
      cases h5
      exact ⟨q2, h6, h4⟩
    · exact ⟨z, h2, rfl⟩
  refine ⟨fun k z hz => ?_, fun i j x y hx hy hxy => ?_, fun k z hz => ?_⟩
  · rcases ag_put_at is w w1 hlen k z hz with ⟨j, h1, h2⟩ | ⟨h1, h2⟩
    · exact hP1 j z h2
    · have hl := (hP k z h2).lt
      refine (hP k z h2).kept (hk z.1 hl ?_)
      rintro (⟨k2, e, h⟩ | h)
      · obtain ⟨i, h3, h4⟩ := ag_at hC h
        have hij := hD.1 k i z (z.1, e) h2 h4 rfl
        exact h1 (by rw [hij]; exact List.mem_of_getElem? h3)
      · omega
  · obtain ⟨x2, hx2, ex⟩ := addr i x hx
    obtain ⟨y2, hy2, ey⟩ := addr j y hy
    exact hD.1 i j x2 y2 hx2 hy2 (by rw [ex, ey]; exact hxy)
  · obtain ⟨z2, hz2, ez⟩ := addr k z hz
    rw [← ez]
    exact hD.2 k z2 hz2
theorem ag_Pm {D : va_G} {cl : List vw_C} {w : va_W} {H : Heap} : va_P D cl w H ↔ ∀ q ∈ w, va_at D cl q H :=
  ⟨fun h q hq => by obtain ⟨k, hk⟩ := List.getElem?_of_mem hq; exact h k q hk, fun h k q hk => h q (List.mem_of_getElem? hk)⟩
theorem ag_Dm {A : Nat → Prop} {w : va_W} : va_D A w ↔ (w.map Prod.fst).Nodup ∧ ∀ q ∈ w, A q.1 := by
  constructor
  · rintro ⟨h1, h2⟩
    refine ⟨List.pairwise_iff_getElem.mpr fun i j hi hj hij e => ?_, fun q hq => by obtain ⟨k, hk⟩ := List.getElem?_of_mem hq; exact h2 k q hk⟩
    rw [List.length_map] at hi hj
    rw [List.getElem_map, List.getElem_map] at e
    have := h1 i j _ _ (List.getElem?_eq_getElem hi) (List.getElem?_eq_getElem hj) e
    omega
  · rintro ⟨h1, h2⟩
    refine ⟨fun i j x y hx hy hxy => ?_, fun k q hk => h2 q (List.mem_of_getElem? hk)⟩
    have h3 := List.pairwise_iff_getElem.mp h1
    obtain ⟨li, ei⟩ := List.getElem?_eq_some_iff.mp hx
    obtain ⟨lj, ej⟩ := List.getElem?_eq_some_iff.mp hy
    have key : ∀ a b : Nat, (ha : a < w.length) → (hb : b < w.length) → a < b → (w[a]).1 ≠ (w[b]).1 := fun a b ha hb hab => by
      have := h3 a b (by rw [List.length_map]; exact ha) (by rw [List.length_map]; exact hb) hab
      rwa [List.getElem_map, List.getElem_map] at this
    rcases Nat.lt_trichotomy i j with h | h | h
    · exact absurd (by rw [ei, ej, hxy]) (key i j li lj h)
    · exact h
    · exact absurd (by rw [ei, ej, hxy]) (key j i lj li h)
/-- the callee's cells wc are cut out of w; what comes back for them is put in their place -/
def ag_cut (w wc : va_W) (put : va_W → va_W) : Prop :=
  ∀ (D : va_G) (cl : List vw_C) (A0 : Nat → Prop) (H : Heap), va_P D cl w H → va_D A0 w → va_P D cl wc H ∧ va_D A0 wc ∧
    ∀ (H1 : Heap) (w1 : va_W), (∀ q : Nat, q < H.size → ¬ va_A wc H.size q → H1[q]? = H[q]?) → va_P D cl w1 H1 → w1.map Prod.fst = wc.map Prod.fst → va_P D cl (put w1) H1 ∧ va_D A0 (put w1)
theorem ag_cut_is {w wc : va_W} (is : List Nat) (hC : is.map (fun i => w[i]?) = wc.map some) (hn : va_nd is = true) : ag_cut w wc (ag_put w is) := fun D cl A0 H hP hD =>
  ⟨fun k q hq => by
    obtain ⟨i, -, h⟩ := ag_at hC hq
    exact hP i q h, hD.sub is hn hC, fun H1 w1 hk hP1 ha => ag_join hP hD is hC hk hP1 ha⟩
theorem ag_cut_0 {w : va_W} : ag_cut w [] (fun _ => w) := fun D cl A0 H hP hD =>
  ⟨fun k q hq => by simp at hq, ⟨fun i j x y hx => by simp at hx, fun k q hq => by simp at hq⟩, fun H1 w1 hk hP1 ha => ⟨hP.kept (fun k q hq => hk q.1 (hP k q hq).lt (by rintro (⟨k2, e, h⟩ | h); · simp at h
                                                                                                                                                                         · have := (hP k q hq).lt; omega)), hD⟩⟩
theorem ag_cut_all {w : va_W} : ag_cut w w (fun w1 => w1) := fun D cl A0 H hP hD =>
  ⟨hP, hD, fun H1 w1 hk hP1 ha => ⟨hP1, by
    rw [ag_Dm] at hD ⊢
    refine ⟨by rw [ha]; exact hD.1, fun q hq => ?_⟩
    have h1 : q.1 ∈ w.map Prod.fst := by rw [← ha]; exact List.mem_map_of_mem hq
    obtain ⟨q2, h2, h3⟩ := List.mem_map.mp h1
    rw [← h3]
    exact hD.2 q2 h2⟩⟩
/-- the same cells in another order, cut and put -/
theorem ag_cut_perm {w wc wr : va_W} {put : va_W → va_W} (hw : ∀ q, q ∈ w ↔ q ∈ wc ∨ q ∈ wr) (hnd : (w.map Prod.fst).Nodup → (wc.map Prod.fst).Nodup ∧ ∀ x ∈ wc, ∀ y ∈ wr, x.1 ≠ y.1)
    (hput : ∀ w1 : va_W, w1.map Prod.fst = wc.map Prod.fst → (∀ q, q ∈ put w1 ↔ q ∈ w1 ∨ q ∈ wr) ∧ (put w1).map Prod.fst = w.map Prod.fst) : ag_cut w wc put := fun D cl A0 H hP hD => by
  rw [ag_Pm] at hP
  rw [ag_Dm] at hD
  obtain ⟨n1, n2⟩ := hnd hD.1
  refine ⟨ag_Pm.mpr fun q hq => hP q ((hw q).mpr (Or.inl hq)), ag_Dm.mpr ⟨n1, fun q hq => hD.2 q ((hw q).mpr (Or.inl hq))⟩, fun H1 w1 hk hP1 ha => ?_⟩
  obtain ⟨p1, p2⟩ := hput w1 ha
  refine ⟨ag_Pm.mpr fun q hq => ?_, ag_Dm.mpr ⟨by rw [p2]; exact hD.1, fun q hq => ?_⟩⟩
  · rcases (p1 q).mp hq with h | h
    · exact (ag_Pm.mp hP1) q h
    · have h0 := hP q ((hw q).mpr (Or.inr h))
      refine h0.kept (hk q.1 h0.lt ?_)
      rintro (⟨k2, e, h2⟩ | h2)
      · exact n2 (q.1, e) (List.mem_of_getElem? h2) q h rfl
      · have := h0.lt
        omega
  · have h1 : q.1 ∈ w.map Prod.fst := by rw [← p2]; exact List.mem_map_of_mem hq
    obtain ⟨q2, h2, h3⟩ := List.mem_map.mp h1
    rw [← h3]
    exact hD.2 q2 h2
theorem ag_cut_P {w wc wr : va_W} {put : va_W → va_W} (hw : w.Perm (wc ++ wr)) (hput : ∀ w1 : va_W, w1.map Prod.fst = wc.map Prod.fst → (put w1).Perm (w1 ++ wr) ∧ (put w1).map Prod.fst = w.map Prod.fst) : ag_cut w wc put := by
  refine ag_cut_perm (wr := wr) (fun q => by rw [hw.mem_iff, List.mem_append]) (fun hn => ?_) (fun w1 ha => ⟨fun q => by rw [(hput w1 ha).1.mem_iff, List.mem_append], (hput w1 ha).2⟩)
  have h := (hw.map Prod.fst).nodup_iff.mp hn
  rw [List.map_append, List.nodup_append] at h
  exact ⟨h.1, fun x hx y hy e => h.2.2 _ (List.mem_map_of_mem hx) _ (List.mem_map_of_mem hy) e⟩
theorem ag_cut_1 {w wc : va_W} (wa wb : va_W) (h : w = wa ++ (wc ++ wb)) : ag_cut w wc (fun w1 => wa ++ (w1 ++ wb)) := by
  subst h
  exact ag_cut_P (wr := wa ++ wb) (List.perm_append_comm_assoc wa wc wb) (fun w1 ha => ⟨List.perm_append_comm_assoc wa w1 wb, by simp [ha]⟩)
theorem ag_p2 (wa c1 wb c2 wd : va_W) : (wa ++ (c1 ++ (wb ++ (c2 ++ wd)))).Perm ((c1 ++ c2) ++ (wa ++ (wb ++ wd))) := by
  refine (List.perm_append_comm_assoc wa c1 _).trans ?_
  rw [List.append_assoc c1 c2]
  refine List.Perm.append_left c1 ?_
  refine (List.Perm.append_left wa (List.perm_append_comm_assoc wb c2 wd)).trans ?_
  exact List.perm_append_comm_assoc wa c2 _
theorem ag_cut_2 {w wc : va_W} (n : Nat) (wa c1 wb c2 wd : va_W) (hc : wc = c1 ++ c2) (hn : c1.length = n) (h : w = wa ++ (c1 ++ (wb ++ (c2 ++ wd)))) : ag_cut w wc (fun w1 => wa ++ (w1.take n ++ (wb ++ (w1.drop n ++ wd)))) := by
  subst h hc hn
  refine ag_cut_P (wr := wa ++ (wb ++ wd)) (ag_p2 wa c1 wb c2 wd) (fun w1 ha => ⟨?_, ?_⟩)
  · have := ag_p2 wa (w1.take c1.length) wb (w1.drop c1.length) wd
    rwa [List.take_append_drop] at this
  · have e1 : (w1.take c1.length).map Prod.fst = c1.map Prod.fst := by rw [List.map_take, ha, List.map_append, List.take_left' (by simp)]
    have e2 : (w1.drop c1.length).map Prod.fst = c2.map Prod.fst := by rw [List.map_drop, ha, List.map_append, List.drop_left' (by simp)]
    simp only [List.map_append, e1, e2]
theorem ag_cut_2s {w wc : va_W} (n : Nat) (wa c1 wb c2 wd : va_W) (hc : wc = c1 ++ c2) (hn : c1.length = n) (h : w = wa ++ (c2 ++ (wb ++ (c1 ++ wd)))) : ag_cut w wc (fun w1 => wa ++ (w1.drop n ++ (wb ++ (w1.take n ++ wd)))) := by
  subst h hc hn
  have hp : ∀ d1 d2 : va_W, (wa ++ (d2 ++ (wb ++ (d1 ++ wd)))).Perm ((d1 ++ d2) ++ (wa ++ (wb ++ wd))) := fun d1 d2 => (ag_p2 wa d2 wb d1 wd).trans (List.Perm.append_right _ List.perm_append_comm)
  refine ag_cut_P (wr := wa ++ (wb ++ wd)) (hp c1 c2) (fun w1 ha => ⟨?_, ?_⟩)
  · have := hp (w1.take c1.length) (w1.drop c1.length)
    rwa [List.take_append_drop] at this
  · have e1 : (w1.take c1.length).map Prod.fst = c1.map Prod.fst := by rw [List.map_take, ha, List.map_append, List.take_left' (by simp)]
    have e2 : (w1.drop c1.length).map Prod.fst = c2.map Prod.fst := by rw [List.map_drop, ha, List.map_append, List.drop_left' (by simp)]
    simp only [List.map_append, e1, e2]
theorem ag_Dsub {A : Nat → Prop} {w wc : va_W} (hD : va_D A w) (is : List Nat) (hn : va_nd is = true) (hC : is.map (fun i => w[i]?) = wc.map some) : va_D A wc := hD.sub is hn hC
theorem ag_Psub {D : va_G} {cl : List vw_C} {w wc : va_W} {H : Heap} (hP : va_P D cl w H) (is : List Nat) (hC : is.map (fun i => w[i]?) = wc.map some) : va_P D cl wc H := fun k q hq => by
  obtain ⟨i, -, h⟩ := ag_at hC hq
  exact hP i q h
theorem arrV_congr {cA : ClassId} {n : Nat} {f g : Nat → Value} (h : ∀ j, j < n → f j = g j) : arrV cA n f = arrV cA n g := by
  have e : (Array.ofFn (n := n) fun i => f i.val) = Array.ofFn (n := n) fun i => g i.val := by
    congr 1
    funext i
    exact h i.val i.isLt
  unfold arrV
  first | rw [e] | (simp only [e])
/-- an array's cell read at other contents, the same ones as far as it goes -/
theorem ag_arr {D : va_G} {cl : List vw_C} {w : va_W} {H : Heap} (hP : va_P D cl w H) (k : Nat) {a n : Nat} {cA : ClassId} {f : Nat → Int32} (g : Nat → Int32) (hk : w[k]? = some (a, .inl (cA, n, .inl f))) (h : ∀ j, j < n → f j = g j) : va_P D cl (w.set k (a, .inl (cA, n, .inl g))) H := by
  intro i q hq
  by_cases hi : i = k
  · subst hi
    have hl : i < w.length := (List.getElem?_eq_some_iff.mp hk).1
    rw [List.getElem?_set_self hl] at hq
    cases hq
    have h0 := hP i _ hk
    show H[a]? = some (vp_cell cA (n, .inl g))
    have e : vp_cell cA (n, .inl g) = vp_cell cA (n, .inl f) := by
      rw [vp_cell_i, vp_cell_i]
      exact arrV_congr (fun j hj => by rw [h j hj])
    rw [e]
    exact h0
  · rw [List.getElem?_set_ne (Ne.symm hi)] at hq
    exact hP i q hq
theorem ag_arrD {A : Nat → Prop} {w : va_W} (hD : va_D A w) (k : Nat) {a : Nat} {e0 e : va_E} (hk : w[k]? = some (a, e0)) : va_D A (w.set k (a, e)) := hD.set hk
section AGW
variable {p : Program} {l : Launch} {e : Env} {R : Room} {s : State} {m : MethodId} {args : Array Value} {below : List Frame} {meth : Method} {c : Code} {H : Heap} {locs : List Loc} {cells slots : Nat} {Q : State → Prop}
variable {cc : ByteArray} {pc : Nat} {ls : Array Slot} {rest : List Value} {D : va_G} {A : Nat → Prop} {a : Nat} {cI cC cL : ClassId} {w : va_W} {H0 : Heap}
theorem ag_preS {D : va_G} {av : List Value} {wc : va_W} (hK : va_K D vwCl (ag_T cI cC cL) s) (hN : ag_NZ A s) (hS : va_S A s.heap H locs) (hF : ∀ q, va_A wc H.size q → A q) (hPc : va_P D vwCl wc H) (hDc : va_D A wc) : PreS s H (va_Pc av (ag_In D cI cC cL wc H.size)) av :=
  ⟨ag_In_blind, fun U hU hW => ⟨rfl, by rw [hU], by rw [hU]; exact hPc, va_K.moved hW.alike hK, hDc.weaken (fun _ _ _ _ => trivial), hN.1.warm hW, by rw [hU]; exact ((hN.2.kept (fun a h1 h2 => hS.2.1 a h1 h2)).narrow hF).moved hW.alike⟩⟩
theorem ag_callVi {own : String} {index maxL fr lo nL : Nat} {y : MethodName} {code : ByteArray} {ret : FieldType} {post : Int32 → va_W → Prop} {wc : va_W} {b : Nat} {As : List Value} {q0 ci : Nat} {fs : List Value} {cq : vw_C} {st0 : List Value} {lv : List (Nat × Value)}
    (hx : p.tables.exec = Jvm.exec) (hb : c.code = cc) (hml : c.maxLocals = nL) (hown : s.vm.findClass own = some m.cls) (hG : ∀ w ∈ gW, w.before args s = true) (hK : va_K D vwCl (ag_T cI cC cL) s) (hN : ag_NZ A s) (hA : ∀ q, s.heap.size ≤ q → A q) (hP : va_P D vwCl w H) (hD : va_D A w) (hS : va_S A s.heap H locs) (hl : lv_has ls nL lv)
    (hM : ag_MI l y code maxL ret fr lo D cI cC cL (.ref b :: As) wc post) (hf : ag_fV y code maxL (some ret) As.length) (hlk : Cond.methodLink own index y ∈ gW) {put : va_W → va_W} (hcut : ag_cut w wc put)
    (he : w[q0]? = some (b, .inr (ci, fs))) (hcl : vwCl[ci]? = some cq) (hcq : cq.1 = y.cls) (hst : st0 = As.reverse ++ .ref b :: rest) (hcat : (rest.map fun v => v.category).sum ≤ 8) (hR : fr + 1 ≤ R.frames ∧ 8 + (maxL + 11) + lo ≤ R.locals) (hz : cells ≤ R.cells ∧ slots ≤ R.slots)
    (hdg : decode cc pc = .ok (.invokevirtual index, 3))
    (kk : ∀ (r : Int32) (w1 : va_W) (H1 : Heap) (locs1 : List Loc), post r w1 → va_P D vwCl (put w1) H1 → va_D A (put w1) → va_S A s.heap H1 locs1 → W p l e R s m args below meth c H1 locs1 cells slots Q (F0 m (pc + 3) ls (.int r :: rest))) :
    W p l e R s m args below meth c H locs cells slots Q (F0 m pc ls st0) := by
  subst hst
  obtain ⟨f1, f2, f3, f4, f5, f6, f7⟩ := hf
  obtain ⟨hPc, hDc, hjoin⟩ := hcut D vwCl A H hP hD
  have hFc : ∀ q, va_A wc H.size q → A q := by
    rintro q (⟨k, e, h⟩ | h)
    · exact hDc.2 k _ h
    · exact hA q (Nat.le_trans hS.1 h)
  have hp := ag_preS (av := .ref b :: As) hK hN hS hFc hPc hDc
  refine va_calli (va_runV (As := As) (rest := rest) (C := y.cls) ⟨hx, hb, hml, hown, hG⟩ (hM H.size) ⟨callB_of As.length hG (gW_good f1) rfl rfl rfl (hG _ f4) (hG _ hlk) ⟨f5, f6, f7⟩ hR, hG _ f2, hG _ f3⟩ ⟨hp.1, ?_, hp.2⟩ rfl rfl hl.1 rfl (lv_room hcat) hdg hz) hS (fun q _ h => hFc q h) hFc (fun r u t H1 locs1 ht hvm hw hB hz1 hk1 hS1 => ?_)
  · rw [← hcq]
    exact va_recv hK hP hcl he
  · obtain ⟨hP1, ha⟩ := hB
    rw [ht] at hP1
    obtain ⟨g1, g2⟩ := hjoin H1 u hk1 hP1 ha
    exact kk r u H1 locs1 hw g1 g2 hS1
theorem ag_callVv {own : String} {index maxL fr lo nL : Nat} {y : MethodName} {code : ByteArray} {post : va_W → Prop} {wc : va_W} {b : Nat} {As : List Value} {q0 ci : Nat} {fs : List Value} {cq : vw_C} {st0 : List Value} {lv : List (Nat × Value)}
    (hx : p.tables.exec = Jvm.exec) (hb : c.code = cc) (hml : c.maxLocals = nL) (hown : s.vm.findClass own = some m.cls) (hG : ∀ w ∈ gW, w.before args s = true) (hK : va_K D vwCl (ag_T cI cC cL) s) (hN : ag_NZ A s) (hA : ∀ q, s.heap.size ≤ q → A q) (hP : va_P D vwCl w H) (hD : va_D A w) (hS : va_S A s.heap H locs) (hl : lv_has ls nL lv)
    (hM : ag_MV l y code maxL fr lo D cI cC cL (.ref b :: As) wc post) (hf : ag_fV y code maxL none As.length) (hlk : Cond.methodLink own index y ∈ gW) {put : va_W → va_W} (hcut : ag_cut w wc put)
    (he : w[q0]? = some (b, .inr (ci, fs))) (hcl : vwCl[ci]? = some cq) (hcq : cq.1 = y.cls) (hst : st0 = As.reverse ++ .ref b :: rest) (hcat : (rest.map fun v => v.category).sum ≤ 8) (hR : fr + 1 ≤ R.frames ∧ 8 + (maxL + 11) + lo ≤ R.locals) (hz : cells ≤ R.cells ∧ slots ≤ R.slots)
    (hdg : decode cc pc = .ok (.invokevirtual index, 3))
    (kk : ∀ (w1 : va_W) (H1 : Heap) (locs1 : List Loc), post w1 → va_P D vwCl (put w1) H1 → va_D A (put w1) → va_S A s.heap H1 locs1 → W p l e R s m args below meth c H1 locs1 cells slots Q (F0 m (pc + 3) ls rest)) :
    W p l e R s m args below meth c H locs cells slots Q (F0 m pc ls st0) := by
  subst hst
  obtain ⟨f1, f2, f3, f4, f5, f6, f7⟩ := hf
  obtain ⟨hPc, hDc, hjoin⟩ := hcut D vwCl A H hP hD
  have hFc : ∀ q, va_A wc H.size q → A q := by
    rintro q (⟨k, e, h⟩ | h)
    · exact hDc.2 k _ h
    · exact hA q (Nat.le_trans hS.1 h)
  have hp := ag_preS (av := .ref b :: As) hK hN hS hFc hPc hDc
  refine va_callv (va_runV (As := As) (rest := rest) (C := y.cls) ⟨hx, hb, hml, hown, hG⟩ (hM H.size) ⟨callB_of As.length hG (gW_good f1) rfl rfl rfl (hG _ f4) (hG _ hlk) ⟨f5, f6, f7⟩ hR, hG _ f2, hG _ f3⟩ ⟨hp.1, ?_, hp.2⟩ rfl rfl hl.1 rfl (lv_room hcat) hdg hz) hS (fun q _ h => hFc q h) hFc (fun u t H1 locs1 ht hvm hw hB hz1 hk1 hS1 => ?_)
  · rw [← hcq]
    exact va_recv hK hP hcl he
  · obtain ⟨hP1, ha⟩ := hB
    rw [ht] at hP1
    obtain ⟨g1, g2⟩ := hjoin H1 u hk1 hP1 ha
    exact kk u H1 locs1 hw g1 g2 hS1
theorem ag_callSi {own : String} {index maxL fr lo nL : Nat} {y : MethodName} {code : ByteArray} {ret : FieldType} {post : Int32 → va_W → Prop} {wc : va_W} {As : List Value} {st0 : List Value} {lv : List (Nat × Value)}
    (hx : p.tables.exec = Jvm.exec) (hb : c.code = cc) (hml : c.maxLocals = nL) (hown : s.vm.findClass own = some m.cls) (hG : ∀ w ∈ gW, w.before args s = true) (hK : va_K D vwCl (ag_T cI cC cL) s) (hN : ag_NZ A s) (hA : ∀ q, s.heap.size ≤ q → A q) (hP : va_P D vwCl w H) (hD : va_D A w) (hS : va_S A s.heap H locs) (hl : lv_has ls nL lv)
    (hM : ag_MI l y code maxL ret fr lo D cI cC cL As wc post) (hf : ag_fS y code maxL (some ret) As.length) (hlk : Cond.methodLink own index y ∈ gW) {put : va_W → va_W} (hcut : ag_cut w wc put)
    (hst : st0 = As.reverse ++ rest) (hcat : (rest.map fun v => v.category).sum ≤ 8) (hR : fr + 1 ≤ R.frames ∧ 8 + (maxL + 11) + lo ≤ R.locals) (hz : cells ≤ R.cells ∧ slots ≤ R.slots)
    (hdg : decode cc pc = .ok (.invokestatic index, 3))
    (kk : ∀ (r : Int32) (w1 : va_W) (H1 : Heap) (locs1 : List Loc), post r w1 → va_P D vwCl (put w1) H1 → va_D A (put w1) → va_S A s.heap H1 locs1 → W p l e R s m args below meth c H1 locs1 cells slots Q (F0 m (pc + 3) ls (.int r :: rest))) :
    W p l e R s m args below meth c H locs cells slots Q (F0 m pc ls st0) := by
  subst hst
  obtain ⟨f1, f2, f4, f5, f6, f7⟩ := hf
  obtain ⟨hPc, hDc, hjoin⟩ := hcut D vwCl A H hP hD
  have hFc : ∀ q, va_A wc H.size q → A q := by
    rintro q (⟨k, e, h⟩ | h)
    · exact hDc.2 k _ h
    · exact hA q (Nat.le_trans hS.1 h)
  have hp := ag_preS (av := As) hK hN hS hFc hPc hDc
  refine va_calli (va_runS (As := As) (rest := rest) ⟨hx, hb, hml, hown, hG⟩ (hM H.size) ⟨callB_of As.length hG (gW_good f1) rfl rfl rfl (hG _ f4) (hG _ hlk) ⟨f5, f6, f7⟩ hR, hG _ f2⟩ hp rfl rfl hl.1 rfl (lv_room hcat) hdg hz) hS (fun q _ h => hFc q h) hFc (fun r u t H1 locs1 ht hvm hw hB hz1 hk1 hS1 => ?_)
  obtain ⟨hP1, ha⟩ := hB
  rw [ht] at hP1
  obtain ⟨g1, g2⟩ := hjoin H1 u hk1 hP1 ha
  exact kk r u H1 locs1 hw g1 g2 hS1
theorem ag_callSv {own : String} {index maxL fr lo nL : Nat} {y : MethodName} {code : ByteArray} {post : va_W → Prop} {wc : va_W} {As : List Value} {st0 : List Value} {lv : List (Nat × Value)}
    (hx : p.tables.exec = Jvm.exec) (hb : c.code = cc) (hml : c.maxLocals = nL) (hown : s.vm.findClass own = some m.cls) (hG : ∀ w ∈ gW, w.before args s = true) (hK : va_K D vwCl (ag_T cI cC cL) s) (hN : ag_NZ A s) (hA : ∀ q, s.heap.size ≤ q → A q) (hP : va_P D vwCl w H) (hD : va_D A w) (hS : va_S A s.heap H locs) (hl : lv_has ls nL lv)
    (hM : ag_MV l y code maxL fr lo D cI cC cL As wc post) (hf : ag_fS y code maxL none As.length) (hlk : Cond.methodLink own index y ∈ gW) {put : va_W → va_W} (hcut : ag_cut w wc put)
    (hst : st0 = As.reverse ++ rest) (hcat : (rest.map fun v => v.category).sum ≤ 8) (hR : fr + 1 ≤ R.frames ∧ 8 + (maxL + 11) + lo ≤ R.locals) (hz : cells ≤ R.cells ∧ slots ≤ R.slots)
    (hdg : decode cc pc = .ok (.invokestatic index, 3))
    (kk : ∀ (w1 : va_W) (H1 : Heap) (locs1 : List Loc), post w1 → va_P D vwCl (put w1) H1 → va_D A (put w1) → va_S A s.heap H1 locs1 → W p l e R s m args below meth c H1 locs1 cells slots Q (F0 m (pc + 3) ls rest)) :
    W p l e R s m args below meth c H locs cells slots Q (F0 m pc ls st0) := by
  subst hst
  obtain ⟨f1, f2, f4, f5, f6, f7⟩ := hf
  obtain ⟨hPc, hDc, hjoin⟩ := hcut D vwCl A H hP hD
  have hFc : ∀ q, va_A wc H.size q → A q := by
    rintro q (⟨k, e, h⟩ | h)
    · exact hDc.2 k _ h
    · exact hA q (Nat.le_trans hS.1 h)
  have hp := ag_preS (av := As) hK hN hS hFc hPc hDc
  refine va_callv (va_runS (As := As) (rest := rest) ⟨hx, hb, hml, hown, hG⟩ (hM H.size) ⟨callB_of As.length hG (gW_good f1) rfl rfl rfl (hG _ f4) (hG _ hlk) ⟨f5, f6, f7⟩ hR, hG _ f2⟩ hp rfl rfl hl.1 rfl (lv_room hcat) hdg hz) hS (fun q _ h => hFc q h) hFc (fun u t H1 locs1 ht hvm hw hB hz1 hk1 hS1 => ?_)
  obtain ⟨hP1, ha⟩ := hB
  rw [ht] at hP1
  obtain ⟨g1, g2⟩ := hjoin H1 u hk1 hP1 ha
  exact kk u H1 locs1 hw g1 g2 hS1
/-- a static method of a nest mate -/
theorem ag_callNi {own host : String} {index maxL fr lo nL : Nat} {y : MethodName} {code : ByteArray} {ret : FieldType} {post : Int32 → va_W → Prop} {wc : va_W} {As : List Value} {st0 : List Value} {lv : List (Nat × Value)}
    (hx : p.tables.exec = Jvm.exec) (hb : c.code = cc) (hml : c.maxLocals = nL) (hown : s.vm.findClass own = some m.cls) (hG : ∀ w ∈ gW, w.before args s = true) (hK : va_K D vwCl (ag_T cI cC cL) s) (hN : ag_NZ A s) (hA : ∀ q, s.heap.size ≤ q → A q) (hP : va_P D vwCl w H) (hD : va_D A w) (hS : va_S A s.heap H locs) (hl : lv_has ls nL lv)
    (hM : ag_MI l y code maxL ret fr lo D cI cC cL As wc post) (hf : ag_fS y code maxL (some ret) As.length) (hlk : va_Nw (.methodLinkNest own index y host) s) {put : va_W → va_W} (hcut : ag_cut w wc put)
    (hst : st0 = As.reverse ++ rest) (hcat : (rest.map fun v => v.category).sum ≤ 8) (hR : fr + 1 ≤ R.frames ∧ 8 + (maxL + 11) + lo ≤ R.locals) (hz : cells ≤ R.cells ∧ slots ≤ R.slots)
    (hdg : decode cc pc = .ok (.invokestatic index, 3))
    (kk : ∀ (r : Int32) (w1 : va_W) (H1 : Heap) (locs1 : List Loc), post r w1 → va_P D vwCl (put w1) H1 → va_D A (put w1) → va_S A s.heap H1 locs1 → W p l e R s m args below meth c H1 locs1 cells slots Q (F0 m (pc + 3) ls (.int r :: rest))) :
    W p l e R s m args below meth c H locs cells slots Q (F0 m pc ls st0) := by
  subst hst
  obtain ⟨f1, f2, f4, f5, f6, f7⟩ := hf
  obtain ⟨hPc, hDc, hjoin⟩ := hcut D vwCl A H hP hD
  have hFc : ∀ q, va_A wc H.size q → A q := by
    rintro q (⟨k, e, h⟩ | h)
    · exact hDc.2 k _ h
    · exact hA q (Nat.le_trans hS.1 h)
  have hp := ag_preS (av := As) hK hN hS hFc hPc hDc
  refine va_calli (va_runSN (As := As) (rest := rest) ⟨hx, hb, hml, hown, hG⟩ (hM H.size) ⟨va_cnB As.length hG (gW_good f1) rfl rfl rfl hlk (hG _ f4) ⟨f5, f6, f7⟩ hR, hG _ f2, trivial⟩ hp rfl rfl hl.1 rfl (lv_room hcat) hdg hz) hS (fun q _ h => hFc q h) hFc (fun r u t H1 locs1 ht hvm hw hB hz1 hk1 hS1 => ?_)
  obtain ⟨hP1, ha⟩ := hB
  rw [ht] at hP1
  obtain ⟨g1, g2⟩ := hjoin H1 u hk1 hP1 ha
  exact kk r u H1 locs1 hw g1 g2 hS1
/-- a method's end -/
theorem ag_iret {w0 w' : va_W} (as : List Nat) {post : Int32 → va_W → Prop} {r : Int32} {ty : FieldType} (hx : p.tables.exec = Jvm.exec) (hb : c.code = cc) (hr : meth.sig.returnType = some ty) (hn : narrow ty (.int r) = .int r) (hlocks : meth.locks = false) (hP : va_P D vwCl w' H) (hS : va_S A s.heap H locs) (ha : w'.map Prod.fst = as) (ha2 : w0.map Prod.fst = as) (hpost : post r w') (hdg : decode cc pc = .ok (.ireturn, 1)) :
    W p l e R s m args below meth c H locs 0 0 (MQ below (va_Qi post (ag_Out D w0) A) args s 0 0 A) (F0 m pc ls [.int r]) :=
  W.zret hx hb hr hn (fun t ht hW => ⟨⟨r, w', rfl, hpost, by rw [ht]; exact hP, ha.trans ha2.symm⟩, hS.F ht⟩) hS.2.2 hdg hlocks
theorem ag_vret {w0 w' : va_W} (as : List Nat) {post : va_W → Prop} (hx : p.tables.exec = Jvm.exec) (hb : c.code = cc) (hr : meth.sig.returnType = none) (hlocks : meth.locks = false) (hP : va_P D vwCl w' H) (hS : va_S A s.heap H locs) (ha : w'.map Prod.fst = as) (ha2 : w0.map Prod.fst = as) (hpost : post w') (hdg : decode cc pc = .ok (.return_, 1)) :
    W p l e R s m args below meth c H locs 0 0 (MQ below (va_Qv post (ag_Out D w0) A) args s 0 0 A) (F0 m pc ls []) :=
  W.vret hx hb hr (fun t ht hW => ⟨⟨w', rfl, hpost, by rw [ht]; exact hP, ha.trans ha2.symm⟩, hS.F ht⟩) hS.2.2 hdg hlocks
end AGW
/-- a method's beginning: its body, from its entry, over what its start gives -/
def ag_Body (l : Launch) (own : String) (cc : ByteArray) (maxL : Nat) (ret : Option FieldType) (nm : String) (R : Room) (D : va_G) (cI cC cL : ClassId) (av : List Value) (w : va_W) (Qx : (Nat → Prop) → Array Value → State → Outcome → State → Prop) (mc ms : Nat) : Prop :=
  ∀ (p : Program) (e : Env) (s : State) (m : MethodId) (below : List Frame) (meth : Method) (c : Code), p.tables.exec = Jvm.exec → c.code = cc → meth.sig.returnType = ret → meth.locks = false → c.maxLocals = maxL → s.vm.findClass own = some m.cls → meth.name = nm →
    (∀ w ∈ gW, w.before av.toArray s = true) → va_K D vwCl (ag_T cI cC cL) s →
    ∀ A : Nat → Prop, ag_NZ A s → (∀ q, s.heap.size ≤ q → A q) → ∀ (H : Heap) (locs : List Loc), va_P D vwCl w H → va_D A w → va_S A s.heap H locs →
    ∀ ls : Array Slot, lv_has ls maxL (lv_args 0 av) → W p l e R s m av.toArray below meth c H locs 0 0 (MQ below (Qx A) av.toArray s mc ms A) (F0 m 0 ls [])
theorem ag_ofW {l : Launch} {y : MethodName} {ws ws' : List Cond} {rm : Room} {Pc : Array Value → State → Prop} {Qc : Array Value → State → Outcome → State → Prop} {mc ms : Nat} {free : Addr → Prop} {cc : ByteArray} {maxL : Nat} {ret : Option FieldType}
    (hy : plainFor y = true) (hw : ws = Cond.code y cc maxL ret :: ws')
    (body : ∀ p e s m args below meth c s₁, BodyLoose p l y (headSpec ws rm) cc maxL ret e s m args below meth c s₁ → c.maxLocals = maxL → Pc args s →
      W p l e (headSpec ws rm).room s m args below meth c s.heap [] 0 0 (MQ below Qc args s mc ms free) (entryFrame m args maxL)) : Met l y ws rm Pc Qc mc ms free := by
  refine MetFree.of_bodySF (code := cc) (maxLocals := maxL) (ret := ret) hy ?_ ?_
  · intro args s m h hn
    obtain ⟨meth, c, h1, h2, h3, h4, h5, h6, -, -⟩ := Cond.code_spec hn (atoms_spec (ws := ws) h _ (by rw [hw]; exact List.mem_cons_self))
    exact ⟨meth, c, h1, h2, h3, h4, h5, h6⟩
  · intro p e s m args below meth c s₁ B hml hP _
    have hh0 : s₁.heap = s.heap := by rw [B.state]; rfl
    obtain ⟨t, a1, o, b1, b2, b3⟩ := body p e s m args below meth c s₁ B hml hP s₁ hh0 (Stand.of_body B)
    exact ⟨t, o, a1, b1, b2, ⟨b3.1, b3.2⟩⟩
theorem ag_body {l : Launch} {y : MethodName} {cc : ByteArray} {maxL : Nat} {ret : Option FieldType} {rm : Room} {D : va_G} {cI cC cL : ClassId} {av : List Value} {w : va_W} {Qx : (Nat → Prop) → Array Value → State → Outcome → State → Prop} {mc ms sz : Nat} (hy : plainFor y = true) (hav : (lg_sl av).length ≤ maxL)
    (h : ag_Body l y.cls cc maxL ret y.name rm D cI cC cL av w Qx mc ms) : Met l y (.code y cc maxL ret :: gW) rm (va_Pc av (ag_In D cI cC cL w sz)) (Qx (va_A w sz)) mc ms (va_A w sz) := by
  refine ag_ofW (cc := cc) (maxL := maxL) (ret := ret) hy rfl ?_
  intro p e s m args below meth c s₁ B hml hv
  obtain ⟨rfl, hsz, hP, hK, hD0, hN, hZ⟩ := hv
  have hts := atoms_spec (ws := .code y cc maxL ret :: gW) B.pre
  subst hsz
  have hl := lv_entry av (n := maxL) hav
  rw [lg_entry_eq]
  exact h p e s m below meth c B.exec B.bytes B.returns B.notSynchronized hml (findClass_of_methodNamed B.named) (name_of_methodNamed B.named B.method).1 (fun w hw => hts w (List.mem_cons_of_mem _ hw)) hK _ ⟨hN, hZ⟩ (fun q hq => Or.inr hq) _ _ hP hD0.self va_S.rf _ hl
theorem ag_MI.of {l : Launch} {y : MethodName} {cc : ByteArray} {maxL : Nat} {ret : FieldType} {fr lo : Nat} {D : va_G} {cI cC cL : ClassId} {av : List Value} {w : va_W} {post : Int32 → va_W → Prop} (hy : plainFor y = true) (hav : (lg_sl av).length ≤ maxL)
    (h : ag_Body l y.cls cc maxL (some ret) y.name (ag_rm fr lo) D cI cC cL av w (fun A => va_Qi post (ag_Out D w) A) 0 0) : ag_MI l y cc maxL ret fr lo D cI cC cL av w post := fun _ => ag_body hy hav h
theorem ag_MV.of {l : Launch} {y : MethodName} {cc : ByteArray} {maxL : Nat} {fr lo : Nat} {D : va_G} {cI cC cL : ClassId} {av : List Value} {w : va_W} {post : va_W → Prop} (hy : plainFor y = true) (hav : (lg_sl av).length ≤ maxL)
    (h : ag_Body l y.cls cc maxL none y.name (ag_rm fr lo) D cI cC cL av w (fun A => va_Qv post (ag_Out D w) A) 0 0) : ag_MV l y cc maxL fr lo D cI cC cL av w post := fun _ => ag_body hy hav h
end
section
/-! the cells, by functions of their numbers; the rows of fields and arrays -/
abbrev oL (h a b c : Nat) (f : Nat → Int32) : Nat × va_E := (h, .inr (1, [.int (f 0), .int (f 1), .int (f 2), .int (f 3), .int (f 4), .int (f 5), .int (f 6), .int (f 7), .ref a, .ref b, .ref c]))
abbrev oK (h : Nat) (f : Nat → Int32) : Nat × va_E := (h, .inr (4, [.int (f 0), .int (f 1), .int (f 2), .int (f 3), .int (f 4), .int (f 5), .int (f 6)]))
abbrev oH (h a : Nat) (f : Nat → Int32) : Nat × va_E := (h, .inr (0, [.ref a, .int (f 0), .int (f 1)]))
abbrev oT (h a : Nat) (f : Nat → Int32) : Nat × va_E := (h, .inr (3, [.ref a, .int (f 0), .int (f 1), .int (f 2), .int (f 3), .int (f 4)]))
abbrev oP (h : Nat) (f : Nat → Int32) : Nat × va_E := (h, .inr (2, [.int (f 0), .int (f 1), .int (f 2), .int (f 3)]))
abbrev oX (h a b c d e g : Nat) : Nat × va_E := (h, .inr (5, [.ref a, .ref b, .ref c, .ref d, .ref e, .ref g]))
abbrev oM (h a b c d e g : Nat) (f : Nat → Int32) : Nat × va_E := (h, .inr (6, [.ref a, .ref b, .ref c, .ref d, .int (f 0), .int (f 1), .ref e, .int (f 2), .int (f 3), .int (f 4), .int (f 5), .int (f 6), .int (f 7), .int (f 8), .int (f 9), .int (f 10), .int (f 11), .int (f 12), .int (f 13), .int (f 14), .int (f 15), .ref g]))
abbrev aI (cI : ClassId) (a n : Nat) (f : Nat → Int32) : Nat × va_E := (a, .inl (cI, n, .inl f))
abbrev aC (cC : ClassId) (a n : Nat) (f : Nat → Int32) : Nat × va_E := (a, .inl (cC, n, .inl f))
abbrev aL (cL : ClassId) (a : Nat) (g : Nat → Option Nat) : Nat × va_E := (a, .inl (cL, 4, .inr (.inr (.inr (.inr g)))))
def ag_abs (x : Int32) : Int32 := if 0 ≤ x then x else 0 - x
def ag_max (x y : Int32) : Int32 := if x < y then y else x
def ag_min (x y : Int32) : Int32 := if y < x then y else x
theorem ownX0 : ∀ k, k < 3 → (TX0 k).1 = RX0 := by decide +kernel
theorem ownX1 : ∀ k, k < 11 → (TX1 k).1 = RX1 := by decide +kernel
theorem ownX2 : ∀ k, k < 4 → (TX2 k).1 = RX2 := by decide +kernel
theorem ownX3 : ∀ k, k < 6 → (TX3 k).1 = RX3 := by decide +kernel
theorem ownX4 : ∀ k, k < 7 → (TX4 k).1 = RX4 := by decide +kernel
theorem ownX5 : ∀ k, k < 6 → (TX5 k).1 = RX5 := by decide +kernel
theorem ownX6 : ∀ k, k < 22 → (TX6 k).1 = RX6 := by decide +kernel
section AGF
variable {p : Program} {l : Launch} {e : Env} {R : Room} {s : State} {m : MethodId} {args : Array Value} {below : List Frame} {meth : Method} {c : Code} {H : Heap} {locs : List Loc} {cells slots : Nat} {Q : State → Prop}
variable {cc : ByteArray} {pc : Nat} {ls : Array Slot} {rest : List Value} {D : va_G} {A : Nat → Prop} {a : Nat} {cI cC cL : ClassId} {w : va_W} {H0 : Heap}
theorem ag_getX0 (hx : p.tables.exec = Jvm.exec) (hb : c.code = cc) (hG : ∀ w ∈ gW, w.before args s = true) {own : String} {index : Nat} {fs : List Value} {v : Value} (hown : s.vm.findClass own = some m.cls) (hK : va_K D vwCl (ag_T cI cC cL) s) (hP : va_P D vwCl w H) (q0 k : Nat) (he : w[q0]? = some (a, .inr (0, fs))) (hk : k < 3) (hlk : Cond.fieldLink own index RX0 (TX0 k).2.1 (TX0 k).2.2.1 ∈ gW) (hv : fs[k]? = some v) (hdg : decode cc pc = .ok (.getfield index, 3))
    (kk : W p l e R s m args below meth c H locs cells slots Q (F0 m (pc + 3) ls (v :: rest))) : W p l e R s m args below meth c H locs cells slots Q (F0 m pc ls (.ref a :: rest)) :=
  va_get (T := TX0) (N := 3) hx hb hG inX0 hown hK hP q0 he rfl k hk (hG _ hlk) (fun x h => (ownX0 k hk) ▸ h) hv hdg kk
theorem ag_putX0 (hx : p.tables.exec = Jvm.exec) (hb : c.code = cc) (hG : ∀ w ∈ gW, w.before args s = true) {own : String} {index : Nat} {fs : List Value} {v : Value} (hown : s.vm.findClass own = some m.cls) (hK : va_K D vwCl (ag_T cI cC cL) s) (hP : va_P D vwCl w H) (hD : va_D A w) (hS : va_S A H0 H locs) (q0 k : Nat) (he : w[q0]? = some (a, .inr (0, fs))) (hk : k < 3) (hlk : Cond.fieldLink own index RX0 (TX0 k).2.1 (TX0 k).2.2.1 ∈ gW) (hfin : (TX0 k).2.2.2 = false) (hn : narrow (tyX0 k) v = v) (hfit : fits (tyX0 k) v = true) (hl : k < fs.length) (hdg : decode cc pc = .ok (.putfield index, 3))
    (kk : ∀ (H1 : Heap) (locs1 : List Loc), va_P D vwCl (w.set q0 (a, .inr (0, fs.set k v))) H1 → va_D A (w.set q0 (a, .inr (0, fs.set k v))) → va_S A H0 H1 locs1 → W p l e R s m args below meth c H1 locs1 cells slots Q (F0 m (pc + 3) ls rest)) : W p l e R s m args below meth c H locs cells slots Q (F0 m pc ls (v :: .ref a :: rest)) :=
  va_put (T := TX0) (N := 3) hx hb hG inX0 tyX0 tyX0_ok nmX0 hown hK hP hD hS q0 he rfl k hk (hG _ hlk) (fun x h => (ownX0 k hk) ▸ h) hfin (tyX0_ok k hk) hn hfit hl hdg kk
theorem ag_getX1 (hx : p.tables.exec = Jvm.exec) (hb : c.code = cc) (hG : ∀ w ∈ gW, w.before args s = true) {own : String} {index : Nat} {fs : List Value} {v : Value} (hown : s.vm.findClass own = some m.cls) (hK : va_K D vwCl (ag_T cI cC cL) s) (hP : va_P D vwCl w H) (q0 k : Nat) (he : w[q0]? = some (a, .inr (1, fs))) (hk : k < 11) (hlk : Cond.fieldLink own index RX1 (TX1 k).2.1 (TX1 k).2.2.1 ∈ gW) (hv : fs[k]? = some v) (hdg : decode cc pc = .ok (.getfield index, 3))
    (kk : W p l e R s m args below meth c H locs cells slots Q (F0 m (pc + 3) ls (v :: rest))) : W p l e R s m args below meth c H locs cells slots Q (F0 m pc ls (.ref a :: rest)) :=
  va_get (T := TX1) (N := 11) hx hb hG inX1 hown hK hP q0 he rfl k hk (hG _ hlk) (fun x h => (ownX1 k hk) ▸ h) hv hdg kk
theorem ag_putX1 (hx : p.tables.exec = Jvm.exec) (hb : c.code = cc) (hG : ∀ w ∈ gW, w.before args s = true) {own : String} {index : Nat} {fs : List Value} {v : Value} (hown : s.vm.findClass own = some m.cls) (hK : va_K D vwCl (ag_T cI cC cL) s) (hP : va_P D vwCl w H) (hD : va_D A w) (hS : va_S A H0 H locs) (q0 k : Nat) (he : w[q0]? = some (a, .inr (1, fs))) (hk : k < 11) (hlk : Cond.fieldLink own index RX1 (TX1 k).2.1 (TX1 k).2.2.1 ∈ gW) (hfin : (TX1 k).2.2.2 = false) (hn : narrow (tyX1 k) v = v) (hfit : fits (tyX1 k) v = true) (hl : k < fs.length) (hdg : decode cc pc = .ok (.putfield index, 3))
    (kk : ∀ (H1 : Heap) (locs1 : List Loc), va_P D vwCl (w.set q0 (a, .inr (1, fs.set k v))) H1 → va_D A (w.set q0 (a, .inr (1, fs.set k v))) → va_S A H0 H1 locs1 → W p l e R s m args below meth c H1 locs1 cells slots Q (F0 m (pc + 3) ls rest)) : W p l e R s m args below meth c H locs cells slots Q (F0 m pc ls (v :: .ref a :: rest)) :=
  va_put (T := TX1) (N := 11) hx hb hG inX1 tyX1 tyX1_ok nmX1 hown hK hP hD hS q0 he rfl k hk (hG _ hlk) (fun x h => (ownX1 k hk) ▸ h) hfin (tyX1_ok k hk) hn hfit hl hdg kk
theorem ag_getX2 (hx : p.tables.exec = Jvm.exec) (hb : c.code = cc) (hG : ∀ w ∈ gW, w.before args s = true) {own : String} {index : Nat} {fs : List Value} {v : Value} (hown : s.vm.findClass own = some m.cls) (hK : va_K D vwCl (ag_T cI cC cL) s) (hP : va_P D vwCl w H) (q0 k : Nat) (he : w[q0]? = some (a, .inr (2, fs))) (hk : k < 4) (hlk : Cond.fieldLink own index RX2 (TX2 k).2.1 (TX2 k).2.2.1 ∈ gW) (hv : fs[k]? = some v) (hdg : decode cc pc = .ok (.getfield index, 3))
    (kk : W p l e R s m args below meth c H locs cells slots Q (F0 m (pc + 3) ls (v :: rest))) : W p l e R s m args below meth c H locs cells slots Q (F0 m pc ls (.ref a :: rest)) :=
  va_get (T := TX2) (N := 4) hx hb hG inX2 hown hK hP q0 he rfl k hk (hG _ hlk) (fun x h => (ownX2 k hk) ▸ h) hv hdg kk
theorem ag_putX2 (hx : p.tables.exec = Jvm.exec) (hb : c.code = cc) (hG : ∀ w ∈ gW, w.before args s = true) {own : String} {index : Nat} {fs : List Value} {v : Value} (hown : s.vm.findClass own = some m.cls) (hK : va_K D vwCl (ag_T cI cC cL) s) (hP : va_P D vwCl w H) (hD : va_D A w) (hS : va_S A H0 H locs) (q0 k : Nat) (he : w[q0]? = some (a, .inr (2, fs))) (hk : k < 4) (hlk : Cond.fieldLink own index RX2 (TX2 k).2.1 (TX2 k).2.2.1 ∈ gW) (hfin : (TX2 k).2.2.2 = false) (hn : narrow (tyX2 k) v = v) (hfit : fits (tyX2 k) v = true) (hl : k < fs.length) (hdg : decode cc pc = .ok (.putfield index, 3))
    (kk : ∀ (H1 : Heap) (locs1 : List Loc), va_P D vwCl (w.set q0 (a, .inr (2, fs.set k v))) H1 → va_D A (w.set q0 (a, .inr (2, fs.set k v))) → va_S A H0 H1 locs1 → W p l e R s m args below meth c H1 locs1 cells slots Q (F0 m (pc + 3) ls rest)) : W p l e R s m args below meth c H locs cells slots Q (F0 m pc ls (v :: .ref a :: rest)) :=
  va_put (T := TX2) (N := 4) hx hb hG inX2 tyX2 tyX2_ok nmX2 hown hK hP hD hS q0 he rfl k hk (hG _ hlk) (fun x h => (ownX2 k hk) ▸ h) hfin (tyX2_ok k hk) hn hfit hl hdg kk
theorem ag_getX3 (hx : p.tables.exec = Jvm.exec) (hb : c.code = cc) (hG : ∀ w ∈ gW, w.before args s = true) {own : String} {index : Nat} {fs : List Value} {v : Value} (hown : s.vm.findClass own = some m.cls) (hK : va_K D vwCl (ag_T cI cC cL) s) (hP : va_P D vwCl w H) (q0 k : Nat) (he : w[q0]? = some (a, .inr (3, fs))) (hk : k < 6) (hlk : Cond.fieldLink own index RX3 (TX3 k).2.1 (TX3 k).2.2.1 ∈ gW) (hv : fs[k]? = some v) (hdg : decode cc pc = .ok (.getfield index, 3))
    (kk : W p l e R s m args below meth c H locs cells slots Q (F0 m (pc + 3) ls (v :: rest))) : W p l e R s m args below meth c H locs cells slots Q (F0 m pc ls (.ref a :: rest)) :=
  va_get (T := TX3) (N := 6) hx hb hG inX3 hown hK hP q0 he rfl k hk (hG _ hlk) (fun x h => (ownX3 k hk) ▸ h) hv hdg kk
theorem ag_putX3 (hx : p.tables.exec = Jvm.exec) (hb : c.code = cc) (hG : ∀ w ∈ gW, w.before args s = true) {own : String} {index : Nat} {fs : List Value} {v : Value} (hown : s.vm.findClass own = some m.cls) (hK : va_K D vwCl (ag_T cI cC cL) s) (hP : va_P D vwCl w H) (hD : va_D A w) (hS : va_S A H0 H locs) (q0 k : Nat) (he : w[q0]? = some (a, .inr (3, fs))) (hk : k < 6) (hlk : Cond.fieldLink own index RX3 (TX3 k).2.1 (TX3 k).2.2.1 ∈ gW) (hfin : (TX3 k).2.2.2 = false) (hn : narrow (tyX3 k) v = v) (hfit : fits (tyX3 k) v = true) (hl : k < fs.length) (hdg : decode cc pc = .ok (.putfield index, 3))
    (kk : ∀ (H1 : Heap) (locs1 : List Loc), va_P D vwCl (w.set q0 (a, .inr (3, fs.set k v))) H1 → va_D A (w.set q0 (a, .inr (3, fs.set k v))) → va_S A H0 H1 locs1 → W p l e R s m args below meth c H1 locs1 cells slots Q (F0 m (pc + 3) ls rest)) : W p l e R s m args below meth c H locs cells slots Q (F0 m pc ls (v :: .ref a :: rest)) :=
  va_put (T := TX3) (N := 6) hx hb hG inX3 tyX3 tyX3_ok nmX3 hown hK hP hD hS q0 he rfl k hk (hG _ hlk) (fun x h => (ownX3 k hk) ▸ h) hfin (tyX3_ok k hk) hn hfit hl hdg kk
theorem ag_getX4 (hx : p.tables.exec = Jvm.exec) (hb : c.code = cc) (hG : ∀ w ∈ gW, w.before args s = true) {own : String} {index : Nat} {fs : List Value} {v : Value} (hown : s.vm.findClass own = some m.cls) (hK : va_K D vwCl (ag_T cI cC cL) s) (hP : va_P D vwCl w H) (q0 k : Nat) (he : w[q0]? = some (a, .inr (4, fs))) (hk : k < 7) (hlk : Cond.fieldLink own index RX4 (TX4 k).2.1 (TX4 k).2.2.1 ∈ gW) (hv : fs[k]? = some v) (hdg : decode cc pc = .ok (.getfield index, 3))
    (kk : W p l e R s m args below meth c H locs cells slots Q (F0 m (pc + 3) ls (v :: rest))) : W p l e R s m args below meth c H locs cells slots Q (F0 m pc ls (.ref a :: rest)) :=
  va_get (T := TX4) (N := 7) hx hb hG inX4 hown hK hP q0 he rfl k hk (hG _ hlk) (fun x h => (ownX4 k hk) ▸ h) hv hdg kk
theorem ag_putX4 (hx : p.tables.exec = Jvm.exec) (hb : c.code = cc) (hG : ∀ w ∈ gW, w.before args s = true) {own : String} {index : Nat} {fs : List Value} {v : Value} (hown : s.vm.findClass own = some m.cls) (hK : va_K D vwCl (ag_T cI cC cL) s) (hP : va_P D vwCl w H) (hD : va_D A w) (hS : va_S A H0 H locs) (q0 k : Nat) (he : w[q0]? = some (a, .inr (4, fs))) (hk : k < 7) (hlk : Cond.fieldLink own index RX4 (TX4 k).2.1 (TX4 k).2.2.1 ∈ gW) (hfin : (TX4 k).2.2.2 = false) (hn : narrow (tyX4 k) v = v) (hfit : fits (tyX4 k) v = true) (hl : k < fs.length) (hdg : decode cc pc = .ok (.putfield index, 3))
    (kk : ∀ (H1 : Heap) (locs1 : List Loc), va_P D vwCl (w.set q0 (a, .inr (4, fs.set k v))) H1 → va_D A (w.set q0 (a, .inr (4, fs.set k v))) → va_S A H0 H1 locs1 → W p l e R s m args below meth c H1 locs1 cells slots Q (F0 m (pc + 3) ls rest)) : W p l e R s m args below meth c H locs cells slots Q (F0 m pc ls (v :: .ref a :: rest)) :=
  va_put (T := TX4) (N := 7) hx hb hG inX4 tyX4 tyX4_ok nmX4 hown hK hP hD hS q0 he rfl k hk (hG _ hlk) (fun x h => (ownX4 k hk) ▸ h) hfin (tyX4_ok k hk) hn hfit hl hdg kk
theorem ag_getX5 (hx : p.tables.exec = Jvm.exec) (hb : c.code = cc) (hG : ∀ w ∈ gW, w.before args s = true) {own : String} {index : Nat} {fs : List Value} {v : Value} (hown : s.vm.findClass own = some m.cls) (hK : va_K D vwCl (ag_T cI cC cL) s) (hP : va_P D vwCl w H) (q0 k : Nat) (he : w[q0]? = some (a, .inr (5, fs))) (hk : k < 6) (hlk : Cond.fieldLink own index RX5 (TX5 k).2.1 (TX5 k).2.2.1 ∈ gW) (hv : fs[k]? = some v) (hdg : decode cc pc = .ok (.getfield index, 3))
    (kk : W p l e R s m args below meth c H locs cells slots Q (F0 m (pc + 3) ls (v :: rest))) : W p l e R s m args below meth c H locs cells slots Q (F0 m pc ls (.ref a :: rest)) :=
  va_get (T := TX5) (N := 6) hx hb hG inX5 hown hK hP q0 he rfl k hk (hG _ hlk) (fun x h => (ownX5 k hk) ▸ h) hv hdg kk
theorem ag_putX5 (hx : p.tables.exec = Jvm.exec) (hb : c.code = cc) (hG : ∀ w ∈ gW, w.before args s = true) {own : String} {index : Nat} {fs : List Value} {v : Value} (hown : s.vm.findClass own = some m.cls) (hK : va_K D vwCl (ag_T cI cC cL) s) (hP : va_P D vwCl w H) (hD : va_D A w) (hS : va_S A H0 H locs) (q0 k : Nat) (he : w[q0]? = some (a, .inr (5, fs))) (hk : k < 6) (hlk : Cond.fieldLink own index RX5 (TX5 k).2.1 (TX5 k).2.2.1 ∈ gW) (hfin : (TX5 k).2.2.2 = false) (hn : narrow (tyX5 k) v = v) (hfit : fits (tyX5 k) v = true) (hl : k < fs.length) (hdg : decode cc pc = .ok (.putfield index, 3))
    (kk : ∀ (H1 : Heap) (locs1 : List Loc), va_P D vwCl (w.set q0 (a, .inr (5, fs.set k v))) H1 → va_D A (w.set q0 (a, .inr (5, fs.set k v))) → va_S A H0 H1 locs1 → W p l e R s m args below meth c H1 locs1 cells slots Q (F0 m (pc + 3) ls rest)) : W p l e R s m args below meth c H locs cells slots Q (F0 m pc ls (v :: .ref a :: rest)) :=
  va_put (T := TX5) (N := 6) hx hb hG inX5 tyX5 tyX5_ok nmX5 hown hK hP hD hS q0 he rfl k hk (hG _ hlk) (fun x h => (ownX5 k hk) ▸ h) hfin (tyX5_ok k hk) hn hfit hl hdg kk
theorem ag_getX6 (hx : p.tables.exec = Jvm.exec) (hb : c.code = cc) (hG : ∀ w ∈ gW, w.before args s = true) {own : String} {index : Nat} {fs : List Value} {v : Value} (hown : s.vm.findClass own = some m.cls) (hK : va_K D vwCl (ag_T cI cC cL) s) (hP : va_P D vwCl w H) (q0 k : Nat) (he : w[q0]? = some (a, .inr (6, fs))) (hk : k < 22) (hlk : Cond.fieldLink own index RX6 (TX6 k).2.1 (TX6 k).2.2.1 ∈ gW) (hv : fs[k]? = some v) (hdg : decode cc pc = .ok (.getfield index, 3))
    (kk : W p l e R s m args below meth c H locs cells slots Q (F0 m (pc + 3) ls (v :: rest))) : W p l e R s m args below meth c H locs cells slots Q (F0 m pc ls (.ref a :: rest)) :=
  va_get (T := TX6) (N := 22) hx hb hG inX6 hown hK hP q0 he rfl k hk (hG _ hlk) (fun x h => (ownX6 k hk) ▸ h) hv hdg kk
theorem ag_putX6 (hx : p.tables.exec = Jvm.exec) (hb : c.code = cc) (hG : ∀ w ∈ gW, w.before args s = true) {own : String} {index : Nat} {fs : List Value} {v : Value} (hown : s.vm.findClass own = some m.cls) (hK : va_K D vwCl (ag_T cI cC cL) s) (hP : va_P D vwCl w H) (hD : va_D A w) (hS : va_S A H0 H locs) (q0 k : Nat) (he : w[q0]? = some (a, .inr (6, fs))) (hk : k < 22) (hlk : Cond.fieldLink own index RX6 (TX6 k).2.1 (TX6 k).2.2.1 ∈ gW) (hfin : (TX6 k).2.2.2 = false) (hn : narrow (tyX6 k) v = v) (hfit : fits (tyX6 k) v = true) (hl : k < fs.length) (hdg : decode cc pc = .ok (.putfield index, 3))
    (kk : ∀ (H1 : Heap) (locs1 : List Loc), va_P D vwCl (w.set q0 (a, .inr (6, fs.set k v))) H1 → va_D A (w.set q0 (a, .inr (6, fs.set k v))) → va_S A H0 H1 locs1 → W p l e R s m args below meth c H1 locs1 cells slots Q (F0 m (pc + 3) ls rest)) : W p l e R s m args below meth c H locs cells slots Q (F0 m pc ls (v :: .ref a :: rest)) :=
  va_put (T := TX6) (N := 22) hx hb hG inX6 tyX6 tyX6_ok nmX6 hown hK hP hD hS q0 he rfl k hk (hG _ hlk) (fun x h => (ownX6 k hk) ▸ h) hfin (tyX6_ok k hk) hn hfit hl hdg kk
theorem ag_ild (hx : p.tables.exec = Jvm.exec) (hb : c.code = cc) (hK : va_K D vwCl (ag_T cI cC cL) s) (hP : va_P D vwCl w H) {k n : Nat} {f : Nat → Int32} {v i : Int32} (q0 : Nat) (ha : w[q0]? = some (a, .inl (cI, n, .inl f))) (hi : i = nI k) (hk : k < n) (hn : n < 2 ^ 31) (hv : f k = v) (hdg : decode cc pc = .ok (.iaload, 1))
    (kk : W p l e R s m args below meth c H locs cells slots Q (F0 m (pc + 1) ls (.int v :: rest))) : W p l e R s m args below meth c H locs cells slots Q (F0 m pc ls (.int i :: .ref a :: rest)) := by
  subst hi
  have hc : (nI k).toNatClampNeg = k := nI_clamp (Nat.lt_trans hk hn)
  refine va_iald hx hb hK hP q0 0 ha rfl (vp_in_nI hk hn) hdg ?_
  rw [hc, hv]
  exact kk
theorem ag_cld (hx : p.tables.exec = Jvm.exec) (hb : c.code = cc) (hK : va_K D vwCl (ag_T cI cC cL) s) (hP : va_P D vwCl w H) {k n : Nat} {f : Nat → Int32} {v i : Int32} (q0 : Nat) (ha : w[q0]? = some (a, .inl (cC, n, .inl f))) (hi : i = nI k) (hk : k < n) (hn : n < 2 ^ 31) (hv : f k = v) (hdg : decode cc pc = .ok (.caload, 1))
    (kk : W p l e R s m args below meth c H locs cells slots Q (F0 m (pc + 1) ls (.int v :: rest))) : W p l e R s m args below meth c H locs cells slots Q (F0 m pc ls (.int i :: .ref a :: rest)) := by
  subst hi
  have hc : (nI k).toNatClampNeg = k := nI_clamp (Nat.lt_trans hk hn)
  refine va_cald hx hb hK hP q0 1 ha rfl (vp_in_nI hk hn) hdg ?_
  rw [hc, hv]
  exact kk
theorem ag_ist (hx : p.tables.exec = Jvm.exec) (hb : c.code = cc) (hK : va_K D vwCl (ag_T cI cC cL) s) (hP : va_P D vwCl w H) (hD : va_D A w) (hS : va_S A H0 H locs) {k n : Nat} {f : Nat → Int32} {i x : Int32} (q0 : Nat) (ha : w[q0]? = some (a, .inl (cI, n, .inl f))) (hi : i = nI k) (hk : k < n) (hn : n < 2 ^ 31) (hdg : decode cc pc = .ok (.iastore, 1))
    (kk : ∀ (H1 : Heap) (locs1 : List Loc), va_P D vwCl (w.set q0 (a, .inl (cI, n, .inl (upd f k x)))) H1 → va_D A (w.set q0 (a, .inl (cI, n, .inl (upd f k x)))) → va_S A H0 H1 locs1 → W p l e R s m args below meth c H1 locs1 cells slots Q (F0 m (pc + 1) ls rest)) : W p l e R s m args below meth c H locs cells slots Q (F0 m pc ls (.int x :: .int i :: .ref a :: rest)) := by
  subst hi
  have hc : (nI k).toNatClampNeg = k := nI_clamp (Nat.lt_trans hk hn)
  refine va_iast hx hb hK hP hD hS q0 0 ha rfl (vp_in_nI hk hn) hdg ?_
  rw [hc]
  exact kk
theorem ag_cst (hx : p.tables.exec = Jvm.exec) (hb : c.code = cc) (hK : va_K D vwCl (ag_T cI cC cL) s) (hP : va_P D vwCl w H) (hD : va_D A w) (hS : va_S A H0 H locs) {k n : Nat} {f : Nat → Int32} {i x : Int32} (q0 : Nat) (ha : w[q0]? = some (a, .inl (cC, n, .inl f))) (hi : i = nI k) (hk : k < n) (hn : n < 2 ^ 31) (hx2 : vp_nar .char x = x) (hdg : decode cc pc = .ok (.castore, 1))
    (kk : ∀ (H1 : Heap) (locs1 : List Loc), va_P D vwCl (w.set q0 (a, .inl (cC, n, .inl (upd f k x)))) H1 → va_D A (w.set q0 (a, .inl (cC, n, .inl (upd f k x)))) → va_S A H0 H1 locs1 → W p l e R s m args below meth c H1 locs1 cells slots Q (F0 m (pc + 1) ls rest)) : W p l e R s m args below meth c H locs cells slots Q (F0 m pc ls (.int x :: .int i :: .ref a :: rest)) := by
  subst hi
  have hc : (nI k).toNatClampNeg = k := nI_clamp (Nat.lt_trans hk hn)
  refine va_cast hx hb hK hP hD hS q0 1 ha rfl (vp_in_nI hk hn) hdg ?_
  rw [hc, hx2]
  exact kk
theorem ag_copy (hx : p.tables.exec = Jvm.exec) (hb : c.code = cc) (hml : c.maxLocals = ls.size) {own : String} {index : Nat} (hown : s.vm.findClass own = some m.cls) (hlink : (Cond.methodLink own index arraycopyName).before args s = true) (hG : ∀ w ∈ gW, w.before args s = true)
    (hK : va_K D vwCl (ag_T cI cC cL) s) (hP : va_P D vwCl w H) (hD : va_D A w) (hS : va_S A H0 H locs) {n : Nat} {a0 : Nat} {f g : Nat → Int32} {z z1 z2 : Int32} (q0 q1 : Nat) (ha0 : w[q0]? = some (a0, .inl (cI, n, .inl f))) (ha1 : w[q1]? = some (a, .inl (cI, n, .inl g))) (hz : z = nI n) (hz1 : z1 = 0 ∧ z2 = 0) (hn : n < 2 ^ 31) (hfr : 1 ≤ R.frames) (hlo : (rest.map fun v => v.category).sum + 30 ≤ R.locals) (hdg : decode cc pc = .ok (.invokestatic index, 3))
    (kk : ∀ (H1 : Heap) (locs1 : List Loc), va_P D vwCl (w.set q1 (a, .inl (cI, n, .inl f))) H1 → va_D A (w.set q1 (a, .inl (cI, n, .inl f))) → va_S A H0 H1 locs1 → W p l e R s m args below meth c H1 locs1 cells slots Q (F0 m (pc + 3) ls rest)) : W p l e R s m args below meth c H locs cells slots Q (F0 m pc ls (.int z :: .int z2 :: .ref a :: .int z1 :: .ref a0 :: rest)) := by
  subst hz
  obtain ⟨rfl, rfl⟩ := hz1
  have hc : (nI n).toNatClampNeg = n := nI_clamp hn
  have hw : nativeFrameWords "java/lang/System" "arraycopy" 5 ≤ 19 := by decide
  have h0 : (0 : Int32).toNatClampNeg = 0 := by decide
  refine va_copyi hx hb hml hown hlink (hG _ k_246) (hG _ k_245) (hG _ k_35) hK hP hD hS q0 q1 0 0 ha0 ha1 rfl rfl rfl (by decide) (by decide) (nI_pos hn) (by rw [hc, h0]; omega) (by rw [hc, h0]; omega) (fun _ _ => rfl) hfr (by omega) hdg (fun H1 locs1 hP1 hD1 hS1 => ?_)
  rw [hc, h0] at hP1 hD1
  have hl : q1 < w.length := (List.getElem?_eq_some_iff.mp ha1).1
  have hP2 := ag_arr hP1 q1 f (List.getElem?_set_self hl) (fun j hj => by show va_cpy f g 0 0 n j = f j; unfold va_cpy; rw [if_pos ⟨Nat.zero_le _, by omega⟩]; congr 1; omega)
  rw [List.set_set] at hP2
  have hD2 : va_D A (w.set q1 (a, .inl (cI, n, .inl f))) := hD.set ha1
  exact kk H1 locs1 hP2 hD2 hS1
theorem ag_topi {x : Int32} (k : ∀ y : Int32, x = y → W p l e R s m args below meth c H locs cells slots Q (F0 m pc ls (.int y :: rest))) : W p l e R s m args below meth c H locs cells slots Q (F0 m pc ls (.int x :: rest)) := k x rfl
theorem ag_topn {x v : Int32} (h : x = v) (k : ∀ y : Int32, v = y → W p l e R s m args below meth c H locs cells slots Q (F0 m pc ls (.int y :: rest))) : W p l e R s m args below meth c H locs cells slots Q (F0 m pc ls (.int x :: rest)) := k x h.symm
end AGF
end
section
/-! numbers -/
theorem ag_ixr {x : Int32} {n : Nat} (hn : n < 2 ^ 31) (h0 : ¬ x < 0) (h1 : x < nI n) : x = nI x.toNatClampNeg ∧ x.toNatClampNeg < n := by
  obtain ⟨j, hj, rfl⟩ := nI_of h0
  rw [nI_clamp hj]
  exact ⟨rfl, (nI_ltI hj hn).mp h1⟩
theorem ag_xor_sign (x : Int32) {d : Nat} (hd : d < 2 ^ 31) : 0 ≤ x ^^^ nI d ↔ 0 ≤ x := by
  rw [Int32.le_iff_toInt_le, Int32.le_iff_toInt_le, Int32.toInt_zero]
  have h1 : (nI d).toBitVec.msb = false := by
    rw [BitVec.msb_eq_toInt]
    have := nI_toInt hd
    have h2 : (nI d).toBitVec.toInt = (d : Int) := this
    rw [h2]
    simp
  have h3 : (x ^^^ nI d).toBitVec.msb = x.toBitVec.msb := by
    rw [Int32.toBitVec_xor, BitVec.msb_xor, h1, Bool.xor_false]
  rw [BitVec.msb_eq_toInt, BitVec.msb_eq_toInt] at h3
  have h4 : ((x ^^^ nI d).toBitVec.toInt < 0) ↔ (x.toBitVec.toInt < 0) := by
    constructor
    · intro h
      have := h3.symm.trans (decide_eq_true h)
      exact of_decide_eq_true this
    · intro h
      have := h3.trans (decide_eq_true h)
      exact of_decide_eq_true this
  have e1 : (x ^^^ nI d).toInt = (x ^^^ nI d).toBitVec.toInt := rfl
  have e2 : x.toInt = x.toBitVec.toInt := rfl
  omega
theorem ag_bm {z : Int} (h1 : -2147483648 ≤ z) (h2 : z < 2147483648) : z.bmod (2 ^ 32) = z := by
  rw [Int.bmod_eq_of_le] <;> omega
theorem ag_rg (x : Int32) : -2147483648 ≤ x.toInt ∧ x.toInt < 2147483648 := by
  have h1 := Int32.le_toInt x
  have h2 := Int32.toInt_lt x
  omega
theorem ag_rem_int (x : Int32) {d : Nat} (h0 : 0 < d) (hd : d < 2 ^ 31) : (x - x / nI d * nI d).toInt = x.toInt.tmod d := by
  have hr := ag_rg x
  have e1 := Int.mul_tdiv_add_tmod x.toInt d
  have b1 := Int.natAbs_tdiv_le_natAbs x.toInt d
  have b2 := @tmod_bounds x.toInt d (by omega)
  have hs : (x.toInt.tmod d).natAbs ≤ x.toInt.natAbs := by
    rw [Int.natAbs_tmod]
    exact Nat.mod_le _ _
  have hsg : 0 ≤ x.toInt → 0 ≤ x.toInt.tmod d := fun h => Int.tmod_nonneg _ h
  have hsg2 : x.toInt ≤ 0 → x.toInt.tmod d ≤ 0 := fun h => by
    have := Int.tmod_nonneg (d : Int) (a := -x.toInt) (by omega)
    rw [Int.neg_tmod] at this
    omega
  rw [Int32.toInt_sub, Int32.toInt_mul, Int32.toInt_div, nI_toInt hd]
  have e2 : x.toInt.tdiv d * d = x.toInt - x.toInt.tmod d := by
    rw [Int.mul_comm]; omega
  have g1 : (x.toInt.tdiv d).bmod (2 ^ 32) = x.toInt.tdiv d ∨ x.toInt.tdiv d = 2147483648 := by
    by_cases h : x.toInt.tdiv d = 2147483648
    · exact Or.inr h
    · exact Or.inl (ag_bm (by omega) (by omega))
  rcases g1 with g1 | g1
  · rw [g1, e2, ag_bm (z := x.toInt - x.toInt.tmod d) (by omega) (by omega), ag_bm (by omega) (by omega)]
    omega
  · exfalso
    rw [g1] at e2
    omega
end
section
/-! methods of the class: first -/
def sr_J9_floorMod_7cf53 (p1 : Int32) (p2 : Int32) : Int32 := if 0 ≤ (p1 ^^^ p2) then p1 - p1 / p2 * p2 else if (p1 - p1 / p2 * p2) = 0 then p1 - p1 / p2 * p2 else (p1 - p1 / p2 * p2) + p2
abbrev po_J9_floorMod_7cf53 (cI cC cL : ClassId) (p1 : Int32) (p2 : Int32) (hz : ¬ p2 = 0) : Int32 → va_W → Prop := fun r w' => sr_J9_floorMod_7cf53 p1 p2 = r ∧ [] = w'
set_option maxHeartbeats 4000000 in
set_option maxRecDepth 100000 in
theorem ct_J9_floorMod_7cf53 (l : Launch) (D : va_G) (cI cC cL : ClassId) (p1 : Int32) (p2 : Int32) (hz : ¬ p2 = 0) : ag_MI l yJ9_floorMod_7cf53 cJ9_floorMod_7cf53 3 .int 0 0 D cI cC cL [.int p1, .int p2] [] (po_J9_floorMod_7cf53 cI cC cL p1 p2 hz) := by
  refine ag_MI.of (by decide +kernel) (Nat.le_of_ble_eq_true rfl) ?_
  intro p e s m below meth c hx hb hr hlocks hml hown hmn hG hK A hN hA H locs hP hD hS ls hl
  have hl : lv_has ls 3 [(0, .int p1), (1, .int p2)] := hl
  refine lv_iload_n hx hb dJ9_floorMod_7cf53_0 rfl (lv_at hl 0 rfl) ?_
  refine lv_iload_n hx hb dJ9_floorMod_7cf53_1 rfl (lv_at hl 1 rfl) ?_
  refine lv_irem hx hb dJ9_floorMod_7cf53_2 hz ?_
  refine lv_istore_n (lv' := [(2, .int (p1 - p1 / p2 * p2)), (0, .int p1), (1, .int p2)]) hx hb dJ9_floorMod_7cf53_3 rfl hl (by decide) rfl (fun ls hl => ?_)
  refine lv_iload_n hx hb dJ9_floorMod_7cf53_4 rfl (lv_at hl 1 rfl) ?_
  refine lv_iload_n hx hb dJ9_floorMod_7cf53_5 rfl (lv_at hl 2 rfl) ?_
  refine lv_ixor hx hb dJ9_floorMod_7cf53_6 ?_
  refine lv_if_ge (tgt := 18) hx hb dJ9_floorMod_7cf53_7 (by decide) (fun c_7 => ?_) (fun c_7 => ?_)
  · refine lv_iload_n hx hb dJ9_floorMod_7cf53_18 rfl (lv_at hl 0 rfl) ?_
    exact ag_iret [] hx hb hr rfl hlocks hP hS rfl rfl ⟨(by unfold sr_J9_floorMod_7cf53; rw [if_pos c_7]), rfl⟩ dJ9_floorMod_7cf53_19
  · refine lv_iload_n hx hb dJ9_floorMod_7cf53_10 rfl (lv_at hl 0 rfl) ?_
    refine lv_if_eq (tgt := 18) hx hb dJ9_floorMod_7cf53_11 (by decide) (fun c_11 => ?_) (fun c_11 => ?_)
    · refine lv_iload_n hx hb dJ9_floorMod_7cf53_18 rfl (lv_at hl 0 rfl) ?_
      exact ag_iret [] hx hb hr rfl hlocks hP hS rfl rfl ⟨(by unfold sr_J9_floorMod_7cf53; rw [if_neg c_7, if_pos c_11]), rfl⟩ dJ9_floorMod_7cf53_19
    · refine lv_iload_n hx hb dJ9_floorMod_7cf53_14 rfl (lv_at hl 0 rfl) ?_
      refine lv_iload_n hx hb dJ9_floorMod_7cf53_15 rfl (lv_at hl 2 rfl) ?_
      refine lv_iadd hx hb dJ9_floorMod_7cf53_16 ?_
      exact ag_iret [] hx hb hr rfl hlocks hP hS rfl rfl ⟨(by unfold sr_J9_floorMod_7cf53; rw [if_neg c_7, if_neg c_11]), rfl⟩ dJ9_floorMod_7cf53_17
def sr_J9_floorDiv_7cf53 (p1 : Int32) (p2 : Int32) : Int32 := if 0 ≤ (p1 ^^^ p2) then p1 / p2 else if ((p1 / p2) * p2) = p1 then p1 / p2 else (p1 / p2) - 1
abbrev po_J9_floorDiv_7cf53 (cI cC cL : ClassId) (p1 : Int32) (p2 : Int32) (hz : ¬ p2 = 0) : Int32 → va_W → Prop := fun r w' => sr_J9_floorDiv_7cf53 p1 p2 = r ∧ [] = w'
set_option maxHeartbeats 4000000 in
set_option maxRecDepth 100000 in
theorem ct_J9_floorDiv_7cf53 (l : Launch) (D : va_G) (cI cC cL : ClassId) (p1 : Int32) (p2 : Int32) (hz : ¬ p2 = 0) : ag_MI l yJ9_floorDiv_7cf53 cJ9_floorDiv_7cf53 3 .int 0 0 D cI cC cL [.int p1, .int p2] [] (po_J9_floorDiv_7cf53 cI cC cL p1 p2 hz) := by
  refine ag_MI.of (by decide +kernel) (Nat.le_of_ble_eq_true rfl) ?_
  intro p e s m below meth c hx hb hr hlocks hml hown hmn hG hK A hN hA H locs hP hD hS ls hl
  have hl : lv_has ls 3 [(0, .int p1), (1, .int p2)] := hl
  refine lv_iload_n hx hb dJ9_floorDiv_7cf53_0 rfl (lv_at hl 0 rfl) ?_
  refine lv_iload_n hx hb dJ9_floorDiv_7cf53_1 rfl (lv_at hl 1 rfl) ?_
  refine lv_idiv hx hb dJ9_floorDiv_7cf53_2 hz ?_
  refine lv_istore_n (lv' := [(2, .int (p1 / p2)), (0, .int p1), (1, .int p2)]) hx hb dJ9_floorDiv_7cf53_3 rfl hl (by decide) rfl (fun ls hl => ?_)
  refine lv_iload_n hx hb dJ9_floorDiv_7cf53_4 rfl (lv_at hl 1 rfl) ?_
  refine lv_iload_n hx hb dJ9_floorDiv_7cf53_5 rfl (lv_at hl 2 rfl) ?_
  refine lv_ixor hx hb dJ9_floorDiv_7cf53_6 ?_
  refine lv_if_ge (tgt := 21) hx hb dJ9_floorDiv_7cf53_7 (by decide) (fun c_7 => ?_) (fun c_7 => ?_)
  · refine lv_iload_n hx hb dJ9_floorDiv_7cf53_21 rfl (lv_at hl 0 rfl) ?_
    exact ag_iret [] hx hb hr rfl hlocks hP hS rfl rfl ⟨(by unfold sr_J9_floorDiv_7cf53; rw [if_pos c_7]), rfl⟩ dJ9_floorDiv_7cf53_22
  · refine lv_iload_n hx hb dJ9_floorDiv_7cf53_10 rfl (lv_at hl 0 rfl) ?_
    refine lv_iload_n hx hb dJ9_floorDiv_7cf53_11 rfl (lv_at hl 2 rfl) ?_
    refine lv_imul hx hb dJ9_floorDiv_7cf53_12 ?_
    refine lv_iload_n hx hb dJ9_floorDiv_7cf53_13 rfl (lv_at hl 1 rfl) ?_
    refine lv_icmp_eq (tgt := 21) hx hb dJ9_floorDiv_7cf53_14 (by decide) (fun c_14 => ?_) (fun c_14 => ?_)
    · refine lv_iload_n hx hb dJ9_floorDiv_7cf53_21 rfl (lv_at hl 0 rfl) ?_
      exact ag_iret [] hx hb hr rfl hlocks hP hS rfl rfl ⟨(by unfold sr_J9_floorDiv_7cf53; rw [if_neg c_7, if_pos c_14]), rfl⟩ dJ9_floorDiv_7cf53_22
    · refine lv_iload_n hx hb dJ9_floorDiv_7cf53_17 rfl (lv_at hl 0 rfl) ?_
      refine lv_iconst (v := 1) hx hb dJ9_floorDiv_7cf53_18 (by decide) ?_
      refine lv_isub hx hb dJ9_floorDiv_7cf53_19 ?_
      exact ag_iret [] hx hb hr rfl hlocks hP hS rfl rfl ⟨(by unfold sr_J9_floorDiv_7cf53; rw [if_neg c_7, if_neg c_14]), rfl⟩ dJ9_floorDiv_7cf53_20
def j23_0_X5_tideHeight (p1 : Int32) : Int32 := if 0 ≤ ((p1 - p1 / 14 * 14) - 7) then (p1 - p1 / 14 * 14) - 7 else -((p1 - p1 / 14 * 14) - 7)
def sr_X5_tideHeight (p1 : Int32) : Int32 := 200 + (20 * (j23_0_X5_tideHeight p1))
abbrev po_X5_tideHeight (cI cC cL : ClassId) (p1 : Int32) : Int32 → va_W → Prop := fun r w' => sr_X5_tideHeight p1 = r ∧ [] = w'
set_option maxHeartbeats 4000000 in
set_option maxRecDepth 100000 in
theorem ct_X5_tideHeight (l : Launch) (D : va_G) (cI cC cL : ClassId) (p1 : Int32) : ag_MI l yX5_tideHeight cX5_tideHeight 2 .int 0 0 D cI cC cL [.int p1] [] (po_X5_tideHeight cI cC cL p1) := by
  refine ag_MI.of (plainFor_of_name (by decide)) (Nat.le_of_ble_eq_true rfl) ?_
  intro p e s m below meth c hx hb hr hlocks hml hown hmn hG hK A hN hA H locs hP hD hS ls hl
  have hl : lv_has ls 2 [(0, .int p1)] := hl
  refine lv_iload_n hx hb dX5_tideHeight_0 rfl (lv_at hl 0 rfl) ?_
  refine lv_bipush (v := 14) hx hb dX5_tideHeight_1 (by decide) ?_
  refine lv_irem hx hb dX5_tideHeight_3 (by decide) ?_
  refine lv_bipush (v := 7) hx hb dX5_tideHeight_4 (by decide) ?_
  refine lv_isub hx hb dX5_tideHeight_6 ?_
  refine lv_istore_n (lv' := [(1, .int ((p1 - p1 / 14 * 14) - 7)), (0, .int p1)]) hx hb dX5_tideHeight_7 rfl hl (by decide) rfl (fun ls hl => ?_)
  refine lv_sipush (v := 200) hx hb dX5_tideHeight_8 (by decide) ?_
  refine lv_bipush (v := 20) hx hb dX5_tideHeight_11 (by decide) ?_
  refine lv_iload_n hx hb dX5_tideHeight_13 rfl (lv_at hl 0 rfl) ?_
  have J23 : ∀ (ls : Array Slot), lv_has ls 2 [(0, .int p1), (1, .int ((p1 - p1 / 14 * 14) - 7))] → W p l e (ag_rm 0 0) s m ([.int p1] : List Value).toArray below meth c H locs 0 0 (MQ below (va_Qi (po_X5_tideHeight cI cC cL p1) (ag_Out D []) A) ([.int p1] : List Value).toArray s 0 0 A) (F0 m 23 ls [.int (j23_0_X5_tideHeight p1), .int 20, .int 200]) := by
    intro ls hl
    refine lv_imul hx hb dX5_tideHeight_23 ?_
    refine lv_iadd hx hb dX5_tideHeight_24 ?_
    exact ag_iret [] hx hb hr rfl hlocks hP hS rfl rfl ⟨rfl, rfl⟩ dX5_tideHeight_25
  refine lv_if_ge (tgt := 22) hx hb dX5_tideHeight_14 (by decide) (fun c_14 => ?_) (fun c_14 => ?_)
  · refine lv_iload_n hx hb dX5_tideHeight_22 rfl (lv_at hl 0 rfl) ?_
    simp only [j23_0_X5_tideHeight, if_pos c_14] at J23
    exact J23 _ (lv_sub hl [1, 0] rfl)
  · refine lv_iload_n hx hb dX5_tideHeight_17 rfl (lv_at hl 0 rfl) ?_
    refine lv_ineg hx hb dX5_tideHeight_18 ?_
    refine lv_goto (tgt := 23) hx hb dX5_tideHeight_19 (by decide) ?_
    simp only [j23_0_X5_tideHeight, if_neg c_14] at J23
    exact J23 _ (lv_sub hl [1, 0] rfl)
def sr_X5_seaLevel (p1 : Int32) : Int32 := if 37 ≤ (p1 - p1 / 74 * 74) then (sr_X5_tideHeight (p1 / 144)) - (((2 * (sr_X5_tideHeight (p1 / 144))) * ((p1 - p1 / 74 * 74) - 37)) / 37) else (((2 * (sr_X5_tideHeight (p1 / 144))) * (p1 - p1 / 74 * 74)) / 37) - (sr_X5_tideHeight (p1 / 144))
abbrev po_X5_seaLevel (cI cC cL : ClassId) (p1 : Int32) : Int32 → va_W → Prop := fun r w' => sr_X5_seaLevel p1 = r ∧ [] = w'
set_option maxHeartbeats 4000000 in
set_option maxRecDepth 100000 in
theorem ct_X5_seaLevel (l : Launch) (D : va_G) (cI cC cL : ClassId) (p1 : Int32) : ag_MI l yX5_seaLevel cX5_seaLevel 3 .int 1 21 D cI cC cL [.int p1] [] (po_X5_seaLevel cI cC cL p1) := by
  refine ag_MI.of (plainFor_of_name (by decide)) (Nat.le_of_ble_eq_true rfl) ?_
  intro p e s m below meth c hx hb hr hlocks hml hown hmn hG hK A hN hA H locs hP hD hS ls hl
  have hl : lv_has ls 3 [(0, .int p1)] := hl
  refine lv_iload_n hx hb dX5_seaLevel_0 rfl (lv_at hl 0 rfl) ?_
  refine lv_sipush (v := 144) hx hb dX5_seaLevel_1 (by decide) ?_
  refine lv_idiv hx hb dX5_seaLevel_4 (by decide) ?_
  refine ag_callSi (As := [.int (p1 / 144)]) (rest := []) hx hb hml hown hG hK hN hA hP hD hS hl (ct_X5_tideHeight l D cI cC cL (p1 / 144)) fX5_tideHeight k_319 ag_cut_0 rfl (Nat.le_of_ble_eq_true rfl) ⟨Nat.le_of_ble_eq_true rfl, Nat.le_of_ble_eq_true rfl⟩ ⟨Nat.zero_le _, Nat.zero_le _⟩ dX5_seaLevel_5 (fun r w1 H locs hw hP hD hS => ?_)
  obtain ⟨rfl, hw⟩ := hw
  subst hw
  have hP : va_P D vwCl [] H := hP
  have hD : va_D A [] := hD
  refine lv_istore_n (lv' := [(1, .int (sr_X5_tideHeight (p1 / 144))), (0, .int p1)]) hx hb dX5_seaLevel_8 rfl hl (by decide) rfl (fun ls hl => ?_)
  refine lv_iload_n hx hb dX5_seaLevel_9 rfl (lv_at hl 1 rfl) ?_
  refine lv_bipush (v := 74) hx hb dX5_seaLevel_10 (by decide) ?_
  refine lv_irem hx hb dX5_seaLevel_12 (by decide) ?_
  refine lv_istore_n (lv' := [(2, .int (p1 - p1 / 74 * 74)), (1, .int (sr_X5_tideHeight (p1 / 144))), (0, .int p1)]) hx hb dX5_seaLevel_13 rfl hl (by decide) rfl (fun ls hl => ?_)
  refine lv_iload_n hx hb dX5_seaLevel_14 rfl (lv_at hl 0 rfl) ?_
  refine lv_bipush (v := 37) hx hb dX5_seaLevel_15 (by decide) ?_
  refine lv_icmp_ge (tgt := 31) hx hb dX5_seaLevel_17 (by decide) (fun c_17 => ?_) (fun c_17 => ?_)
  · refine lv_iload_n hx hb dX5_seaLevel_31 rfl (lv_at hl 1 rfl) ?_
    refine lv_iconst (v := 2) hx hb dX5_seaLevel_32 (by decide) ?_
    refine lv_iload_n hx hb dX5_seaLevel_33 rfl (lv_at hl 1 rfl) ?_
    refine lv_imul hx hb dX5_seaLevel_34 ?_
    refine lv_iload_n hx hb dX5_seaLevel_35 rfl (lv_at hl 0 rfl) ?_
    refine lv_bipush (v := 37) hx hb dX5_seaLevel_36 (by decide) ?_
    refine lv_isub hx hb dX5_seaLevel_38 ?_
    refine lv_imul hx hb dX5_seaLevel_39 ?_
    refine lv_bipush (v := 37) hx hb dX5_seaLevel_40 (by decide) ?_
    refine lv_idiv hx hb dX5_seaLevel_42 (by decide) ?_
    refine lv_isub hx hb dX5_seaLevel_43 ?_
    exact ag_iret [] hx hb hr rfl hlocks hP hS rfl rfl ⟨(by unfold sr_X5_seaLevel; rw [if_pos c_17]), rfl⟩ dX5_seaLevel_44
  · refine lv_iconst (v := 2) hx hb dX5_seaLevel_20 (by decide) ?_
    refine lv_iload_n hx hb dX5_seaLevel_21 rfl (lv_at hl 1 rfl) ?_
    refine lv_imul hx hb dX5_seaLevel_22 ?_
    refine lv_iload_n hx hb dX5_seaLevel_23 rfl (lv_at hl 0 rfl) ?_
    refine lv_imul hx hb dX5_seaLevel_24 ?_
    refine lv_bipush (v := 37) hx hb dX5_seaLevel_25 (by decide) ?_
    refine lv_idiv hx hb dX5_seaLevel_27 (by decide) ?_
    refine lv_iload_n hx hb dX5_seaLevel_28 rfl (lv_at hl 1 rfl) ?_
    refine lv_isub hx hb dX5_seaLevel_29 ?_
    exact ag_iret [] hx hb hr rfl hlocks hP hS rfl rfl ⟨(by unfold sr_X5_seaLevel; rw [if_neg c_17]), rfl⟩ dX5_seaLevel_30
def sr_X5_isError (p1 : Int32) : Int32 := if (-1000000001) < p1 then 0 else 1
abbrev po_X5_isError (cI cC cL : ClassId) (p1 : Int32) : Int32 → va_W → Prop := fun r w' => sr_X5_isError p1 = r ∧ [] = w'
set_option maxHeartbeats 4000000 in
set_option maxRecDepth 100000 in
theorem ct_X5_isError (l : Launch) (D : va_G) (cI cC cL : ClassId) (p1 : Int32) : ag_MI l yX5_isError cX5_isError 1 .boolean 0 0 D cI cC cL [.int p1] [] (po_X5_isError cI cC cL p1) := by
  refine ag_MI.of (plainFor_of_name (by decide)) (Nat.le_of_ble_eq_true rfl) ?_
  intro p e s m below meth c hx hb hr hlocks hml hown hmn hG hK A hN hA H locs hP hD hS ls hl
  have hl : lv_has ls 1 [(0, .int p1)] := hl
  refine lv_iload_n hx hb dX5_isError_0 rfl (lv_at hl 0 rfl) ?_
  refine lv_ldc (v := (-1000000001)) hx hb hown (hG _ k_259) dX5_isError_1 ?_
  refine lv_icmp_gt (tgt := 10) hx hb dX5_isError_3 (by decide) (fun c_3 => ?_) (fun c_3 => ?_)
  · refine lv_iconst (v := 0) hx hb dX5_isError_10 (by decide) ?_
    exact ag_iret [] hx hb hr (by decide) hlocks hP hS rfl rfl ⟨(by unfold sr_X5_isError; rw [if_pos c_3]), rfl⟩ dX5_isError_11
  · refine lv_iconst (v := 1) hx hb dX5_isError_6 (by decide) ?_
    refine lv_goto (tgt := 11) hx hb dX5_isError_7 (by decide) ?_
    exact ag_iret [] hx hb hr (by decide) hlocks hP hS rfl rfl ⟨(by unfold sr_X5_isError; rw [if_neg c_3]), rfl⟩ dX5_isError_11
def sr_X5_recordStart (p1 : Int32) : Int32 := (sr_J9_floorMod_7cf53 p1 10) * 6
abbrev po_X5_recordStart (cI cC cL : ClassId) (p1 : Int32) : Int32 → va_W → Prop := fun r w' => sr_X5_recordStart p1 = r ∧ [] = w'
set_option maxHeartbeats 4000000 in
set_option maxRecDepth 100000 in
theorem ct_X5_recordStart (l : Launch) (D : va_G) (cI cC cL : ClassId) (p1 : Int32) : ag_MI l yX5_recordStart cX5_recordStart 1 .int 1 22 D cI cC cL [.int p1] [] (po_X5_recordStart cI cC cL p1) := by
  refine ag_MI.of (plainFor_of_name (by decide)) (Nat.le_of_ble_eq_true rfl) ?_
  intro p e s m below meth c hx hb hr hlocks hml hown hmn hG hK A hN hA H locs hP hD hS ls hl
  have hl : lv_has ls 1 [(0, .int p1)] := hl
  refine lv_iload_n hx hb dX5_recordStart_0 rfl (lv_at hl 0 rfl) ?_
  refine lv_bipush (v := 10) hx hb dX5_recordStart_1 (by decide) ?_
  refine ag_callSi (As := [.int p1, .int 10]) (rest := []) hx hb hml hown hG hK hN hA hP hD hS hl (ct_J9_floorMod_7cf53 l D cI cC cL p1 10 (by decide)) fJ9_floorMod_7cf53 k_357 ag_cut_0 rfl (Nat.le_of_ble_eq_true rfl) ⟨Nat.le_of_ble_eq_true rfl, Nat.le_of_ble_eq_true rfl⟩ ⟨Nat.zero_le _, Nat.zero_le _⟩ dX5_recordStart_3 (fun r w1 H locs hw hP hD hS => ?_)
  obtain ⟨rfl, hw⟩ := hw
  subst hw
  have hP : va_P D vwCl [] H := hP
  have hD : va_D A [] := hD
  refine lv_bipush (v := 6) hx hb dX5_recordStart_6 (by decide) ?_
  refine lv_imul hx hb dX5_recordStart_8 ?_
  exact ag_iret [] hx hb hr rfl hlocks hP hS rfl rfl ⟨rfl, rfl⟩ dX5_recordStart_9
def sr_X1_level (f : Nat → Int32) : Int32 := (((f 1) + (f 2)) / 100) - 400
abbrev po_X1_level (cI cC cL : ClassId) (h h1 h2 h3 : Nat) (f se to re : Nat → Int32) : Int32 → va_W → Prop := fun r w' => sr_X1_level f = r ∧ [oL h h1 h2 h3 f, aI cI h1 3 se, aI cI h2 7 to, aI cI h3 60 re] = w'
set_option maxHeartbeats 4000000 in
set_option maxRecDepth 100000 in
theorem ct_X1_level (l : Launch) (D : va_G) (cI cC cL : ClassId) (h h1 h2 h3 : Nat) (f se to re : Nat → Int32) : ag_MI l yX1_level cX1_level 1 .int 0 0 D cI cC cL [.ref h] [oL h h1 h2 h3 f, aI cI h1 3 se, aI cI h2 7 to, aI cI h3 60 re] (po_X1_level cI cC cL h h1 h2 h3 f se to re) := by
  refine ag_MI.of (plainFor_of_name (by decide)) (Nat.le_of_ble_eq_true rfl) ?_
  intro p e s m below meth c hx hb hr hlocks hml hown hmn hG hK A hN hA H locs hP hD hS ls hl
  have hl : lv_has ls 1 [(0, .ref h)] := hl
  refine lv_aload_n hx hb dX1_level_0 rfl (lv_at hl 0 rfl) ?_
  refine ag_getX1 (v := .int (f 1)) hx hb hG hown hK hP 0 1 rfl (by decide) k_55 rfl dX1_level_1 ?_
  refine lv_aload_n hx hb dX1_level_4 rfl (lv_at hl 0 rfl) ?_
  refine ag_getX1 (v := .int (f 2)) hx hb hG hown hK hP 0 2 rfl (by decide) k_58 rfl dX1_level_5 ?_
  refine lv_iadd hx hb dX1_level_8 ?_
  refine lv_bipush (v := 100) hx hb dX1_level_9 (by decide) ?_
  refine lv_idiv hx hb dX1_level_11 (by decide) ?_
  refine lv_sipush (v := 400) hx hb dX1_level_12 (by decide) ?_
  refine lv_isub hx hb dX1_level_15 ?_
  exact ag_iret [h, h1, h2, h3] hx hb hr rfl hlocks hP hS rfl rfl ⟨rfl, rfl⟩ dX1_level_16
def sr_X1_head (f : Nat → Int32) : Int32 := (sr_X5_seaLevel (f 0)) - (sr_X1_level f)
abbrev po_X1_head (cI cC cL : ClassId) (h h1 h2 h3 : Nat) (f se to re : Nat → Int32) : Int32 → va_W → Prop := fun r w' => sr_X1_head f = r ∧ [oL h h1 h2 h3 f, aI cI h1 3 se, aI cI h2 7 to, aI cI h3 60 re] = w'
set_option maxHeartbeats 4000000 in
set_option maxRecDepth 100000 in
theorem ct_X1_head (l : Launch) (D : va_G) (cI cC cL : ClassId) (h h1 h2 h3 : Nat) (f se to re : Nat → Int32) : ag_MI l yX1_head cX1_head 1 .int 2 43 D cI cC cL [.ref h] [oL h h1 h2 h3 f, aI cI h1 3 se, aI cI h2 7 to, aI cI h3 60 re] (po_X1_head cI cC cL h h1 h2 h3 f se to re) := by
  refine ag_MI.of (plainFor_of_name (by decide)) (Nat.le_of_ble_eq_true rfl) ?_
  intro p e s m below meth c hx hb hr hlocks hml hown hmn hG hK A hN hA H locs hP hD hS ls hl
  have hl : lv_has ls 1 [(0, .ref h)] := hl
  refine lv_aload_n hx hb dX1_head_0 rfl (lv_at hl 0 rfl) ?_
  refine ag_getX1 (v := .int (f 0)) hx hb hG hown hK hP 0 0 rfl (by decide) k_53 rfl dX1_head_1 ?_
  refine ag_callNi (As := [.int (f 0)]) (rest := []) hx hb hml hown hG hK hN hA hP hD hS hl (ct_X5_seaLevel l D cI cC cL (f 0)) fX5_seaLevel hN.1.2.2.2.2.2.2.1 ag_cut_0 rfl (Nat.le_of_ble_eq_true rfl) ⟨Nat.le_of_ble_eq_true rfl, Nat.le_of_ble_eq_true rfl⟩ ⟨Nat.zero_le _, Nat.zero_le _⟩ dX1_head_4 (fun r w1 H locs hw hP hD hS => ?_)
  obtain ⟨rfl, hw⟩ := hw
  subst hw
  have hP : va_P D vwCl [oL h h1 h2 h3 f, aI cI h1 3 se, aI cI h2 7 to, aI cI h3 60 re] H := hP
  have hD : va_D A [oL h h1 h2 h3 f, aI cI h1 3 se, aI cI h2 7 to, aI cI h3 60 re] := hD
  refine lv_aload_n hx hb dX1_head_7 rfl (lv_at hl 0 rfl) ?_
  refine ag_callVi (As := []) (rest := [.int (sr_X5_seaLevel (f 0))]) hx hb hml hown hG hK hN hA hP hD hS hl (ct_X1_level l D cI cC cL h h1 h2 h3 f se to re) fX1_level k_322 ag_cut_all (q0 := 0) rfl rfl rfl rfl (Nat.le_of_ble_eq_true rfl) ⟨Nat.le_of_ble_eq_true rfl, Nat.le_of_ble_eq_true rfl⟩ ⟨Nat.zero_le _, Nat.zero_le _⟩ dX1_head_8 (fun r w1 H locs hw hP hD hS => ?_)
  obtain ⟨rfl, hw⟩ := hw
  subst hw
  have hP : va_P D vwCl [oL h h1 h2 h3 f, aI cI h1 3 se, aI cI h2 7 to, aI cI h3 60 re] H := hP
  have hD : va_D A [oL h h1 h2 h3 f, aI cI h1 3 se, aI cI h2 7 to, aI cI h3 60 re] := hD
  refine lv_isub hx hb dX1_head_11 ?_
  exact ag_iret [h, h1, h2, h3] hx hb hr rfl hlocks hP hS rfl rfl ⟨rfl, rfl⟩ dX1_head_12
def sr_X1_isBirdHour (f : Nat → Int32) : Int32 := if ((f 0) - (f 0) / 144 * 144) < (f 6) then 0 else if (f 7) ≤ ((f 0) - (f 0) / 144 * 144) then 0 else 1
abbrev po_X1_isBirdHour (cI cC cL : ClassId) (h h1 h2 h3 : Nat) (f se to re : Nat → Int32) : Int32 → va_W → Prop := fun r w' => sr_X1_isBirdHour f = r ∧ [oL h h1 h2 h3 f, aI cI h1 3 se, aI cI h2 7 to, aI cI h3 60 re] = w'
set_option maxHeartbeats 4000000 in
set_option maxRecDepth 100000 in
theorem ct_X1_isBirdHour (l : Launch) (D : va_G) (cI cC cL : ClassId) (h h1 h2 h3 : Nat) (f se to re : Nat → Int32) : ag_MI l yX1_isBirdHour cX1_isBirdHour 2 .boolean 0 0 D cI cC cL [.ref h] [oL h h1 h2 h3 f, aI cI h1 3 se, aI cI h2 7 to, aI cI h3 60 re] (po_X1_isBirdHour cI cC cL h h1 h2 h3 f se to re) := by
  refine ag_MI.of (plainFor_of_name (by decide)) (Nat.le_of_ble_eq_true rfl) ?_
  intro p e s m below meth c hx hb hr hlocks hml hown hmn hG hK A hN hA H locs hP hD hS ls hl
  have hl : lv_has ls 2 [(0, .ref h)] := hl
  refine lv_aload_n hx hb dX1_isBirdHour_0 rfl (lv_at hl 0 rfl) ?_
  refine ag_getX1 (v := .int (f 0)) hx hb hG hown hK hP 0 0 rfl (by decide) k_53 rfl dX1_isBirdHour_1 ?_
  refine lv_sipush (v := 144) hx hb dX1_isBirdHour_4 (by decide) ?_
  refine lv_irem hx hb dX1_isBirdHour_7 (by decide) ?_
  refine lv_istore_n (lv' := [(1, .int ((f 0) - (f 0) / 144 * 144)), (0, .ref h)]) hx hb dX1_isBirdHour_8 rfl hl (by decide) rfl (fun ls hl => ?_)
  refine lv_aload_n hx hb dX1_isBirdHour_9 rfl (lv_at hl 1 rfl) ?_
  refine ag_getX1 (v := .int (f 6)) hx hb hG hown hK hP 0 6 rfl (by decide) k_70 rfl dX1_isBirdHour_10 ?_
  refine lv_iload_n hx hb dX1_isBirdHour_13 rfl (lv_at hl 0 rfl) ?_
  refine lv_icmp_gt (tgt := 29) hx hb dX1_isBirdHour_14 (by decide) (fun c_14 => ?_) (fun c_14 => ?_)
  · refine lv_iconst (v := 0) hx hb dX1_isBirdHour_29 (by decide) ?_
    exact ag_iret [h, h1, h2, h3] hx hb hr (by decide) hlocks hP hS rfl rfl ⟨(by unfold sr_X1_isBirdHour; rw [if_pos c_14]), rfl⟩ dX1_isBirdHour_30
  · refine lv_iload_n hx hb dX1_isBirdHour_17 rfl (lv_at hl 0 rfl) ?_
    refine lv_aload_n hx hb dX1_isBirdHour_18 rfl (lv_at hl 1 rfl) ?_
    refine ag_getX1 (v := .int (f 7)) hx hb hG hown hK hP 0 7 rfl (by decide) k_71 rfl dX1_isBirdHour_19 ?_
    refine lv_icmp_ge (tgt := 29) hx hb dX1_isBirdHour_22 (by decide) (fun c_22 => ?_) (fun c_22 => ?_)
    · refine lv_iconst (v := 0) hx hb dX1_isBirdHour_29 (by decide) ?_
      exact ag_iret [h, h1, h2, h3] hx hb hr (by decide) hlocks hP hS rfl rfl ⟨(by unfold sr_X1_isBirdHour; rw [if_neg c_14, if_pos c_22]), rfl⟩ dX1_isBirdHour_30
    · refine lv_iconst (v := 1) hx hb dX1_isBirdHour_25 (by decide) ?_
      refine lv_goto (tgt := 30) hx hb dX1_isBirdHour_26 (by decide) ?_
      exact ag_iret [h, h1, h2, h3] hx hb hr (by decide) hlocks hP hS rfl rfl ⟨(by unfold sr_X1_isBirdHour; rw [if_neg c_14, if_neg c_22]), rfl⟩ dX1_isBirdHour_30
def sr_X1_gain (to : Nat → Int32) : Int32 := (to 0) - (to 1)
abbrev po_X1_gain (cI cC cL : ClassId) (h h1 h2 h3 : Nat) (f se to re : Nat → Int32) : Int32 → va_W → Prop := fun r w' => sr_X1_gain to = r ∧ [oL h h1 h2 h3 f, aI cI h1 3 se, aI cI h2 7 to, aI cI h3 60 re] = w'
set_option maxHeartbeats 4000000 in
set_option maxRecDepth 100000 in
theorem ct_X1_gain (l : Launch) (D : va_G) (cI cC cL : ClassId) (h h1 h2 h3 : Nat) (f se to re : Nat → Int32) : ag_MI l yX1_gain cX1_gain 1 .int 0 0 D cI cC cL [.ref h] [oL h h1 h2 h3 f, aI cI h1 3 se, aI cI h2 7 to, aI cI h3 60 re] (po_X1_gain cI cC cL h h1 h2 h3 f se to re) := by
  refine ag_MI.of (plainFor_of_name (by decide)) (Nat.le_of_ble_eq_true rfl) ?_
  intro p e s m below meth c hx hb hr hlocks hml hown hmn hG hK A hN hA H locs hP hD hS ls hl
  have hl : lv_has ls 1 [(0, .ref h)] := hl
  refine lv_aload_n hx hb dX1_gain_0 rfl (lv_at hl 0 rfl) ?_
  refine ag_getX1 (v := .ref h2) hx hb hG hown hK hP 0 9 rfl (by decide) k_75 rfl dX1_gain_1 ?_
  refine lv_iconst (v := 0) hx hb dX1_gain_4 (by decide) ?_
  refine ag_ild (k := 0) (v := to 0) hx hb hK hP 2 rfl rfl (Nat.le_of_ble_eq_true rfl) (Nat.le_of_ble_eq_true rfl) rfl dX1_gain_5 ?_
  refine lv_aload_n hx hb dX1_gain_6 rfl (lv_at hl 0 rfl) ?_
  refine ag_getX1 (v := .ref h2) hx hb hG hown hK hP 0 9 rfl (by decide) k_75 rfl dX1_gain_7 ?_
  refine lv_iconst (v := 1) hx hb dX1_gain_10 (by decide) ?_
  refine ag_ild (k := 1) (v := to 1) hx hb hK hP 2 rfl rfl (Nat.le_of_ble_eq_true rfl) (Nat.le_of_ble_eq_true rfl) rfl dX1_gain_11 ?_
  refine lv_isub hx hb dX1_gain_12 ?_
  exact ag_iret [h, h1, h2, h3] hx hb hr rfl hlocks hP hS rfl rfl ⟨rfl, rfl⟩ dX1_gain_13
def sr_X1_openGates (f : Nat → Int32) (p1 : Int32) : Int32 := if p1 < 0 then (-1000000001) else if p1 ≤ 8 then f 3 else (-1000000001)
def sw0_X1_openGates (f : Nat → Int32) (p1 : Int32) : Nat → Int32 := if p1 < 0 then f else if p1 ≤ 8 then upd f 3 p1 else f
abbrev po_X1_openGates (cI cC cL : ClassId) (h h1 h2 h3 : Nat) (f se to re : Nat → Int32) (p1 : Int32) : Int32 → va_W → Prop := fun r w' => sr_X1_openGates f p1 = r ∧ [oL h h1 h2 h3 (sw0_X1_openGates f p1), aI cI h1 3 se, aI cI h2 7 to, aI cI h3 60 re] = w'
set_option maxHeartbeats 4000000 in
set_option maxRecDepth 100000 in
theorem ct_X1_openGates (l : Launch) (D : va_G) (cI cC cL : ClassId) (h h1 h2 h3 : Nat) (f se to re : Nat → Int32) (p1 : Int32) : ag_MI l yX1_openGates cX1_openGates 3 .int 0 0 D cI cC cL [.ref h, .int p1] [oL h h1 h2 h3 f, aI cI h1 3 se, aI cI h2 7 to, aI cI h3 60 re] (po_X1_openGates cI cC cL h h1 h2 h3 f se to re p1) := by
  refine ag_MI.of (plainFor_of_name (by decide)) (Nat.le_of_ble_eq_true rfl) ?_
  intro p e s m below meth c hx hb hr hlocks hml hown hmn hG hK A hN hA H locs hP hD hS ls hl
  have hl : lv_has ls 3 [(0, .ref h), (1, .int p1)] := hl
  refine lv_iload_n hx hb dX1_openGates_0 rfl (lv_at hl 1 rfl) ?_
  refine lv_if_lt (tgt := 10) hx hb dX1_openGates_1 (by decide) (fun c_1 => ?_) (fun c_1 => ?_)
  · refine lv_ldc (v := (-1000000001)) hx hb hown (hG _ k_251) dX1_openGates_10 ?_
    exact ag_iret [h, h1, h2, h3] hx hb hr rfl hlocks hP hS rfl rfl ⟨(by unfold sr_X1_openGates; rw [if_pos c_1]), (by show _ = _; rw [show sw0_X1_openGates f p1 = f from (by unfold sw0_X1_openGates; rw [if_pos c_1])])⟩ dX1_openGates_12
  · refine lv_iload_n hx hb dX1_openGates_4 rfl (lv_at hl 1 rfl) ?_
    refine lv_bipush (v := 8) hx hb dX1_openGates_5 (by decide) ?_
    refine lv_icmp_le (tgt := 13) hx hb dX1_openGates_7 (by decide) (fun c_7 => ?_) (fun c_7 => ?_)
    · refine lv_aload_n hx hb dX1_openGates_13 rfl (lv_at hl 0 rfl) ?_
      refine ag_getX1 (v := .int (f 3)) hx hb hG hown hK hP 0 3 rfl (by decide) k_62 rfl dX1_openGates_14 ?_
      refine lv_istore_n (lv' := [(2, .int (f 3)), (0, .ref h), (1, .int p1)]) hx hb dX1_openGates_17 rfl hl (by decide) rfl (fun ls hl => ?_)
      refine lv_aload_n hx hb dX1_openGates_18 rfl (lv_at hl 1 rfl) ?_
      refine lv_iload_n hx hb dX1_openGates_19 rfl (lv_at hl 2 rfl) ?_
      refine ag_putX1 hx hb hG hown hK hP hD hS 0 3 rfl (by decide) k_62 (by decide) rfl rfl (Nat.le_of_ble_eq_true rfl) dX1_openGates_20 (fun H locs hP hD hS => ?_)
      have hP : va_P D vwCl [oL h h1 h2 h3 (upd f 3 p1), aI cI h1 3 se, aI cI h2 7 to, aI cI h3 60 re] H := hP
      have hD : va_D A [oL h h1 h2 h3 (upd f 3 p1), aI cI h1 3 se, aI cI h2 7 to, aI cI h3 60 re] := hD
      refine lv_iload_n hx hb dX1_openGates_23 rfl (lv_at hl 0 rfl) ?_
      exact ag_iret [h, h1, h2, h3] hx hb hr rfl hlocks hP hS rfl rfl ⟨(by unfold sr_X1_openGates; rw [if_neg c_1, if_pos c_7]), (by show _ = _; rw [show sw0_X1_openGates f p1 = upd f 3 p1 from (by unfold sw0_X1_openGates; rw [if_neg c_1, if_pos c_7])])⟩ dX1_openGates_24
    · refine lv_ldc (v := (-1000000001)) hx hb hown (hG _ k_251) dX1_openGates_10 ?_
      exact ag_iret [h, h1, h2, h3] hx hb hr rfl hlocks hP hS rfl rfl ⟨(by unfold sr_X1_openGates; rw [if_neg c_1, if_neg c_7]), (by show _ = _; rw [show sw0_X1_openGates f p1 = f from (by unfold sw0_X1_openGates; rw [if_neg c_1, if_neg c_7])])⟩ dX1_openGates_12
end
section
/-! remainders that are never below 0: where a record begins, a row of the history -/
theorem ag_ofT {x : Int32} {k : Nat} (h : x.toInt = k) (hk : k < 2 ^ 31) : x = nI k := Int32.toInt_inj.mp (by rw [h, nI_toInt hk])
theorem ag_ge0 (x : Int32) : 0 ≤ x ↔ 0 ≤ x.toInt := by rw [Int32.le_iff_toInt_le, Int32.toInt_zero]
theorem ag_lt0 (x : Int32) : x < 0 ↔ x.toInt < 0 := by rw [Int32.lt_iff_toInt_lt, Int32.toInt_zero]
theorem fm_in (x : Int32) {d : Nat} (h0 : 0 < d) (hd : d < 2 ^ 30) : ∃ k, k < d ∧ sr_J9_floorMod_7cf53 x (nI d) = nI k := by
  have hr := ag_rem_int x h0 (Nat.lt_trans hd (by decide))
  have b2 := @tmod_bounds x.toInt d (by omega)
  have hsg : 0 ≤ x.toInt → 0 ≤ x.toInt.tmod d := fun h => Int.tmod_nonneg _ h
  have hsg2 : x.toInt ≤ 0 → x.toInt.tmod d ≤ 0 := fun h => by
    have := Int.tmod_nonneg (d : Int) (a := -x.toInt) (by omega)
    rw [Int.neg_tmod] at this
    omega
  unfold sr_J9_floorMod_7cf53
  generalize hz : x - x / nI d * nI d = z at hr ⊢
  by_cases hx : 0 ≤ x ^^^ nI d
  · rw [if_pos hx]
    have h1 := (ag_ge0 x).mp ((ag_xor_sign x (Nat.lt_trans hd (by decide))).mp hx)
    have h2 := hsg h1
    exact ⟨z.toInt.toNat, by omega, ag_ofT (by omega) (by omega)⟩
  · rw [if_neg hx]
    have h1 : x.toInt < 0 := by
      have := mt (ag_xor_sign x (Nat.lt_trans hd (by decide))).mpr hx
      rw [ag_ge0] at this
      omega
    have h2 := hsg2 (by omega)
    by_cases hz0 : z = 0
    · rw [if_pos hz0, hz0]
      exact ⟨0, h0, rfl⟩
    · rw [if_neg hz0]
      have h3 : z.toInt ≠ 0 := fun h => hz0 (Int32.toInt_inj.mp (by rw [h]; rfl))
      have hd2 := nI_toInt (n := d) (by omega)
      have h4 : (z + nI d).toInt = z.toInt + d := by
        rw [Int32.toInt_add, hd2, ag_bm (by omega) (by omega)]
      exact ⟨(z.toInt + d).toNat, by omega, ag_ofT (by rw [h4]; omega) (by omega)⟩
def rs (x : Int32) : Nat := (sr_X5_recordStart x).toNatClampNeg
theorem rs_at (x : Int32) : ∃ k, k < 10 ∧ sr_X5_recordStart x = nI (k * 6) := by
  obtain ⟨k, h1, h2⟩ := fm_in x (d := 10) (by decide) (by decide)
  refine ⟨k, h1, ?_⟩
  unfold sr_X5_recordStart
  have e : (10 : Int32) = nI 10 := rfl
  rw [e, h2]
  exact pk_mul k 6
theorem rs_eq (x : Int32) : sr_X5_recordStart x = nI (rs x) := by
  obtain ⟨k, h1, h2⟩ := rs_at x
  unfold rs
  rw [h2, nI_clamp (by omega)]
theorem rs_le (x : Int32) : rs x ≤ 54 := by
  obtain ⟨k, h1, h2⟩ := rs_at x
  unfold rs
  rw [h2, nI_clamp (by omega)]
  omega
end
section
/-! methods of the class: second -/
def sr_X1_openTurbines (f : Nat → Int32) (p1 : Int32) : Int32 := if p1 < 0 then (-1000000001) else if p1 ≤ 6 then f 4 else (-1000000001)
def sw0_X1_openTurbines (f : Nat → Int32) (p1 : Int32) : Nat → Int32 := if p1 < 0 then f else if p1 ≤ 6 then upd f 4 p1 else f
abbrev po_X1_openTurbines (cI cC cL : ClassId) (h h1 h2 h3 : Nat) (f se to re : Nat → Int32) (p1 : Int32) : Int32 → va_W → Prop := fun r w' => sr_X1_openTurbines f p1 = r ∧ [oL h h1 h2 h3 (sw0_X1_openTurbines f p1), aI cI h1 3 se, aI cI h2 7 to, aI cI h3 60 re] = w'
set_option maxHeartbeats 4000000 in
set_option maxRecDepth 100000 in
theorem ct_X1_openTurbines (l : Launch) (D : va_G) (cI cC cL : ClassId) (h h1 h2 h3 : Nat) (f se to re : Nat → Int32) (p1 : Int32) : ag_MI l yX1_openTurbines cX1_openTurbines 3 .int 0 0 D cI cC cL [.ref h, .int p1] [oL h h1 h2 h3 f, aI cI h1 3 se, aI cI h2 7 to, aI cI h3 60 re] (po_X1_openTurbines cI cC cL h h1 h2 h3 f se to re p1) := by
  refine ag_MI.of (plainFor_of_name (by decide)) (Nat.le_of_ble_eq_true rfl) ?_
  intro p e s m below meth c hx hb hr hlocks hml hown hmn hG hK A hN hA H locs hP hD hS ls hl
  have hl : lv_has ls 3 [(0, .ref h), (1, .int p1)] := hl
  refine lv_iload_n hx hb dX1_openTurbines_0 rfl (lv_at hl 1 rfl) ?_
  refine lv_if_lt (tgt := 10) hx hb dX1_openTurbines_1 (by decide) (fun c_1 => ?_) (fun c_1 => ?_)
  · refine lv_ldc (v := (-1000000001)) hx hb hown (hG _ k_251) dX1_openTurbines_10 ?_
    exact ag_iret [h, h1, h2, h3] hx hb hr rfl hlocks hP hS rfl rfl ⟨(by unfold sr_X1_openTurbines; rw [if_pos c_1]), (by show _ = _; rw [show sw0_X1_openTurbines f p1 = f from (by unfold sw0_X1_openTurbines; rw [if_pos c_1])])⟩ dX1_openTurbines_12
  · refine lv_iload_n hx hb dX1_openTurbines_4 rfl (lv_at hl 1 rfl) ?_
    refine lv_bipush (v := 6) hx hb dX1_openTurbines_5 (by decide) ?_
    refine lv_icmp_le (tgt := 13) hx hb dX1_openTurbines_7 (by decide) (fun c_7 => ?_) (fun c_7 => ?_)
    · refine lv_aload_n hx hb dX1_openTurbines_13 rfl (lv_at hl 0 rfl) ?_
      refine ag_getX1 (v := .int (f 4)) hx hb hG hown hK hP 0 4 rfl (by decide) k_64 rfl dX1_openTurbines_14 ?_
      refine lv_istore_n (lv' := [(2, .int (f 4)), (0, .ref h), (1, .int p1)]) hx hb dX1_openTurbines_17 rfl hl (by decide) rfl (fun ls hl => ?_)
      refine lv_aload_n hx hb dX1_openTurbines_18 rfl (lv_at hl 1 rfl) ?_
      refine lv_iload_n hx hb dX1_openTurbines_19 rfl (lv_at hl 2 rfl) ?_
      refine ag_putX1 hx hb hG hown hK hP hD hS 0 4 rfl (by decide) k_64 (by decide) rfl rfl (Nat.le_of_ble_eq_true rfl) dX1_openTurbines_20 (fun H locs hP hD hS => ?_)
      have hP : va_P D vwCl [oL h h1 h2 h3 (upd f 4 p1), aI cI h1 3 se, aI cI h2 7 to, aI cI h3 60 re] H := hP
      have hD : va_D A [oL h h1 h2 h3 (upd f 4 p1), aI cI h1 3 se, aI cI h2 7 to, aI cI h3 60 re] := hD
      refine lv_iload_n hx hb dX1_openTurbines_23 rfl (lv_at hl 0 rfl) ?_
      exact ag_iret [h, h1, h2, h3] hx hb hr rfl hlocks hP hS rfl rfl ⟨(by unfold sr_X1_openTurbines; rw [if_neg c_1, if_pos c_7]), (by show _ = _; rw [show sw0_X1_openTurbines f p1 = upd f 4 p1 from (by unfold sw0_X1_openTurbines; rw [if_neg c_1, if_pos c_7])])⟩ dX1_openTurbines_24
    · refine lv_ldc (v := (-1000000001)) hx hb hown (hG _ k_251) dX1_openTurbines_10 ?_
      exact ag_iret [h, h1, h2, h3] hx hb hr rfl hlocks hP hS rfl rfl ⟨(by unfold sr_X1_openTurbines; rw [if_neg c_1, if_neg c_7]), (by show _ = _; rw [show sw0_X1_openTurbines f p1 = f from (by unfold sw0_X1_openTurbines; rw [if_neg c_1, if_neg c_7])])⟩ dX1_openTurbines_12
def sr_X1_setPump (f : Nat → Int32) (p1 : Int32) : Int32 := if p1 < (-500) then (-1000000001) else if p1 ≤ 500 then f 5 else (-1000000001)
def sw0_X1_setPump (f : Nat → Int32) (p1 : Int32) : Nat → Int32 := if p1 < (-500) then f else if p1 ≤ 500 then upd f 5 p1 else f
abbrev po_X1_setPump (cI cC cL : ClassId) (h h1 h2 h3 : Nat) (f se to re : Nat → Int32) (p1 : Int32) : Int32 → va_W → Prop := fun r w' => sr_X1_setPump f p1 = r ∧ [oL h h1 h2 h3 (sw0_X1_setPump f p1), aI cI h1 3 se, aI cI h2 7 to, aI cI h3 60 re] = w'
set_option maxHeartbeats 4000000 in
set_option maxRecDepth 100000 in
theorem ct_X1_setPump (l : Launch) (D : va_G) (cI cC cL : ClassId) (h h1 h2 h3 : Nat) (f se to re : Nat → Int32) (p1 : Int32) : ag_MI l yX1_setPump cX1_setPump 3 .int 0 0 D cI cC cL [.ref h, .int p1] [oL h h1 h2 h3 f, aI cI h1 3 se, aI cI h2 7 to, aI cI h3 60 re] (po_X1_setPump cI cC cL h h1 h2 h3 f se to re p1) := by
  refine ag_MI.of (plainFor_of_name (by decide)) (Nat.le_of_ble_eq_true rfl) ?_
  intro p e s m below meth c hx hb hr hlocks hml hown hmn hG hK A hN hA H locs hP hD hS ls hl
  have hl : lv_has ls 3 [(0, .ref h), (1, .int p1)] := hl
  refine lv_iload_n hx hb dX1_setPump_0 rfl (lv_at hl 1 rfl) ?_
  refine lv_sipush (v := (-500)) hx hb dX1_setPump_1 (by decide) ?_
  refine lv_icmp_lt (tgt := 14) hx hb dX1_setPump_4 (by decide) (fun c_4 => ?_) (fun c_4 => ?_)
  · refine lv_ldc (v := (-1000000001)) hx hb hown (hG _ k_251) dX1_setPump_14 ?_
    exact ag_iret [h, h1, h2, h3] hx hb hr rfl hlocks hP hS rfl rfl ⟨(by unfold sr_X1_setPump; rw [if_pos c_4]), (by show _ = _; rw [show sw0_X1_setPump f p1 = f from (by unfold sw0_X1_setPump; rw [if_pos c_4])])⟩ dX1_setPump_16
  · refine lv_iload_n hx hb dX1_setPump_7 rfl (lv_at hl 1 rfl) ?_
    refine lv_sipush (v := 500) hx hb dX1_setPump_8 (by decide) ?_
    refine lv_icmp_le (tgt := 17) hx hb dX1_setPump_11 (by decide) (fun c_11 => ?_) (fun c_11 => ?_)
    · refine lv_aload_n hx hb dX1_setPump_17 rfl (lv_at hl 0 rfl) ?_
      refine ag_getX1 (v := .int (f 5)) hx hb hG hown hK hP 0 5 rfl (by decide) k_67 rfl dX1_setPump_18 ?_
      refine lv_istore_n (lv' := [(2, .int (f 5)), (0, .ref h), (1, .int p1)]) hx hb dX1_setPump_21 rfl hl (by decide) rfl (fun ls hl => ?_)
      refine lv_aload_n hx hb dX1_setPump_22 rfl (lv_at hl 1 rfl) ?_
      refine lv_iload_n hx hb dX1_setPump_23 rfl (lv_at hl 2 rfl) ?_
      refine ag_putX1 hx hb hG hown hK hP hD hS 0 5 rfl (by decide) k_67 (by decide) rfl rfl (Nat.le_of_ble_eq_true rfl) dX1_setPump_24 (fun H locs hP hD hS => ?_)
      have hP : va_P D vwCl [oL h h1 h2 h3 (upd f 5 p1), aI cI h1 3 se, aI cI h2 7 to, aI cI h3 60 re] H := hP
      have hD : va_D A [oL h h1 h2 h3 (upd f 5 p1), aI cI h1 3 se, aI cI h2 7 to, aI cI h3 60 re] := hD
      refine lv_iload_n hx hb dX1_setPump_27 rfl (lv_at hl 0 rfl) ?_
      exact ag_iret [h, h1, h2, h3] hx hb hr rfl hlocks hP hS rfl rfl ⟨(by unfold sr_X1_setPump; rw [if_neg c_4, if_pos c_11]), (by show _ = _; rw [show sw0_X1_setPump f p1 = upd f 5 p1 from (by unfold sw0_X1_setPump; rw [if_neg c_4, if_pos c_11])])⟩ dX1_setPump_28
    · refine lv_ldc (v := (-1000000001)) hx hb hown (hG _ k_251) dX1_setPump_14 ?_
      exact ag_iret [h, h1, h2, h3] hx hb hr rfl hlocks hP hS rfl rfl ⟨(by unfold sr_X1_setPump; rw [if_neg c_4, if_neg c_11]), (by show _ = _; rw [show sw0_X1_setPump f p1 = f from (by unfold sw0_X1_setPump; rw [if_neg c_4, if_neg c_11])])⟩ dX1_setPump_16
def sr_X1_setBirds (p1 : Int32) (p2 : Int32) : Int32 := if p1 < 0 then (-1000000001) else if 144 ≤ p1 then (-1000000001) else if p2 < 0 then (-1000000001) else if p2 ≤ 144 then ag_max 0 (p2 - p1) else (-1000000001)
def sw0_X1_setBirds (f : Nat → Int32) (p1 : Int32) (p2 : Int32) : Nat → Int32 := if p1 < 0 then f else if 144 ≤ p1 then f else if p2 < 0 then f else if p2 ≤ 144 then upd (upd f 6 p1) 7 p2 else f
abbrev po_X1_setBirds (cI cC cL : ClassId) (h h1 h2 h3 : Nat) (f se to re : Nat → Int32) (p1 : Int32) (p2 : Int32) : Int32 → va_W → Prop := fun r w' => sr_X1_setBirds p1 p2 = r ∧ [oL h h1 h2 h3 (sw0_X1_setBirds f p1 p2), aI cI h1 3 se, aI cI h2 7 to, aI cI h3 60 re] = w'
set_option maxHeartbeats 4000000 in
set_option maxRecDepth 100000 in
theorem ct_X1_setBirds (l : Launch) (D : va_G) (cI cC cL : ClassId) (h h1 h2 h3 : Nat) (f se to re : Nat → Int32) (p1 : Int32) (p2 : Int32) : ag_MI l yX1_setBirds cX1_setBirds 3 .int 1 13 D cI cC cL [.ref h, .int p1, .int p2] [oL h h1 h2 h3 f, aI cI h1 3 se, aI cI h2 7 to, aI cI h3 60 re] (po_X1_setBirds cI cC cL h h1 h2 h3 f se to re p1 p2) := by
  refine ag_MI.of (plainFor_of_name (by decide)) (Nat.le_of_ble_eq_true rfl) ?_
  intro p e s m below meth c hx hb hr hlocks hml hown hmn hG hK A hN hA H locs hP hD hS ls hl
  have hl : lv_has ls 3 [(0, .ref h), (1, .int p1), (2, .int p2)] := hl
  refine lv_iload_n hx hb dX1_setBirds_0 rfl (lv_at hl 1 rfl) ?_
  refine lv_if_lt (tgt := 22) hx hb dX1_setBirds_1 (by decide) (fun c_1 => ?_) (fun c_1 => ?_)
  · refine lv_ldc (v := (-1000000001)) hx hb hown (hG _ k_251) dX1_setBirds_22 ?_
    exact ag_iret [h, h1, h2, h3] hx hb hr rfl hlocks hP hS rfl rfl ⟨(by unfold sr_X1_setBirds; rw [if_pos c_1]), (by show _ = _; rw [show sw0_X1_setBirds f p1 p2 = f from (by unfold sw0_X1_setBirds; rw [if_pos c_1])])⟩ dX1_setBirds_24
  · refine lv_iload_n hx hb dX1_setBirds_4 rfl (lv_at hl 1 rfl) ?_
    refine lv_sipush (v := 144) hx hb dX1_setBirds_5 (by decide) ?_
    refine lv_icmp_ge (tgt := 22) hx hb dX1_setBirds_8 (by decide) (fun c_8 => ?_) (fun c_8 => ?_)
    · refine lv_ldc (v := (-1000000001)) hx hb hown (hG _ k_251) dX1_setBirds_22 ?_
      exact ag_iret [h, h1, h2, h3] hx hb hr rfl hlocks hP hS rfl rfl ⟨(by unfold sr_X1_setBirds; rw [if_neg c_1, if_pos c_8]), (by show _ = _; rw [show sw0_X1_setBirds f p1 p2 = f from (by unfold sw0_X1_setBirds; rw [if_neg c_1, if_pos c_8])])⟩ dX1_setBirds_24
    · refine lv_iload_n hx hb dX1_setBirds_11 rfl (lv_at hl 2 rfl) ?_
      refine lv_if_lt (tgt := 22) hx hb dX1_setBirds_12 (by decide) (fun c_12 => ?_) (fun c_12 => ?_)
      · refine lv_ldc (v := (-1000000001)) hx hb hown (hG _ k_251) dX1_setBirds_22 ?_
        exact ag_iret [h, h1, h2, h3] hx hb hr rfl hlocks hP hS rfl rfl ⟨(by unfold sr_X1_setBirds; rw [if_neg c_1, if_neg c_8, if_pos c_12]), (by show _ = _; rw [show sw0_X1_setBirds f p1 p2 = f from (by unfold sw0_X1_setBirds; rw [if_neg c_1, if_neg c_8, if_pos c_12])])⟩ dX1_setBirds_24
      · refine lv_iload_n hx hb dX1_setBirds_15 rfl (lv_at hl 2 rfl) ?_
        refine lv_sipush (v := 144) hx hb dX1_setBirds_16 (by decide) ?_
        refine lv_icmp_le (tgt := 25) hx hb dX1_setBirds_19 (by decide) (fun c_19 => ?_) (fun c_19 => ?_)
        · refine lv_aload_n hx hb dX1_setBirds_25 rfl (lv_at hl 0 rfl) ?_
          refine lv_iload_n hx hb dX1_setBirds_26 rfl (lv_at hl 1 rfl) ?_
          refine ag_putX1 hx hb hG hown hK hP hD hS 0 6 rfl (by decide) k_70 (by decide) rfl rfl (Nat.le_of_ble_eq_true rfl) dX1_setBirds_27 (fun H locs hP hD hS => ?_)
          have hP : va_P D vwCl [oL h h1 h2 h3 (upd f 6 p1), aI cI h1 3 se, aI cI h2 7 to, aI cI h3 60 re] H := hP
          have hD : va_D A [oL h h1 h2 h3 (upd f 6 p1), aI cI h1 3 se, aI cI h2 7 to, aI cI h3 60 re] := hD
          refine lv_aload_n hx hb dX1_setBirds_30 rfl (lv_at hl 0 rfl) ?_
          refine lv_iload_n hx hb dX1_setBirds_31 rfl (lv_at hl 2 rfl) ?_
          refine ag_putX1 hx hb hG hown hK hP hD hS 0 7 rfl (by decide) k_71 (by decide) rfl rfl (Nat.le_of_ble_eq_true rfl) dX1_setBirds_32 (fun H locs hP hD hS => ?_)
          have hP : va_P D vwCl [oL h h1 h2 h3 (upd (upd f 6 p1) 7 p2), aI cI h1 3 se, aI cI h2 7 to, aI cI h3 60 re] H := hP
          have hD : va_D A [oL h h1 h2 h3 (upd (upd f 6 p1) 7 p2), aI cI h1 3 se, aI cI h2 7 to, aI cI h3 60 re] := hD
          refine lv_iconst (v := 0) hx hb dX1_setBirds_35 (by decide) ?_
          refine lv_iload_n hx hb dX1_setBirds_36 rfl (lv_at hl 2 rfl) ?_
          refine lv_iload_n hx hb dX1_setBirds_37 rfl (lv_at hl 1 rfl) ?_
          refine lv_isub hx hb dX1_setBirds_38 ?_
          refine va_mmax hx hb (hml.trans hl.1.symm) hown (hG _ k_296) (hG _ k_297) (hG _ k_36) (hG _ k_298) (Nat.le_of_ble_eq_true rfl) (Nat.le_of_ble_eq_true rfl) (Nat.zero_le _) (Nat.zero_le _) dX1_setBirds_39 ?_
          refine W.eq (g2 := F0 m 42 ls [.int (ag_max 0 (p2 - p1))]) rfl ?_
          exact ag_iret [h, h1, h2, h3] hx hb hr rfl hlocks hP hS rfl rfl ⟨(by unfold sr_X1_setBirds; rw [if_neg c_1, if_neg c_8, if_neg c_12, if_pos c_19]), (by show _ = _; rw [show sw0_X1_setBirds f p1 p2 = upd (upd f 6 p1) 7 p2 from (by unfold sw0_X1_setBirds; rw [if_neg c_1, if_neg c_8, if_neg c_12, if_pos c_19])])⟩ dX1_setBirds_42
        · refine lv_ldc (v := (-1000000001)) hx hb hown (hG _ k_251) dX1_setBirds_22 ?_
          exact ag_iret [h, h1, h2, h3] hx hb hr rfl hlocks hP hS rfl rfl ⟨(by unfold sr_X1_setBirds; rw [if_neg c_1, if_neg c_8, if_neg c_12, if_neg c_19]), (by show _ = _; rw [show sw0_X1_setBirds f p1 p2 = f from (by unfold sw0_X1_setBirds; rw [if_neg c_1, if_neg c_8, if_neg c_12, if_neg c_19])])⟩ dX1_setBirds_24
def xv33_1_X1_dredgeSilt (f : Nat → Int32) (p1 : Int32) : Int32 := (f 2) - p1
def xv45_2_X1_dredgeSilt (to : Nat → Int32) (p1 : Int32) : Int32 := (to 4) + p1
def sr_X1_dredgeSilt (f : Nat → Int32) (p1 : Int32) : Int32 := if p1 < 1 then (-1000000001) else if p1 ≤ 20000 then if p1 ≤ (f 2) then (xv33_1_X1_dredgeSilt f p1) else (-1000000002) else (-1000000001)
def sw0_X1_dredgeSilt (f : Nat → Int32) (p1 : Int32) : Nat → Int32 := if p1 < 1 then f else if p1 ≤ 20000 then if p1 ≤ (f 2) then upd f 2 (xv33_1_X1_dredgeSilt f p1) else f else f
def sw2_X1_dredgeSilt (f : Nat → Int32) (to : Nat → Int32) (p1 : Int32) : Nat → Int32 := if p1 < 1 then to else if p1 ≤ 20000 then if p1 ≤ (f 2) then upd to 4 (xv45_2_X1_dredgeSilt to p1) else to else to
abbrev po_X1_dredgeSilt (cI cC cL : ClassId) (h h1 h2 h3 : Nat) (f se to re : Nat → Int32) (p1 : Int32) : Int32 → va_W → Prop := fun r w' => sr_X1_dredgeSilt f p1 = r ∧ [oL h h1 h2 h3 (sw0_X1_dredgeSilt f p1), aI cI h1 3 se, aI cI h2 7 (sw2_X1_dredgeSilt f to p1), aI cI h3 60 re] = w'
set_option maxHeartbeats 4000000 in
set_option maxRecDepth 100000 in
theorem ct_X1_dredgeSilt (l : Launch) (D : va_G) (cI cC cL : ClassId) (h h1 h2 h3 : Nat) (f se to re : Nat → Int32) (p1 : Int32) : ag_MI l yX1_dredgeSilt cX1_dredgeSilt 2 .int 0 0 D cI cC cL [.ref h, .int p1] [oL h h1 h2 h3 f, aI cI h1 3 se, aI cI h2 7 to, aI cI h3 60 re] (po_X1_dredgeSilt cI cC cL h h1 h2 h3 f se to re p1) := by
  refine ag_MI.of (plainFor_of_name (by decide)) (Nat.le_of_ble_eq_true rfl) ?_
  intro p e s m below meth c hx hb hr hlocks hml hown hmn hG hK A hN hA H locs hP hD hS ls hl
  have hl : lv_has ls 2 [(0, .ref h), (1, .int p1)] := hl
  refine lv_iload_n hx hb dX1_dredgeSilt_0 rfl (lv_at hl 1 rfl) ?_
  refine lv_iconst (v := 1) hx hb dX1_dredgeSilt_1 (by decide) ?_
  refine lv_icmp_lt (tgt := 12) hx hb dX1_dredgeSilt_2 (by decide) (fun c_2 => ?_) (fun c_2 => ?_)
  · refine lv_ldc (v := (-1000000001)) hx hb hown (hG _ k_251) dX1_dredgeSilt_12 ?_
    exact ag_iret [h, h1, h2, h3] hx hb hr rfl hlocks hP hS rfl rfl ⟨(by unfold sr_X1_dredgeSilt; rw [if_pos c_2]), (by show _ = _; rw [show sw0_X1_dredgeSilt f p1 = f from (by unfold sw0_X1_dredgeSilt; rw [if_pos c_2]), show sw2_X1_dredgeSilt f to p1 = to from (by unfold sw2_X1_dredgeSilt; rw [if_pos c_2])])⟩ dX1_dredgeSilt_14
  · refine lv_iload_n hx hb dX1_dredgeSilt_5 rfl (lv_at hl 1 rfl) ?_
    refine lv_sipush (v := 20000) hx hb dX1_dredgeSilt_6 (by decide) ?_
    refine lv_icmp_le (tgt := 15) hx hb dX1_dredgeSilt_9 (by decide) (fun c_9 => ?_) (fun c_9 => ?_)
    · refine lv_iload_n hx hb dX1_dredgeSilt_15 rfl (lv_at hl 1 rfl) ?_
      refine lv_aload_n hx hb dX1_dredgeSilt_16 rfl (lv_at hl 0 rfl) ?_
      refine ag_getX1 (v := .int (f 2)) hx hb hG hown hK hP 0 2 rfl (by decide) k_58 rfl dX1_dredgeSilt_17 ?_
      refine lv_icmp_le (tgt := 26) hx hb dX1_dredgeSilt_20 (by decide) (fun c_20 => ?_) (fun c_20 => ?_)
      · refine lv_aload_n hx hb dX1_dredgeSilt_26 rfl (lv_at hl 0 rfl) ?_
        refine lv_dup hx hb dX1_dredgeSilt_27 rfl ?_
        refine ag_getX1 (v := .int (f 2)) hx hb hG hown hK hP 0 2 rfl (by decide) k_58 rfl dX1_dredgeSilt_28 ?_
        refine lv_iload_n hx hb dX1_dredgeSilt_31 rfl (lv_at hl 1 rfl) ?_
        refine lv_isub hx hb dX1_dredgeSilt_32 ?_
        refine ag_topn (v := xv33_1_X1_dredgeSilt f p1) rfl (fun x33_1 ex33_1 => ?_)
        refine ag_putX1 hx hb hG hown hK hP hD hS 0 2 rfl (by decide) k_58 (by decide) rfl rfl (Nat.le_of_ble_eq_true rfl) dX1_dredgeSilt_33 (fun H locs hP hD hS => ?_)
        have hP : va_P D vwCl [oL h h1 h2 h3 (upd f 2 x33_1), aI cI h1 3 se, aI cI h2 7 to, aI cI h3 60 re] H := hP
        have hD : va_D A [oL h h1 h2 h3 (upd f 2 x33_1), aI cI h1 3 se, aI cI h2 7 to, aI cI h3 60 re] := hD
        refine lv_aload_n hx hb dX1_dredgeSilt_36 rfl (lv_at hl 0 rfl) ?_
        refine ag_getX1 (v := .ref h2) hx hb hG hown hK hP 0 9 rfl (by decide) k_75 rfl dX1_dredgeSilt_37 ?_
        refine lv_iconst (v := 4) hx hb dX1_dredgeSilt_40 (by decide) ?_
        refine lv_dup2_11 hx hb dX1_dredgeSilt_41 rfl rfl ?_
        refine ag_ild (k := 4) (v := to 4) hx hb hK hP 2 rfl rfl (Nat.le_of_ble_eq_true rfl) (Nat.le_of_ble_eq_true rfl) rfl dX1_dredgeSilt_42 ?_
        refine lv_iload_n hx hb dX1_dredgeSilt_43 rfl (lv_at hl 1 rfl) ?_
        refine lv_iadd hx hb dX1_dredgeSilt_44 ?_
        refine ag_topn (v := xv45_2_X1_dredgeSilt to p1) rfl (fun x45_2 ex45_2 => ?_)
        refine ag_ist (k := 4) hx hb hK hP hD hS 2 rfl rfl (Nat.le_of_ble_eq_true rfl) (Nat.le_of_ble_eq_true rfl) dX1_dredgeSilt_45 (fun H locs hP hD hS => ?_)
        have hP : va_P D vwCl [oL h h1 h2 h3 (upd f 2 x33_1), aI cI h1 3 se, aI cI h2 7 (upd to 4 x45_2), aI cI h3 60 re] H := hP
        have hD : va_D A [oL h h1 h2 h3 (upd f 2 x33_1), aI cI h1 3 se, aI cI h2 7 (upd to 4 x45_2), aI cI h3 60 re] := hD
        refine lv_aload_n hx hb dX1_dredgeSilt_46 rfl (lv_at hl 0 rfl) ?_
        refine ag_getX1 (v := .int x33_1) hx hb hG hown hK hP 0 2 rfl (by decide) k_58 rfl dX1_dredgeSilt_47 ?_
        revert hP; revert hD; revert hS; revert hl
        subst ex45_2
        subst ex33_1
        intro hl hS hD hP
        exact ag_iret [h, h1, h2, h3] hx hb hr rfl hlocks hP hS rfl rfl ⟨(by unfold sr_X1_dredgeSilt; rw [if_neg c_2, if_pos c_9, if_pos c_20]), (by show _ = _; rw [show sw0_X1_dredgeSilt f p1 = upd f 2 (xv33_1_X1_dredgeSilt f p1) from (by unfold sw0_X1_dredgeSilt; rw [if_neg c_2, if_pos c_9, if_pos c_20]), show sw2_X1_dredgeSilt f to p1 = upd to 4 (xv45_2_X1_dredgeSilt to p1) from (by unfold sw2_X1_dredgeSilt; rw [if_neg c_2, if_pos c_9, if_pos c_20])])⟩ dX1_dredgeSilt_50
      · refine lv_ldc (v := (-1000000002)) hx hb hown (hG _ k_371) dX1_dredgeSilt_23 ?_
        exact ag_iret [h, h1, h2, h3] hx hb hr rfl hlocks hP hS rfl rfl ⟨(by unfold sr_X1_dredgeSilt; rw [if_neg c_2, if_pos c_9, if_neg c_20]), (by show _ = _; rw [show sw0_X1_dredgeSilt f p1 = f from (by unfold sw0_X1_dredgeSilt; rw [if_neg c_2, if_pos c_9, if_neg c_20]), show sw2_X1_dredgeSilt f to p1 = to from (by unfold sw2_X1_dredgeSilt; rw [if_neg c_2, if_pos c_9, if_neg c_20])])⟩ dX1_dredgeSilt_25
    · refine lv_ldc (v := (-1000000001)) hx hb hown (hG _ k_251) dX1_dredgeSilt_12 ?_
      exact ag_iret [h, h1, h2, h3] hx hb hr rfl hlocks hP hS rfl rfl ⟨(by unfold sr_X1_dredgeSilt; rw [if_neg c_2, if_neg c_9]), (by show _ = _; rw [show sw0_X1_dredgeSilt f p1 = f from (by unfold sw0_X1_dredgeSilt; rw [if_neg c_2, if_neg c_9]), show sw2_X1_dredgeSilt f to p1 = to from (by unfold sw2_X1_dredgeSilt; rw [if_neg c_2, if_neg c_9])])⟩ dX1_dredgeSilt_14
def sr_X1_changeSetting (se : Nat → Int32) (p1 : Int32) (p2 : Int32) : Int32 := if p1 < 0 then (-1000000001) else if p1 < 3 then if p2 < (if p1.toNatClampNeg = 1 then 0 else 1) then (-1000000001) else if p2 ≤ (if p1.toNatClampNeg = 2 then 9999 else 400) then se p1.toNatClampNeg else (-1000000001) else (-1000000001)
def sw1_X1_changeSetting (se : Nat → Int32) (p1 : Int32) (p2 : Int32) : Nat → Int32 := if p1 < 0 then se else if p1 < 3 then if p2 < (if p1.toNatClampNeg = 1 then 0 else 1) then se else if p2 ≤ (if p1.toNatClampNeg = 2 then 9999 else 400) then upd se p1.toNatClampNeg p2 else se else se
abbrev po_X1_changeSetting (cI cC cL : ClassId) (h h1 h2 h3 : Nat) (f se to re : Nat → Int32) (p1 : Int32) (p2 : Int32) : Int32 → va_W → Prop := fun r w' => sr_X1_changeSetting se p1 p2 = r ∧ [oL h h1 h2 h3 f, aI cI h1 3 (sw1_X1_changeSetting se p1 p2), aI cI h2 7 to, aI cI h3 60 re] = w'
set_option maxHeartbeats 4000000 in
set_option maxRecDepth 100000 in
theorem ct_X1_changeSetting (l : Launch) (D : va_G) (cI cC cL : ClassId) (h h1 h2 h3 : Nat) (f se to re : Nat → Int32) (p1 : Int32) (p2 : Int32) : ag_MI l yX1_changeSetting cX1_changeSetting 4 .int 0 0 D cI cC cL [.ref h, .int p1, .int p2] [oL h h1 h2 h3 f, aI cI h1 3 se, aI cI h2 7 to, aI cI h3 60 re] (po_X1_changeSetting cI cC cL h h1 h2 h3 f se to re p1 p2) := by
  refine ag_MI.of (plainFor_of_name (by decide)) (Nat.le_of_ble_eq_true rfl) ?_
  intro p e s m below meth c hx hb hr hlocks hml hown hmn hG hK A hN hA H locs hP hD hS ls hl
  have hl : lv_has ls 4 [(0, .ref h), (1, .int p1), (2, .int p2)] := hl
  obtain ⟨tL, tM, hzL, hyL, hzM, hyM⟩ := hN.2
  refine lv_iload_n hx hb dX1_changeSetting_0 rfl (lv_at hl 1 rfl) ?_
  refine lv_if_lt (tgt := 9) hx hb dX1_changeSetting_1 (by decide) (fun c_1 => ?_) (fun c_1 => ?_)
  · refine lv_ldc (v := (-1000000001)) hx hb hown (hG _ k_251) dX1_changeSetting_9 ?_
    exact ag_iret [h, h1, h2, h3] hx hb hr rfl hlocks hP hS rfl rfl ⟨(by unfold sr_X1_changeSetting; rw [if_pos c_1]), (by show _ = _; rw [show sw1_X1_changeSetting se p1 p2 = se from (by unfold sw1_X1_changeSetting; rw [if_pos c_1])])⟩ dX1_changeSetting_11
  · refine lv_iload_n hx hb dX1_changeSetting_4 rfl (lv_at hl 1 rfl) ?_
    refine lv_iconst (v := 3) hx hb dX1_changeSetting_5 (by decide) ?_
    refine lv_icmp_lt (tgt := 12) hx hb dX1_changeSetting_6 (by decide) (fun c_6 => ?_) (fun c_6 => ?_)
    · refine lv_iload_n hx hb dX1_changeSetting_12 rfl (lv_at hl 2 rfl) ?_
      refine va_getsN hx hb hzL hS hown (va_Nw.use rfl hN.1.2.2.2.2.2.2.2.2.2.1) (fun _ h9 => h9) dX1_changeSetting_13 ?_
      refine lv_iload_n hx hb dX1_changeSetting_16 rfl (lv_at hl 1 rfl) ?_
      refine va_ti hx hb hyL hS (N := 3) (v := .int (if p1.toNatClampNeg = 1 then 0 else 1)) (by rw [(ag_ixr (n := 3) (by decide) c_1 c_6).1]; exact vp_in_nI (ag_ixr (n := 3) (by decide) c_1 c_6).2 (by decide)) rfl dX1_changeSetting_17 ?_
      refine lv_icmp_lt (tgt := 30) hx hb dX1_changeSetting_18 (by decide) (fun c_18 => ?_) (fun c_18 => ?_)
      · refine lv_ldc (v := (-1000000001)) hx hb hown (hG _ k_251) dX1_changeSetting_30 ?_
        exact ag_iret [h, h1, h2, h3] hx hb hr rfl hlocks hP hS rfl rfl ⟨(by unfold sr_X1_changeSetting; rw [if_neg c_1, if_pos c_6, if_pos c_18]), (by show _ = _; rw [show sw1_X1_changeSetting se p1 p2 = se from (by unfold sw1_X1_changeSetting; rw [if_neg c_1, if_pos c_6, if_pos c_18])])⟩ dX1_changeSetting_32
      · refine lv_iload_n hx hb dX1_changeSetting_21 rfl (lv_at hl 2 rfl) ?_
        refine va_getsN hx hb hzM hS hown (va_Nw.use rfl hN.1.2.2.2.2.2.2.2.2.2.2) (fun _ h9 => h9) dX1_changeSetting_22 ?_
        refine lv_iload_n hx hb dX1_changeSetting_25 rfl (lv_at hl 1 rfl) ?_
        refine va_ti hx hb hyM hS (N := 3) (v := .int (if p1.toNatClampNeg = 2 then 9999 else 400)) (by rw [(ag_ixr (n := 3) (by decide) c_1 c_6).1]; exact vp_in_nI (ag_ixr (n := 3) (by decide) c_1 c_6).2 (by decide)) rfl dX1_changeSetting_26 ?_
        refine lv_icmp_le (tgt := 33) hx hb dX1_changeSetting_27 (by decide) (fun c_27 => ?_) (fun c_27 => ?_)
        · refine lv_aload_n hx hb dX1_changeSetting_33 rfl (lv_at hl 0 rfl) ?_
          refine ag_getX1 (v := .ref h1) hx hb hG hown hK hP 0 8 rfl (by decide) k_72 rfl dX1_changeSetting_34 ?_
          refine lv_iload_n hx hb dX1_changeSetting_37 rfl (lv_at hl 1 rfl) ?_
          refine ag_ild (k := p1.toNatClampNeg) (v := se p1.toNatClampNeg) hx hb hK hP 1 rfl (ag_ixr (n := 3) (by decide) c_1 c_6).1 (ag_ixr (n := 3) (by decide) c_1 c_6).2 (Nat.le_of_ble_eq_true rfl) rfl dX1_changeSetting_38 ?_
          refine lv_istore_n (lv' := [(3, .int (se p1.toNatClampNeg)), (0, .ref h), (1, .int p1), (2, .int p2)]) hx hb dX1_changeSetting_39 rfl hl (by decide) rfl (fun ls hl => ?_)
          refine lv_aload_n hx hb dX1_changeSetting_40 rfl (lv_at hl 1 rfl) ?_
          refine ag_getX1 (v := .ref h1) hx hb hG hown hK hP 0 8 rfl (by decide) k_72 rfl dX1_changeSetting_41 ?_
          refine lv_iload_n hx hb dX1_changeSetting_44 rfl (lv_at hl 2 rfl) ?_
          refine lv_iload_n hx hb dX1_changeSetting_45 rfl (lv_at hl 3 rfl) ?_
          refine ag_ist (k := p1.toNatClampNeg) hx hb hK hP hD hS 1 rfl (ag_ixr (n := 3) (by decide) c_1 c_6).1 (ag_ixr (n := 3) (by decide) c_1 c_6).2 (Nat.le_of_ble_eq_true rfl) dX1_changeSetting_46 (fun H locs hP hD hS => ?_)
          have hP : va_P D vwCl [oL h h1 h2 h3 f, aI cI h1 3 (upd se p1.toNatClampNeg p2), aI cI h2 7 to, aI cI h3 60 re] H := hP
          have hD : va_D A [oL h h1 h2 h3 f, aI cI h1 3 (upd se p1.toNatClampNeg p2), aI cI h2 7 to, aI cI h3 60 re] := hD
          refine lv_iload_n hx hb dX1_changeSetting_47 rfl (lv_at hl 0 rfl) ?_
          exact ag_iret [h, h1, h2, h3] hx hb hr rfl hlocks hP hS rfl rfl ⟨(by unfold sr_X1_changeSetting; rw [if_neg c_1, if_pos c_6, if_neg c_18, if_pos c_27]), (by show _ = _; rw [show sw1_X1_changeSetting se p1 p2 = upd se p1.toNatClampNeg p2 from (by unfold sw1_X1_changeSetting; rw [if_neg c_1, if_pos c_6, if_neg c_18, if_pos c_27])])⟩ dX1_changeSetting_48
        · refine lv_ldc (v := (-1000000001)) hx hb hown (hG _ k_251) dX1_changeSetting_30 ?_
          exact ag_iret [h, h1, h2, h3] hx hb hr rfl hlocks hP hS rfl rfl ⟨(by unfold sr_X1_changeSetting; rw [if_neg c_1, if_pos c_6, if_neg c_18, if_neg c_27]), (by show _ = _; rw [show sw1_X1_changeSetting se p1 p2 = se from (by unfold sw1_X1_changeSetting; rw [if_neg c_1, if_pos c_6, if_neg c_18, if_neg c_27])])⟩ dX1_changeSetting_32
    · refine lv_ldc (v := (-1000000001)) hx hb hown (hG _ k_251) dX1_changeSetting_9 ?_
      exact ag_iret [h, h1, h2, h3] hx hb hr rfl hlocks hP hS rfl rfl ⟨(by unfold sr_X1_changeSetting; rw [if_neg c_1, if_neg c_6]), (by show _ = _; rw [show sw1_X1_changeSetting se p1 p2 = se from (by unfold sw1_X1_changeSetting; rw [if_neg c_1, if_neg c_6])])⟩ dX1_changeSetting_11
abbrev po_X1_copyFrom (cI cC cL : ClassId) (h o h1 h2 h3 o1 o2 o3 : Nat) (f se to re of ose oto ore : Nat → Int32) : va_W → Prop := fun w' => [oL h h1 h2 h3 of, aI cI h1 3 ose, aI cI h2 7 oto, aI cI h3 60 ore, oL o o1 o2 o3 of, aI cI o1 3 ose, aI cI o2 7 oto, aI cI o3 60 ore] = w'
set_option maxHeartbeats 4000000 in
set_option maxRecDepth 100000 in
theorem ct_X1_copyFrom (l : Launch) (D : va_G) (cI cC cL : ClassId) (h o h1 h2 h3 o1 o2 o3 : Nat) (f se to re of ose oto ore : Nat → Int32) : ag_MV l yX1_copyFrom cX1_copyFrom 2 1 30 D cI cC cL [.ref h, .ref o] [oL h h1 h2 h3 f, aI cI h1 3 se, aI cI h2 7 to, aI cI h3 60 re, oL o o1 o2 o3 of, aI cI o1 3 ose, aI cI o2 7 oto, aI cI o3 60 ore] (po_X1_copyFrom cI cC cL h o h1 h2 h3 o1 o2 o3 f se to re of ose oto ore) := by
  refine ag_MV.of (plainFor_of_name (by decide)) (Nat.le_of_ble_eq_true rfl) ?_
  intro p e s m below meth c hx hb hr hlocks hml hown hmn hG hK A hN hA H locs hP hD hS ls hl
  have hl : lv_has ls 2 [(0, .ref h), (1, .ref o)] := hl
  refine lv_aload_n hx hb dX1_copyFrom_0 rfl (lv_at hl 0 rfl) ?_
  refine lv_aload_n hx hb dX1_copyFrom_1 rfl (lv_at hl 1 rfl) ?_
  refine ag_getX1 (v := .int (of 0)) hx hb hG hown hK hP 4 0 rfl (by decide) k_53 rfl dX1_copyFrom_2 ?_
  refine ag_putX1 hx hb hG hown hK hP hD hS 0 0 rfl (by decide) k_53 (by decide) rfl rfl (Nat.le_of_ble_eq_true rfl) dX1_copyFrom_5 (fun H locs hP hD hS => ?_)
  have hP : va_P D vwCl [oL h h1 h2 h3 (upd f 0 (of 0)), aI cI h1 3 se, aI cI h2 7 to, aI cI h3 60 re, oL o o1 o2 o3 of, aI cI o1 3 ose, aI cI o2 7 oto, aI cI o3 60 ore] H := hP
  have hD : va_D A [oL h h1 h2 h3 (upd f 0 (of 0)), aI cI h1 3 se, aI cI h2 7 to, aI cI h3 60 re, oL o o1 o2 o3 of, aI cI o1 3 ose, aI cI o2 7 oto, aI cI o3 60 ore] := hD
  refine lv_aload_n hx hb dX1_copyFrom_8 rfl (lv_at hl 0 rfl) ?_
  refine lv_aload_n hx hb dX1_copyFrom_9 rfl (lv_at hl 1 rfl) ?_
  refine ag_getX1 (v := .int (of 1)) hx hb hG hown hK hP 4 1 rfl (by decide) k_55 rfl dX1_copyFrom_10 ?_
  refine ag_putX1 hx hb hG hown hK hP hD hS 0 1 rfl (by decide) k_55 (by decide) rfl rfl (Nat.le_of_ble_eq_true rfl) dX1_copyFrom_13 (fun H locs hP hD hS => ?_)
  have hP : va_P D vwCl [oL h h1 h2 h3 (upd (upd f 0 (of 0)) 1 (of 1)), aI cI h1 3 se, aI cI h2 7 to, aI cI h3 60 re, oL o o1 o2 o3 of, aI cI o1 3 ose, aI cI o2 7 oto, aI cI o3 60 ore] H := hP
  have hD : va_D A [oL h h1 h2 h3 (upd (upd f 0 (of 0)) 1 (of 1)), aI cI h1 3 se, aI cI h2 7 to, aI cI h3 60 re, oL o o1 o2 o3 of, aI cI o1 3 ose, aI cI o2 7 oto, aI cI o3 60 ore] := hD
  refine lv_aload_n hx hb dX1_copyFrom_16 rfl (lv_at hl 0 rfl) ?_
  refine lv_aload_n hx hb dX1_copyFrom_17 rfl (lv_at hl 1 rfl) ?_
  refine ag_getX1 (v := .int (of 2)) hx hb hG hown hK hP 4 2 rfl (by decide) k_58 rfl dX1_copyFrom_18 ?_
  refine ag_putX1 hx hb hG hown hK hP hD hS 0 2 rfl (by decide) k_58 (by decide) rfl rfl (Nat.le_of_ble_eq_true rfl) dX1_copyFrom_21 (fun H locs hP hD hS => ?_)
  have hP : va_P D vwCl [oL h h1 h2 h3 (upd (upd (upd f 0 (of 0)) 1 (of 1)) 2 (of 2)), aI cI h1 3 se, aI cI h2 7 to, aI cI h3 60 re, oL o o1 o2 o3 of, aI cI o1 3 ose, aI cI o2 7 oto, aI cI o3 60 ore] H := hP
  have hD : va_D A [oL h h1 h2 h3 (upd (upd (upd f 0 (of 0)) 1 (of 1)) 2 (of 2)), aI cI h1 3 se, aI cI h2 7 to, aI cI h3 60 re, oL o o1 o2 o3 of, aI cI o1 3 ose, aI cI o2 7 oto, aI cI o3 60 ore] := hD
  refine lv_aload_n hx hb dX1_copyFrom_24 rfl (lv_at hl 0 rfl) ?_
  refine lv_aload_n hx hb dX1_copyFrom_25 rfl (lv_at hl 1 rfl) ?_
  refine ag_getX1 (v := .int (of 3)) hx hb hG hown hK hP 4 3 rfl (by decide) k_62 rfl dX1_copyFrom_26 ?_
  refine ag_putX1 hx hb hG hown hK hP hD hS 0 3 rfl (by decide) k_62 (by decide) rfl rfl (Nat.le_of_ble_eq_true rfl) dX1_copyFrom_29 (fun H locs hP hD hS => ?_)
  have hP : va_P D vwCl [oL h h1 h2 h3 (upd (upd (upd (upd f 0 (of 0)) 1 (of 1)) 2 (of 2)) 3 (of 3)), aI cI h1 3 se, aI cI h2 7 to, aI cI h3 60 re, oL o o1 o2 o3 of, aI cI o1 3 ose, aI cI o2 7 oto, aI cI o3 60 ore] H := hP
  have hD : va_D A [oL h h1 h2 h3 (upd (upd (upd (upd f 0 (of 0)) 1 (of 1)) 2 (of 2)) 3 (of 3)), aI cI h1 3 se, aI cI h2 7 to, aI cI h3 60 re, oL o o1 o2 o3 of, aI cI o1 3 ose, aI cI o2 7 oto, aI cI o3 60 ore] := hD
  refine lv_aload_n hx hb dX1_copyFrom_32 rfl (lv_at hl 0 rfl) ?_
  refine lv_aload_n hx hb dX1_copyFrom_33 rfl (lv_at hl 1 rfl) ?_
  refine ag_getX1 (v := .int (of 4)) hx hb hG hown hK hP 4 4 rfl (by decide) k_64 rfl dX1_copyFrom_34 ?_
  refine ag_putX1 hx hb hG hown hK hP hD hS 0 4 rfl (by decide) k_64 (by decide) rfl rfl (Nat.le_of_ble_eq_true rfl) dX1_copyFrom_37 (fun H locs hP hD hS => ?_)
  have hP : va_P D vwCl [oL h h1 h2 h3 (upd (upd (upd (upd (upd f 0 (of 0)) 1 (of 1)) 2 (of 2)) 3 (of 3)) 4 (of 4)), aI cI h1 3 se, aI cI h2 7 to, aI cI h3 60 re, oL o o1 o2 o3 of, aI cI o1 3 ose, aI cI o2 7 oto, aI cI o3 60 ore] H := hP
  have hD : va_D A [oL h h1 h2 h3 (upd (upd (upd (upd (upd f 0 (of 0)) 1 (of 1)) 2 (of 2)) 3 (of 3)) 4 (of 4)), aI cI h1 3 se, aI cI h2 7 to, aI cI h3 60 re, oL o o1 o2 o3 of, aI cI o1 3 ose, aI cI o2 7 oto, aI cI o3 60 ore] := hD
  refine lv_aload_n hx hb dX1_copyFrom_40 rfl (lv_at hl 0 rfl) ?_
  refine lv_aload_n hx hb dX1_copyFrom_41 rfl (lv_at hl 1 rfl) ?_
  refine ag_getX1 (v := .int (of 5)) hx hb hG hown hK hP 4 5 rfl (by decide) k_67 rfl dX1_copyFrom_42 ?_
  refine ag_putX1 hx hb hG hown hK hP hD hS 0 5 rfl (by decide) k_67 (by decide) rfl rfl (Nat.le_of_ble_eq_true rfl) dX1_copyFrom_45 (fun H locs hP hD hS => ?_)
  have hP : va_P D vwCl [oL h h1 h2 h3 (upd (upd (upd (upd (upd (upd f 0 (of 0)) 1 (of 1)) 2 (of 2)) 3 (of 3)) 4 (of 4)) 5 (of 5)), aI cI h1 3 se, aI cI h2 7 to, aI cI h3 60 re, oL o o1 o2 o3 of, aI cI o1 3 ose, aI cI o2 7 oto, aI cI o3 60 ore] H := hP
  have hD : va_D A [oL h h1 h2 h3 (upd (upd (upd (upd (upd (upd f 0 (of 0)) 1 (of 1)) 2 (of 2)) 3 (of 3)) 4 (of 4)) 5 (of 5)), aI cI h1 3 se, aI cI h2 7 to, aI cI h3 60 re, oL o o1 o2 o3 of, aI cI o1 3 ose, aI cI o2 7 oto, aI cI o3 60 ore] := hD
  refine lv_aload_n hx hb dX1_copyFrom_48 rfl (lv_at hl 0 rfl) ?_
  refine lv_aload_n hx hb dX1_copyFrom_49 rfl (lv_at hl 1 rfl) ?_
  refine ag_getX1 (v := .int (of 6)) hx hb hG hown hK hP 4 6 rfl (by decide) k_70 rfl dX1_copyFrom_50 ?_
  refine ag_putX1 hx hb hG hown hK hP hD hS 0 6 rfl (by decide) k_70 (by decide) rfl rfl (Nat.le_of_ble_eq_true rfl) dX1_copyFrom_53 (fun H locs hP hD hS => ?_)
  have hP : va_P D vwCl [oL h h1 h2 h3 (upd (upd (upd (upd (upd (upd (upd f 0 (of 0)) 1 (of 1)) 2 (of 2)) 3 (of 3)) 4 (of 4)) 5 (of 5)) 6 (of 6)), aI cI h1 3 se, aI cI h2 7 to, aI cI h3 60 re, oL o o1 o2 o3 of, aI cI o1 3 ose, aI cI o2 7 oto, aI cI o3 60 ore] H := hP
  have hD : va_D A [oL h h1 h2 h3 (upd (upd (upd (upd (upd (upd (upd f 0 (of 0)) 1 (of 1)) 2 (of 2)) 3 (of 3)) 4 (of 4)) 5 (of 5)) 6 (of 6)), aI cI h1 3 se, aI cI h2 7 to, aI cI h3 60 re, oL o o1 o2 o3 of, aI cI o1 3 ose, aI cI o2 7 oto, aI cI o3 60 ore] := hD
  refine lv_aload_n hx hb dX1_copyFrom_56 rfl (lv_at hl 0 rfl) ?_
  refine lv_aload_n hx hb dX1_copyFrom_57 rfl (lv_at hl 1 rfl) ?_
  refine ag_getX1 (v := .int (of 7)) hx hb hG hown hK hP 4 7 rfl (by decide) k_71 rfl dX1_copyFrom_58 ?_
  refine ag_putX1 hx hb hG hown hK hP hD hS 0 7 rfl (by decide) k_71 (by decide) rfl rfl (Nat.le_of_ble_eq_true rfl) dX1_copyFrom_61 (fun H locs hP hD hS => ?_)
  have hP : va_P D vwCl [oL h h1 h2 h3 (upd (upd (upd (upd (upd (upd (upd (upd f 0 (of 0)) 1 (of 1)) 2 (of 2)) 3 (of 3)) 4 (of 4)) 5 (of 5)) 6 (of 6)) 7 (of 7)), aI cI h1 3 se, aI cI h2 7 to, aI cI h3 60 re, oL o o1 o2 o3 of, aI cI o1 3 ose, aI cI o2 7 oto, aI cI o3 60 ore] H := hP
  have hD : va_D A [oL h h1 h2 h3 (upd (upd (upd (upd (upd (upd (upd (upd f 0 (of 0)) 1 (of 1)) 2 (of 2)) 3 (of 3)) 4 (of 4)) 5 (of 5)) 6 (of 6)) 7 (of 7)), aI cI h1 3 se, aI cI h2 7 to, aI cI h3 60 re, oL o o1 o2 o3 of, aI cI o1 3 ose, aI cI o2 7 oto, aI cI o3 60 ore] := hD
  refine lv_aload_n hx hb dX1_copyFrom_64 rfl (lv_at hl 1 rfl) ?_
  refine ag_getX1 (v := .ref o1) hx hb hG hown hK hP 4 8 rfl (by decide) k_72 rfl dX1_copyFrom_65 ?_
  refine lv_iconst (v := 0) hx hb dX1_copyFrom_68 (by decide) ?_
  refine lv_aload_n hx hb dX1_copyFrom_69 rfl (lv_at hl 0 rfl) ?_
  refine ag_getX1 (v := .ref h1) hx hb hG hown hK hP 0 8 rfl (by decide) k_72 rfl dX1_copyFrom_70 ?_
  refine lv_iconst (v := 0) hx hb dX1_copyFrom_73 (by decide) ?_
  refine lv_iconst (v := 3) hx hb dX1_copyFrom_74 (by decide) ?_
  refine ag_copy (n := 3) hx hb (hml.trans hl.1.symm) hown (hG _ k_244) hG hK hP hD hS 5 1 rfl rfl rfl ⟨rfl, rfl⟩ (Nat.le_of_ble_eq_true rfl) (Nat.le_of_ble_eq_true rfl) (Nat.le_of_ble_eq_true rfl) dX1_copyFrom_75 (fun H locs hP hD hS => ?_)
  have hP : va_P D vwCl [oL h h1 h2 h3 (upd (upd (upd (upd (upd (upd (upd (upd f 0 (of 0)) 1 (of 1)) 2 (of 2)) 3 (of 3)) 4 (of 4)) 5 (of 5)) 6 (of 6)) 7 (of 7)), aI cI h1 3 ose, aI cI h2 7 to, aI cI h3 60 re, oL o o1 o2 o3 of, aI cI o1 3 ose, aI cI o2 7 oto, aI cI o3 60 ore] H := hP
  have hD : va_D A [oL h h1 h2 h3 (upd (upd (upd (upd (upd (upd (upd (upd f 0 (of 0)) 1 (of 1)) 2 (of 2)) 3 (of 3)) 4 (of 4)) 5 (of 5)) 6 (of 6)) 7 (of 7)), aI cI h1 3 ose, aI cI h2 7 to, aI cI h3 60 re, oL o o1 o2 o3 of, aI cI o1 3 ose, aI cI o2 7 oto, aI cI o3 60 ore] := hD
  refine lv_aload_n hx hb dX1_copyFrom_78 rfl (lv_at hl 1 rfl) ?_
  refine ag_getX1 (v := .ref o2) hx hb hG hown hK hP 4 9 rfl (by decide) k_75 rfl dX1_copyFrom_79 ?_
  refine lv_iconst (v := 0) hx hb dX1_copyFrom_82 (by decide) ?_
  refine lv_aload_n hx hb dX1_copyFrom_83 rfl (lv_at hl 0 rfl) ?_
  refine ag_getX1 (v := .ref h2) hx hb hG hown hK hP 0 9 rfl (by decide) k_75 rfl dX1_copyFrom_84 ?_
  refine lv_iconst (v := 0) hx hb dX1_copyFrom_87 (by decide) ?_
  refine lv_bipush (v := 7) hx hb dX1_copyFrom_88 (by decide) ?_
  refine ag_copy (n := 7) hx hb (hml.trans hl.1.symm) hown (hG _ k_244) hG hK hP hD hS 6 2 rfl rfl rfl ⟨rfl, rfl⟩ (Nat.le_of_ble_eq_true rfl) (Nat.le_of_ble_eq_true rfl) (Nat.le_of_ble_eq_true rfl) dX1_copyFrom_90 (fun H locs hP hD hS => ?_)
  have hP : va_P D vwCl [oL h h1 h2 h3 (upd (upd (upd (upd (upd (upd (upd (upd f 0 (of 0)) 1 (of 1)) 2 (of 2)) 3 (of 3)) 4 (of 4)) 5 (of 5)) 6 (of 6)) 7 (of 7)), aI cI h1 3 ose, aI cI h2 7 oto, aI cI h3 60 re, oL o o1 o2 o3 of, aI cI o1 3 ose, aI cI o2 7 oto, aI cI o3 60 ore] H := hP
  have hD : va_D A [oL h h1 h2 h3 (upd (upd (upd (upd (upd (upd (upd (upd f 0 (of 0)) 1 (of 1)) 2 (of 2)) 3 (of 3)) 4 (of 4)) 5 (of 5)) 6 (of 6)) 7 (of 7)), aI cI h1 3 ose, aI cI h2 7 oto, aI cI h3 60 re, oL o o1 o2 o3 of, aI cI o1 3 ose, aI cI o2 7 oto, aI cI o3 60 ore] := hD
  refine lv_aload_n hx hb dX1_copyFrom_93 rfl (lv_at hl 1 rfl) ?_
  refine ag_getX1 (v := .ref o3) hx hb hG hown hK hP 4 10 rfl (by decide) k_77 rfl dX1_copyFrom_94 ?_
  refine lv_iconst (v := 0) hx hb dX1_copyFrom_97 (by decide) ?_
  refine lv_aload_n hx hb dX1_copyFrom_98 rfl (lv_at hl 0 rfl) ?_
  refine ag_getX1 (v := .ref h3) hx hb hG hown hK hP 0 10 rfl (by decide) k_77 rfl dX1_copyFrom_99 ?_
  refine lv_iconst (v := 0) hx hb dX1_copyFrom_102 (by decide) ?_
  refine lv_bipush (v := 60) hx hb dX1_copyFrom_103 (by decide) ?_
  refine ag_copy (n := 60) hx hb (hml.trans hl.1.symm) hown (hG _ k_244) hG hK hP hD hS 7 3 rfl rfl rfl ⟨rfl, rfl⟩ (Nat.le_of_ble_eq_true rfl) (Nat.le_of_ble_eq_true rfl) (Nat.le_of_ble_eq_true rfl) dX1_copyFrom_105 (fun H locs hP hD hS => ?_)
  have hP : va_P D vwCl [oL h h1 h2 h3 (upd (upd (upd (upd (upd (upd (upd (upd f 0 (of 0)) 1 (of 1)) 2 (of 2)) 3 (of 3)) 4 (of 4)) 5 (of 5)) 6 (of 6)) 7 (of 7)), aI cI h1 3 ose, aI cI h2 7 oto, aI cI h3 60 ore, oL o o1 o2 o3 of, aI cI o1 3 ose, aI cI o2 7 oto, aI cI o3 60 ore] H := hP
  have hD : va_D A [oL h h1 h2 h3 (upd (upd (upd (upd (upd (upd (upd (upd f 0 (of 0)) 1 (of 1)) 2 (of 2)) 3 (of 3)) 4 (of 4)) 5 (of 5)) 6 (of 6)) 7 (of 7)), aI cI h1 3 ose, aI cI h2 7 oto, aI cI h3 60 ore, oL o o1 o2 o3 of, aI cI o1 3 ose, aI cI o2 7 oto, aI cI o3 60 ore] := hD
  exact ag_vret [h, h1, h2, h3, o, o1, o2, o3] hx hb hr hlocks hP hS rfl rfl rfl dX1_copyFrom_108
def sr_X1_lastDay (f : Nat → Int32) : Int32 := sr_J9_floorDiv_7cf53 ((f 0) - 1) 144
abbrev po_X1_lastDay (cI cC cL : ClassId) (h h1 h2 h3 : Nat) (f se to re : Nat → Int32) : Int32 → va_W → Prop := fun r w' => sr_X1_lastDay f = r ∧ [oL h h1 h2 h3 f, aI cI h1 3 se, aI cI h2 7 to, aI cI h3 60 re] = w'
set_option maxHeartbeats 4000000 in
set_option maxRecDepth 100000 in
theorem ct_X1_lastDay (l : Launch) (D : va_G) (cI cC cL : ClassId) (h h1 h2 h3 : Nat) (f se to re : Nat → Int32) : ag_MI l yX1_lastDay cX1_lastDay 1 .int 1 22 D cI cC cL [.ref h] [oL h h1 h2 h3 f, aI cI h1 3 se, aI cI h2 7 to, aI cI h3 60 re] (po_X1_lastDay cI cC cL h h1 h2 h3 f se to re) := by
  refine ag_MI.of (plainFor_of_name (by decide)) (Nat.le_of_ble_eq_true rfl) ?_
  intro p e s m below meth c hx hb hr hlocks hml hown hmn hG hK A hN hA H locs hP hD hS ls hl
  have hl : lv_has ls 1 [(0, .ref h)] := hl
  refine lv_aload_n hx hb dX1_lastDay_0 rfl (lv_at hl 0 rfl) ?_
  refine ag_getX1 (v := .int (f 0)) hx hb hG hown hK hP 0 0 rfl (by decide) k_53 rfl dX1_lastDay_1 ?_
  refine lv_iconst (v := 1) hx hb dX1_lastDay_4 (by decide) ?_
  refine lv_isub hx hb dX1_lastDay_5 ?_
  refine lv_sipush (v := 144) hx hb dX1_lastDay_6 (by decide) ?_
  refine ag_callSi (As := [.int ((f 0) - 1), .int 144]) (rest := []) hx hb hml hown hG hK hN hA hP hD hS hl (ct_J9_floorDiv_7cf53 l D cI cC cL ((f 0) - 1) 144 (by decide)) fJ9_floorDiv_7cf53 k_408 ag_cut_0 rfl (Nat.le_of_ble_eq_true rfl) ⟨Nat.le_of_ble_eq_true rfl, Nat.le_of_ble_eq_true rfl⟩ ⟨Nat.zero_le _, Nat.zero_le _⟩ dX1_lastDay_9 (fun r w1 H locs hw hP hD hS => ?_)
  obtain ⟨rfl, hw⟩ := hw
  subst hw
  have hP : va_P D vwCl [oL h h1 h2 h3 f, aI cI h1 3 se, aI cI h2 7 to, aI cI h3 60 re] H := hP
  have hD : va_D A [oL h h1 h2 h3 f, aI cI h1 3 se, aI cI h2 7 to, aI cI h3 60 re] := hD
  exact ag_iret [h, h1, h2, h3] hx hb hr rfl hlocks hP hS rfl rfl ⟨rfl, rfl⟩ dX1_lastDay_12
def sr_X1_firstDay (f : Nat → Int32) : Int32 := ag_max 0 (((sr_X1_lastDay f) - 10) + 1)
abbrev po_X1_firstDay (cI cC cL : ClassId) (h h1 h2 h3 : Nat) (f se to re : Nat → Int32) : Int32 → va_W → Prop := fun r w' => sr_X1_firstDay f = r ∧ [oL h h1 h2 h3 f, aI cI h1 3 se, aI cI h2 7 to, aI cI h3 60 re] = w'
set_option maxHeartbeats 4000000 in
set_option maxRecDepth 100000 in
theorem ct_X1_firstDay (l : Launch) (D : va_G) (cI cC cL : ClassId) (h h1 h2 h3 : Nat) (f se to re : Nat → Int32) : ag_MI l yX1_firstDay cX1_firstDay 1 .int 2 42 D cI cC cL [.ref h] [oL h h1 h2 h3 f, aI cI h1 3 se, aI cI h2 7 to, aI cI h3 60 re] (po_X1_firstDay cI cC cL h h1 h2 h3 f se to re) := by
  refine ag_MI.of (plainFor_of_name (by decide)) (Nat.le_of_ble_eq_true rfl) ?_
  intro p e s m below meth c hx hb hr hlocks hml hown hmn hG hK A hN hA H locs hP hD hS ls hl
  have hl : lv_has ls 1 [(0, .ref h)] := hl
  refine lv_iconst (v := 0) hx hb dX1_firstDay_0 (by decide) ?_
  refine lv_aload_n hx hb dX1_firstDay_1 rfl (lv_at hl 0 rfl) ?_
  refine ag_callVi (As := []) (rest := [.int 0]) hx hb hml hown hG hK hN hA hP hD hS hl (ct_X1_lastDay l D cI cC cL h h1 h2 h3 f se to re) fX1_lastDay k_404 ag_cut_all (q0 := 0) rfl rfl rfl rfl (Nat.le_of_ble_eq_true rfl) ⟨Nat.le_of_ble_eq_true rfl, Nat.le_of_ble_eq_true rfl⟩ ⟨Nat.zero_le _, Nat.zero_le _⟩ dX1_firstDay_2 (fun r w1 H locs hw hP hD hS => ?_)
  obtain ⟨rfl, hw⟩ := hw
  subst hw
  have hP : va_P D vwCl [oL h h1 h2 h3 f, aI cI h1 3 se, aI cI h2 7 to, aI cI h3 60 re] H := hP
  have hD : va_D A [oL h h1 h2 h3 f, aI cI h1 3 se, aI cI h2 7 to, aI cI h3 60 re] := hD
  refine lv_bipush (v := 10) hx hb dX1_firstDay_5 (by decide) ?_
  refine lv_isub hx hb dX1_firstDay_7 ?_
  refine lv_iconst (v := 1) hx hb dX1_firstDay_8 (by decide) ?_
  refine lv_iadd hx hb dX1_firstDay_9 ?_
  refine va_mmax hx hb (hml.trans hl.1.symm) hown (hG _ k_296) (hG _ k_297) (hG _ k_36) (hG _ k_298) (Nat.le_of_ble_eq_true rfl) (Nat.le_of_ble_eq_true rfl) (Nat.zero_le _) (Nat.zero_le _) dX1_firstDay_10 ?_
  refine W.eq (g2 := F0 m 13 ls [.int (ag_max 0 (((sr_X1_lastDay f) - 10) + 1))]) rfl ?_
  exact ag_iret [h, h1, h2, h3] hx hb hr rfl hlocks hP hS rfl rfl ⟨rfl, rfl⟩ dX1_firstDay_13
def xv10_1_X1_take (f : Nat → Int32) (kf : Nat → Int32) : Int32 := (f 1) + (kf 3)
def xv23_2_X1_take (f : Nat → Int32) (kf : Nat → Int32) : Int32 := (f 2) + (kf 6)
def xv38_3_X1_take (to : Nat → Int32) (kf : Nat → Int32) : Int32 := (to 0) + (kf 4)
def xv51_4_X1_take (to : Nat → Int32) (kf : Nat → Int32) : Int32 := (to 1) + (kf 5)
def xv68_5_X1_take (to : Nat → Int32) (kf : Nat → Int32) : Int32 := (to 2) + (ag_max 0 (kf 3))
def xv86_6_X1_take (to : Nat → Int32) (kf : Nat → Int32) : Int32 := (to 3) + (ag_max 0 (-(kf 3)))
def xv103_7_X1_take (to : Nat → Int32) (kf : Nat → Int32) : Int32 := (to 5) + (ag_max 0 (kf 6))
def xv122_8_X1_take (to : Nat → Int32) (kf : Nat → Int32) : Int32 := (to 6) + (ag_max 0 (-(kf 6)))
def sw0_X1_take (f : Nat → Int32) (kf : Nat → Int32) : Nat → Int32 := upd (upd f 1 (xv10_1_X1_take f kf)) 2 (xv23_2_X1_take f kf)
def sw2_X1_take (to : Nat → Int32) (kf : Nat → Int32) : Nat → Int32 := upd (upd (upd (upd (upd (upd to 0 (xv38_3_X1_take to kf)) 1 (xv51_4_X1_take to kf)) 2 (xv68_5_X1_take to kf)) 3 (xv86_6_X1_take to kf)) 5 (xv103_7_X1_take to kf)) 6 (xv122_8_X1_take to kf)
abbrev po_X1_take (cI cC cL : ClassId) (h t1 h1 h2 h3 : Nat) (f se to re kf : Nat → Int32) : va_W → Prop := fun w' => [oL h h1 h2 h3 (sw0_X1_take f kf), aI cI h1 3 se, aI cI h2 7 (sw2_X1_take to kf), aI cI h3 60 re, oK t1 kf] = w'
set_option maxHeartbeats 4000000 in
set_option maxRecDepth 100000 in
theorem ct_X1_take (l : Launch) (D : va_G) (cI cC cL : ClassId) (h t1 h1 h2 h3 : Nat) (f se to re kf : Nat → Int32) : ag_MV l yX1_take cX1_take 2 1 16 D cI cC cL [.ref h, .ref t1] [oL h h1 h2 h3 f, aI cI h1 3 se, aI cI h2 7 to, aI cI h3 60 re, oK t1 kf] (po_X1_take cI cC cL h t1 h1 h2 h3 f se to re kf) := by
  refine ag_MV.of (plainFor_of_name (by decide)) (Nat.le_of_ble_eq_true rfl) ?_
  intro p e s m below meth c hx hb hr hlocks hml hown hmn hG hK A hN hA H locs hP hD hS ls hl
  have hl : lv_has ls 2 [(0, .ref h), (1, .ref t1)] := hl
  refine lv_aload_n hx hb dX1_take_0 rfl (lv_at hl 0 rfl) ?_
  refine lv_dup hx hb dX1_take_1 rfl ?_
  refine ag_getX1 (v := .int (f 1)) hx hb hG hown hK hP 0 1 rfl (by decide) k_55 rfl dX1_take_2 ?_
  refine lv_aload_n hx hb dX1_take_5 rfl (lv_at hl 1 rfl) ?_
  refine ag_getX4 (v := .int (kf 3)) hx hb hG hown hK hP 4 3 rfl (by decide) k_117 rfl dX1_take_6 ?_
  refine lv_iadd hx hb dX1_take_9 ?_
  refine ag_topn (v := xv10_1_X1_take f kf) rfl (fun x10_1 ex10_1 => ?_)
  refine ag_putX1 hx hb hG hown hK hP hD hS 0 1 rfl (by decide) k_55 (by decide) rfl rfl (Nat.le_of_ble_eq_true rfl) dX1_take_10 (fun H locs hP hD hS => ?_)
  have hP : va_P D vwCl [oL h h1 h2 h3 (upd f 1 x10_1), aI cI h1 3 se, aI cI h2 7 to, aI cI h3 60 re, oK t1 kf] H := hP
  have hD : va_D A [oL h h1 h2 h3 (upd f 1 x10_1), aI cI h1 3 se, aI cI h2 7 to, aI cI h3 60 re, oK t1 kf] := hD
  refine lv_aload_n hx hb dX1_take_13 rfl (lv_at hl 0 rfl) ?_
  refine lv_dup hx hb dX1_take_14 rfl ?_
  refine ag_getX1 (v := .int (f 2)) hx hb hG hown hK hP 0 2 rfl (by decide) k_58 rfl dX1_take_15 ?_
  refine lv_aload_n hx hb dX1_take_18 rfl (lv_at hl 1 rfl) ?_
  refine ag_getX4 (v := .int (kf 6)) hx hb hG hown hK hP 4 6 rfl (by decide) k_126 rfl dX1_take_19 ?_
  refine lv_iadd hx hb dX1_take_22 ?_
  refine ag_topn (v := xv23_2_X1_take f kf) rfl (fun x23_2 ex23_2 => ?_)
  refine ag_putX1 hx hb hG hown hK hP hD hS 0 2 rfl (by decide) k_58 (by decide) rfl rfl (Nat.le_of_ble_eq_true rfl) dX1_take_23 (fun H locs hP hD hS => ?_)
  have hP : va_P D vwCl [oL h h1 h2 h3 (upd (upd f 1 x10_1) 2 x23_2), aI cI h1 3 se, aI cI h2 7 to, aI cI h3 60 re, oK t1 kf] H := hP
  have hD : va_D A [oL h h1 h2 h3 (upd (upd f 1 x10_1) 2 x23_2), aI cI h1 3 se, aI cI h2 7 to, aI cI h3 60 re, oK t1 kf] := hD
  refine lv_aload_n hx hb dX1_take_26 rfl (lv_at hl 0 rfl) ?_
  refine ag_getX1 (v := .ref h2) hx hb hG hown hK hP 0 9 rfl (by decide) k_75 rfl dX1_take_27 ?_
  refine lv_iconst (v := 0) hx hb dX1_take_30 (by decide) ?_
  refine lv_dup2_11 hx hb dX1_take_31 rfl rfl ?_
  refine ag_ild (k := 0) (v := to 0) hx hb hK hP 2 rfl rfl (Nat.le_of_ble_eq_true rfl) (Nat.le_of_ble_eq_true rfl) rfl dX1_take_32 ?_
  refine lv_aload_n hx hb dX1_take_33 rfl (lv_at hl 1 rfl) ?_
  refine ag_getX4 (v := .int (kf 4)) hx hb hG hown hK hP 4 4 rfl (by decide) k_120 rfl dX1_take_34 ?_
  refine lv_iadd hx hb dX1_take_37 ?_
  refine ag_topn (v := xv38_3_X1_take to kf) rfl (fun x38_3 ex38_3 => ?_)
  refine ag_ist (k := 0) hx hb hK hP hD hS 2 rfl rfl (Nat.le_of_ble_eq_true rfl) (Nat.le_of_ble_eq_true rfl) dX1_take_38 (fun H locs hP hD hS => ?_)
  have hP : va_P D vwCl [oL h h1 h2 h3 (upd (upd f 1 x10_1) 2 x23_2), aI cI h1 3 se, aI cI h2 7 (upd to 0 x38_3), aI cI h3 60 re, oK t1 kf] H := hP
  have hD : va_D A [oL h h1 h2 h3 (upd (upd f 1 x10_1) 2 x23_2), aI cI h1 3 se, aI cI h2 7 (upd to 0 x38_3), aI cI h3 60 re, oK t1 kf] := hD
  refine lv_aload_n hx hb dX1_take_39 rfl (lv_at hl 0 rfl) ?_
  refine ag_getX1 (v := .ref h2) hx hb hG hown hK hP 0 9 rfl (by decide) k_75 rfl dX1_take_40 ?_
  refine lv_iconst (v := 1) hx hb dX1_take_43 (by decide) ?_
  refine lv_dup2_11 hx hb dX1_take_44 rfl rfl ?_
  refine ag_ild (k := 1) (v := to 1) hx hb hK hP 2 rfl rfl (Nat.le_of_ble_eq_true rfl) (Nat.le_of_ble_eq_true rfl) rfl dX1_take_45 ?_
  refine lv_aload_n hx hb dX1_take_46 rfl (lv_at hl 1 rfl) ?_
  refine ag_getX4 (v := .int (kf 5)) hx hb hG hown hK hP 4 5 rfl (by decide) k_123 rfl dX1_take_47 ?_
  refine lv_iadd hx hb dX1_take_50 ?_
  refine ag_topn (v := xv51_4_X1_take to kf) rfl (fun x51_4 ex51_4 => ?_)
  refine ag_ist (k := 1) hx hb hK hP hD hS 2 rfl rfl (Nat.le_of_ble_eq_true rfl) (Nat.le_of_ble_eq_true rfl) dX1_take_51 (fun H locs hP hD hS => ?_)
  have hP : va_P D vwCl [oL h h1 h2 h3 (upd (upd f 1 x10_1) 2 x23_2), aI cI h1 3 se, aI cI h2 7 (upd (upd to 0 x38_3) 1 x51_4), aI cI h3 60 re, oK t1 kf] H := hP
  have hD : va_D A [oL h h1 h2 h3 (upd (upd f 1 x10_1) 2 x23_2), aI cI h1 3 se, aI cI h2 7 (upd (upd to 0 x38_3) 1 x51_4), aI cI h3 60 re, oK t1 kf] := hD
  refine lv_aload_n hx hb dX1_take_52 rfl (lv_at hl 0 rfl) ?_
  refine ag_getX1 (v := .ref h2) hx hb hG hown hK hP 0 9 rfl (by decide) k_75 rfl dX1_take_53 ?_
  refine lv_iconst (v := 2) hx hb dX1_take_56 (by decide) ?_
  refine lv_dup2_11 hx hb dX1_take_57 rfl rfl ?_
  refine ag_ild (k := 2) (v := to 2) hx hb hK hP 2 rfl rfl (Nat.le_of_ble_eq_true rfl) (Nat.le_of_ble_eq_true rfl) rfl dX1_take_58 ?_
  refine lv_iconst (v := 0) hx hb dX1_take_59 (by decide) ?_
  refine lv_aload_n hx hb dX1_take_60 rfl (lv_at hl 1 rfl) ?_
  refine ag_getX4 (v := .int (kf 3)) hx hb hG hown hK hP 4 3 rfl (by decide) k_117 rfl dX1_take_61 ?_
  refine va_mmax hx hb (hml.trans hl.1.symm) hown (hG _ k_296) (hG _ k_297) (hG _ k_36) (hG _ k_298) (Nat.le_of_ble_eq_true rfl) (Nat.le_of_ble_eq_true rfl) (Nat.zero_le _) (Nat.zero_le _) dX1_take_64 ?_
  refine W.eq (g2 := F0 m 67 ls [.int (ag_max 0 (kf 3)), .int (to 2), .int 2, .ref h2]) rfl ?_
  refine lv_iadd hx hb dX1_take_67 ?_
  refine ag_topn (v := xv68_5_X1_take to kf) rfl (fun x68_5 ex68_5 => ?_)
  refine ag_ist (k := 2) hx hb hK hP hD hS 2 rfl rfl (Nat.le_of_ble_eq_true rfl) (Nat.le_of_ble_eq_true rfl) dX1_take_68 (fun H locs hP hD hS => ?_)
  have hP : va_P D vwCl [oL h h1 h2 h3 (upd (upd f 1 x10_1) 2 x23_2), aI cI h1 3 se, aI cI h2 7 (upd (upd (upd to 0 x38_3) 1 x51_4) 2 x68_5), aI cI h3 60 re, oK t1 kf] H := hP
  have hD : va_D A [oL h h1 h2 h3 (upd (upd f 1 x10_1) 2 x23_2), aI cI h1 3 se, aI cI h2 7 (upd (upd (upd to 0 x38_3) 1 x51_4) 2 x68_5), aI cI h3 60 re, oK t1 kf] := hD
  refine lv_aload_n hx hb dX1_take_69 rfl (lv_at hl 0 rfl) ?_
  refine ag_getX1 (v := .ref h2) hx hb hG hown hK hP 0 9 rfl (by decide) k_75 rfl dX1_take_70 ?_
  refine lv_iconst (v := 3) hx hb dX1_take_73 (by decide) ?_
  refine lv_dup2_11 hx hb dX1_take_74 rfl rfl ?_
  refine ag_ild (k := 3) (v := to 3) hx hb hK hP 2 rfl rfl (Nat.le_of_ble_eq_true rfl) (Nat.le_of_ble_eq_true rfl) rfl dX1_take_75 ?_
  refine lv_iconst (v := 0) hx hb dX1_take_76 (by decide) ?_
  refine lv_aload_n hx hb dX1_take_77 rfl (lv_at hl 1 rfl) ?_
  refine ag_getX4 (v := .int (kf 3)) hx hb hG hown hK hP 4 3 rfl (by decide) k_117 rfl dX1_take_78 ?_
  refine lv_ineg hx hb dX1_take_81 ?_
  refine va_mmax hx hb (hml.trans hl.1.symm) hown (hG _ k_296) (hG _ k_297) (hG _ k_36) (hG _ k_298) (Nat.le_of_ble_eq_true rfl) (Nat.le_of_ble_eq_true rfl) (Nat.zero_le _) (Nat.zero_le _) dX1_take_82 ?_
  refine W.eq (g2 := F0 m 85 ls [.int (ag_max 0 (-(kf 3))), .int (to 3), .int 3, .ref h2]) rfl ?_
  refine lv_iadd hx hb dX1_take_85 ?_
  refine ag_topn (v := xv86_6_X1_take to kf) rfl (fun x86_6 ex86_6 => ?_)
  refine ag_ist (k := 3) hx hb hK hP hD hS 2 rfl rfl (Nat.le_of_ble_eq_true rfl) (Nat.le_of_ble_eq_true rfl) dX1_take_86 (fun H locs hP hD hS => ?_)
  have hP : va_P D vwCl [oL h h1 h2 h3 (upd (upd f 1 x10_1) 2 x23_2), aI cI h1 3 se, aI cI h2 7 (upd (upd (upd (upd to 0 x38_3) 1 x51_4) 2 x68_5) 3 x86_6), aI cI h3 60 re, oK t1 kf] H := hP
  have hD : va_D A [oL h h1 h2 h3 (upd (upd f 1 x10_1) 2 x23_2), aI cI h1 3 se, aI cI h2 7 (upd (upd (upd (upd to 0 x38_3) 1 x51_4) 2 x68_5) 3 x86_6), aI cI h3 60 re, oK t1 kf] := hD
  refine lv_aload_n hx hb dX1_take_87 rfl (lv_at hl 0 rfl) ?_
  refine ag_getX1 (v := .ref h2) hx hb hG hown hK hP 0 9 rfl (by decide) k_75 rfl dX1_take_88 ?_
  refine lv_iconst (v := 5) hx hb dX1_take_91 (by decide) ?_
  refine lv_dup2_11 hx hb dX1_take_92 rfl rfl ?_
  refine ag_ild (k := 5) (v := to 5) hx hb hK hP 2 rfl rfl (Nat.le_of_ble_eq_true rfl) (Nat.le_of_ble_eq_true rfl) rfl dX1_take_93 ?_
  refine lv_iconst (v := 0) hx hb dX1_take_94 (by decide) ?_
  refine lv_aload_n hx hb dX1_take_95 rfl (lv_at hl 1 rfl) ?_
  refine ag_getX4 (v := .int (kf 6)) hx hb hG hown hK hP 4 6 rfl (by decide) k_126 rfl dX1_take_96 ?_
  refine va_mmax hx hb (hml.trans hl.1.symm) hown (hG _ k_296) (hG _ k_297) (hG _ k_36) (hG _ k_298) (Nat.le_of_ble_eq_true rfl) (Nat.le_of_ble_eq_true rfl) (Nat.zero_le _) (Nat.zero_le _) dX1_take_99 ?_
  refine W.eq (g2 := F0 m 102 ls [.int (ag_max 0 (kf 6)), .int (to 5), .int 5, .ref h2]) rfl ?_
  refine lv_iadd hx hb dX1_take_102 ?_
  refine ag_topn (v := xv103_7_X1_take to kf) rfl (fun x103_7 ex103_7 => ?_)
  refine ag_ist (k := 5) hx hb hK hP hD hS 2 rfl rfl (Nat.le_of_ble_eq_true rfl) (Nat.le_of_ble_eq_true rfl) dX1_take_103 (fun H locs hP hD hS => ?_)
  have hP : va_P D vwCl [oL h h1 h2 h3 (upd (upd f 1 x10_1) 2 x23_2), aI cI h1 3 se, aI cI h2 7 (upd (upd (upd (upd (upd to 0 x38_3) 1 x51_4) 2 x68_5) 3 x86_6) 5 x103_7), aI cI h3 60 re, oK t1 kf] H := hP
  have hD : va_D A [oL h h1 h2 h3 (upd (upd f 1 x10_1) 2 x23_2), aI cI h1 3 se, aI cI h2 7 (upd (upd (upd (upd (upd to 0 x38_3) 1 x51_4) 2 x68_5) 3 x86_6) 5 x103_7), aI cI h3 60 re, oK t1 kf] := hD
  refine lv_aload_n hx hb dX1_take_104 rfl (lv_at hl 0 rfl) ?_
  refine ag_getX1 (v := .ref h2) hx hb hG hown hK hP 0 9 rfl (by decide) k_75 rfl dX1_take_105 ?_
  refine lv_bipush (v := 6) hx hb dX1_take_108 (by decide) ?_
  refine lv_dup2_11 hx hb dX1_take_110 rfl rfl ?_
  refine ag_ild (k := 6) (v := to 6) hx hb hK hP 2 rfl rfl (Nat.le_of_ble_eq_true rfl) (Nat.le_of_ble_eq_true rfl) rfl dX1_take_111 ?_
  refine lv_iconst (v := 0) hx hb dX1_take_112 (by decide) ?_
  refine lv_aload_n hx hb dX1_take_113 rfl (lv_at hl 1 rfl) ?_
  refine ag_getX4 (v := .int (kf 6)) hx hb hG hown hK hP 4 6 rfl (by decide) k_126 rfl dX1_take_114 ?_
  refine lv_ineg hx hb dX1_take_117 ?_
  refine va_mmax hx hb (hml.trans hl.1.symm) hown (hG _ k_296) (hG _ k_297) (hG _ k_36) (hG _ k_298) (Nat.le_of_ble_eq_true rfl) (Nat.le_of_ble_eq_true rfl) (Nat.zero_le _) (Nat.zero_le _) dX1_take_118 ?_
  refine W.eq (g2 := F0 m 121 ls [.int (ag_max 0 (-(kf 6))), .int (to 6), .int 6, .ref h2]) rfl ?_
  refine lv_iadd hx hb dX1_take_121 ?_
  refine ag_topn (v := xv122_8_X1_take to kf) rfl (fun x122_8 ex122_8 => ?_)
  refine ag_ist (k := 6) hx hb hK hP hD hS 2 rfl rfl (Nat.le_of_ble_eq_true rfl) (Nat.le_of_ble_eq_true rfl) dX1_take_122 (fun H locs hP hD hS => ?_)
  have hP : va_P D vwCl [oL h h1 h2 h3 (upd (upd f 1 x10_1) 2 x23_2), aI cI h1 3 se, aI cI h2 7 (upd (upd (upd (upd (upd (upd to 0 x38_3) 1 x51_4) 2 x68_5) 3 x86_6) 5 x103_7) 6 x122_8), aI cI h3 60 re, oK t1 kf] H := hP
  have hD : va_D A [oL h h1 h2 h3 (upd (upd f 1 x10_1) 2 x23_2), aI cI h1 3 se, aI cI h2 7 (upd (upd (upd (upd (upd (upd to 0 x38_3) 1 x51_4) 2 x68_5) 3 x86_6) 5 x103_7) 6 x122_8), aI cI h3 60 re, oK t1 kf] := hD
  revert hP; revert hD; revert hS; revert hl
  subst ex122_8
  subst ex103_7
  subst ex86_6
  subst ex68_5
  subst ex51_4
  subst ex38_3
  subst ex23_2
  subst ex10_1
  intro hl hS hD hP
  exact ag_vret [h, h1, h2, h3, t1] hx hb hr hlocks hP hS rfl rfl (by show _ = _; rw [show sw0_X1_take f kf = upd (upd f 1 (xv10_1_X1_take f kf)) 2 (xv23_2_X1_take f kf) from rfl, show sw2_X1_take to kf = upd (upd (upd (upd (upd (upd to 0 (xv38_3_X1_take to kf)) 1 (xv51_4_X1_take to kf)) 2 (xv68_5_X1_take to kf)) 3 (xv86_6_X1_take to kf)) 5 (xv103_7_X1_take to kf)) 6 (xv122_8_X1_take to kf) from rfl]) dX1_take_123
def sw3_X1_beginRecord (re : Nat → Int32) (p2 : Int32) (q : Nat) : Nat → Int32 := upd (upd (upd (upd (upd (upd re (q + 0) 0) (q + 1) 0) (q + 2) p2) (q + 3) p2) (q + 4) 0) (q + 5) 0
abbrev po_X1_beginRecord (cI cC cL : ClassId) (h h1 h2 h3 : Nat) (f se to re : Nat → Int32) (p1 : Int32) (p2 : Int32) (q : Nat) (hp : p1 = nI q ∧ q ≤ 54) : va_W → Prop := fun w' => [oL h h1 h2 h3 f, aI cI h1 3 se, aI cI h2 7 to, aI cI h3 60 (sw3_X1_beginRecord re p2 q)] = w'
set_option maxHeartbeats 4000000 in
set_option maxRecDepth 100000 in
theorem ct_X1_beginRecord (l : Launch) (D : va_G) (cI cC cL : ClassId) (h h1 h2 h3 : Nat) (f se to re : Nat → Int32) (p1 : Int32) (p2 : Int32) (q : Nat) (hp : p1 = nI q ∧ q ≤ 54) : ag_MV l yX1_beginRecord cX1_beginRecord 3 0 0 D cI cC cL [.ref h, .int p1, .int p2] [oL h h1 h2 h3 f, aI cI h1 3 se, aI cI h2 7 to, aI cI h3 60 re] (po_X1_beginRecord cI cC cL h h1 h2 h3 f se to re p1 p2 q hp) := by
  refine ag_MV.of (plainFor_of_name (by decide)) (Nat.le_of_ble_eq_true rfl) ?_
  intro p e s m below meth c hx hb hr hlocks hml hown hmn hG hK A hN hA H locs hP hD hS ls hl
  have hl : lv_has ls 3 [(0, .ref h), (1, .int p1), (2, .int p2)] := hl
  refine lv_aload_n hx hb dX1_beginRecord_0 rfl (lv_at hl 0 rfl) ?_
  refine ag_getX1 (v := .ref h3) hx hb hG hown hK hP 0 10 rfl (by decide) k_77 rfl dX1_beginRecord_1 ?_
  refine lv_iload_n hx hb dX1_beginRecord_4 rfl (lv_at hl 1 rfl) ?_
  refine lv_iconst (v := 0) hx hb dX1_beginRecord_5 (by decide) ?_
  refine lv_iadd hx hb dX1_beginRecord_6 ?_
  refine lv_iconst (v := 0) hx hb dX1_beginRecord_7 (by decide) ?_
  refine ag_ist (k := q + 0) hx hb hK hP hD hS 3 rfl ((congrArg (· + (0 : Int32)) hp.1).trans (nI_add _ 0)) (by have := hp.2; omega) (Nat.le_of_ble_eq_true rfl) dX1_beginRecord_8 (fun H locs hP hD hS => ?_)
  have hP : va_P D vwCl [oL h h1 h2 h3 f, aI cI h1 3 se, aI cI h2 7 to, aI cI h3 60 (upd re (q + 0) 0)] H := hP
  have hD : va_D A [oL h h1 h2 h3 f, aI cI h1 3 se, aI cI h2 7 to, aI cI h3 60 (upd re (q + 0) 0)] := hD
  refine lv_aload_n hx hb dX1_beginRecord_9 rfl (lv_at hl 0 rfl) ?_
  refine ag_getX1 (v := .ref h3) hx hb hG hown hK hP 0 10 rfl (by decide) k_77 rfl dX1_beginRecord_10 ?_
  refine lv_iload_n hx hb dX1_beginRecord_13 rfl (lv_at hl 1 rfl) ?_
  refine lv_iconst (v := 1) hx hb dX1_beginRecord_14 (by decide) ?_
  refine lv_iadd hx hb dX1_beginRecord_15 ?_
  refine lv_iconst (v := 0) hx hb dX1_beginRecord_16 (by decide) ?_
  refine ag_ist (k := q + 1) hx hb hK hP hD hS 3 rfl ((congrArg (· + (1 : Int32)) hp.1).trans (nI_add _ 1)) (by have := hp.2; omega) (Nat.le_of_ble_eq_true rfl) dX1_beginRecord_17 (fun H locs hP hD hS => ?_)
  have hP : va_P D vwCl [oL h h1 h2 h3 f, aI cI h1 3 se, aI cI h2 7 to, aI cI h3 60 (upd (upd re (q + 0) 0) (q + 1) 0)] H := hP
  have hD : va_D A [oL h h1 h2 h3 f, aI cI h1 3 se, aI cI h2 7 to, aI cI h3 60 (upd (upd re (q + 0) 0) (q + 1) 0)] := hD
  refine lv_aload_n hx hb dX1_beginRecord_18 rfl (lv_at hl 0 rfl) ?_
  refine ag_getX1 (v := .ref h3) hx hb hG hown hK hP 0 10 rfl (by decide) k_77 rfl dX1_beginRecord_19 ?_
  refine lv_iload_n hx hb dX1_beginRecord_22 rfl (lv_at hl 1 rfl) ?_
  refine lv_iconst (v := 2) hx hb dX1_beginRecord_23 (by decide) ?_
  refine lv_iadd hx hb dX1_beginRecord_24 ?_
  refine lv_iload_n hx hb dX1_beginRecord_25 rfl (lv_at hl 2 rfl) ?_
  refine ag_ist (k := q + 2) hx hb hK hP hD hS 3 rfl ((congrArg (· + (2 : Int32)) hp.1).trans (nI_add _ 2)) (by have := hp.2; omega) (Nat.le_of_ble_eq_true rfl) dX1_beginRecord_26 (fun H locs hP hD hS => ?_)
  have hP : va_P D vwCl [oL h h1 h2 h3 f, aI cI h1 3 se, aI cI h2 7 to, aI cI h3 60 (upd (upd (upd re (q + 0) 0) (q + 1) 0) (q + 2) p2)] H := hP
  have hD : va_D A [oL h h1 h2 h3 f, aI cI h1 3 se, aI cI h2 7 to, aI cI h3 60 (upd (upd (upd re (q + 0) 0) (q + 1) 0) (q + 2) p2)] := hD
  refine lv_aload_n hx hb dX1_beginRecord_27 rfl (lv_at hl 0 rfl) ?_
  refine ag_getX1 (v := .ref h3) hx hb hG hown hK hP 0 10 rfl (by decide) k_77 rfl dX1_beginRecord_28 ?_
  refine lv_iload_n hx hb dX1_beginRecord_31 rfl (lv_at hl 1 rfl) ?_
  refine lv_iconst (v := 3) hx hb dX1_beginRecord_32 (by decide) ?_
  refine lv_iadd hx hb dX1_beginRecord_33 ?_
  refine lv_iload_n hx hb dX1_beginRecord_34 rfl (lv_at hl 2 rfl) ?_
  refine ag_ist (k := q + 3) hx hb hK hP hD hS 3 rfl ((congrArg (· + (3 : Int32)) hp.1).trans (nI_add _ 3)) (by have := hp.2; omega) (Nat.le_of_ble_eq_true rfl) dX1_beginRecord_35 (fun H locs hP hD hS => ?_)
  have hP : va_P D vwCl [oL h h1 h2 h3 f, aI cI h1 3 se, aI cI h2 7 to, aI cI h3 60 (upd (upd (upd (upd re (q + 0) 0) (q + 1) 0) (q + 2) p2) (q + 3) p2)] H := hP
  have hD : va_D A [oL h h1 h2 h3 f, aI cI h1 3 se, aI cI h2 7 to, aI cI h3 60 (upd (upd (upd (upd re (q + 0) 0) (q + 1) 0) (q + 2) p2) (q + 3) p2)] := hD
  refine lv_aload_n hx hb dX1_beginRecord_36 rfl (lv_at hl 0 rfl) ?_
  refine ag_getX1 (v := .ref h3) hx hb hG hown hK hP 0 10 rfl (by decide) k_77 rfl dX1_beginRecord_37 ?_
  refine lv_iload_n hx hb dX1_beginRecord_40 rfl (lv_at hl 1 rfl) ?_
  refine lv_iconst (v := 4) hx hb dX1_beginRecord_41 (by decide) ?_
  refine lv_iadd hx hb dX1_beginRecord_42 ?_
  refine lv_iconst (v := 0) hx hb dX1_beginRecord_43 (by decide) ?_
  refine ag_ist (k := q + 4) hx hb hK hP hD hS 3 rfl ((congrArg (· + (4 : Int32)) hp.1).trans (nI_add _ 4)) (by have := hp.2; omega) (Nat.le_of_ble_eq_true rfl) dX1_beginRecord_44 (fun H locs hP hD hS => ?_)
  have hP : va_P D vwCl [oL h h1 h2 h3 f, aI cI h1 3 se, aI cI h2 7 to, aI cI h3 60 (upd (upd (upd (upd (upd re (q + 0) 0) (q + 1) 0) (q + 2) p2) (q + 3) p2) (q + 4) 0)] H := hP
  have hD : va_D A [oL h h1 h2 h3 f, aI cI h1 3 se, aI cI h2 7 to, aI cI h3 60 (upd (upd (upd (upd (upd re (q + 0) 0) (q + 1) 0) (q + 2) p2) (q + 3) p2) (q + 4) 0)] := hD
  refine lv_aload_n hx hb dX1_beginRecord_45 rfl (lv_at hl 0 rfl) ?_
  refine ag_getX1 (v := .ref h3) hx hb hG hown hK hP 0 10 rfl (by decide) k_77 rfl dX1_beginRecord_46 ?_
  refine lv_iload_n hx hb dX1_beginRecord_49 rfl (lv_at hl 1 rfl) ?_
  refine lv_iconst (v := 5) hx hb dX1_beginRecord_50 (by decide) ?_
  refine lv_iadd hx hb dX1_beginRecord_51 ?_
  refine lv_iconst (v := 0) hx hb dX1_beginRecord_52 (by decide) ?_
  refine ag_ist (k := q + 5) hx hb hK hP hD hS 3 rfl ((congrArg (· + (5 : Int32)) hp.1).trans (nI_add _ 5)) (by have := hp.2; omega) (Nat.le_of_ble_eq_true rfl) dX1_beginRecord_53 (fun H locs hP hD hS => ?_)
  have hP : va_P D vwCl [oL h h1 h2 h3 f, aI cI h1 3 se, aI cI h2 7 to, aI cI h3 60 (upd (upd (upd (upd (upd (upd re (q + 0) 0) (q + 1) 0) (q + 2) p2) (q + 3) p2) (q + 4) 0) (q + 5) 0)] H := hP
  have hD : va_D A [oL h h1 h2 h3 f, aI cI h1 3 se, aI cI h2 7 to, aI cI h3 60 (upd (upd (upd (upd (upd (upd re (q + 0) 0) (q + 1) 0) (q + 2) p2) (q + 3) p2) (q + 4) 0) (q + 5) 0)] := hD
  exact ag_vret [h, h1, h2, h3] hx hb hr hlocks hP hS rfl rfl (by show _ = _; rw [show sw3_X1_beginRecord re p2 q = upd (upd (upd (upd (upd (upd re (q + 0) 0) (q + 1) 0) (q + 2) p2) (q + 3) p2) (q + 4) 0) (q + 5) 0 from rfl]) dX1_beginRecord_54
def gv31_1_X1_enterRecord (f : Nat → Int32) (re : Nat → Int32) : Nat → Int32 := sw3_X1_beginRecord re (sr_X1_level f) (rs (f 0 / 144))
def w34_3_X1_enterRecord (f : Nat → Int32) (re : Nat → Int32) : Nat → Int32 := if ((f 0) - (f 0) / 144 * 144) = 0 then (gv31_1_X1_enterRecord f re) else re
def xv48_2_X1_enterRecord (f : Nat → Int32) (re : Nat → Int32) (kf : Nat → Int32) : Int32 := ((w34_3_X1_enterRecord f re) ((rs (f 0 / 144)) + 0)) + (kf 4)
def xv63_3_X1_enterRecord (f : Nat → Int32) (re : Nat → Int32) (kf : Nat → Int32) : Int32 := ((w34_3_X1_enterRecord f re) ((rs (f 0 / 144)) + 1)) + (kf 5)
def xv83_4_X1_enterRecord (f : Nat → Int32) (re : Nat → Int32) : Int32 := ag_max ((w34_3_X1_enterRecord f re) ((rs (f 0 / 144)) + 2)) (sr_X1_level f)
def xv103_5_X1_enterRecord (f : Nat → Int32) (re : Nat → Int32) : Int32 := ag_min ((w34_3_X1_enterRecord f re) ((rs (f 0 / 144)) + 3)) (sr_X1_level f)
def xv122_6_X1_enterRecord (f : Nat → Int32) (re : Nat → Int32) (kf : Nat → Int32) : Int32 := ((w34_3_X1_enterRecord f re) ((rs (f 0 / 144)) + 4)) + (ag_max 0 (kf 3))
def xv142_7_X1_enterRecord (f : Nat → Int32) (re : Nat → Int32) (kf : Nat → Int32) : Int32 := ((w34_3_X1_enterRecord f re) ((rs (f 0 / 144)) + 5)) + (ag_max 0 (-(kf 3)))
def sw3_X1_enterRecord (f : Nat → Int32) (re : Nat → Int32) (kf : Nat → Int32) : Nat → Int32 := upd (upd (upd (upd (upd (upd (w34_3_X1_enterRecord f re) ((rs (f 0 / 144)) + 0) (xv48_2_X1_enterRecord f re kf)) ((rs (f 0 / 144)) + 1) (xv63_3_X1_enterRecord f re kf)) ((rs (f 0 / 144)) + 2) (xv83_4_X1_enterRecord f re)) ((rs (f 0 / 144)) + 3) (xv103_5_X1_enterRecord f re)) ((rs (f 0 / 144)) + 4) (xv122_6_X1_enterRecord f re kf)) ((rs (f 0 / 144)) + 5) (xv142_7_X1_enterRecord f re kf)
abbrev po_X1_enterRecord (cI cC cL : ClassId) (h t1 h1 h2 h3 : Nat) (f se to re kf : Nat → Int32) : va_W → Prop := fun w' => [oL h h1 h2 h3 f, aI cI h1 3 se, aI cI h2 7 to, aI cI h3 60 (sw3_X1_enterRecord f re kf), oK t1 kf] = w'
set_option maxHeartbeats 4000000 in
set_option maxRecDepth 100000 in
theorem ct_X1_enterRecord (l : Launch) (D : va_G) (cI cC cL : ClassId) (h t1 h1 h2 h3 : Nat) (f se to re kf : Nat → Int32) : ag_MV l yX1_enterRecord cX1_enterRecord 4 2 42 D cI cC cL [.ref h, .ref t1] [oL h h1 h2 h3 f, aI cI h1 3 se, aI cI h2 7 to, aI cI h3 60 re, oK t1 kf] (po_X1_enterRecord cI cC cL h t1 h1 h2 h3 f se to re kf) := by
  refine ag_MV.of (plainFor_of_name (by decide)) (Nat.le_of_ble_eq_true rfl) ?_
  intro p e s m below meth c hx hb hr hlocks hml hown hmn hG hK A hN hA H locs hP hD hS ls hl
  have hl : lv_has ls 4 [(0, .ref h), (1, .ref t1)] := hl
  refine lv_aload_n hx hb dX1_enterRecord_0 rfl (lv_at hl 0 rfl) ?_
  refine ag_getX1 (v := .int (f 0)) hx hb hG hown hK hP 0 0 rfl (by decide) k_53 rfl dX1_enterRecord_1 ?_
  refine lv_sipush (v := 144) hx hb dX1_enterRecord_4 (by decide) ?_
  refine lv_idiv hx hb dX1_enterRecord_7 (by decide) ?_
  refine ag_callNi (As := [.int ((f 0) / 144)]) (rest := []) hx hb hml hown hG hK hN hA hP hD hS hl (ct_X5_recordStart l D cI cC cL ((f 0) / 144)) fX5_recordStart hN.1.2.2.2.2.2.2.2.1 ag_cut_0 rfl (Nat.le_of_ble_eq_true rfl) ⟨Nat.le_of_ble_eq_true rfl, Nat.le_of_ble_eq_true rfl⟩ ⟨Nat.zero_le _, Nat.zero_le _⟩ dX1_enterRecord_8 (fun r w1 H locs hw hP hD hS => ?_)
  obtain ⟨rfl, hw⟩ := hw
  subst hw
  have hP : va_P D vwCl [oL h h1 h2 h3 f, aI cI h1 3 se, aI cI h2 7 to, aI cI h3 60 re, oK t1 kf] H := hP
  have hD : va_D A [oL h h1 h2 h3 f, aI cI h1 3 se, aI cI h2 7 to, aI cI h3 60 re, oK t1 kf] := hD
  refine lv_istore_n (lv' := [(2, .int (sr_X5_recordStart ((f 0) / 144))), (0, .ref h), (1, .ref t1)]) hx hb dX1_enterRecord_11 rfl hl (by decide) rfl (fun ls hl => ?_)
  refine lv_aload_n hx hb dX1_enterRecord_12 rfl (lv_at hl 1 rfl) ?_
  refine ag_callVi (As := []) (rest := []) hx hb hml hown hG hK hN hA hP hD hS hl (ct_X1_level l D cI cC cL h h1 h2 h3 f se to re) fX1_level k_322 (ag_cut_1 [] [oK t1 kf] rfl) (q0 := 0) rfl rfl rfl rfl (Nat.le_of_ble_eq_true rfl) ⟨Nat.le_of_ble_eq_true rfl, Nat.le_of_ble_eq_true rfl⟩ ⟨Nat.zero_le _, Nat.zero_le _⟩ dX1_enterRecord_13 (fun r w1 H locs hw hP hD hS => ?_)
  obtain ⟨rfl, hw⟩ := hw
  subst hw
  have hP : va_P D vwCl [oL h h1 h2 h3 f, aI cI h1 3 se, aI cI h2 7 to, aI cI h3 60 re, oK t1 kf] H := hP
  have hD : va_D A [oL h h1 h2 h3 f, aI cI h1 3 se, aI cI h2 7 to, aI cI h3 60 re, oK t1 kf] := hD
  refine lv_istore_n (lv' := [(3, .int (sr_X1_level f)), (2, .int (sr_X5_recordStart ((f 0) / 144))), (0, .ref h), (1, .ref t1)]) hx hb dX1_enterRecord_16 rfl hl (by decide) rfl (fun ls hl => ?_)
  refine lv_aload_n hx hb dX1_enterRecord_17 rfl (lv_at hl 2 rfl) ?_
  refine ag_getX1 (v := .int (f 0)) hx hb hG hown hK hP 0 0 rfl (by decide) k_53 rfl dX1_enterRecord_18 ?_
  refine lv_sipush (v := 144) hx hb dX1_enterRecord_21 (by decide) ?_
  refine lv_irem hx hb dX1_enterRecord_24 (by decide) ?_
  have J34 : ∀ (H : Heap) (locs : List Loc), va_P D vwCl [oL h h1 h2 h3 f, aI cI h1 3 se, aI cI h2 7 to, aI cI h3 60 (w34_3_X1_enterRecord f re), oK t1 kf] H → va_D A [oL h h1 h2 h3 f, aI cI h1 3 se, aI cI h2 7 to, aI cI h3 60 (w34_3_X1_enterRecord f re), oK t1 kf] → va_S A s.heap H locs → ∀ (ls : Array Slot), lv_has ls 4 [(0, .ref h), (1, .ref t1), (2, .int (sr_X5_recordStart ((f 0) / 144))), (3, .int (sr_X1_level f))] → W p l e (ag_rm 2 42) s m ([.ref h, .ref t1] : List Value).toArray below meth c H locs 0 0 (MQ below (va_Qv (po_X1_enterRecord cI cC cL h t1 h1 h2 h3 f se to re kf) (ag_Out D [oL h h1 h2 h3 f, aI cI h1 3 se, aI cI h2 7 to, aI cI h3 60 re, oK t1 kf]) A) ([.ref h, .ref t1] : List Value).toArray s 0 0 A) (F0 m 34 ls []) := by
    intro H locs hP hD hS ls hl
    refine lv_aload_n hx hb dX1_enterRecord_34 rfl (lv_at hl 0 rfl) ?_
    refine ag_getX1 (v := .ref h3) hx hb hG hown hK hP 0 10 rfl (by decide) k_77 rfl dX1_enterRecord_35 ?_
    refine lv_iload_n hx hb dX1_enterRecord_38 rfl (lv_at hl 2 rfl) ?_
    refine lv_iconst (v := 0) hx hb dX1_enterRecord_39 (by decide) ?_
    refine lv_iadd hx hb dX1_enterRecord_40 ?_
    refine lv_dup2_11 hx hb dX1_enterRecord_41 rfl rfl ?_
    refine ag_ild (k := (rs (f 0 / 144)) + 0) (v := (w34_3_X1_enterRecord f re) ((rs (f 0 / 144)) + 0)) hx hb hK hP 3 rfl ((congrArg (· + (0 : Int32)) (rs_eq (f 0 / 144))).trans (nI_add _ 0)) (by have := rs_le (f 0 / 144); omega) (Nat.le_of_ble_eq_true rfl) rfl dX1_enterRecord_42 ?_
    refine lv_aload_n hx hb dX1_enterRecord_43 rfl (lv_at hl 1 rfl) ?_
    refine ag_getX4 (v := .int (kf 4)) hx hb hG hown hK hP 4 4 rfl (by decide) k_120 rfl dX1_enterRecord_44 ?_
    refine lv_iadd hx hb dX1_enterRecord_47 ?_
    refine ag_topn (v := xv48_2_X1_enterRecord f re kf) rfl (fun x48_2 ex48_2 => ?_)
    refine ag_ist (k := (rs (f 0 / 144)) + 0) hx hb hK hP hD hS 3 rfl ((congrArg (· + (0 : Int32)) (rs_eq (f 0 / 144))).trans (nI_add _ 0)) (by have := rs_le (f 0 / 144); omega) (Nat.le_of_ble_eq_true rfl) dX1_enterRecord_48 (fun H locs hP hD hS => ?_)
    have hP : va_P D vwCl [oL h h1 h2 h3 f, aI cI h1 3 se, aI cI h2 7 to, aI cI h3 60 (upd (w34_3_X1_enterRecord f re) ((rs (f 0 / 144)) + 0) x48_2), oK t1 kf] H := hP
    have hD : va_D A [oL h h1 h2 h3 f, aI cI h1 3 se, aI cI h2 7 to, aI cI h3 60 (upd (w34_3_X1_enterRecord f re) ((rs (f 0 / 144)) + 0) x48_2), oK t1 kf] := hD
    refine lv_aload_n hx hb dX1_enterRecord_49 rfl (lv_at hl 0 rfl) ?_
    refine ag_getX1 (v := .ref h3) hx hb hG hown hK hP 0 10 rfl (by decide) k_77 rfl dX1_enterRecord_50 ?_
    refine lv_iload_n hx hb dX1_enterRecord_53 rfl (lv_at hl 2 rfl) ?_
    refine lv_iconst (v := 1) hx hb dX1_enterRecord_54 (by decide) ?_
    refine lv_iadd hx hb dX1_enterRecord_55 ?_
    refine lv_dup2_11 hx hb dX1_enterRecord_56 rfl rfl ?_
    refine ag_ild (k := (rs (f 0 / 144)) + 1) (v := (w34_3_X1_enterRecord f re) ((rs (f 0 / 144)) + 1)) hx hb hK hP 3 rfl ((congrArg (· + (1 : Int32)) (rs_eq (f 0 / 144))).trans (nI_add _ 1)) (by have := rs_le (f 0 / 144); omega) (Nat.le_of_ble_eq_true rfl) (Eq.trans (pk_un (by omega)) rfl) dX1_enterRecord_57 ?_
    refine lv_aload_n hx hb dX1_enterRecord_58 rfl (lv_at hl 1 rfl) ?_
    refine ag_getX4 (v := .int (kf 5)) hx hb hG hown hK hP 4 5 rfl (by decide) k_123 rfl dX1_enterRecord_59 ?_
    refine lv_iadd hx hb dX1_enterRecord_62 ?_
    refine ag_topn (v := xv63_3_X1_enterRecord f re kf) rfl (fun x63_3 ex63_3 => ?_)
    refine ag_ist (k := (rs (f 0 / 144)) + 1) hx hb hK hP hD hS 3 rfl ((congrArg (· + (1 : Int32)) (rs_eq (f 0 / 144))).trans (nI_add _ 1)) (by have := rs_le (f 0 / 144); omega) (Nat.le_of_ble_eq_true rfl) dX1_enterRecord_63 (fun H locs hP hD hS => ?_)
    have hP : va_P D vwCl [oL h h1 h2 h3 f, aI cI h1 3 se, aI cI h2 7 to, aI cI h3 60 (upd (upd (w34_3_X1_enterRecord f re) ((rs (f 0 / 144)) + 0) x48_2) ((rs (f 0 / 144)) + 1) x63_3), oK t1 kf] H := hP
    have hD : va_D A [oL h h1 h2 h3 f, aI cI h1 3 se, aI cI h2 7 to, aI cI h3 60 (upd (upd (w34_3_X1_enterRecord f re) ((rs (f 0 / 144)) + 0) x48_2) ((rs (f 0 / 144)) + 1) x63_3), oK t1 kf] := hD
    refine lv_aload_n hx hb dX1_enterRecord_64 rfl (lv_at hl 0 rfl) ?_
    refine ag_getX1 (v := .ref h3) hx hb hG hown hK hP 0 10 rfl (by decide) k_77 rfl dX1_enterRecord_65 ?_
    refine lv_iload_n hx hb dX1_enterRecord_68 rfl (lv_at hl 2 rfl) ?_
    refine lv_iconst (v := 2) hx hb dX1_enterRecord_69 (by decide) ?_
    refine lv_iadd hx hb dX1_enterRecord_70 ?_
    refine lv_aload_n hx hb dX1_enterRecord_71 rfl (lv_at hl 0 rfl) ?_
    refine ag_getX1 (v := .ref h3) hx hb hG hown hK hP 0 10 rfl (by decide) k_77 rfl dX1_enterRecord_72 ?_
    refine lv_iload_n hx hb dX1_enterRecord_75 rfl (lv_at hl 2 rfl) ?_
    refine lv_iconst (v := 2) hx hb dX1_enterRecord_76 (by decide) ?_
    refine lv_iadd hx hb dX1_enterRecord_77 ?_
    refine ag_ild (k := (rs (f 0 / 144)) + 2) (v := (w34_3_X1_enterRecord f re) ((rs (f 0 / 144)) + 2)) hx hb hK hP 3 rfl ((congrArg (· + (2 : Int32)) (rs_eq (f 0 / 144))).trans (nI_add _ 2)) (by have := rs_le (f 0 / 144); omega) (Nat.le_of_ble_eq_true rfl) (Eq.trans (pk_un (by omega)) (Eq.trans (pk_un (by omega)) rfl)) dX1_enterRecord_78 ?_
    refine lv_iload_n hx hb dX1_enterRecord_79 rfl (lv_at hl 3 rfl) ?_
    refine va_mmax hx hb (hml.trans hl.1.symm) hown (hG _ k_296) (hG _ k_297) (hG _ k_36) (hG _ k_298) (Nat.le_of_ble_eq_true rfl) (Nat.le_of_ble_eq_true rfl) (Nat.zero_le _) (Nat.zero_le _) dX1_enterRecord_80 ?_
    refine W.eq (g2 := F0 m 83 ls [.int (ag_max ((w34_3_X1_enterRecord f re) ((rs (f 0 / 144)) + 2)) (sr_X1_level f)), .int ((sr_X5_recordStart ((f 0) / 144)) + 2), .ref h3]) rfl ?_
    refine ag_topn (v := xv83_4_X1_enterRecord f re) rfl (fun x83_4 ex83_4 => ?_)
    refine ag_ist (k := (rs (f 0 / 144)) + 2) hx hb hK hP hD hS 3 rfl ((congrArg (· + (2 : Int32)) (rs_eq (f 0 / 144))).trans (nI_add _ 2)) (by have := rs_le (f 0 / 144); omega) (Nat.le_of_ble_eq_true rfl) dX1_enterRecord_83 (fun H locs hP hD hS => ?_)
    have hP : va_P D vwCl [oL h h1 h2 h3 f, aI cI h1 3 se, aI cI h2 7 to, aI cI h3 60 (upd (upd (upd (w34_3_X1_enterRecord f re) ((rs (f 0 / 144)) + 0) x48_2) ((rs (f 0 / 144)) + 1) x63_3) ((rs (f 0 / 144)) + 2) x83_4), oK t1 kf] H := hP
    have hD : va_D A [oL h h1 h2 h3 f, aI cI h1 3 se, aI cI h2 7 to, aI cI h3 60 (upd (upd (upd (w34_3_X1_enterRecord f re) ((rs (f 0 / 144)) + 0) x48_2) ((rs (f 0 / 144)) + 1) x63_3) ((rs (f 0 / 144)) + 2) x83_4), oK t1 kf] := hD
    refine lv_aload_n hx hb dX1_enterRecord_84 rfl (lv_at hl 0 rfl) ?_
    refine ag_getX1 (v := .ref h3) hx hb hG hown hK hP 0 10 rfl (by decide) k_77 rfl dX1_enterRecord_85 ?_
    refine lv_iload_n hx hb dX1_enterRecord_88 rfl (lv_at hl 2 rfl) ?_
    refine lv_iconst (v := 3) hx hb dX1_enterRecord_89 (by decide) ?_
    refine lv_iadd hx hb dX1_enterRecord_90 ?_
    refine lv_aload_n hx hb dX1_enterRecord_91 rfl (lv_at hl 0 rfl) ?_
    refine ag_getX1 (v := .ref h3) hx hb hG hown hK hP 0 10 rfl (by decide) k_77 rfl dX1_enterRecord_92 ?_
    refine lv_iload_n hx hb dX1_enterRecord_95 rfl (lv_at hl 2 rfl) ?_
    refine lv_iconst (v := 3) hx hb dX1_enterRecord_96 (by decide) ?_
    refine lv_iadd hx hb dX1_enterRecord_97 ?_
    refine ag_ild (k := (rs (f 0 / 144)) + 3) (v := (w34_3_X1_enterRecord f re) ((rs (f 0 / 144)) + 3)) hx hb hK hP 3 rfl ((congrArg (· + (3 : Int32)) (rs_eq (f 0 / 144))).trans (nI_add _ 3)) (by have := rs_le (f 0 / 144); omega) (Nat.le_of_ble_eq_true rfl) (Eq.trans (pk_un (by omega)) (Eq.trans (pk_un (by omega)) (Eq.trans (pk_un (by omega)) rfl))) dX1_enterRecord_98 ?_
    refine lv_iload_n hx hb dX1_enterRecord_99 rfl (lv_at hl 3 rfl) ?_
    refine va_mmin hx hb (hml.trans hl.1.symm) hown (hG _ k_362) (hG _ k_339) (hG _ k_36) (hG _ k_340) (Nat.le_of_ble_eq_true rfl) (Nat.le_of_ble_eq_true rfl) (Nat.zero_le _) (Nat.zero_le _) dX1_enterRecord_100 ?_
    refine W.eq (g2 := F0 m 103 ls [.int (ag_min ((w34_3_X1_enterRecord f re) ((rs (f 0 / 144)) + 3)) (sr_X1_level f)), .int ((sr_X5_recordStart ((f 0) / 144)) + 3), .ref h3]) rfl ?_
    refine ag_topn (v := xv103_5_X1_enterRecord f re) rfl (fun x103_5 ex103_5 => ?_)
    refine ag_ist (k := (rs (f 0 / 144)) + 3) hx hb hK hP hD hS 3 rfl ((congrArg (· + (3 : Int32)) (rs_eq (f 0 / 144))).trans (nI_add _ 3)) (by have := rs_le (f 0 / 144); omega) (Nat.le_of_ble_eq_true rfl) dX1_enterRecord_103 (fun H locs hP hD hS => ?_)
    have hP : va_P D vwCl [oL h h1 h2 h3 f, aI cI h1 3 se, aI cI h2 7 to, aI cI h3 60 (upd (upd (upd (upd (w34_3_X1_enterRecord f re) ((rs (f 0 / 144)) + 0) x48_2) ((rs (f 0 / 144)) + 1) x63_3) ((rs (f 0 / 144)) + 2) x83_4) ((rs (f 0 / 144)) + 3) x103_5), oK t1 kf] H := hP
    have hD : va_D A [oL h h1 h2 h3 f, aI cI h1 3 se, aI cI h2 7 to, aI cI h3 60 (upd (upd (upd (upd (w34_3_X1_enterRecord f re) ((rs (f 0 / 144)) + 0) x48_2) ((rs (f 0 / 144)) + 1) x63_3) ((rs (f 0 / 144)) + 2) x83_4) ((rs (f 0 / 144)) + 3) x103_5), oK t1 kf] := hD
    refine lv_aload_n hx hb dX1_enterRecord_104 rfl (lv_at hl 0 rfl) ?_
    refine ag_getX1 (v := .ref h3) hx hb hG hown hK hP 0 10 rfl (by decide) k_77 rfl dX1_enterRecord_105 ?_
    refine lv_iload_n hx hb dX1_enterRecord_108 rfl (lv_at hl 2 rfl) ?_
    refine lv_iconst (v := 4) hx hb dX1_enterRecord_109 (by decide) ?_
    refine lv_iadd hx hb dX1_enterRecord_110 ?_
    refine lv_dup2_11 hx hb dX1_enterRecord_111 rfl rfl ?_
    refine ag_ild (k := (rs (f 0 / 144)) + 4) (v := (w34_3_X1_enterRecord f re) ((rs (f 0 / 144)) + 4)) hx hb hK hP 3 rfl ((congrArg (· + (4 : Int32)) (rs_eq (f 0 / 144))).trans (nI_add _ 4)) (by have := rs_le (f 0 / 144); omega) (Nat.le_of_ble_eq_true rfl) (Eq.trans (pk_un (by omega)) (Eq.trans (pk_un (by omega)) (Eq.trans (pk_un (by omega)) (Eq.trans (pk_un (by omega)) rfl)))) dX1_enterRecord_112 ?_
    refine lv_iconst (v := 0) hx hb dX1_enterRecord_113 (by decide) ?_
    refine lv_aload_n hx hb dX1_enterRecord_114 rfl (lv_at hl 1 rfl) ?_
    refine ag_getX4 (v := .int (kf 3)) hx hb hG hown hK hP 4 3 rfl (by decide) k_117 rfl dX1_enterRecord_115 ?_
    refine va_mmax hx hb (hml.trans hl.1.symm) hown (hG _ k_296) (hG _ k_297) (hG _ k_36) (hG _ k_298) (Nat.le_of_ble_eq_true rfl) (Nat.le_of_ble_eq_true rfl) (Nat.zero_le _) (Nat.zero_le _) dX1_enterRecord_118 ?_
    refine W.eq (g2 := F0 m 121 ls [.int (ag_max 0 (kf 3)), .int ((w34_3_X1_enterRecord f re) ((rs (f 0 / 144)) + 4)), .int ((sr_X5_recordStart ((f 0) / 144)) + 4), .ref h3]) rfl ?_
    refine lv_iadd hx hb dX1_enterRecord_121 ?_
    refine ag_topn (v := xv122_6_X1_enterRecord f re kf) rfl (fun x122_6 ex122_6 => ?_)
    refine ag_ist (k := (rs (f 0 / 144)) + 4) hx hb hK hP hD hS 3 rfl ((congrArg (· + (4 : Int32)) (rs_eq (f 0 / 144))).trans (nI_add _ 4)) (by have := rs_le (f 0 / 144); omega) (Nat.le_of_ble_eq_true rfl) dX1_enterRecord_122 (fun H locs hP hD hS => ?_)
    have hP : va_P D vwCl [oL h h1 h2 h3 f, aI cI h1 3 se, aI cI h2 7 to, aI cI h3 60 (upd (upd (upd (upd (upd (w34_3_X1_enterRecord f re) ((rs (f 0 / 144)) + 0) x48_2) ((rs (f 0 / 144)) + 1) x63_3) ((rs (f 0 / 144)) + 2) x83_4) ((rs (f 0 / 144)) + 3) x103_5) ((rs (f 0 / 144)) + 4) x122_6), oK t1 kf] H := hP
    have hD : va_D A [oL h h1 h2 h3 f, aI cI h1 3 se, aI cI h2 7 to, aI cI h3 60 (upd (upd (upd (upd (upd (w34_3_X1_enterRecord f re) ((rs (f 0 / 144)) + 0) x48_2) ((rs (f 0 / 144)) + 1) x63_3) ((rs (f 0 / 144)) + 2) x83_4) ((rs (f 0 / 144)) + 3) x103_5) ((rs (f 0 / 144)) + 4) x122_6), oK t1 kf] := hD
    refine lv_aload_n hx hb dX1_enterRecord_123 rfl (lv_at hl 0 rfl) ?_
    refine ag_getX1 (v := .ref h3) hx hb hG hown hK hP 0 10 rfl (by decide) k_77 rfl dX1_enterRecord_124 ?_
    refine lv_iload_n hx hb dX1_enterRecord_127 rfl (lv_at hl 2 rfl) ?_
    refine lv_iconst (v := 5) hx hb dX1_enterRecord_128 (by decide) ?_
    refine lv_iadd hx hb dX1_enterRecord_129 ?_
    refine lv_dup2_11 hx hb dX1_enterRecord_130 rfl rfl ?_
    refine ag_ild (k := (rs (f 0 / 144)) + 5) (v := (w34_3_X1_enterRecord f re) ((rs (f 0 / 144)) + 5)) hx hb hK hP 3 rfl ((congrArg (· + (5 : Int32)) (rs_eq (f 0 / 144))).trans (nI_add _ 5)) (by have := rs_le (f 0 / 144); omega) (Nat.le_of_ble_eq_true rfl) (Eq.trans (pk_un (by omega)) (Eq.trans (pk_un (by omega)) (Eq.trans (pk_un (by omega)) (Eq.trans (pk_un (by omega)) (Eq.trans (pk_un (by omega)) rfl))))) dX1_enterRecord_131 ?_
    refine lv_iconst (v := 0) hx hb dX1_enterRecord_132 (by decide) ?_
    refine lv_aload_n hx hb dX1_enterRecord_133 rfl (lv_at hl 1 rfl) ?_
    refine ag_getX4 (v := .int (kf 3)) hx hb hG hown hK hP 4 3 rfl (by decide) k_117 rfl dX1_enterRecord_134 ?_
    refine lv_ineg hx hb dX1_enterRecord_137 ?_
    refine va_mmax hx hb (hml.trans hl.1.symm) hown (hG _ k_296) (hG _ k_297) (hG _ k_36) (hG _ k_298) (Nat.le_of_ble_eq_true rfl) (Nat.le_of_ble_eq_true rfl) (Nat.zero_le _) (Nat.zero_le _) dX1_enterRecord_138 ?_
    refine W.eq (g2 := F0 m 141 ls [.int (ag_max 0 (-(kf 3))), .int ((w34_3_X1_enterRecord f re) ((rs (f 0 / 144)) + 5)), .int ((sr_X5_recordStart ((f 0) / 144)) + 5), .ref h3]) rfl ?_
    refine lv_iadd hx hb dX1_enterRecord_141 ?_
    refine ag_topn (v := xv142_7_X1_enterRecord f re kf) rfl (fun x142_7 ex142_7 => ?_)
    refine ag_ist (k := (rs (f 0 / 144)) + 5) hx hb hK hP hD hS 3 rfl ((congrArg (· + (5 : Int32)) (rs_eq (f 0 / 144))).trans (nI_add _ 5)) (by have := rs_le (f 0 / 144); omega) (Nat.le_of_ble_eq_true rfl) dX1_enterRecord_142 (fun H locs hP hD hS => ?_)
    have hP : va_P D vwCl [oL h h1 h2 h3 f, aI cI h1 3 se, aI cI h2 7 to, aI cI h3 60 (upd (upd (upd (upd (upd (upd (w34_3_X1_enterRecord f re) ((rs (f 0 / 144)) + 0) x48_2) ((rs (f 0 / 144)) + 1) x63_3) ((rs (f 0 / 144)) + 2) x83_4) ((rs (f 0 / 144)) + 3) x103_5) ((rs (f 0 / 144)) + 4) x122_6) ((rs (f 0 / 144)) + 5) x142_7), oK t1 kf] H := hP
    have hD : va_D A [oL h h1 h2 h3 f, aI cI h1 3 se, aI cI h2 7 to, aI cI h3 60 (upd (upd (upd (upd (upd (upd (w34_3_X1_enterRecord f re) ((rs (f 0 / 144)) + 0) x48_2) ((rs (f 0 / 144)) + 1) x63_3) ((rs (f 0 / 144)) + 2) x83_4) ((rs (f 0 / 144)) + 3) x103_5) ((rs (f 0 / 144)) + 4) x122_6) ((rs (f 0 / 144)) + 5) x142_7), oK t1 kf] := hD
    revert hP; revert hD; revert hS; revert hl
    subst ex142_7
    subst ex122_6
    subst ex103_5
    subst ex83_4
    subst ex63_3
    subst ex48_2
    intro hl hS hD hP
    exact ag_vret [h, h1, h2, h3, t1] hx hb hr hlocks hP hS rfl rfl (by show _ = _; rw [show sw3_X1_enterRecord f re kf = upd (upd (upd (upd (upd (upd (w34_3_X1_enterRecord f re) ((rs (f 0 / 144)) + 0) (xv48_2_X1_enterRecord f re kf)) ((rs (f 0 / 144)) + 1) (xv63_3_X1_enterRecord f re kf)) ((rs (f 0 / 144)) + 2) (xv83_4_X1_enterRecord f re)) ((rs (f 0 / 144)) + 3) (xv103_5_X1_enterRecord f re)) ((rs (f 0 / 144)) + 4) (xv122_6_X1_enterRecord f re kf)) ((rs (f 0 / 144)) + 5) (xv142_7_X1_enterRecord f re kf) from rfl]) dX1_enterRecord_143
  refine lv_if_ne (tgt := 34) hx hb dX1_enterRecord_25 (by decide) (fun c_25 => ?_) (fun c_25 => ?_)
  · simp only [w34_3_X1_enterRecord, if_neg c_25] at J34
    exact J34 H locs hP hD hS _ (lv_sub hl [2, 3, 1, 0] rfl)
  · refine lv_aload_n hx hb dX1_enterRecord_28 rfl (lv_at hl 2 rfl) ?_
    refine lv_iload_n hx hb dX1_enterRecord_29 rfl (lv_at hl 1 rfl) ?_
    refine lv_iload_n hx hb dX1_enterRecord_30 rfl (lv_at hl 0 rfl) ?_
    refine ag_callVv (As := [.int (sr_X5_recordStart ((f 0) / 144)), .int (sr_X1_level f)]) (rest := []) hx hb hml hown hG hK hN hA hP hD hS hl (ct_X1_beginRecord l D cI cC cL h h1 h2 h3 f se to re (sr_X5_recordStart ((f 0) / 144)) (sr_X1_level f) (rs (f 0 / 144)) (⟨rs_eq (f 0 / 144), rs_le (f 0 / 144)⟩)) fX1_beginRecord k_358 (ag_cut_1 [] [oK t1 kf] rfl) (q0 := 0) rfl rfl rfl rfl (Nat.le_of_ble_eq_true rfl) ⟨Nat.le_of_ble_eq_true rfl, Nat.le_of_ble_eq_true rfl⟩ ⟨Nat.zero_le _, Nat.zero_le _⟩ dX1_enterRecord_31 (fun w1 H locs hw hP hD hS => ?_)
    have hw : _ = w1 := hw
    generalize eg31_1 : sw3_X1_beginRecord re (sr_X1_level f) (rs (f 0 / 144)) = g31_1 at hw
    replace eg31_1 : gv31_1_X1_enterRecord f re = g31_1 := (by rw [← eg31_1]; rfl)
    subst hw
    have hP : va_P D vwCl [oL h h1 h2 h3 f, aI cI h1 3 se, aI cI h2 7 to, aI cI h3 60 g31_1, oK t1 kf] H := hP
    have hD : va_D A [oL h h1 h2 h3 f, aI cI h1 3 se, aI cI h2 7 to, aI cI h3 60 g31_1, oK t1 kf] := hD
    revert hP; revert hD; revert hS; revert hl
    subst eg31_1
    intro hl hS hD hP
    simp only [w34_3_X1_enterRecord, if_pos c_25] at J34
    exact J34 H locs hP hD hS _ (lv_sub hl [2, 3, 1, 0] rfl)
def sr_X4_siltOf (kf : Nat → Int32) (f : Nat → Int32) (se : Nat → Int32) : Int32 := if (kf 3) ≤ 0 then if (-(se 2)) < (kf 3) then 0 else -(ag_min ((-(kf 3)) / 20) (f 2)) else ag_min ((kf 3) / 50) (20000 - (f 2))
abbrev po_X4_siltOf (cI cC cL : ClassId) (t1 h h1 h2 h3 : Nat) (kf f se to re : Nat → Int32) : Int32 → va_W → Prop := fun r w' => sr_X4_siltOf kf f se = r ∧ [oK t1 kf, oL h h1 h2 h3 f, aI cI h1 3 se, aI cI h2 7 to, aI cI h3 60 re] = w'
set_option maxHeartbeats 4000000 in
set_option maxRecDepth 100000 in
theorem ct_X4_siltOf (l : Launch) (D : va_G) (cI cC cL : ClassId) (t1 h h1 h2 h3 : Nat) (kf f se to re : Nat → Int32) : ag_MI l yX4_siltOf cX4_siltOf 2 .int 1 13 D cI cC cL [.ref t1, .ref h] [oK t1 kf, oL h h1 h2 h3 f, aI cI h1 3 se, aI cI h2 7 to, aI cI h3 60 re] (po_X4_siltOf cI cC cL t1 h h1 h2 h3 kf f se to re) := by
  refine ag_MI.of (plainFor_of_name (by decide)) (Nat.le_of_ble_eq_true rfl) ?_
  intro p e s m below meth c hx hb hr hlocks hml hown hmn hG hK A hN hA H locs hP hD hS ls hl
  have hl : lv_has ls 2 [(0, .ref t1), (1, .ref h)] := hl
  refine lv_aload_n hx hb dX4_siltOf_0 rfl (lv_at hl 0 rfl) ?_
  refine ag_getX4 (v := .int (kf 3)) hx hb hG hown hK hP 0 3 rfl (by decide) k_115 rfl dX4_siltOf_1 ?_
  refine lv_if_le (tgt := 26) hx hb dX4_siltOf_4 (by decide) (fun c_4 => ?_) (fun c_4 => ?_)
  · refine lv_aload_n hx hb dX4_siltOf_26 rfl (lv_at hl 0 rfl) ?_
    refine ag_getX4 (v := .int (kf 3)) hx hb hG hown hK hP 0 3 rfl (by decide) k_115 rfl dX4_siltOf_27 ?_
    refine lv_aload_n hx hb dX4_siltOf_30 rfl (lv_at hl 1 rfl) ?_
    refine ag_getX1 (v := .ref h1) hx hb hG hown hK hP 1 8 rfl (by decide) k_73 rfl dX4_siltOf_31 ?_
    refine lv_iconst (v := 2) hx hb dX4_siltOf_34 (by decide) ?_
    refine ag_ild (k := 2) (v := se 2) hx hb hK hP 2 rfl rfl (Nat.le_of_ble_eq_true rfl) (Nat.le_of_ble_eq_true rfl) rfl dX4_siltOf_35 ?_
    refine lv_ineg hx hb dX4_siltOf_36 ?_
    refine lv_icmp_gt (tgt := 57) hx hb dX4_siltOf_37 (by decide) (fun c_37 => ?_) (fun c_37 => ?_)
    · refine lv_iconst (v := 0) hx hb dX4_siltOf_57 (by decide) ?_
      exact ag_iret [t1, h, h1, h2, h3] hx hb hr rfl hlocks hP hS rfl rfl ⟨(by unfold sr_X4_siltOf; rw [if_pos c_4, if_pos c_37]), rfl⟩ dX4_siltOf_58
    · refine lv_aload_n hx hb dX4_siltOf_40 rfl (lv_at hl 0 rfl) ?_
      refine ag_getX4 (v := .int (kf 3)) hx hb hG hown hK hP 0 3 rfl (by decide) k_115 rfl dX4_siltOf_41 ?_
      refine lv_ineg hx hb dX4_siltOf_44 ?_
      refine lv_bipush (v := 20) hx hb dX4_siltOf_45 (by decide) ?_
      refine lv_idiv hx hb dX4_siltOf_47 (by decide) ?_
      refine lv_aload_n hx hb dX4_siltOf_48 rfl (lv_at hl 1 rfl) ?_
      refine ag_getX1 (v := .int (f 2)) hx hb hG hown hK hP 1 2 rfl (by decide) k_59 rfl dX4_siltOf_49 ?_
      refine va_mmin hx hb (hml.trans hl.1.symm) hown (hG _ k_338) (hG _ k_339) (hG _ k_36) (hG _ k_340) (Nat.le_of_ble_eq_true rfl) (Nat.le_of_ble_eq_true rfl) (Nat.zero_le _) (Nat.zero_le _) dX4_siltOf_52 ?_
      refine W.eq (g2 := F0 m 55 ls [.int (ag_min ((-(kf 3)) / 20) (f 2))]) rfl ?_
      refine lv_ineg hx hb dX4_siltOf_55 ?_
      exact ag_iret [t1, h, h1, h2, h3] hx hb hr rfl hlocks hP hS rfl rfl ⟨(by unfold sr_X4_siltOf; rw [if_pos c_4, if_neg c_37]), rfl⟩ dX4_siltOf_56
  · refine lv_aload_n hx hb dX4_siltOf_7 rfl (lv_at hl 0 rfl) ?_
    refine ag_getX4 (v := .int (kf 3)) hx hb hG hown hK hP 0 3 rfl (by decide) k_115 rfl dX4_siltOf_8 ?_
    refine lv_bipush (v := 50) hx hb dX4_siltOf_11 (by decide) ?_
    refine lv_idiv hx hb dX4_siltOf_13 (by decide) ?_
    refine lv_sipush (v := 20000) hx hb dX4_siltOf_14 (by decide) ?_
    refine lv_aload_n hx hb dX4_siltOf_17 rfl (lv_at hl 1 rfl) ?_
    refine ag_getX1 (v := .int (f 2)) hx hb hG hown hK hP 1 2 rfl (by decide) k_59 rfl dX4_siltOf_18 ?_
    refine lv_isub hx hb dX4_siltOf_21 ?_
    refine va_mmin hx hb (hml.trans hl.1.symm) hown (hG _ k_338) (hG _ k_339) (hG _ k_36) (hG _ k_340) (Nat.le_of_ble_eq_true rfl) (Nat.le_of_ble_eq_true rfl) (Nat.zero_le _) (Nat.zero_le _) dX4_siltOf_22 ?_
    refine W.eq (g2 := F0 m 25 ls [.int (ag_min ((kf 3) / 50) (20000 - (f 2)))]) rfl ?_
    exact ag_iret [t1, h, h1, h2, h3] hx hb hr rfl hlocks hP hS rfl rfl ⟨(by unfold sr_X4_siltOf; rw [if_neg c_4]), rfl⟩ dX4_siltOf_25
def j29_0_X4_foresee (f : Nat → Int32) (p1 : Int32) : Int32 := if (sr_X1_isBirdHour f) = 0 then ((f 3) * p1) * 2 else 0
def xv29_1_X4_foresee (f : Nat → Int32) (p1 : Int32) : Int32 := j29_0_X4_foresee f p1
def j53_0_X4_foresee (f : Nat → Int32) (se : Nat → Int32) (p1 : Int32) : Int32 := if (ag_abs p1) < (se 0) then 0 else (f 4) * p1
def xv53_2_X4_foresee (f : Nat → Int32) (se : Nat → Int32) (p1 : Int32) : Int32 := j53_0_X4_foresee f se p1
def j80_0_X4_foresee (f : Nat → Int32) (se : Nat → Int32) (p1 : Int32) : Int32 := if (sr_X1_isBirdHour f) = 0 then if (se 1) < (ag_abs p1) then 0 else f 5 else 0
def xv80_3_X4_foresee (f : Nat → Int32) (se : Nat → Int32) (p1 : Int32) : Int32 := j80_0_X4_foresee f se p1
def xv96_4_X4_foresee (f : Nat → Int32) (se : Nat → Int32) (p1 : Int32) : Int32 := ((ag_abs (xv53_2_X4_foresee f se p1)) * (ag_abs p1)) / 100
def xv115_5_X4_foresee (f : Nat → Int32) (se : Nat → Int32) (p1 : Int32) : Int32 := ((ag_abs (xv80_3_X4_foresee f se p1)) * (20 + (ag_abs p1))) / 100
def xv155_6_X4_foresee (f : Nat → Int32) (se : Nat → Int32) (p1 : Int32) : Int32 := ag_max (-(f 1)) (ag_min (80000 - (f 1)) (((xv29_1_X4_foresee f p1) + (xv53_2_X4_foresee f se p1)) + (xv80_3_X4_foresee f se p1)))
def xv164_7_X4_foresee (kf : Nat → Int32) (f : Nat → Int32) (se : Nat → Int32) (p1 : Int32) : Int32 := sr_X4_siltOf (upd (upd (upd (upd (upd (upd kf 0 (xv29_1_X4_foresee f p1)) 1 (xv53_2_X4_foresee f se p1)) 2 (xv80_3_X4_foresee f se p1)) 4 (xv96_4_X4_foresee f se p1)) 5 (xv115_5_X4_foresee f se p1)) 3 (xv155_6_X4_foresee f se p1)) f se
def sw0_X4_foresee (kf : Nat → Int32) (f : Nat → Int32) (se : Nat → Int32) (p1 : Int32) : Nat → Int32 := upd (upd (upd (upd (upd (upd (upd kf 0 (xv29_1_X4_foresee f p1)) 1 (xv53_2_X4_foresee f se p1)) 2 (xv80_3_X4_foresee f se p1)) 4 (xv96_4_X4_foresee f se p1)) 5 (xv115_5_X4_foresee f se p1)) 3 (xv155_6_X4_foresee f se p1)) 6 (xv164_7_X4_foresee kf f se p1)
abbrev po_X4_foresee (cI cC cL : ClassId) (t1 h h1 h2 h3 : Nat) (kf f se to re : Nat → Int32) (p1 : Int32) : va_W → Prop := fun w' => [oK t1 (sw0_X4_foresee kf f se p1), oL h h1 h2 h3 f, aI cI h1 3 se, aI cI h2 7 to, aI cI h3 60 re] = w'
set_option maxHeartbeats 4000000 in
set_option maxRecDepth 100000 in
theorem ct_X4_foresee (l : Launch) (D : va_G) (cI cC cL : ClassId) (t1 h h1 h2 h3 : Nat) (kf f se to re : Nat → Int32) (p1 : Int32) : ag_MV l yX4_foresee cX4_foresee 6 2 34 D cI cC cL [.ref t1, .ref h, .int p1] [oK t1 kf, oL h h1 h2 h3 f, aI cI h1 3 se, aI cI h2 7 to, aI cI h3 60 re] (po_X4_foresee cI cC cL t1 h h1 h2 h3 kf f se to re p1) := by
  refine ag_MV.of (plainFor_of_name (by decide)) (Nat.le_of_ble_eq_true rfl) ?_
  intro p e s m below meth c hx hb hr hlocks hml hown hmn hG hK A hN hA H locs hP hD hS ls hl
  have hl : lv_has ls 6 [(0, .ref t1), (1, .ref h), (2, .int p1)] := hl
  refine lv_iload_n hx hb dX4_foresee_0 rfl (lv_at hl 2 rfl) ?_
  refine va_mabs hx hb (hml.trans hl.1.symm) hown (hG _ k_330) (hG _ k_331) (hG _ k_36) (hG _ k_332) (Nat.le_of_ble_eq_true rfl) (Nat.le_of_ble_eq_true rfl) (Nat.zero_le _) (Nat.zero_le _) dX4_foresee_1 ?_
  refine W.eq (g2 := F0 m 4 ls [.int (ag_abs p1)]) rfl ?_
  refine lv_istore_n (lv' := [(3, .int (ag_abs p1)), (0, .ref t1), (1, .ref h), (2, .int p1)]) hx hb dX4_foresee_4 rfl hl (by decide) rfl (fun ls hl => ?_)
  refine lv_aload_n hx hb dX4_foresee_5 rfl (lv_at hl 2 rfl) ?_
  refine ag_callVi (As := []) (rest := []) hx hb hml hown hG hK hN hA hP hD hS hl (ct_X1_isBirdHour l D cI cC cL h h1 h2 h3 f se to re) fX1_isBirdHour k_333 (ag_cut_1 [oK t1 kf] [] rfl) (q0 := 1) rfl rfl rfl rfl (Nat.le_of_ble_eq_true rfl) ⟨Nat.le_of_ble_eq_true rfl, Nat.le_of_ble_eq_true rfl⟩ ⟨Nat.zero_le _, Nat.zero_le _⟩ dX4_foresee_6 (fun r w1 H locs hw hP hD hS => ?_)
  obtain ⟨rfl, hw⟩ := hw
  subst hw
  have hP : va_P D vwCl [oK t1 kf, oL h h1 h2 h3 f, aI cI h1 3 se, aI cI h2 7 to, aI cI h3 60 re] H := hP
  have hD : va_D A [oK t1 kf, oL h h1 h2 h3 f, aI cI h1 3 se, aI cI h2 7 to, aI cI h3 60 re] := hD
  refine lv_istore (lv' := [(4, .int (sr_X1_isBirdHour f)), (3, .int (ag_abs p1)), (0, .ref t1), (1, .ref h), (2, .int p1)]) hx hb dX4_foresee_9 hl (by decide) rfl (fun ls hl => ?_)
  refine lv_aload_n hx hb dX4_foresee_11 rfl (lv_at hl 2 rfl) ?_
  refine lv_iload hx hb dX4_foresee_12 (lv_at hl 0 rfl) ?_
  have J29 : ∀ (ls : Array Slot), lv_has ls 6 [(0, .ref t1), (1, .ref h), (2, .int p1), (3, .int (ag_abs p1)), (4, .int (sr_X1_isBirdHour f))] → W p l e (ag_rm 2 34) s m ([.ref t1, .ref h, .int p1] : List Value).toArray below meth c H locs 0 0 (MQ below (va_Qv (po_X4_foresee cI cC cL t1 h h1 h2 h3 kf f se to re p1) (ag_Out D [oK t1 kf, oL h h1 h2 h3 f, aI cI h1 3 se, aI cI h2 7 to, aI cI h3 60 re]) A) ([.ref t1, .ref h, .int p1] : List Value).toArray s 0 0 A) (F0 m 29 ls [.int (j29_0_X4_foresee f p1), .ref t1]) := by
    intro ls hl
    refine ag_topn (v := xv29_1_X4_foresee f p1) rfl (fun x29_1 ex29_1 => ?_)
    refine ag_putX4 hx hb hG hown hK hP hD hS 0 0 rfl (by decide) k_109 (by decide) rfl rfl (Nat.le_of_ble_eq_true rfl) dX4_foresee_29 (fun H locs hP hD hS => ?_)
    have hP : va_P D vwCl [oK t1 (upd kf 0 x29_1), oL h h1 h2 h3 f, aI cI h1 3 se, aI cI h2 7 to, aI cI h3 60 re] H := hP
    have hD : va_D A [oK t1 (upd kf 0 x29_1), oL h h1 h2 h3 f, aI cI h1 3 se, aI cI h2 7 to, aI cI h3 60 re] := hD
    refine lv_aload_n hx hb dX4_foresee_32 rfl (lv_at hl 0 rfl) ?_
    refine lv_iload_n hx hb dX4_foresee_33 rfl (lv_at hl 3 rfl) ?_
    refine lv_aload_n hx hb dX4_foresee_34 rfl (lv_at hl 1 rfl) ?_
    refine ag_getX1 (v := .ref h1) hx hb hG hown hK hP 1 8 rfl (by decide) k_73 rfl dX4_foresee_35 ?_
    refine lv_iconst (v := 0) hx hb dX4_foresee_38 (by decide) ?_
    refine ag_ild (k := 0) (v := se 0) hx hb hK hP 2 rfl rfl (Nat.le_of_ble_eq_true rfl) (Nat.le_of_ble_eq_true rfl) rfl dX4_foresee_39 ?_
    have J53 : ∀ (ls : Array Slot), lv_has ls 6 [(0, .ref t1), (1, .ref h), (2, .int p1), (3, .int (ag_abs p1)), (4, .int (sr_X1_isBirdHour f))] → W p l e (ag_rm 2 34) s m ([.ref t1, .ref h, .int p1] : List Value).toArray below meth c H locs 0 0 (MQ below (va_Qv (po_X4_foresee cI cC cL t1 h h1 h2 h3 kf f se to re p1) (ag_Out D [oK t1 kf, oL h h1 h2 h3 f, aI cI h1 3 se, aI cI h2 7 to, aI cI h3 60 re]) A) ([.ref t1, .ref h, .int p1] : List Value).toArray s 0 0 A) (F0 m 53 ls [.int (j53_0_X4_foresee f se p1), .ref t1]) := by
      intro ls hl
      refine ag_topn (v := xv53_2_X4_foresee f se p1) rfl (fun x53_2 ex53_2 => ?_)
      refine ag_putX4 hx hb hG hown hK hP hD hS 0 1 rfl (by decide) k_111 (by decide) rfl rfl (Nat.le_of_ble_eq_true rfl) dX4_foresee_53 (fun H locs hP hD hS => ?_)
      have hP : va_P D vwCl [oK t1 (upd (upd kf 0 x29_1) 1 x53_2), oL h h1 h2 h3 f, aI cI h1 3 se, aI cI h2 7 to, aI cI h3 60 re] H := hP
      have hD : va_D A [oK t1 (upd (upd kf 0 x29_1) 1 x53_2), oL h h1 h2 h3 f, aI cI h1 3 se, aI cI h2 7 to, aI cI h3 60 re] := hD
      refine lv_aload_n hx hb dX4_foresee_56 rfl (lv_at hl 0 rfl) ?_
      refine lv_iload hx hb dX4_foresee_57 (lv_at hl 4 rfl) ?_
      have J80 : ∀ (ls : Array Slot), lv_has ls 6 [(0, .ref t1), (1, .ref h), (2, .int p1), (3, .int (ag_abs p1)), (4, .int (sr_X1_isBirdHour f))] → W p l e (ag_rm 2 34) s m ([.ref t1, .ref h, .int p1] : List Value).toArray below meth c H locs 0 0 (MQ below (va_Qv (po_X4_foresee cI cC cL t1 h h1 h2 h3 kf f se to re p1) (ag_Out D [oK t1 kf, oL h h1 h2 h3 f, aI cI h1 3 se, aI cI h2 7 to, aI cI h3 60 re]) A) ([.ref t1, .ref h, .int p1] : List Value).toArray s 0 0 A) (F0 m 80 ls [.int (j80_0_X4_foresee f se p1), .ref t1]) := by
        intro ls hl
        refine ag_topn (v := xv80_3_X4_foresee f se p1) rfl (fun x80_3 ex80_3 => ?_)
        refine ag_putX4 hx hb hG hown hK hP hD hS 0 2 rfl (by decide) k_113 (by decide) rfl rfl (Nat.le_of_ble_eq_true rfl) dX4_foresee_80 (fun H locs hP hD hS => ?_)
        have hP : va_P D vwCl [oK t1 (upd (upd (upd kf 0 x29_1) 1 x53_2) 2 x80_3), oL h h1 h2 h3 f, aI cI h1 3 se, aI cI h2 7 to, aI cI h3 60 re] H := hP
        have hD : va_D A [oK t1 (upd (upd (upd kf 0 x29_1) 1 x53_2) 2 x80_3), oL h h1 h2 h3 f, aI cI h1 3 se, aI cI h2 7 to, aI cI h3 60 re] := hD
        refine lv_aload_n hx hb dX4_foresee_83 rfl (lv_at hl 0 rfl) ?_
        refine lv_aload_n hx hb dX4_foresee_84 rfl (lv_at hl 0 rfl) ?_
        refine ag_getX4 (v := .int x53_2) hx hb hG hown hK hP 0 1 rfl (by decide) k_111 rfl dX4_foresee_85 ?_
        refine va_mabs hx hb (hml.trans hl.1.symm) hown (hG _ k_330) (hG _ k_331) (hG _ k_36) (hG _ k_332) (Nat.le_of_ble_eq_true rfl) (Nat.le_of_ble_eq_true rfl) (Nat.zero_le _) (Nat.zero_le _) dX4_foresee_88 ?_
        refine W.eq (g2 := F0 m 91 ls [.int (ag_abs x53_2), .ref t1]) rfl ?_
        refine lv_iload_n hx hb dX4_foresee_91 rfl (lv_at hl 3 rfl) ?_
        refine lv_imul hx hb dX4_foresee_92 ?_
        refine lv_bipush (v := 100) hx hb dX4_foresee_93 (by decide) ?_
        refine lv_idiv hx hb dX4_foresee_95 (by decide) ?_
        refine ag_topn (v := xv96_4_X4_foresee f se p1) (by rw [← ex53_2]; rfl) (fun x96_4 ex96_4 => ?_)
        refine ag_putX4 hx hb hG hown hK hP hD hS 0 4 rfl (by decide) k_118 (by decide) rfl rfl (Nat.le_of_ble_eq_true rfl) dX4_foresee_96 (fun H locs hP hD hS => ?_)
        have hP : va_P D vwCl [oK t1 (upd (upd (upd (upd kf 0 x29_1) 1 x53_2) 2 x80_3) 4 x96_4), oL h h1 h2 h3 f, aI cI h1 3 se, aI cI h2 7 to, aI cI h3 60 re] H := hP
        have hD : va_D A [oK t1 (upd (upd (upd (upd kf 0 x29_1) 1 x53_2) 2 x80_3) 4 x96_4), oL h h1 h2 h3 f, aI cI h1 3 se, aI cI h2 7 to, aI cI h3 60 re] := hD
        refine lv_aload_n hx hb dX4_foresee_99 rfl (lv_at hl 0 rfl) ?_
        refine lv_aload_n hx hb dX4_foresee_100 rfl (lv_at hl 0 rfl) ?_
        refine ag_getX4 (v := .int x80_3) hx hb hG hown hK hP 0 2 rfl (by decide) k_113 rfl dX4_foresee_101 ?_
        refine va_mabs hx hb (hml.trans hl.1.symm) hown (hG _ k_330) (hG _ k_331) (hG _ k_36) (hG _ k_332) (Nat.le_of_ble_eq_true rfl) (Nat.le_of_ble_eq_true rfl) (Nat.zero_le _) (Nat.zero_le _) dX4_foresee_104 ?_
        refine W.eq (g2 := F0 m 107 ls [.int (ag_abs x80_3), .ref t1]) rfl ?_
        refine lv_bipush (v := 20) hx hb dX4_foresee_107 (by decide) ?_
        refine lv_iload_n hx hb dX4_foresee_109 rfl (lv_at hl 3 rfl) ?_
        refine lv_iadd hx hb dX4_foresee_110 ?_
        refine lv_imul hx hb dX4_foresee_111 ?_
        refine lv_bipush (v := 100) hx hb dX4_foresee_112 (by decide) ?_
        refine lv_idiv hx hb dX4_foresee_114 (by decide) ?_
        refine ag_topn (v := xv115_5_X4_foresee f se p1) (by rw [← ex80_3]; rfl) (fun x115_5 ex115_5 => ?_)
        refine ag_putX4 hx hb hG hown hK hP hD hS 0 5 rfl (by decide) k_121 (by decide) rfl rfl (Nat.le_of_ble_eq_true rfl) dX4_foresee_115 (fun H locs hP hD hS => ?_)
        have hP : va_P D vwCl [oK t1 (upd (upd (upd (upd (upd kf 0 x29_1) 1 x53_2) 2 x80_3) 4 x96_4) 5 x115_5), oL h h1 h2 h3 f, aI cI h1 3 se, aI cI h2 7 to, aI cI h3 60 re] H := hP
        have hD : va_D A [oK t1 (upd (upd (upd (upd (upd kf 0 x29_1) 1 x53_2) 2 x80_3) 4 x96_4) 5 x115_5), oL h h1 h2 h3 f, aI cI h1 3 se, aI cI h2 7 to, aI cI h3 60 re] := hD
        refine lv_aload_n hx hb dX4_foresee_118 rfl (lv_at hl 0 rfl) ?_
        refine ag_getX4 (v := .int x29_1) hx hb hG hown hK hP 0 0 rfl (by decide) k_109 rfl dX4_foresee_119 ?_
        refine lv_aload_n hx hb dX4_foresee_122 rfl (lv_at hl 0 rfl) ?_
        refine ag_getX4 (v := .int x53_2) hx hb hG hown hK hP 0 1 rfl (by decide) k_111 rfl dX4_foresee_123 ?_
        refine lv_iadd hx hb dX4_foresee_126 ?_
        refine lv_aload_n hx hb dX4_foresee_127 rfl (lv_at hl 0 rfl) ?_
        refine ag_getX4 (v := .int x80_3) hx hb hG hown hK hP 0 2 rfl (by decide) k_113 rfl dX4_foresee_128 ?_
        refine lv_iadd hx hb dX4_foresee_131 ?_
        refine lv_istore (lv' := [(5, .int ((x29_1 + x53_2) + x80_3)), (0, .ref t1), (1, .ref h), (2, .int p1), (3, .int (ag_abs p1)), (4, .int (sr_X1_isBirdHour f))]) hx hb dX4_foresee_132 hl (by decide) rfl (fun ls hl => ?_)
        refine lv_aload_n hx hb dX4_foresee_134 rfl (lv_at hl 1 rfl) ?_
        refine lv_aload_n hx hb dX4_foresee_135 rfl (lv_at hl 2 rfl) ?_
        refine ag_getX1 (v := .int (f 1)) hx hb hG hown hK hP 1 1 rfl (by decide) k_56 rfl dX4_foresee_136 ?_
        refine lv_ineg hx hb dX4_foresee_139 ?_
        refine lv_ldc (v := 80000) hx hb hown (hG _ k_337) dX4_foresee_140 ?_
        refine lv_aload_n hx hb dX4_foresee_142 rfl (lv_at hl 2 rfl) ?_
        refine ag_getX1 (v := .int (f 1)) hx hb hG hown hK hP 1 1 rfl (by decide) k_56 rfl dX4_foresee_143 ?_
        refine lv_isub hx hb dX4_foresee_146 ?_
        refine lv_iload hx hb dX4_foresee_147 (lv_at hl 0 rfl) ?_
        refine va_mmin hx hb (hml.trans hl.1.symm) hown (hG _ k_338) (hG _ k_339) (hG _ k_36) (hG _ k_340) (Nat.le_of_ble_eq_true rfl) (Nat.le_of_ble_eq_true rfl) (Nat.zero_le _) (Nat.zero_le _) dX4_foresee_149 ?_
        refine W.eq (g2 := F0 m 152 ls [.int (ag_min (80000 - (f 1)) ((x29_1 + x53_2) + x80_3)), .int (-(f 1)), .ref t1]) rfl ?_
        refine va_mmax hx hb (hml.trans hl.1.symm) hown (hG _ k_341) (hG _ k_297) (hG _ k_36) (hG _ k_298) (Nat.le_of_ble_eq_true rfl) (Nat.le_of_ble_eq_true rfl) (Nat.zero_le _) (Nat.zero_le _) dX4_foresee_152 ?_
        refine W.eq (g2 := F0 m 155 ls [.int (ag_max (-(f 1)) (ag_min (80000 - (f 1)) ((x29_1 + x53_2) + x80_3))), .ref t1]) rfl ?_
        refine ag_topn (v := xv155_6_X4_foresee f se p1) (by rw [← ex29_1, ← ex53_2, ← ex80_3]; rfl) (fun x155_6 ex155_6 => ?_)
        refine ag_putX4 hx hb hG hown hK hP hD hS 0 3 rfl (by decide) k_115 (by decide) rfl rfl (Nat.le_of_ble_eq_true rfl) dX4_foresee_155 (fun H locs hP hD hS => ?_)
        have hP : va_P D vwCl [oK t1 (upd (upd (upd (upd (upd (upd kf 0 x29_1) 1 x53_2) 2 x80_3) 4 x96_4) 5 x115_5) 3 x155_6), oL h h1 h2 h3 f, aI cI h1 3 se, aI cI h2 7 to, aI cI h3 60 re] H := hP
        have hD : va_D A [oK t1 (upd (upd (upd (upd (upd (upd kf 0 x29_1) 1 x53_2) 2 x80_3) 4 x96_4) 5 x115_5) 3 x155_6), oL h h1 h2 h3 f, aI cI h1 3 se, aI cI h2 7 to, aI cI h3 60 re] := hD
        refine lv_aload_n hx hb dX4_foresee_158 rfl (lv_at hl 1 rfl) ?_
        refine lv_aload_n hx hb dX4_foresee_159 rfl (lv_at hl 1 rfl) ?_
        refine lv_aload_n hx hb dX4_foresee_160 rfl (lv_at hl 2 rfl) ?_
        refine ag_callVi (As := [.ref h]) (rest := [.ref t1]) hx hb hml hown hG hK hN hA hP hD hS hl (ct_X4_siltOf l D cI cC cL t1 h h1 h2 h3 (upd (upd (upd (upd (upd (upd kf 0 x29_1) 1 x53_2) 2 x80_3) 4 x96_4) 5 x115_5) 3 x155_6) f se to re) fX4_siltOf k_342 ag_cut_all (q0 := 0) rfl rfl rfl rfl (Nat.le_of_ble_eq_true rfl) ⟨Nat.le_of_ble_eq_true rfl, Nat.le_of_ble_eq_true rfl⟩ ⟨Nat.zero_le _, Nat.zero_le _⟩ dX4_foresee_161 (fun r w1 H locs hw hP hD hS => ?_)
        obtain ⟨rfl, hw⟩ := hw
        subst hw
        have hP : va_P D vwCl [oK t1 (upd (upd (upd (upd (upd (upd kf 0 x29_1) 1 x53_2) 2 x80_3) 4 x96_4) 5 x115_5) 3 x155_6), oL h h1 h2 h3 f, aI cI h1 3 se, aI cI h2 7 to, aI cI h3 60 re] H := hP
        have hD : va_D A [oK t1 (upd (upd (upd (upd (upd (upd kf 0 x29_1) 1 x53_2) 2 x80_3) 4 x96_4) 5 x115_5) 3 x155_6), oL h h1 h2 h3 f, aI cI h1 3 se, aI cI h2 7 to, aI cI h3 60 re] := hD
        refine ag_topn (v := xv164_7_X4_foresee kf f se p1) (by rw [← ex29_1, ← ex53_2, ← ex80_3, ← ex96_4, ← ex115_5, ← ex155_6]; rfl) (fun x164_7 ex164_7 => ?_)
        refine ag_putX4 hx hb hG hown hK hP hD hS 0 6 rfl (by decide) k_124 (by decide) rfl rfl (Nat.le_of_ble_eq_true rfl) dX4_foresee_164 (fun H locs hP hD hS => ?_)
        have hP : va_P D vwCl [oK t1 (upd (upd (upd (upd (upd (upd (upd kf 0 x29_1) 1 x53_2) 2 x80_3) 4 x96_4) 5 x115_5) 3 x155_6) 6 x164_7), oL h h1 h2 h3 f, aI cI h1 3 se, aI cI h2 7 to, aI cI h3 60 re] H := hP
        have hD : va_D A [oK t1 (upd (upd (upd (upd (upd (upd (upd kf 0 x29_1) 1 x53_2) 2 x80_3) 4 x96_4) 5 x115_5) 3 x155_6) 6 x164_7), oL h h1 h2 h3 f, aI cI h1 3 se, aI cI h2 7 to, aI cI h3 60 re] := hD
        revert hP; revert hD; revert hS; revert hl
        subst ex164_7
        subst ex155_6
        subst ex115_5
        subst ex96_4
        subst ex80_3
        subst ex53_2
        subst ex29_1
        intro hl hS hD hP
        exact ag_vret [t1, h, h1, h2, h3] hx hb hr hlocks hP hS rfl rfl (by show _ = _; rw [show sw0_X4_foresee kf f se p1 = upd (upd (upd (upd (upd (upd (upd kf 0 (xv29_1_X4_foresee f p1)) 1 (xv53_2_X4_foresee f se p1)) 2 (xv80_3_X4_foresee f se p1)) 4 (xv96_4_X4_foresee f se p1)) 5 (xv115_5_X4_foresee f se p1)) 3 (xv155_6_X4_foresee f se p1)) 6 (xv164_7_X4_foresee kf f se p1) from rfl]) dX4_foresee_167
      refine lv_if_ne (tgt := 79) hx hb dX4_foresee_59 (by decide) (fun c_59 => ?_) (fun c_59 => ?_)
      · refine lv_iconst (v := 0) hx hb dX4_foresee_79 (by decide) ?_
        revert hP; revert hD; revert hS; revert hl
        subst ex53_2
        subst ex29_1
        intro hl hS hD hP
        simp only [j80_0_X4_foresee, if_neg c_59] at J80
        exact J80 _ (lv_sub hl [0, 1, 2, 3, 4] rfl)
      · refine lv_iload_n hx hb dX4_foresee_62 rfl (lv_at hl 3 rfl) ?_
        refine lv_aload_n hx hb dX4_foresee_63 rfl (lv_at hl 1 rfl) ?_
        refine ag_getX1 (v := .ref h1) hx hb hG hown hK hP 1 8 rfl (by decide) k_73 rfl dX4_foresee_64 ?_
        refine lv_iconst (v := 1) hx hb dX4_foresee_67 (by decide) ?_
        refine ag_ild (k := 1) (v := se 1) hx hb hK hP 2 rfl rfl (Nat.le_of_ble_eq_true rfl) (Nat.le_of_ble_eq_true rfl) rfl dX4_foresee_68 ?_
        refine lv_icmp_gt (tgt := 79) hx hb dX4_foresee_69 (by decide) (fun c_69 => ?_) (fun c_69 => ?_)
        · refine lv_iconst (v := 0) hx hb dX4_foresee_79 (by decide) ?_
          revert hP; revert hD; revert hS; revert hl
          subst ex53_2
          subst ex29_1
          intro hl hS hD hP
          simp only [j80_0_X4_foresee, if_pos c_59, if_pos c_69] at J80
          exact J80 _ (lv_sub hl [0, 1, 2, 3, 4] rfl)
        · refine lv_aload_n hx hb dX4_foresee_72 rfl (lv_at hl 1 rfl) ?_
          refine ag_getX1 (v := .int (f 5)) hx hb hG hown hK hP 1 5 rfl (by decide) k_68 rfl dX4_foresee_73 ?_
          refine lv_goto (tgt := 80) hx hb dX4_foresee_76 (by decide) ?_
          revert hP; revert hD; revert hS; revert hl
          subst ex53_2
          subst ex29_1
          intro hl hS hD hP
          simp only [j80_0_X4_foresee, if_pos c_59, if_neg c_69] at J80
          exact J80 _ (lv_sub hl [0, 1, 2, 3, 4] rfl)
    refine lv_icmp_lt (tgt := 52) hx hb dX4_foresee_40 (by decide) (fun c_40 => ?_) (fun c_40 => ?_)
    · refine lv_iconst (v := 0) hx hb dX4_foresee_52 (by decide) ?_
      revert hP; revert hD; revert hS; revert hl
      subst ex29_1
      intro hl hS hD hP
      simp only [j53_0_X4_foresee, if_pos c_40] at J53
      exact J53 _ (lv_sub hl [0, 1, 2, 3, 4] rfl)
    · refine lv_aload_n hx hb dX4_foresee_43 rfl (lv_at hl 1 rfl) ?_
      refine ag_getX1 (v := .int (f 4)) hx hb hG hown hK hP 1 4 rfl (by decide) k_65 rfl dX4_foresee_44 ?_
      refine lv_iload_n hx hb dX4_foresee_47 rfl (lv_at hl 2 rfl) ?_
      refine lv_imul hx hb dX4_foresee_48 ?_
      refine lv_goto (tgt := 53) hx hb dX4_foresee_49 (by decide) ?_
      revert hP; revert hD; revert hS; revert hl
      subst ex29_1
      intro hl hS hD hP
      simp only [j53_0_X4_foresee, if_neg c_40] at J53
      exact J53 _ (lv_sub hl [0, 1, 2, 3, 4] rfl)
  refine lv_if_eq (tgt := 21) hx hb dX4_foresee_14 (by decide) (fun c_14 => ?_) (fun c_14 => ?_)
  · refine lv_aload_n hx hb dX4_foresee_21 rfl (lv_at hl 3 rfl) ?_
    refine ag_getX1 (v := .int (f 3)) hx hb hG hown hK hP 1 3 rfl (by decide) k_61 rfl dX4_foresee_22 ?_
    refine lv_iload_n hx hb dX4_foresee_25 rfl (lv_at hl 4 rfl) ?_
    refine lv_imul hx hb dX4_foresee_26 ?_
    refine lv_iconst (v := 2) hx hb dX4_foresee_27 (by decide) ?_
    refine lv_imul hx hb dX4_foresee_28 ?_
    simp only [j29_0_X4_foresee, if_pos c_14] at J29
    exact J29 _ (lv_sub hl [2, 3, 4, 1, 0] rfl)
  · refine lv_iconst (v := 0) hx hb dX4_foresee_17 (by decide) ?_
    refine lv_goto (tgt := 29) hx hb dX4_foresee_18 (by decide) ?_
    simp only [j29_0_X4_foresee, if_neg c_14] at J29
    exact J29 _ (lv_sub hl [2, 3, 4, 1, 0] rfl)
end
section
/-! ticks, texts -/
abbrev ltu : Type := (Nat → Int32) × (Nat → Int32) × (Nat → Int32) × (Nat → Int32)
/-- what a tick foresees; a tick; some ticks: the numbers of the lagoon, its sums, its records, the tick -/
def lpK (se : Nat → Int32) (x : ltu) : Nat → Int32 := sw0_X4_foresee x.2.2.2 x.1 se (sr_X1_head x.1)
def lpS (se : Nat → Int32) (x : ltu) : ltu :=
  (upd (sw0_X1_take x.1 (lpK se x)) 0 (sw0_X1_take x.1 (lpK se x) 0 + 1), sw2_X1_take x.2.1 (lpK se x), sw3_X1_enterRecord (sw0_X1_take x.1 (lpK se x)) x.2.2.1 (lpK se x), lpK se x)
def lp (se : Nat → Int32) : Nat → ltu → ltu
  | 0, x => x
  | n + 1, x => lp se n (lpS se x)
theorem ag_pos {x : Int32} (h : ¬ x < 1) : x = nI x.toNatClampNeg ∧ x.toNatClampNeg < 2 ^ 31 := by
  have h0 : ¬ x < 0 := fun h2 => h (by rw [Int32.lt_iff_toInt_lt] at *; have e0 : (0 : Int32).toInt = 0 := rfl; have e1 : (1 : Int32).toInt = 1 := rfl; omega)
  obtain ⟨j, hj, rfl⟩ := nI_of h0
  rw [nI_clamp hj]
  exact ⟨rfl, hj⟩
theorem ag_nn {x : Int32} (h : ¬ x < 0) : x = nI x.toNatClampNeg ∧ x.toNatClampNeg < 2 ^ 31 := by
  obtain ⟨j, hj, rfl⟩ := nI_of h
  rw [nI_clamp hj]
  exact ⟨rfl, hj⟩
theorem ag_ixn {x : Int32} {n : Nat} (hn : n < 2 ^ 31) (h0 : ¬ x < 0) (h1 : ¬ nI n ≤ x) : x = nI x.toNatClampNeg ∧ x.toNatClampNeg < n := by
  obtain ⟨j, hj, rfl⟩ := nI_of h0
  rw [nI_clamp hj]
  exact ⟨rfl, Nat.not_le.mp (fun h => h1 ((nI_leI hn hj).mpr h))⟩

def gv13_1_X1_letPass (se : Nat → Int32) (fi : Nat → Int32) (ki : Nat → Int32) : Nat → Int32 := sw0_X4_foresee ki fi se (sr_X1_head fi)
def gv18_2_X1_letPass (se : Nat → Int32) (fi : Nat → Int32) (ki : Nat → Int32) : Nat → Int32 := sw0_X1_take fi (gv13_1_X1_letPass se fi ki)
def gv18_3_X1_letPass (se : Nat → Int32) (fi : Nat → Int32) (ti : Nat → Int32) (ki : Nat → Int32) : Nat → Int32 := sw2_X1_take ti (gv13_1_X1_letPass se fi ki)
def gv23_4_X1_letPass (se : Nat → Int32) (fi : Nat → Int32) (ri : Nat → Int32) (ki : Nat → Int32) : Nat → Int32 := sw3_X1_enterRecord (gv18_2_X1_letPass se fi ki) ri (gv13_1_X1_letPass se fi ki)
def xv33_5_X1_letPass (se : Nat → Int32) (fi : Nat → Int32) (ki : Nat → Int32) : Int32 := ((gv18_2_X1_letPass se fi ki) 0) + 1
abbrev po_X1_letPass (cI cC cL : ClassId) (h t1 h1 h2 h3 : Nat) (f se to re kf : Nat → Int32) (p1 : Int32) (N : Nat) (hp : p1 = nI N ∧ N < 2 ^ 31) : va_W → Prop := fun w' => [oL h h1 h2 h3 ((lp se N (f, to, re, kf)).1), aI cI h1 3 se, aI cI h2 7 ((lp se N (f, to, re, kf)).2.1), aI cI h3 60 ((lp se N (f, to, re, kf)).2.2.1), oK t1 ((lp se N (f, to, re, kf)).2.2.2)] = w'
set_option maxHeartbeats 4000000 in
set_option maxRecDepth 100000 in
theorem ct_X1_letPass (l : Launch) (D : va_G) (cI cC cL : ClassId) (h t1 h1 h2 h3 : Nat) (f se to re kf : Nat → Int32) (p1 : Int32) (N : Nat) (hp : p1 = nI N ∧ N < 2 ^ 31) : ag_MV l yX1_letPass cX1_letPass 4 3 65 D cI cC cL [.ref h, .int p1, .ref t1] [oL h h1 h2 h3 f, aI cI h1 3 se, aI cI h2 7 to, aI cI h3 60 re, oK t1 kf] (po_X1_letPass cI cC cL h t1 h1 h2 h3 f se to re kf p1 N hp) := by
  refine ag_MV.of (plainFor_of_name (by decide)) (Nat.le_of_ble_eq_true rfl) ?_
  intro p e s m below meth c hx hb hr hlocks hml hown hmn hG hK A hN hA H locs hP hD hS ls hl
  have hl : lv_has ls 4 [(0, .ref h), (1, .int p1), (2, .ref t1)] := hl
  refine lv_iconst (v := 0) hx hb dX1_letPass_0 (by decide) ?_
  refine lv_istore_n (lv' := [(3, .int 0), (0, .ref h), (1, .int p1), (2, .ref t1)]) hx hb dX1_letPass_1 rfl hl (by decide) rfl (fun ls hl => ?_)
  suffices L2 : ∀ (n : Nat) (i : Nat) (fi ti ri ki : Nat → Int32), (hi : i + n = N) → (hR : lp se n (fi, ti, ri, ki) = lp se N (f, to, re, kf)) → ∀ (H : Heap) (locs : List Loc) (ls : Array Slot), lv_has ls 4 [(0, .ref h), (1, .int p1), (2, .ref t1), (3, .int (nI i))] → va_P D vwCl [oL h h1 h2 h3 fi, aI cI h1 3 se, aI cI h2 7 ti, aI cI h3 60 ri, oK t1 ki] H → va_D A [oL h h1 h2 h3 fi, aI cI h1 3 se, aI cI h2 7 ti, aI cI h3 60 ri, oK t1 ki] → va_S A s.heap H locs → W p l e (ag_rm 3 65) s m ([.ref h, .int p1, .ref t1] : List Value).toArray below meth c H locs 0 0 (MQ below (va_Qv (po_X1_letPass cI cC cL h t1 h1 h2 h3 f se to re kf p1 N hp) (ag_Out D [oL h h1 h2 h3 f, aI cI h1 3 se, aI cI h2 7 to, aI cI h3 60 re, oK t1 kf]) A) ([.ref h, .int p1, .ref t1] : List Value).toArray s 0 0 A) (F0 m 2 ls []) from L2 N 0 f to re kf (by omega) rfl H locs ls (lv_sub hl [1, 2, 3, 0] rfl) hP hD hS
  intro n
  induction n with
  | zero =>
    intro i fi ti ri ki hi hR H locs ls hl hP hD hS
    refine lv_iload_n hx hb dX1_letPass_2 rfl (lv_at hl 3 rfl) ?_
    refine lv_iload_n hx hb dX1_letPass_3 rfl (lv_at hl 1 rfl) ?_
    refine lv_icmp_ge (tgt := 42) hx hb dX1_letPass_4 (by decide) (fun _ => ?_) (fun h0 => absurd (by rw [hp.1]; exact nI_le (by omega) (by omega)) h0)
    exact ag_vret [h, h1, h2, h3, t1] hx hb hr hlocks hP hS rfl rfl (by show _ = _; rw [← hR]; rfl) dX1_letPass_42
  | succ n ih =>
    intro i fi ti ri ki hi hR H locs ls hl hP hD hS
    refine lv_iload_n hx hb dX1_letPass_2 rfl (lv_at hl 3 rfl) ?_
    refine lv_iload_n hx hb dX1_letPass_3 rfl (lv_at hl 1 rfl) ?_
    refine lv_icmp_ge (tgt := 42) hx hb dX1_letPass_4 (by decide) (fun h0 => absurd h0 (by rw [hp.1]; exact nI_ge (by omega) hp.2)) (fun _ => ?_)
    refine lv_aload_n hx hb dX1_letPass_7 rfl (lv_at hl 2 rfl) ?_
    refine lv_aload_n hx hb dX1_letPass_8 rfl (lv_at hl 0 rfl) ?_
    refine lv_aload_n hx hb dX1_letPass_9 rfl (lv_at hl 0 rfl) ?_
    refine ag_callVi (As := []) (rest := [.ref h, .ref t1]) hx hb hml hown hG hK hN hA hP hD hS hl (ct_X1_head l D cI cC cL h h1 h2 h3 fi se ti ri) fX1_head k_312 (ag_cut_1 [] [oK t1 ki] rfl) (q0 := 0) rfl rfl rfl rfl (Nat.le_of_ble_eq_true rfl) ⟨Nat.le_of_ble_eq_true rfl, Nat.le_of_ble_eq_true rfl⟩ ⟨Nat.zero_le _, Nat.zero_le _⟩ dX1_letPass_10 (fun r w1 H locs hw hP hD hS => ?_)
    obtain ⟨rfl, hw⟩ := hw
    subst hw
    have hP : va_P D vwCl [oL h h1 h2 h3 fi, aI cI h1 3 se, aI cI h2 7 ti, aI cI h3 60 ri, oK t1 ki] H := hP
    have hD : va_D A [oL h h1 h2 h3 fi, aI cI h1 3 se, aI cI h2 7 ti, aI cI h3 60 ri, oK t1 ki] := hD
    refine ag_callVv (As := [.ref h, .int (sr_X1_head fi)]) (rest := []) hx hb hml hown hG hK hN hA hP hD hS hl (ct_X4_foresee l D cI cC cL t1 h h1 h2 h3 ki fi se ti ri (sr_X1_head fi)) fX4_foresee k_326 (ag_cut_2s 1 [] [oK t1 ki] [] [oL h h1 h2 h3 fi, aI cI h1 3 se, aI cI h2 7 ti, aI cI h3 60 ri] [] rfl rfl rfl) (q0 := 4) rfl rfl rfl rfl (Nat.le_of_ble_eq_true rfl) ⟨Nat.le_of_ble_eq_true rfl, Nat.le_of_ble_eq_true rfl⟩ ⟨Nat.zero_le _, Nat.zero_le _⟩ dX1_letPass_13 (fun w1 H locs hw hP hD hS => ?_)
    have hw : _ = w1 := hw
    generalize eg13_1 : sw0_X4_foresee ki fi se (sr_X1_head fi) = g13_1 at hw
    replace eg13_1 : gv13_1_X1_letPass se fi ki = g13_1 := (by rw [← eg13_1]; rfl)
    subst hw
    have hP : va_P D vwCl [oL h h1 h2 h3 fi, aI cI h1 3 se, aI cI h2 7 ti, aI cI h3 60 ri, oK t1 g13_1] H := hP
    have hD : va_D A [oL h h1 h2 h3 fi, aI cI h1 3 se, aI cI h2 7 ti, aI cI h3 60 ri, oK t1 g13_1] := hD
    refine lv_aload_n hx hb dX1_letPass_16 rfl (lv_at hl 0 rfl) ?_
    refine lv_aload_n hx hb dX1_letPass_17 rfl (lv_at hl 2 rfl) ?_
    refine ag_callVv (As := [.ref t1]) (rest := []) hx hb hml hown hG hK hN hA hP hD hS hl (ct_X1_take l D cI cC cL h t1 h1 h2 h3 fi se ti ri g13_1) fX1_take k_346 ag_cut_all (q0 := 0) rfl rfl rfl rfl (Nat.le_of_ble_eq_true rfl) ⟨Nat.le_of_ble_eq_true rfl, Nat.le_of_ble_eq_true rfl⟩ ⟨Nat.zero_le _, Nat.zero_le _⟩ dX1_letPass_18 (fun w1 H locs hw hP hD hS => ?_)
    have hw : _ = w1 := hw
    generalize eg18_2 : sw0_X1_take fi g13_1 = g18_2 at hw
    replace eg18_2 : gv18_2_X1_letPass se fi ki = g18_2 := (by rw [← eg18_2, ← eg13_1]; rfl)
    generalize eg18_3 : sw2_X1_take ti g13_1 = g18_3 at hw
    replace eg18_3 : gv18_3_X1_letPass se fi ti ki = g18_3 := (by rw [← eg18_3, ← eg13_1]; rfl)
    subst hw
    have hP : va_P D vwCl [oL h h1 h2 h3 g18_2, aI cI h1 3 se, aI cI h2 7 g18_3, aI cI h3 60 ri, oK t1 g13_1] H := hP
    have hD : va_D A [oL h h1 h2 h3 g18_2, aI cI h1 3 se, aI cI h2 7 g18_3, aI cI h3 60 ri, oK t1 g13_1] := hD
    refine lv_aload_n hx hb dX1_letPass_21 rfl (lv_at hl 0 rfl) ?_
    refine lv_aload_n hx hb dX1_letPass_22 rfl (lv_at hl 2 rfl) ?_
    refine ag_callVv (As := [.ref t1]) (rest := []) hx hb hml hown hG hK hN hA hP hD hS hl (ct_X1_enterRecord l D cI cC cL h t1 h1 h2 h3 g18_2 se g18_3 ri g13_1) fX1_enterRecord k_350 ag_cut_all (q0 := 0) rfl rfl rfl rfl (Nat.le_of_ble_eq_true rfl) ⟨Nat.le_of_ble_eq_true rfl, Nat.le_of_ble_eq_true rfl⟩ ⟨Nat.zero_le _, Nat.zero_le _⟩ dX1_letPass_23 (fun w1 H locs hw hP hD hS => ?_)
    have hw : _ = w1 := hw
    generalize eg23_4 : sw3_X1_enterRecord g18_2 ri g13_1 = g23_4 at hw
    replace eg23_4 : gv23_4_X1_letPass se fi ri ki = g23_4 := (by rw [← eg23_4, ← eg13_1, ← eg18_2]; rfl)
    subst hw
    have hP : va_P D vwCl [oL h h1 h2 h3 g18_2, aI cI h1 3 se, aI cI h2 7 g18_3, aI cI h3 60 g23_4, oK t1 g13_1] H := hP
    have hD : va_D A [oL h h1 h2 h3 g18_2, aI cI h1 3 se, aI cI h2 7 g18_3, aI cI h3 60 g23_4, oK t1 g13_1] := hD
    refine lv_aload_n hx hb dX1_letPass_26 rfl (lv_at hl 0 rfl) ?_
    refine lv_dup hx hb dX1_letPass_27 rfl ?_
    refine ag_getX1 (v := .int (g18_2 0)) hx hb hG hown hK hP 0 0 rfl (by decide) k_53 rfl dX1_letPass_28 ?_
    refine lv_iconst (v := 1) hx hb dX1_letPass_31 (by decide) ?_
    refine lv_iadd hx hb dX1_letPass_32 ?_
    refine ag_topn (v := xv33_5_X1_letPass se fi ki) (by rw [← eg18_2]; rfl) (fun x33_5 ex33_5 => ?_)
    refine ag_putX1 hx hb hG hown hK hP hD hS 0 0 rfl (by decide) k_53 (by decide) rfl rfl (Nat.le_of_ble_eq_true rfl) dX1_letPass_33 (fun H locs hP hD hS => ?_)
    have hP : va_P D vwCl [oL h h1 h2 h3 (upd g18_2 0 x33_5), aI cI h1 3 se, aI cI h2 7 g18_3, aI cI h3 60 g23_4, oK t1 g13_1] H := hP
    have hD : va_D A [oL h h1 h2 h3 (upd g18_2 0 x33_5), aI cI h1 3 se, aI cI h2 7 g18_3, aI cI h3 60 g23_4, oK t1 g13_1] := hD
    refine lv_iinc (v := nI (i + 1)) (lv' := [(3, .int (nI (i + 1))), (0, .ref h), (1, .int p1), (2, .ref t1)]) hx hb dX1_letPass_36 hl (k := 3) rfl (nI_1 i) (by decide) rfl (fun ls hl => ?_)
    refine lv_goto (tgt := 2) hx hb dX1_letPass_39 (by decide) ?_
    revert hP; revert hD; revert hS; revert hl
    subst ex33_5
    subst eg23_4
    subst eg18_3
    subst eg18_2
    subst eg13_1
    intro hl hS hD hP
    exact ih (i + 1) (upd (gv18_2_X1_letPass se fi ki) 0 (xv33_5_X1_letPass se fi ki)) (gv18_3_X1_letPass se fi ti ki) (gv23_4_X1_letPass se fi ri ki) (gv13_1_X1_letPass se fi ki) (by omega) hR H locs ls (lv_sub hl [1, 2, 3, 0] rfl) hP hD hS
def gv33_1_X1_runTicks (f : Nat → Int32) (se : Nat → Int32) (to : Nat → Int32) (re : Nat → Int32) (kf : Nat → Int32) (p1 : Int32) : Nat → Int32 := (lp se p1.toNatClampNeg (f, to, re, kf)).1
def gv33_2_X1_runTicks (f : Nat → Int32) (se : Nat → Int32) (to : Nat → Int32) (re : Nat → Int32) (kf : Nat → Int32) (p1 : Int32) : Nat → Int32 := (lp se p1.toNatClampNeg (f, to, re, kf)).2.1
def gv33_3_X1_runTicks (f : Nat → Int32) (se : Nat → Int32) (to : Nat → Int32) (re : Nat → Int32) (kf : Nat → Int32) (p1 : Int32) : Nat → Int32 := (lp se p1.toNatClampNeg (f, to, re, kf)).2.2.1
def gv33_4_X1_runTicks (f : Nat → Int32) (se : Nat → Int32) (to : Nat → Int32) (re : Nat → Int32) (kf : Nat → Int32) (p1 : Int32) : Nat → Int32 := (lp se p1.toNatClampNeg (f, to, re, kf)).2.2.2
def sr_X1_runTicks (f : Nat → Int32) (se : Nat → Int32) (to : Nat → Int32) (re : Nat → Int32) (kf : Nat → Int32) (p1 : Int32) : Int32 := if p1 < 1 then (-1000000001) else if p1 ≤ 300 then if ((f 0) + p1) ≤ 9999 then sr_X1_level (gv33_1_X1_runTicks f se to re kf p1) else (-1000000003) else (-1000000001)
def sw0_X1_runTicks (f : Nat → Int32) (se : Nat → Int32) (to : Nat → Int32) (re : Nat → Int32) (kf : Nat → Int32) (p1 : Int32) : Nat → Int32 := if p1 < 1 then f else if p1 ≤ 300 then if ((f 0) + p1) ≤ 9999 then (gv33_1_X1_runTicks f se to re kf p1) else f else f
def sw2_X1_runTicks (f : Nat → Int32) (se : Nat → Int32) (to : Nat → Int32) (re : Nat → Int32) (kf : Nat → Int32) (p1 : Int32) : Nat → Int32 := if p1 < 1 then to else if p1 ≤ 300 then if ((f 0) + p1) ≤ 9999 then (gv33_2_X1_runTicks f se to re kf p1) else to else to
def sw3_X1_runTicks (f : Nat → Int32) (se : Nat → Int32) (to : Nat → Int32) (re : Nat → Int32) (kf : Nat → Int32) (p1 : Int32) : Nat → Int32 := if p1 < 1 then re else if p1 ≤ 300 then if ((f 0) + p1) ≤ 9999 then (gv33_3_X1_runTicks f se to re kf p1) else re else re
def sw4_X1_runTicks (f : Nat → Int32) (se : Nat → Int32) (to : Nat → Int32) (re : Nat → Int32) (kf : Nat → Int32) (p1 : Int32) : Nat → Int32 := if p1 < 1 then kf else if p1 ≤ 300 then if ((f 0) + p1) ≤ 9999 then (gv33_4_X1_runTicks f se to re kf p1) else kf else kf
abbrev po_X1_runTicks (cI cC cL : ClassId) (h t1 h1 h2 h3 : Nat) (f se to re kf : Nat → Int32) (p1 : Int32) : Int32 → va_W → Prop := fun r w' => sr_X1_runTicks f se to re kf p1 = r ∧ [oL h h1 h2 h3 (sw0_X1_runTicks f se to re kf p1), aI cI h1 3 se, aI cI h2 7 (sw2_X1_runTicks f se to re kf p1), aI cI h3 60 (sw3_X1_runTicks f se to re kf p1), oK t1 (sw4_X1_runTicks f se to re kf p1)] = w'
set_option maxHeartbeats 4000000 in
set_option maxRecDepth 100000 in
theorem ct_X1_runTicks (l : Launch) (D : va_G) (cI cC cL : ClassId) (h t1 h1 h2 h3 : Nat) (f se to re kf : Nat → Int32) (p1 : Int32) : ag_MI l yX1_runTicks cX1_runTicks 3 .int 4 88 D cI cC cL [.ref h, .int p1, .ref t1] [oL h h1 h2 h3 f, aI cI h1 3 se, aI cI h2 7 to, aI cI h3 60 re, oK t1 kf] (po_X1_runTicks cI cC cL h t1 h1 h2 h3 f se to re kf p1) := by
  refine ag_MI.of (plainFor_of_name (by decide)) (Nat.le_of_ble_eq_true rfl) ?_
  intro p e s m below meth c hx hb hr hlocks hml hown hmn hG hK A hN hA H locs hP hD hS ls hl
  have hl : lv_has ls 3 [(0, .ref h), (1, .int p1), (2, .ref t1)] := hl
  refine lv_iload_n hx hb dX1_runTicks_0 rfl (lv_at hl 1 rfl) ?_
  refine lv_iconst (v := 1) hx hb dX1_runTicks_1 (by decide) ?_
  refine lv_icmp_lt (tgt := 12) hx hb dX1_runTicks_2 (by decide) (fun c_2 => ?_) (fun c_2 => ?_)
  · refine lv_ldc (v := (-1000000001)) hx hb hown (hG _ k_251) dX1_runTicks_12 ?_
    exact ag_iret [h, h1, h2, h3, t1] hx hb hr rfl hlocks hP hS rfl rfl ⟨(by unfold sr_X1_runTicks; rw [if_pos c_2]), (by show _ = _; rw [show sw0_X1_runTicks f se to re kf p1 = f from (by unfold sw0_X1_runTicks; rw [if_pos c_2]), show sw2_X1_runTicks f se to re kf p1 = to from (by unfold sw2_X1_runTicks; rw [if_pos c_2]), show sw3_X1_runTicks f se to re kf p1 = re from (by unfold sw3_X1_runTicks; rw [if_pos c_2]), show sw4_X1_runTicks f se to re kf p1 = kf from (by unfold sw4_X1_runTicks; rw [if_pos c_2])])⟩ dX1_runTicks_14
  · refine lv_iload_n hx hb dX1_runTicks_5 rfl (lv_at hl 1 rfl) ?_
    refine lv_sipush (v := 300) hx hb dX1_runTicks_6 (by decide) ?_
    refine lv_icmp_le (tgt := 15) hx hb dX1_runTicks_9 (by decide) (fun c_9 => ?_) (fun c_9 => ?_)
    · refine lv_aload_n hx hb dX1_runTicks_15 rfl (lv_at hl 0 rfl) ?_
      refine ag_getX1 (v := .int (f 0)) hx hb hG hown hK hP 0 0 rfl (by decide) k_53 rfl dX1_runTicks_16 ?_
      refine lv_iload_n hx hb dX1_runTicks_19 rfl (lv_at hl 1 rfl) ?_
      refine lv_iadd hx hb dX1_runTicks_20 ?_
      refine lv_sipush (v := 9999) hx hb dX1_runTicks_21 (by decide) ?_
      refine lv_icmp_le (tgt := 30) hx hb dX1_runTicks_24 (by decide) (fun c_24 => ?_) (fun c_24 => ?_)
      · refine lv_aload_n hx hb dX1_runTicks_30 rfl (lv_at hl 0 rfl) ?_
        refine lv_iload_n hx hb dX1_runTicks_31 rfl (lv_at hl 1 rfl) ?_
        refine lv_aload_n hx hb dX1_runTicks_32 rfl (lv_at hl 2 rfl) ?_
        refine ag_callVv (As := [.int p1, .ref t1]) (rest := []) hx hb hml hown hG hK hN hA hP hD hS hl (ct_X1_letPass l D cI cC cL h t1 h1 h2 h3 f se to re kf p1 p1.toNatClampNeg (ag_pos c_2)) fX1_letPass k_308 ag_cut_all (q0 := 0) rfl rfl rfl rfl (Nat.le_of_ble_eq_true rfl) ⟨Nat.le_of_ble_eq_true rfl, Nat.le_of_ble_eq_true rfl⟩ ⟨Nat.zero_le _, Nat.zero_le _⟩ dX1_runTicks_33 (fun w1 H locs hw hP hD hS => ?_)
        have hw : _ = w1 := hw
        generalize eg33_1 : (lp se p1.toNatClampNeg (f, to, re, kf)).1 = g33_1 at hw
        replace eg33_1 : gv33_1_X1_runTicks f se to re kf p1 = g33_1 := (by rw [← eg33_1]; rfl)
        generalize eg33_2 : (lp se p1.toNatClampNeg (f, to, re, kf)).2.1 = g33_2 at hw
        replace eg33_2 : gv33_2_X1_runTicks f se to re kf p1 = g33_2 := (by rw [← eg33_2]; rfl)
        generalize eg33_3 : (lp se p1.toNatClampNeg (f, to, re, kf)).2.2.1 = g33_3 at hw
        replace eg33_3 : gv33_3_X1_runTicks f se to re kf p1 = g33_3 := (by rw [← eg33_3]; rfl)
        generalize eg33_4 : (lp se p1.toNatClampNeg (f, to, re, kf)).2.2.2 = g33_4 at hw
        replace eg33_4 : gv33_4_X1_runTicks f se to re kf p1 = g33_4 := (by rw [← eg33_4]; rfl)
        subst hw
        have hP : va_P D vwCl [oL h h1 h2 h3 g33_1, aI cI h1 3 se, aI cI h2 7 g33_2, aI cI h3 60 g33_3, oK t1 g33_4] H := hP
        have hD : va_D A [oL h h1 h2 h3 g33_1, aI cI h1 3 se, aI cI h2 7 g33_2, aI cI h3 60 g33_3, oK t1 g33_4] := hD
        refine lv_aload_n hx hb dX1_runTicks_36 rfl (lv_at hl 0 rfl) ?_
        refine ag_callVi (As := []) (rest := []) hx hb hml hown hG hK hN hA hP hD hS hl (ct_X1_level l D cI cC cL h h1 h2 h3 g33_1 se g33_2 g33_3) fX1_level k_322 (ag_cut_1 [] [oK t1 g33_4] rfl) (q0 := 0) rfl rfl rfl rfl (Nat.le_of_ble_eq_true rfl) ⟨Nat.le_of_ble_eq_true rfl, Nat.le_of_ble_eq_true rfl⟩ ⟨Nat.zero_le _, Nat.zero_le _⟩ dX1_runTicks_37 (fun r w1 H locs hw hP hD hS => ?_)
        obtain ⟨rfl, hw⟩ := hw
        subst hw
        have hP : va_P D vwCl [oL h h1 h2 h3 g33_1, aI cI h1 3 se, aI cI h2 7 g33_2, aI cI h3 60 g33_3, oK t1 g33_4] H := hP
        have hD : va_D A [oL h h1 h2 h3 g33_1, aI cI h1 3 se, aI cI h2 7 g33_2, aI cI h3 60 g33_3, oK t1 g33_4] := hD
        revert hP; revert hD; revert hS; revert hl
        subst eg33_4
        subst eg33_3
        subst eg33_2
        subst eg33_1
        intro hl hS hD hP
        exact ag_iret [h, h1, h2, h3, t1] hx hb hr rfl hlocks hP hS rfl rfl ⟨(by unfold sr_X1_runTicks; rw [if_neg c_2, if_pos c_9, if_pos c_24]), (by show _ = _; rw [show sw0_X1_runTicks f se to re kf p1 = (gv33_1_X1_runTicks f se to re kf p1) from (by unfold sw0_X1_runTicks; rw [if_neg c_2, if_pos c_9, if_pos c_24]), show sw2_X1_runTicks f se to re kf p1 = (gv33_2_X1_runTicks f se to re kf p1) from (by unfold sw2_X1_runTicks; rw [if_neg c_2, if_pos c_9, if_pos c_24]), show sw3_X1_runTicks f se to re kf p1 = (gv33_3_X1_runTicks f se to re kf p1) from (by unfold sw3_X1_runTicks; rw [if_neg c_2, if_pos c_9, if_pos c_24]), show sw4_X1_runTicks f se to re kf p1 = (gv33_4_X1_runTicks f se to re kf p1) from (by unfold sw4_X1_runTicks; rw [if_neg c_2, if_pos c_9, if_pos c_24])])⟩ dX1_runTicks_40
      · refine lv_ldc (v := (-1000000003)) hx hb hown (hG _ k_307) dX1_runTicks_27 ?_
        exact ag_iret [h, h1, h2, h3, t1] hx hb hr rfl hlocks hP hS rfl rfl ⟨(by unfold sr_X1_runTicks; rw [if_neg c_2, if_pos c_9, if_neg c_24]), (by show _ = _; rw [show sw0_X1_runTicks f se to re kf p1 = f from (by unfold sw0_X1_runTicks; rw [if_neg c_2, if_pos c_9, if_neg c_24]), show sw2_X1_runTicks f se to re kf p1 = to from (by unfold sw2_X1_runTicks; rw [if_neg c_2, if_pos c_9, if_neg c_24]), show sw3_X1_runTicks f se to re kf p1 = re from (by unfold sw3_X1_runTicks; rw [if_neg c_2, if_pos c_9, if_neg c_24]), show sw4_X1_runTicks f se to re kf p1 = kf from (by unfold sw4_X1_runTicks; rw [if_neg c_2, if_pos c_9, if_neg c_24])])⟩ dX1_runTicks_29
    · refine lv_ldc (v := (-1000000001)) hx hb hown (hG _ k_251) dX1_runTicks_12 ?_
      exact ag_iret [h, h1, h2, h3, t1] hx hb hr rfl hlocks hP hS rfl rfl ⟨(by unfold sr_X1_runTicks; rw [if_neg c_2, if_neg c_9]), (by show _ = _; rw [show sw0_X1_runTicks f se to re kf p1 = f from (by unfold sw0_X1_runTicks; rw [if_neg c_2, if_neg c_9]), show sw2_X1_runTicks f se to re kf p1 = to from (by unfold sw2_X1_runTicks; rw [if_neg c_2, if_neg c_9]), show sw3_X1_runTicks f se to re kf p1 = re from (by unfold sw3_X1_runTicks; rw [if_neg c_2, if_neg c_9]), show sw4_X1_runTicks f se to re kf p1 = kf from (by unfold sw4_X1_runTicks; rw [if_neg c_2, if_neg c_9])])⟩ dX1_runTicks_14
theorem ag_chr {x : Int32} (h : ∃ q : Nat, q < 128 ∧ x = nI q) : narrow .char (.int x) = .int x ∧ fits .char (.int x) = true := by
  obtain ⟨q, h1, rfl⟩ := h
  exact pk_charN (by omega)

def sr_X3_characterHere (tf : Nat → Int32) (ch : Nat → Int32) : Int32 := if (tf 1) < 0 then 0 else if (tf 0) ≤ (tf 1) then 0 else if 60 ≤ (tf 1) then 0 else ch ((tf 1).toNatClampNeg)
abbrev po_X3_characterHere (cI cC cL : ClassId) (y1 y2 : Nat) (tf ch : Nat → Int32) (hch : ∀ j : Nat, ∃ q : Nat, q < 128 ∧ ch j = nI q) : Int32 → va_W → Prop := fun r w' => sr_X3_characterHere tf ch = r ∧ [oT y1 y2 tf, aC cC y2 60 ch] = w'
set_option maxHeartbeats 4000000 in
set_option maxRecDepth 100000 in
theorem ct_X3_characterHere (l : Launch) (D : va_G) (cI cC cL : ClassId) (y1 y2 : Nat) (tf ch : Nat → Int32) (hch : ∀ j : Nat, ∃ q : Nat, q < 128 ∧ ch j = nI q) : ag_MI l yX3_characterHere cX3_characterHere 1 .char 0 0 D cI cC cL [.ref y1] [oT y1 y2 tf, aC cC y2 60 ch] (po_X3_characterHere cI cC cL y1 y2 tf ch hch) := by
  refine ag_MI.of (plainFor_of_name (by decide)) (Nat.le_of_ble_eq_true rfl) ?_
  intro p e s m below meth c hx hb hr hlocks hml hown hmn hG hK A hN hA H locs hP hD hS ls hl
  have hl : lv_has ls 1 [(0, .ref y1)] := hl
  refine lv_aload_n hx hb dX3_characterHere_0 rfl (lv_at hl 0 rfl) ?_
  refine ag_getX3 (v := .int (tf 1)) hx hb hG hown hK hP 0 2 rfl (by decide) k_173 rfl dX3_characterHere_1 ?_
  refine lv_if_lt (tgt := 39) hx hb dX3_characterHere_4 (by decide) (fun c_4 => ?_) (fun c_4 => ?_)
  · refine lv_iconst (v := 0) hx hb dX3_characterHere_39 (by decide) ?_
    exact ag_iret [y1, y2] hx hb hr rfl hlocks hP hS rfl rfl ⟨(by unfold sr_X3_characterHere; rw [if_pos c_4]), rfl⟩ dX3_characterHere_40
  · refine lv_aload_n hx hb dX3_characterHere_7 rfl (lv_at hl 0 rfl) ?_
    refine ag_getX3 (v := .int (tf 1)) hx hb hG hown hK hP 0 2 rfl (by decide) k_173 rfl dX3_characterHere_8 ?_
    refine lv_aload_n hx hb dX3_characterHere_11 rfl (lv_at hl 0 rfl) ?_
    refine ag_getX3 (v := .int (tf 0)) hx hb hG hown hK hP 0 1 rfl (by decide) k_169 rfl dX3_characterHere_12 ?_
    refine lv_icmp_ge (tgt := 39) hx hb dX3_characterHere_15 (by decide) (fun c_15 => ?_) (fun c_15 => ?_)
    · refine lv_iconst (v := 0) hx hb dX3_characterHere_39 (by decide) ?_
      exact ag_iret [y1, y2] hx hb hr rfl hlocks hP hS rfl rfl ⟨(by unfold sr_X3_characterHere; rw [if_neg c_4, if_pos c_15]), rfl⟩ dX3_characterHere_40
    · refine lv_aload_n hx hb dX3_characterHere_18 rfl (lv_at hl 0 rfl) ?_
      refine ag_getX3 (v := .int (tf 1)) hx hb hG hown hK hP 0 2 rfl (by decide) k_173 rfl dX3_characterHere_19 ?_
      refine lv_bipush (v := 60) hx hb dX3_characterHere_22 (by decide) ?_
      refine lv_icmp_ge (tgt := 39) hx hb dX3_characterHere_24 (by decide) (fun c_24 => ?_) (fun c_24 => ?_)
      · refine lv_iconst (v := 0) hx hb dX3_characterHere_39 (by decide) ?_
        exact ag_iret [y1, y2] hx hb hr rfl hlocks hP hS rfl rfl ⟨(by unfold sr_X3_characterHere; rw [if_neg c_4, if_neg c_15, if_pos c_24]), rfl⟩ dX3_characterHere_40
      · refine lv_aload_n hx hb dX3_characterHere_27 rfl (lv_at hl 0 rfl) ?_
        refine ag_getX3 (v := .ref y2) hx hb hG hown hK hP 0 0 rfl (by decide) k_168 rfl dX3_characterHere_28 ?_
        refine lv_aload_n hx hb dX3_characterHere_31 rfl (lv_at hl 0 rfl) ?_
        refine ag_getX3 (v := .int (tf 1)) hx hb hG hown hK hP 0 2 rfl (by decide) k_173 rfl dX3_characterHere_32 ?_
        refine ag_cld (k := (tf 1).toNatClampNeg) (v := ch ((tf 1).toNatClampNeg)) hx hb hK hP 1 rfl (ag_ixn (n := 60) (by decide) c_4 c_24).1 (ag_ixn (n := 60) (by decide) c_4 c_24).2 (Nat.le_of_ble_eq_true rfl) rfl dX3_characterHere_35 ?_
        refine lv_goto (tgt := 40) hx hb dX3_characterHere_36 (by decide) ?_
        exact ag_iret [y1, y2] hx hb hr (ag_chr (hch _)).1 hlocks hP hS rfl rfl ⟨(by unfold sr_X3_characterHere; rw [if_neg c_4, if_neg c_15, if_neg c_24]), rfl⟩ dX3_characterHere_40
theorem chH (tf ch : Nat → Int32) (hch : ∀ j : Nat, ∃ q : Nat, q < 128 ∧ ch j = nI q) : ∃ q : Nat, q < 128 ∧ sr_X3_characterHere tf ch = nI q := by
  have h0 : ∃ q : Nat, q < 128 ∧ (0 : Int32) = nI q := ⟨0, by omega, rfl⟩
  unfold sr_X3_characterHere
  split
  · exact h0
  · split
    · exact h0
    · split
      · exact h0
      · exact hch _

def sr_X3_isKind (p1 : Int32) : Int32 := if p1 = 103 then 1 else if p1 = 116 then 1 else if p1 = 112 then 1 else if p1 = 113 then 1 else if p1 = 98 then 1 else if p1 = 114 then 1 else 0
abbrev po_X3_isKind (cI cC cL : ClassId) (p1 : Int32) : Int32 → va_W → Prop := fun r w' => sr_X3_isKind p1 = r ∧ [] = w'
set_option maxHeartbeats 4000000 in
set_option maxRecDepth 100000 in
theorem ct_X3_isKind (l : Launch) (D : va_G) (cI cC cL : ClassId) (p1 : Int32) : ag_MI l yX3_isKind cX3_isKind 1 .boolean 0 0 D cI cC cL [.int p1] [] (po_X3_isKind cI cC cL p1) := by
  refine ag_MI.of (plainFor_of_name (by decide)) (Nat.le_of_ble_eq_true rfl) ?_
  intro p e s m below meth c hx hb hr hlocks hml hown hmn hG hK A hN hA H locs hP hD hS ls hl
  have hl : lv_has ls 1 [(0, .int p1)] := hl
  refine lv_iload_n hx hb dX3_isKind_0 rfl (lv_at hl 0 rfl) ?_
  refine lv_bipush (v := 103) hx hb dX3_isKind_1 (by decide) ?_
  refine lv_icmp_eq (tgt := 36) hx hb dX3_isKind_3 (by decide) (fun c_3 => ?_) (fun c_3 => ?_)
  · refine lv_iconst (v := 1) hx hb dX3_isKind_36 (by decide) ?_
    refine lv_goto (tgt := 41) hx hb dX3_isKind_37 (by decide) ?_
    exact ag_iret [] hx hb hr (by decide) hlocks hP hS rfl rfl ⟨(by unfold sr_X3_isKind; rw [if_pos c_3]), rfl⟩ dX3_isKind_41
  · refine lv_iload_n hx hb dX3_isKind_6 rfl (lv_at hl 0 rfl) ?_
    refine lv_bipush (v := 116) hx hb dX3_isKind_7 (by decide) ?_
    refine lv_icmp_eq (tgt := 36) hx hb dX3_isKind_9 (by decide) (fun c_9 => ?_) (fun c_9 => ?_)
    · refine lv_iconst (v := 1) hx hb dX3_isKind_36 (by decide) ?_
      refine lv_goto (tgt := 41) hx hb dX3_isKind_37 (by decide) ?_
      exact ag_iret [] hx hb hr (by decide) hlocks hP hS rfl rfl ⟨(by unfold sr_X3_isKind; rw [if_neg c_3, if_pos c_9]), rfl⟩ dX3_isKind_41
    · refine lv_iload_n hx hb dX3_isKind_12 rfl (lv_at hl 0 rfl) ?_
      refine lv_bipush (v := 112) hx hb dX3_isKind_13 (by decide) ?_
      refine lv_icmp_eq (tgt := 36) hx hb dX3_isKind_15 (by decide) (fun c_15 => ?_) (fun c_15 => ?_)
      · refine lv_iconst (v := 1) hx hb dX3_isKind_36 (by decide) ?_
        refine lv_goto (tgt := 41) hx hb dX3_isKind_37 (by decide) ?_
        exact ag_iret [] hx hb hr (by decide) hlocks hP hS rfl rfl ⟨(by unfold sr_X3_isKind; rw [if_neg c_3, if_neg c_9, if_pos c_15]), rfl⟩ dX3_isKind_41
      · refine lv_iload_n hx hb dX3_isKind_18 rfl (lv_at hl 0 rfl) ?_
        refine lv_bipush (v := 113) hx hb dX3_isKind_19 (by decide) ?_
        refine lv_icmp_eq (tgt := 36) hx hb dX3_isKind_21 (by decide) (fun c_21 => ?_) (fun c_21 => ?_)
        · refine lv_iconst (v := 1) hx hb dX3_isKind_36 (by decide) ?_
          refine lv_goto (tgt := 41) hx hb dX3_isKind_37 (by decide) ?_
          exact ag_iret [] hx hb hr (by decide) hlocks hP hS rfl rfl ⟨(by unfold sr_X3_isKind; rw [if_neg c_3, if_neg c_9, if_neg c_15, if_pos c_21]), rfl⟩ dX3_isKind_41
        · refine lv_iload_n hx hb dX3_isKind_24 rfl (lv_at hl 0 rfl) ?_
          refine lv_bipush (v := 98) hx hb dX3_isKind_25 (by decide) ?_
          refine lv_icmp_eq (tgt := 36) hx hb dX3_isKind_27 (by decide) (fun c_27 => ?_) (fun c_27 => ?_)
          · refine lv_iconst (v := 1) hx hb dX3_isKind_36 (by decide) ?_
            refine lv_goto (tgt := 41) hx hb dX3_isKind_37 (by decide) ?_
            exact ag_iret [] hx hb hr (by decide) hlocks hP hS rfl rfl ⟨(by unfold sr_X3_isKind; rw [if_neg c_3, if_neg c_9, if_neg c_15, if_neg c_21, if_pos c_27]), rfl⟩ dX3_isKind_41
          · refine lv_iload_n hx hb dX3_isKind_30 rfl (lv_at hl 0 rfl) ?_
            refine lv_bipush (v := 114) hx hb dX3_isKind_31 (by decide) ?_
            refine lv_icmp_ne (tgt := 40) hx hb dX3_isKind_33 (by decide) (fun c_33 => ?_) (fun c_33 => ?_)
            · refine lv_iconst (v := 0) hx hb dX3_isKind_40 (by decide) ?_
              exact ag_iret [] hx hb hr (by decide) hlocks hP hS rfl rfl ⟨(by unfold sr_X3_isKind; rw [if_neg c_3, if_neg c_9, if_neg c_15, if_neg c_21, if_neg c_27, if_neg c_33]), rfl⟩ dX3_isKind_41
            · refine lv_iconst (v := 1) hx hb dX3_isKind_36 (by decide) ?_
              refine lv_goto (tgt := 41) hx hb dX3_isKind_37 (by decide) ?_
              exact ag_iret [] hx hb hr (by decide) hlocks hP hS rfl rfl ⟨(by unfold sr_X3_isKind; rw [if_neg c_3, if_neg c_9, if_neg c_15, if_neg c_21, if_neg c_27, if_pos c_33]), rfl⟩ dX3_isKind_41
def xv17_1_X3_skip (tf : Nat → Int32) : Int32 := (tf 1) + 1
def sr_X3_skip (tf : Nat → Int32) (ch : Nat → Int32) (p1 : Int32) : Int32 := if (sr_X3_characterHere tf ch) = p1 then 1 else 0
def sw0_X3_skip (tf : Nat → Int32) (ch : Nat → Int32) (p1 : Int32) : Nat → Int32 := if (sr_X3_characterHere tf ch) = p1 then upd tf 1 (xv17_1_X3_skip tf) else tf
abbrev po_X3_skip (cI cC cL : ClassId) (y1 y2 : Nat) (tf ch : Nat → Int32) (p1 : Int32) (hch : ∀ j : Nat, ∃ q : Nat, q < 128 ∧ ch j = nI q) : Int32 → va_W → Prop := fun r w' => sr_X3_skip tf ch p1 = r ∧ [oT y1 y2 (sw0_X3_skip tf ch p1), aC cC y2 60 ch] = w'
set_option maxHeartbeats 4000000 in
set_option maxRecDepth 100000 in
theorem ct_X3_skip (l : Launch) (D : va_G) (cI cC cL : ClassId) (y1 y2 : Nat) (tf ch : Nat → Int32) (p1 : Int32) (hch : ∀ j : Nat, ∃ q : Nat, q < 128 ∧ ch j = nI q) : ag_MI l yX3_skip cX3_skip 2 .boolean 1 20 D cI cC cL [.ref y1, .int p1] [oT y1 y2 tf, aC cC y2 60 ch] (po_X3_skip cI cC cL y1 y2 tf ch p1 hch) := by
  refine ag_MI.of (plainFor_of_name (by decide)) (Nat.le_of_ble_eq_true rfl) ?_
  intro p e s m below meth c hx hb hr hlocks hml hown hmn hG hK A hN hA H locs hP hD hS ls hl
  have hl : lv_has ls 2 [(0, .ref y1), (1, .int p1)] := hl
  refine lv_aload_n hx hb dX3_skip_0 rfl (lv_at hl 0 rfl) ?_
  refine ag_callVi (As := []) (rest := []) hx hb hml hown hG hK hN hA hP hD hS hl (ct_X3_characterHere l D cI cC cL y1 y2 tf ch hch) fX3_characterHere k_500 ag_cut_all (q0 := 0) rfl rfl rfl rfl (Nat.le_of_ble_eq_true rfl) ⟨Nat.le_of_ble_eq_true rfl, Nat.le_of_ble_eq_true rfl⟩ ⟨Nat.zero_le _, Nat.zero_le _⟩ dX3_skip_1 (fun r w1 H locs hw hP hD hS => ?_)
  obtain ⟨rfl, hw⟩ := hw
  subst hw
  have hP : va_P D vwCl [oT y1 y2 tf, aC cC y2 60 ch] H := hP
  have hD : va_D A [oT y1 y2 tf, aC cC y2 60 ch] := hD
  refine lv_iload_n hx hb dX3_skip_4 rfl (lv_at hl 1 rfl) ?_
  refine lv_icmp_eq (tgt := 10) hx hb dX3_skip_5 (by decide) (fun c_5 => ?_) (fun c_5 => ?_)
  · refine lv_aload_n hx hb dX3_skip_10 rfl (lv_at hl 0 rfl) ?_
    refine lv_dup hx hb dX3_skip_11 rfl ?_
    refine ag_getX3 (v := .int (tf 1)) hx hb hG hown hK hP 0 2 rfl (by decide) k_173 rfl dX3_skip_12 ?_
    refine lv_iconst (v := 1) hx hb dX3_skip_15 (by decide) ?_
    refine lv_iadd hx hb dX3_skip_16 ?_
    refine ag_topn (v := xv17_1_X3_skip tf) rfl (fun x17_1 ex17_1 => ?_)
    refine ag_putX3 hx hb hG hown hK hP hD hS 0 2 rfl (by decide) k_173 (by decide) rfl rfl (Nat.le_of_ble_eq_true rfl) dX3_skip_17 (fun H locs hP hD hS => ?_)
    have hP : va_P D vwCl [oT y1 y2 (upd tf 1 x17_1), aC cC y2 60 ch] H := hP
    have hD : va_D A [oT y1 y2 (upd tf 1 x17_1), aC cC y2 60 ch] := hD
    refine lv_iconst (v := 1) hx hb dX3_skip_20 (by decide) ?_
    revert hP; revert hD; revert hS; revert hl
    subst ex17_1
    intro hl hS hD hP
    exact ag_iret [y1, y2] hx hb hr (by decide) hlocks hP hS rfl rfl ⟨(by unfold sr_X3_skip; rw [if_pos c_5]), (by show _ = _; rw [show sw0_X3_skip tf ch p1 = upd tf 1 (xv17_1_X3_skip tf) from (by unfold sw0_X3_skip; rw [if_pos c_5])])⟩ dX3_skip_21
  · refine lv_iconst (v := 0) hx hb dX3_skip_8 (by decide) ?_
    exact ag_iret [y1, y2] hx hb hr (by decide) hlocks hP hS rfl rfl ⟨(by unfold sr_X3_skip; rw [if_neg c_5]), (by show _ = _; rw [show sw0_X3_skip tf ch p1 = tf from (by unfold sw0_X3_skip; rw [if_neg c_5])])⟩ dX3_skip_9
def xv49_1_X3_readNumber (tf : Nat → Int32) : Int32 := (tf 1) + 1
def xv49_2_X3_readNumber (tf : Nat → Int32) : Int32 := (xv49_1_X3_readNumber tf) + 1
def xv49_3_X3_readNumber (tf : Nat → Int32) : Int32 := (xv49_2_X3_readNumber tf) + 1
def sr_X3_readNumber (tf : Nat → Int32) (ch : Nat → Int32) : Int32 := if (sr_X3_characterHere tf ch) < 48 then (-1) else if (sr_X3_characterHere tf ch) ≤ 57 then if (sr_X3_characterHere (upd tf 1 (xv49_1_X3_readNumber tf)) ch) < 48 then ((ag_max 0 (-1)) * 10) + ((sr_X3_characterHere tf ch) - 48) else if (sr_X3_characterHere (upd tf 1 (xv49_1_X3_readNumber tf)) ch) ≤ 57 then if (sr_X3_characterHere (upd (upd tf 1 (xv49_1_X3_readNumber tf)) 1 (xv49_2_X3_readNumber tf)) ch) < 48 then ((ag_max 0 (((ag_max 0 (-1)) * 10) + ((sr_X3_characterHere tf ch) - 48))) * 10) + ((sr_X3_characterHere (upd tf 1 (xv49_1_X3_readNumber tf)) ch) - 48) else if (sr_X3_characterHere (upd (upd tf 1 (xv49_1_X3_readNumber tf)) 1 (xv49_2_X3_readNumber tf)) ch) ≤ 57 then ((ag_max 0 (((ag_max 0 (((ag_max 0 (-1)) * 10) + ((sr_X3_characterHere tf ch) - 48))) * 10) + ((sr_X3_characterHere (upd tf 1 (xv49_1_X3_readNumber tf)) ch) - 48))) * 10) + ((sr_X3_characterHere (upd (upd tf 1 (xv49_1_X3_readNumber tf)) 1 (xv49_2_X3_readNumber tf)) ch) - 48) else ((ag_max 0 (((ag_max 0 (-1)) * 10) + ((sr_X3_characterHere tf ch) - 48))) * 10) + ((sr_X3_characterHere (upd tf 1 (xv49_1_X3_readNumber tf)) ch) - 48) else ((ag_max 0 (-1)) * 10) + ((sr_X3_characterHere tf ch) - 48) else (-1)
def sw0_X3_readNumber (tf : Nat → Int32) (ch : Nat → Int32) : Nat → Int32 := if (sr_X3_characterHere tf ch) < 48 then tf else if (sr_X3_characterHere tf ch) ≤ 57 then if (sr_X3_characterHere (upd tf 1 (xv49_1_X3_readNumber tf)) ch) < 48 then upd tf 1 (xv49_1_X3_readNumber tf) else if (sr_X3_characterHere (upd tf 1 (xv49_1_X3_readNumber tf)) ch) ≤ 57 then if (sr_X3_characterHere (upd (upd tf 1 (xv49_1_X3_readNumber tf)) 1 (xv49_2_X3_readNumber tf)) ch) < 48 then upd (upd tf 1 (xv49_1_X3_readNumber tf)) 1 (xv49_2_X3_readNumber tf) else if (sr_X3_characterHere (upd (upd tf 1 (xv49_1_X3_readNumber tf)) 1 (xv49_2_X3_readNumber tf)) ch) ≤ 57 then upd (upd (upd tf 1 (xv49_1_X3_readNumber tf)) 1 (xv49_2_X3_readNumber tf)) 1 (xv49_3_X3_readNumber tf) else upd (upd tf 1 (xv49_1_X3_readNumber tf)) 1 (xv49_2_X3_readNumber tf) else upd tf 1 (xv49_1_X3_readNumber tf) else tf
abbrev po_X3_readNumber (cI cC cL : ClassId) (y1 y2 : Nat) (tf ch : Nat → Int32) (hch : ∀ j : Nat, ∃ q : Nat, q < 128 ∧ ch j = nI q) : Int32 → va_W → Prop := fun r w' => sr_X3_readNumber tf ch = r ∧ [oT y1 y2 (sw0_X3_readNumber tf ch), aC cC y2 60 ch] = w'
set_option maxHeartbeats 4000000 in
set_option maxRecDepth 100000 in
theorem ct_X3_readNumber (l : Launch) (D : va_G) (cI cC cL : ClassId) (y1 y2 : Nat) (tf ch : Nat → Int32) (hch : ∀ j : Nat, ∃ q : Nat, q < 128 ∧ ch j = nI q) : ag_MI l yX3_readNumber cX3_readNumber 4 .int 1 20 D cI cC cL [.ref y1] [oT y1 y2 tf, aC cC y2 60 ch] (po_X3_readNumber cI cC cL y1 y2 tf ch hch) := by
  refine ag_MI.of (plainFor_of_name (by decide)) (Nat.le_of_ble_eq_true rfl) ?_
  intro p e s m below meth c hx hb hr hlocks hml hown hmn hG hK A hN hA H locs hP hD hS ls hl
  have hl : lv_has ls 4 [(0, .ref y1)] := hl
  refine lv_iconst (v := (-1)) hx hb dX3_readNumber_0 (by decide) ?_
  refine lv_istore_n (lv' := [(1, .int (-1)), (0, .ref y1)]) hx hb dX3_readNumber_1 rfl hl (by decide) rfl (fun ls hl => ?_)
  refine lv_iconst (v := 0) hx hb dX3_readNumber_2 (by decide) ?_
  refine lv_istore_n (lv' := [(2, .int 0), (1, .int (-1)), (0, .ref y1)]) hx hb dX3_readNumber_3 rfl hl (by decide) rfl (fun ls hl => ?_)
  refine lv_iload_n hx hb dX3_readNumber_4 rfl (lv_at hl 0 rfl) ?_
  refine lv_iconst (v := 3) hx hb dX3_readNumber_5 (by decide) ?_
  refine lv_icmp_ge (tgt := 58) hx hb dX3_readNumber_6 (by decide) (fun h0 => absurd h0 (by decide)) (fun _ => ?_)
  refine lv_aload_n hx hb dX3_readNumber_9 rfl (lv_at hl 2 rfl) ?_
  refine ag_callVi (As := []) (rest := []) hx hb hml hown hG hK hN hA hP hD hS hl (ct_X3_characterHere l D cI cC cL y1 y2 tf ch hch) fX3_characterHere k_500 ag_cut_all (q0 := 0) rfl rfl rfl rfl (Nat.le_of_ble_eq_true rfl) ⟨Nat.le_of_ble_eq_true rfl, Nat.le_of_ble_eq_true rfl⟩ ⟨Nat.zero_le _, Nat.zero_le _⟩ dX3_readNumber_10 (fun r w1 H locs hw hP hD hS => ?_)
  obtain ⟨rfl, hw⟩ := hw
  subst hw
  have hP : va_P D vwCl [oT y1 y2 tf, aC cC y2 60 ch] H := hP
  have hD : va_D A [oT y1 y2 tf, aC cC y2 60 ch] := hD
  refine lv_istore_n (lv' := [(3, .int (sr_X3_characterHere tf ch)), (2, .int 0), (1, .int (-1)), (0, .ref y1)]) hx hb dX3_readNumber_13 rfl hl (by decide) rfl (fun ls hl => ?_)
  refine lv_iload_n hx hb dX3_readNumber_14 rfl (lv_at hl 0 rfl) ?_
  refine lv_bipush (v := 48) hx hb dX3_readNumber_15 (by decide) ?_
  refine lv_icmp_lt (tgt := 26) hx hb dX3_readNumber_17 (by decide) (fun c_17 => ?_) (fun c_17 => ?_)
  · refine lv_iload_n hx hb dX3_readNumber_26 rfl (lv_at hl 2 rfl) ?_
    exact ag_iret [y1, y2] hx hb hr rfl hlocks hP hS rfl rfl ⟨(by unfold sr_X3_readNumber; rw [if_pos c_17]), (by show _ = _; rw [show sw0_X3_readNumber tf ch = tf from (by unfold sw0_X3_readNumber; rw [if_pos c_17])])⟩ dX3_readNumber_27
  · refine lv_iload_n hx hb dX3_readNumber_20 rfl (lv_at hl 0 rfl) ?_
    refine lv_bipush (v := 57) hx hb dX3_readNumber_21 (by decide) ?_
    refine lv_icmp_le (tgt := 28) hx hb dX3_readNumber_23 (by decide) (fun c_23 => ?_) (fun c_23 => ?_)
    · refine lv_iconst (v := 0) hx hb dX3_readNumber_28 (by decide) ?_
      refine lv_iload_n hx hb dX3_readNumber_29 rfl (lv_at hl 2 rfl) ?_
      refine va_mmax hx hb (hml.trans hl.1.symm) hown (hG _ k_511) (hG _ k_297) (hG _ k_36) (hG _ k_298) (Nat.le_of_ble_eq_true rfl) (Nat.le_of_ble_eq_true rfl) (Nat.zero_le _) (Nat.zero_le _) dX3_readNumber_30 ?_
      refine W.eq (g2 := F0 m 33 ls [.int (ag_max 0 (-1))]) rfl ?_
      refine lv_bipush (v := 10) hx hb dX3_readNumber_33 (by decide) ?_
      refine lv_imul hx hb dX3_readNumber_35 ?_
      refine lv_iload_n hx hb dX3_readNumber_36 rfl (lv_at hl 0 rfl) ?_
      refine lv_bipush (v := 48) hx hb dX3_readNumber_37 (by decide) ?_
      refine lv_isub hx hb dX3_readNumber_39 ?_
      refine lv_iadd hx hb dX3_readNumber_40 ?_
      refine lv_istore_n (lv' := [(1, .int (((ag_max 0 (-1)) * 10) + ((sr_X3_characterHere tf ch) - 48))), (3, .int (sr_X3_characterHere tf ch)), (2, .int 0), (0, .ref y1)]) hx hb dX3_readNumber_41 rfl hl (by decide) rfl (fun ls hl => ?_)
      refine lv_aload_n hx hb dX3_readNumber_42 rfl (lv_at hl 3 rfl) ?_
      refine lv_dup hx hb dX3_readNumber_43 rfl ?_
      refine ag_getX3 (v := .int (tf 1)) hx hb hG hown hK hP 0 2 rfl (by decide) k_173 rfl dX3_readNumber_44 ?_
      refine lv_iconst (v := 1) hx hb dX3_readNumber_47 (by decide) ?_
      refine lv_iadd hx hb dX3_readNumber_48 ?_
      refine ag_topn (v := xv49_1_X3_readNumber tf) rfl (fun x49_1 ex49_1 => ?_)
      refine ag_putX3 hx hb hG hown hK hP hD hS 0 2 rfl (by decide) k_173 (by decide) rfl rfl (Nat.le_of_ble_eq_true rfl) dX3_readNumber_49 (fun H locs hP hD hS => ?_)
      have hP : va_P D vwCl [oT y1 y2 (upd tf 1 x49_1), aC cC y2 60 ch] H := hP
      have hD : va_D A [oT y1 y2 (upd tf 1 x49_1), aC cC y2 60 ch] := hD
      refine lv_iinc (v := 1) (lv' := [(2, .int 1), (1, .int (((ag_max 0 (-1)) * 10) + ((sr_X3_characterHere tf ch) - 48))), (3, .int (sr_X3_characterHere tf ch)), (0, .ref y1)]) hx hb dX3_readNumber_52 hl (k := 2) rfl (by decide) (by decide) rfl (fun ls hl => ?_)
      refine lv_goto (tgt := 4) hx hb dX3_readNumber_55 (by decide) ?_
      refine lv_iload_n hx hb dX3_readNumber_4 rfl (lv_at hl 0 rfl) ?_
      refine lv_iconst (v := 3) hx hb dX3_readNumber_5 (by decide) ?_
      refine lv_icmp_ge (tgt := 58) hx hb dX3_readNumber_6 (by decide) (fun h0 => absurd h0 (by decide)) (fun _ => ?_)
      refine lv_aload_n hx hb dX3_readNumber_9 rfl (lv_at hl 3 rfl) ?_
      refine ag_callVi (As := []) (rest := []) hx hb hml hown hG hK hN hA hP hD hS hl (ct_X3_characterHere l D cI cC cL y1 y2 (upd tf 1 x49_1) ch hch) fX3_characterHere k_500 ag_cut_all (q0 := 0) rfl rfl rfl rfl (Nat.le_of_ble_eq_true rfl) ⟨Nat.le_of_ble_eq_true rfl, Nat.le_of_ble_eq_true rfl⟩ ⟨Nat.zero_le _, Nat.zero_le _⟩ dX3_readNumber_10 (fun r w1 H locs hw hP hD hS => ?_)
      obtain ⟨rfl, hw⟩ := hw
      subst hw
      have hP : va_P D vwCl [oT y1 y2 (upd tf 1 x49_1), aC cC y2 60 ch] H := hP
      have hD : va_D A [oT y1 y2 (upd tf 1 x49_1), aC cC y2 60 ch] := hD
      refine lv_istore_n (lv' := [(3, .int (sr_X3_characterHere (upd tf 1 x49_1) ch)), (2, .int 1), (1, .int (((ag_max 0 (-1)) * 10) + ((sr_X3_characterHere tf ch) - 48))), (0, .ref y1)]) hx hb dX3_readNumber_13 rfl hl (by decide) rfl (fun ls hl => ?_)
      refine lv_iload_n hx hb dX3_readNumber_14 rfl (lv_at hl 0 rfl) ?_
      refine lv_bipush (v := 48) hx hb dX3_readNumber_15 (by decide) ?_
      refine lv_icmp_lt (tgt := 26) hx hb dX3_readNumber_17 (by decide) (fun c_17x => ?_) (fun c_17x => ?_)
      · refine lv_iload_n hx hb dX3_readNumber_26 rfl (lv_at hl 2 rfl) ?_
        revert hP; revert hD; revert hS; revert hl
        subst ex49_1
        intro hl hS hD hP
        exact ag_iret [y1, y2] hx hb hr rfl hlocks hP hS rfl rfl ⟨(by unfold sr_X3_readNumber; rw [if_neg c_17, if_pos c_23, if_pos c_17x]), (by show _ = _; rw [show sw0_X3_readNumber tf ch = upd tf 1 (xv49_1_X3_readNumber tf) from (by unfold sw0_X3_readNumber; rw [if_neg c_17, if_pos c_23, if_pos c_17x])])⟩ dX3_readNumber_27
      · refine lv_iload_n hx hb dX3_readNumber_20 rfl (lv_at hl 0 rfl) ?_
        refine lv_bipush (v := 57) hx hb dX3_readNumber_21 (by decide) ?_
        refine lv_icmp_le (tgt := 28) hx hb dX3_readNumber_23 (by decide) (fun c_23x => ?_) (fun c_23x => ?_)
        · refine lv_iconst (v := 0) hx hb dX3_readNumber_28 (by decide) ?_
          refine lv_iload_n hx hb dX3_readNumber_29 rfl (lv_at hl 2 rfl) ?_
          refine va_mmax hx hb (hml.trans hl.1.symm) hown (hG _ k_511) (hG _ k_297) (hG _ k_36) (hG _ k_298) (Nat.le_of_ble_eq_true rfl) (Nat.le_of_ble_eq_true rfl) (Nat.zero_le _) (Nat.zero_le _) dX3_readNumber_30 ?_
          refine W.eq (g2 := F0 m 33 ls [.int (ag_max 0 (((ag_max 0 (-1)) * 10) + ((sr_X3_characterHere tf ch) - 48)))]) rfl ?_
          refine lv_bipush (v := 10) hx hb dX3_readNumber_33 (by decide) ?_
          refine lv_imul hx hb dX3_readNumber_35 ?_
          refine lv_iload_n hx hb dX3_readNumber_36 rfl (lv_at hl 0 rfl) ?_
          refine lv_bipush (v := 48) hx hb dX3_readNumber_37 (by decide) ?_
          refine lv_isub hx hb dX3_readNumber_39 ?_
          refine lv_iadd hx hb dX3_readNumber_40 ?_
          refine lv_istore_n (lv' := [(1, .int (((ag_max 0 (((ag_max 0 (-1)) * 10) + ((sr_X3_characterHere tf ch) - 48))) * 10) + ((sr_X3_characterHere (upd tf 1 x49_1) ch) - 48))), (3, .int (sr_X3_characterHere (upd tf 1 x49_1) ch)), (2, .int 1), (0, .ref y1)]) hx hb dX3_readNumber_41 rfl hl (by decide) rfl (fun ls hl => ?_)
          refine lv_aload_n hx hb dX3_readNumber_42 rfl (lv_at hl 3 rfl) ?_
          refine lv_dup hx hb dX3_readNumber_43 rfl ?_
          refine ag_getX3 (v := .int x49_1) hx hb hG hown hK hP 0 2 rfl (by decide) k_173 rfl dX3_readNumber_44 ?_
          refine lv_iconst (v := 1) hx hb dX3_readNumber_47 (by decide) ?_
          refine lv_iadd hx hb dX3_readNumber_48 ?_
          refine ag_topn (v := xv49_2_X3_readNumber tf) (by rw [← ex49_1]; rfl) (fun x49_2 ex49_2 => ?_)
          refine ag_putX3 hx hb hG hown hK hP hD hS 0 2 rfl (by decide) k_173 (by decide) rfl rfl (Nat.le_of_ble_eq_true rfl) dX3_readNumber_49 (fun H locs hP hD hS => ?_)
          have hP : va_P D vwCl [oT y1 y2 (upd (upd tf 1 x49_1) 1 x49_2), aC cC y2 60 ch] H := hP
          have hD : va_D A [oT y1 y2 (upd (upd tf 1 x49_1) 1 x49_2), aC cC y2 60 ch] := hD
          refine lv_iinc (v := 2) (lv' := [(2, .int 2), (1, .int (((ag_max 0 (((ag_max 0 (-1)) * 10) + ((sr_X3_characterHere tf ch) - 48))) * 10) + ((sr_X3_characterHere (upd tf 1 x49_1) ch) - 48))), (3, .int (sr_X3_characterHere (upd tf 1 x49_1) ch)), (0, .ref y1)]) hx hb dX3_readNumber_52 hl (k := 2) rfl (by decide) (by decide) rfl (fun ls hl => ?_)
          refine lv_goto (tgt := 4) hx hb dX3_readNumber_55 (by decide) ?_
          refine lv_iload_n hx hb dX3_readNumber_4 rfl (lv_at hl 0 rfl) ?_
          refine lv_iconst (v := 3) hx hb dX3_readNumber_5 (by decide) ?_
          refine lv_icmp_ge (tgt := 58) hx hb dX3_readNumber_6 (by decide) (fun h0 => absurd h0 (by decide)) (fun _ => ?_)
          refine lv_aload_n hx hb dX3_readNumber_9 rfl (lv_at hl 3 rfl) ?_
          refine ag_callVi (As := []) (rest := []) hx hb hml hown hG hK hN hA hP hD hS hl (ct_X3_characterHere l D cI cC cL y1 y2 (upd (upd tf 1 x49_1) 1 x49_2) ch hch) fX3_characterHere k_500 ag_cut_all (q0 := 0) rfl rfl rfl rfl (Nat.le_of_ble_eq_true rfl) ⟨Nat.le_of_ble_eq_true rfl, Nat.le_of_ble_eq_true rfl⟩ ⟨Nat.zero_le _, Nat.zero_le _⟩ dX3_readNumber_10 (fun r w1 H locs hw hP hD hS => ?_)
          obtain ⟨rfl, hw⟩ := hw
          subst hw
          have hP : va_P D vwCl [oT y1 y2 (upd (upd tf 1 x49_1) 1 x49_2), aC cC y2 60 ch] H := hP
          have hD : va_D A [oT y1 y2 (upd (upd tf 1 x49_1) 1 x49_2), aC cC y2 60 ch] := hD
          refine lv_istore_n (lv' := [(3, .int (sr_X3_characterHere (upd (upd tf 1 x49_1) 1 x49_2) ch)), (2, .int 2), (1, .int (((ag_max 0 (((ag_max 0 (-1)) * 10) + ((sr_X3_characterHere tf ch) - 48))) * 10) + ((sr_X3_characterHere (upd tf 1 x49_1) ch) - 48))), (0, .ref y1)]) hx hb dX3_readNumber_13 rfl hl (by decide) rfl (fun ls hl => ?_)
          refine lv_iload_n hx hb dX3_readNumber_14 rfl (lv_at hl 0 rfl) ?_
          refine lv_bipush (v := 48) hx hb dX3_readNumber_15 (by decide) ?_
          refine lv_icmp_lt (tgt := 26) hx hb dX3_readNumber_17 (by decide) (fun c_17xx => ?_) (fun c_17xx => ?_)
          · refine lv_iload_n hx hb dX3_readNumber_26 rfl (lv_at hl 2 rfl) ?_
            revert hP; revert hD; revert hS; revert hl
            subst ex49_2
            subst ex49_1
            intro hl hS hD hP
            exact ag_iret [y1, y2] hx hb hr rfl hlocks hP hS rfl rfl ⟨(by unfold sr_X3_readNumber; rw [if_neg c_17, if_pos c_23, if_neg c_17x, if_pos c_23x, if_pos c_17xx]), (by show _ = _; rw [show sw0_X3_readNumber tf ch = upd (upd tf 1 (xv49_1_X3_readNumber tf)) 1 (xv49_2_X3_readNumber tf) from (by unfold sw0_X3_readNumber; rw [if_neg c_17, if_pos c_23, if_neg c_17x, if_pos c_23x, if_pos c_17xx])])⟩ dX3_readNumber_27
          · refine lv_iload_n hx hb dX3_readNumber_20 rfl (lv_at hl 0 rfl) ?_
            refine lv_bipush (v := 57) hx hb dX3_readNumber_21 (by decide) ?_
            refine lv_icmp_le (tgt := 28) hx hb dX3_readNumber_23 (by decide) (fun c_23xx => ?_) (fun c_23xx => ?_)
            · refine lv_iconst (v := 0) hx hb dX3_readNumber_28 (by decide) ?_
              refine lv_iload_n hx hb dX3_readNumber_29 rfl (lv_at hl 2 rfl) ?_
              refine va_mmax hx hb (hml.trans hl.1.symm) hown (hG _ k_511) (hG _ k_297) (hG _ k_36) (hG _ k_298) (Nat.le_of_ble_eq_true rfl) (Nat.le_of_ble_eq_true rfl) (Nat.zero_le _) (Nat.zero_le _) dX3_readNumber_30 ?_
              refine W.eq (g2 := F0 m 33 ls [.int (ag_max 0 (((ag_max 0 (((ag_max 0 (-1)) * 10) + ((sr_X3_characterHere tf ch) - 48))) * 10) + ((sr_X3_characterHere (upd tf 1 x49_1) ch) - 48)))]) rfl ?_
              refine lv_bipush (v := 10) hx hb dX3_readNumber_33 (by decide) ?_
              refine lv_imul hx hb dX3_readNumber_35 ?_
              refine lv_iload_n hx hb dX3_readNumber_36 rfl (lv_at hl 0 rfl) ?_
              refine lv_bipush (v := 48) hx hb dX3_readNumber_37 (by decide) ?_
              refine lv_isub hx hb dX3_readNumber_39 ?_
              refine lv_iadd hx hb dX3_readNumber_40 ?_
              refine lv_istore_n (lv' := [(1, .int (((ag_max 0 (((ag_max 0 (((ag_max 0 (-1)) * 10) + ((sr_X3_characterHere tf ch) - 48))) * 10) + ((sr_X3_characterHere (upd tf 1 x49_1) ch) - 48))) * 10) + ((sr_X3_characterHere (upd (upd tf 1 x49_1) 1 x49_2) ch) - 48))), (3, .int (sr_X3_characterHere (upd (upd tf 1 x49_1) 1 x49_2) ch)), (2, .int 2), (0, .ref y1)]) hx hb dX3_readNumber_41 rfl hl (by decide) rfl (fun ls hl => ?_)
              refine lv_aload_n hx hb dX3_readNumber_42 rfl (lv_at hl 3 rfl) ?_
              refine lv_dup hx hb dX3_readNumber_43 rfl ?_
              refine ag_getX3 (v := .int x49_2) hx hb hG hown hK hP 0 2 rfl (by decide) k_173 rfl dX3_readNumber_44 ?_
              refine lv_iconst (v := 1) hx hb dX3_readNumber_47 (by decide) ?_
              refine lv_iadd hx hb dX3_readNumber_48 ?_
              refine ag_topn (v := xv49_3_X3_readNumber tf) (by rw [← ex49_2]; rfl) (fun x49_3 ex49_3 => ?_)
              refine ag_putX3 hx hb hG hown hK hP hD hS 0 2 rfl (by decide) k_173 (by decide) rfl rfl (Nat.le_of_ble_eq_true rfl) dX3_readNumber_49 (fun H locs hP hD hS => ?_)
              have hP : va_P D vwCl [oT y1 y2 (upd (upd (upd tf 1 x49_1) 1 x49_2) 1 x49_3), aC cC y2 60 ch] H := hP
              have hD : va_D A [oT y1 y2 (upd (upd (upd tf 1 x49_1) 1 x49_2) 1 x49_3), aC cC y2 60 ch] := hD
              refine lv_iinc (v := 3) (lv' := [(2, .int 3), (1, .int (((ag_max 0 (((ag_max 0 (((ag_max 0 (-1)) * 10) + ((sr_X3_characterHere tf ch) - 48))) * 10) + ((sr_X3_characterHere (upd tf 1 x49_1) ch) - 48))) * 10) + ((sr_X3_characterHere (upd (upd tf 1 x49_1) 1 x49_2) ch) - 48))), (3, .int (sr_X3_characterHere (upd (upd tf 1 x49_1) 1 x49_2) ch)), (0, .ref y1)]) hx hb dX3_readNumber_52 hl (k := 2) rfl (by decide) (by decide) rfl (fun ls hl => ?_)
              refine lv_goto (tgt := 4) hx hb dX3_readNumber_55 (by decide) ?_
              refine lv_iload_n hx hb dX3_readNumber_4 rfl (lv_at hl 0 rfl) ?_
              refine lv_iconst (v := 3) hx hb dX3_readNumber_5 (by decide) ?_
              refine lv_icmp_ge (tgt := 58) hx hb dX3_readNumber_6 (by decide) (fun _ => ?_) (fun h0 => absurd (by decide) h0)
              refine lv_iload_n hx hb dX3_readNumber_58 rfl (lv_at hl 1 rfl) ?_
              revert hP; revert hD; revert hS; revert hl
              subst ex49_3
              subst ex49_2
              subst ex49_1
              intro hl hS hD hP
              exact ag_iret [y1, y2] hx hb hr rfl hlocks hP hS rfl rfl ⟨(by unfold sr_X3_readNumber; rw [if_neg c_17, if_pos c_23, if_neg c_17x, if_pos c_23x, if_neg c_17xx, if_pos c_23xx]), (by show _ = _; rw [show sw0_X3_readNumber tf ch = upd (upd (upd tf 1 (xv49_1_X3_readNumber tf)) 1 (xv49_2_X3_readNumber tf)) 1 (xv49_3_X3_readNumber tf) from (by unfold sw0_X3_readNumber; rw [if_neg c_17, if_pos c_23, if_neg c_17x, if_pos c_23x, if_neg c_17xx, if_pos c_23xx])])⟩ dX3_readNumber_59
            · refine lv_iload_n hx hb dX3_readNumber_26 rfl (lv_at hl 2 rfl) ?_
              revert hP; revert hD; revert hS; revert hl
              subst ex49_2
              subst ex49_1
              intro hl hS hD hP
              exact ag_iret [y1, y2] hx hb hr rfl hlocks hP hS rfl rfl ⟨(by unfold sr_X3_readNumber; rw [if_neg c_17, if_pos c_23, if_neg c_17x, if_pos c_23x, if_neg c_17xx, if_neg c_23xx]), (by show _ = _; rw [show sw0_X3_readNumber tf ch = upd (upd tf 1 (xv49_1_X3_readNumber tf)) 1 (xv49_2_X3_readNumber tf) from (by unfold sw0_X3_readNumber; rw [if_neg c_17, if_pos c_23, if_neg c_17x, if_pos c_23x, if_neg c_17xx, if_neg c_23xx])])⟩ dX3_readNumber_27
        · refine lv_iload_n hx hb dX3_readNumber_26 rfl (lv_at hl 2 rfl) ?_
          revert hP; revert hD; revert hS; revert hl
          subst ex49_1
          intro hl hS hD hP
          exact ag_iret [y1, y2] hx hb hr rfl hlocks hP hS rfl rfl ⟨(by unfold sr_X3_readNumber; rw [if_neg c_17, if_pos c_23, if_neg c_17x, if_neg c_23x]), (by show _ = _; rw [show sw0_X3_readNumber tf ch = upd tf 1 (xv49_1_X3_readNumber tf) from (by unfold sw0_X3_readNumber; rw [if_neg c_17, if_pos c_23, if_neg c_17x, if_neg c_23x])])⟩ dX3_readNumber_27
    · refine lv_iload_n hx hb dX3_readNumber_26 rfl (lv_at hl 2 rfl) ?_
      exact ag_iret [y1, y2] hx hb hr rfl hlocks hP hS rfl rfl ⟨(by unfold sr_X3_readNumber; rw [if_neg c_17, if_neg c_23]), (by show _ = _; rw [show sw0_X3_readNumber tf ch = tf from (by unfold sw0_X3_readNumber; rw [if_neg c_17, if_neg c_23])])⟩ dX3_readNumber_27
def xv5_1_X3_readOrder (tf : Nat → Int32) (ch : Nat → Int32) : Int32 := sr_X3_characterHere tf ch
def xv37_2_X3_readOrder (tf : Nat → Int32) : Int32 := (tf 1) + 1
def gv42_3_X3_readOrder (tf : Nat → Int32) (ch : Nat → Int32) : Nat → Int32 := sw0_X3_readNumber (upd (upd (upd (upd tf 2 (xv5_1_X3_readOrder tf ch)) 3 0) 4 0) 1 (xv37_2_X3_readOrder tf)) ch
def xv45_4_X3_readOrder (tf : Nat → Int32) (ch : Nat → Int32) : Int32 := sr_X3_readNumber (upd (upd (upd (upd tf 2 (xv5_1_X3_readOrder tf ch)) 3 0) 4 0) 1 (xv37_2_X3_readOrder tf)) ch
def gv95_5_X3_readOrder (tf : Nat → Int32) (ch : Nat → Int32) : Nat → Int32 := sw0_X3_skip (upd (gv42_3_X3_readOrder tf ch) 3 (xv45_4_X3_readOrder tf ch)) ch 59
def gv69_6_X3_readOrder (tf : Nat → Int32) (ch : Nat → Int32) : Nat → Int32 := sw0_X3_skip (upd (gv42_3_X3_readOrder tf ch) 3 (xv45_4_X3_readOrder tf ch)) ch 44
def gv79_7_X3_readOrder (tf : Nat → Int32) (ch : Nat → Int32) : Nat → Int32 := sw0_X3_readNumber (gv69_6_X3_readOrder tf ch) ch
def xv82_8_X3_readOrder (tf : Nat → Int32) (ch : Nat → Int32) : Int32 := sr_X3_readNumber (gv69_6_X3_readOrder tf ch) ch
def gv95_9_X3_readOrder (tf : Nat → Int32) (ch : Nat → Int32) : Nat → Int32 := sw0_X3_skip (upd (gv79_7_X3_readOrder tf ch) 4 (xv82_8_X3_readOrder tf ch)) ch 59
def sr_X3_readOrder (tf : Nat → Int32) (ch : Nat → Int32) : Int32 := if (sr_X3_isKind (xv5_1_X3_readOrder tf ch)) = 0 then 0 else if 0 ≤ (xv45_4_X3_readOrder tf ch) then if ((gv42_3_X3_readOrder tf ch) 2) = 98 then if (sr_X3_skip (upd (gv42_3_X3_readOrder tf ch) 3 (xv45_4_X3_readOrder tf ch)) ch 44) = 0 then 0 else if (xv82_8_X3_readOrder tf ch) < 0 then 0 else if (sr_X3_skip (upd (gv79_7_X3_readOrder tf ch) 4 (xv82_8_X3_readOrder tf ch)) ch 59) = 0 then 0 else 1 else if ((gv42_3_X3_readOrder tf ch) 4) < 0 then 0 else if (sr_X3_skip (upd (gv42_3_X3_readOrder tf ch) 3 (xv45_4_X3_readOrder tf ch)) ch 59) = 0 then 0 else 1 else 0
def sw0_X3_readOrder (tf : Nat → Int32) (ch : Nat → Int32) : Nat → Int32 := if (sr_X3_isKind (xv5_1_X3_readOrder tf ch)) = 0 then upd (upd (upd tf 2 (xv5_1_X3_readOrder tf ch)) 3 0) 4 0 else if 0 ≤ (xv45_4_X3_readOrder tf ch) then if ((gv42_3_X3_readOrder tf ch) 2) = 98 then if (sr_X3_skip (upd (gv42_3_X3_readOrder tf ch) 3 (xv45_4_X3_readOrder tf ch)) ch 44) = 0 then (gv69_6_X3_readOrder tf ch) else if (xv82_8_X3_readOrder tf ch) < 0 then upd (gv79_7_X3_readOrder tf ch) 4 (xv82_8_X3_readOrder tf ch) else (gv95_9_X3_readOrder tf ch) else if ((gv42_3_X3_readOrder tf ch) 4) < 0 then upd (gv42_3_X3_readOrder tf ch) 3 (xv45_4_X3_readOrder tf ch) else (gv95_5_X3_readOrder tf ch) else upd (gv42_3_X3_readOrder tf ch) 3 (xv45_4_X3_readOrder tf ch)
abbrev po_X3_readOrder (cI cC cL : ClassId) (y1 y2 : Nat) (tf ch : Nat → Int32) (hch : ∀ j : Nat, ∃ q : Nat, q < 128 ∧ ch j = nI q) : Int32 → va_W → Prop := fun r w' => sr_X3_readOrder tf ch = r ∧ [oT y1 y2 (sw0_X3_readOrder tf ch), aC cC y2 60 ch] = w'
set_option maxHeartbeats 4000000 in
set_option maxRecDepth 100000 in
theorem ct_X3_readOrder (l : Launch) (D : va_G) (cI cC cL : ClassId) (y1 y2 : Nat) (tf ch : Nat → Int32) (hch : ∀ j : Nat, ∃ q : Nat, q < 128 ∧ ch j = nI q) : ag_MI l yX3_readOrder cX3_readOrder 1 .boolean 2 43 D cI cC cL [.ref y1] [oT y1 y2 tf, aC cC y2 60 ch] (po_X3_readOrder cI cC cL y1 y2 tf ch hch) := by
  refine ag_MI.of (plainFor_of_name (by decide)) (Nat.le_of_ble_eq_true rfl) ?_
  intro p e s m below meth c hx hb hr hlocks hml hown hmn hG hK A hN hA H locs hP hD hS ls hl
  have hl : lv_has ls 1 [(0, .ref y1)] := hl
  refine lv_aload_n hx hb dX3_readOrder_0 rfl (lv_at hl 0 rfl) ?_
  refine lv_aload_n hx hb dX3_readOrder_1 rfl (lv_at hl 0 rfl) ?_
  refine ag_callVi (As := []) (rest := [.ref y1]) hx hb hml hown hG hK hN hA hP hD hS hl (ct_X3_characterHere l D cI cC cL y1 y2 tf ch hch) fX3_characterHere k_500 ag_cut_all (q0 := 0) rfl rfl rfl rfl (Nat.le_of_ble_eq_true rfl) ⟨Nat.le_of_ble_eq_true rfl, Nat.le_of_ble_eq_true rfl⟩ ⟨Nat.zero_le _, Nat.zero_le _⟩ dX3_readOrder_2 (fun r w1 H locs hw hP hD hS => ?_)
  obtain ⟨rfl, hw⟩ := hw
  subst hw
  have hP : va_P D vwCl [oT y1 y2 tf, aC cC y2 60 ch] H := hP
  have hD : va_D A [oT y1 y2 tf, aC cC y2 60 ch] := hD
  refine ag_topn (v := xv5_1_X3_readOrder tf ch) rfl (fun x5_1 ex5_1 => ?_)
  refine ag_putX3 hx hb hG hown hK hP hD hS 0 3 rfl (by decide) k_175 (by decide) (by rw [← ex5_1]; exact (ag_chr (chH tf ch hch)).1) (by rw [← ex5_1]; exact (ag_chr (chH tf ch hch)).2) (Nat.le_of_ble_eq_true rfl) dX3_readOrder_5 (fun H locs hP hD hS => ?_)
  have hP : va_P D vwCl [oT y1 y2 (upd tf 2 x5_1), aC cC y2 60 ch] H := hP
  have hD : va_D A [oT y1 y2 (upd tf 2 x5_1), aC cC y2 60 ch] := hD
  refine lv_aload_n hx hb dX3_readOrder_8 rfl (lv_at hl 0 rfl) ?_
  refine lv_iconst (v := 0) hx hb dX3_readOrder_9 (by decide) ?_
  refine ag_putX3 hx hb hG hown hK hP hD hS 0 4 rfl (by decide) k_176 (by decide) rfl rfl (Nat.le_of_ble_eq_true rfl) dX3_readOrder_10 (fun H locs hP hD hS => ?_)
  have hP : va_P D vwCl [oT y1 y2 (upd (upd tf 2 x5_1) 3 0), aC cC y2 60 ch] H := hP
  have hD : va_D A [oT y1 y2 (upd (upd tf 2 x5_1) 3 0), aC cC y2 60 ch] := hD
  refine lv_aload_n hx hb dX3_readOrder_13 rfl (lv_at hl 0 rfl) ?_
  refine lv_iconst (v := 0) hx hb dX3_readOrder_14 (by decide) ?_
  refine ag_putX3 hx hb hG hown hK hP hD hS 0 5 rfl (by decide) k_178 (by decide) rfl rfl (Nat.le_of_ble_eq_true rfl) dX3_readOrder_15 (fun H locs hP hD hS => ?_)
  have hP : va_P D vwCl [oT y1 y2 (upd (upd (upd tf 2 x5_1) 3 0) 4 0), aC cC y2 60 ch] H := hP
  have hD : va_D A [oT y1 y2 (upd (upd (upd tf 2 x5_1) 3 0) 4 0), aC cC y2 60 ch] := hD
  refine lv_aload_n hx hb dX3_readOrder_18 rfl (lv_at hl 0 rfl) ?_
  refine ag_getX3 (v := .int x5_1) hx hb hG hown hK hP 0 3 rfl (by decide) k_175 rfl dX3_readOrder_19 ?_
  refine ag_callSi (As := [.int x5_1]) (rest := []) hx hb hml hown hG hK hN hA hP hD hS hl (ct_X3_isKind l D cI cC cL x5_1) fX3_isKind k_504 ag_cut_0 rfl (Nat.le_of_ble_eq_true rfl) ⟨Nat.le_of_ble_eq_true rfl, Nat.le_of_ble_eq_true rfl⟩ ⟨Nat.zero_le _, Nat.zero_le _⟩ dX3_readOrder_22 (fun r w1 H locs hw hP hD hS => ?_)
  obtain ⟨rfl, hw⟩ := hw
  subst hw
  have hP : va_P D vwCl [oT y1 y2 (upd (upd (upd tf 2 x5_1) 3 0) 4 0), aC cC y2 60 ch] H := hP
  have hD : va_D A [oT y1 y2 (upd (upd (upd tf 2 x5_1) 3 0) 4 0), aC cC y2 60 ch] := hD
  refine lv_if_ne (tgt := 30) hx hb dX3_readOrder_25 (by decide) (fun c_25 => ?_) (fun c_25 => ?_)
  · refine lv_aload_n hx hb dX3_readOrder_30 rfl (lv_at hl 0 rfl) ?_
    refine lv_dup hx hb dX3_readOrder_31 rfl ?_
    refine ag_getX3 (v := .int (tf 1)) hx hb hG hown hK hP 0 2 rfl (by decide) k_173 rfl dX3_readOrder_32 ?_
    refine lv_iconst (v := 1) hx hb dX3_readOrder_35 (by decide) ?_
    refine lv_iadd hx hb dX3_readOrder_36 ?_
    refine ag_topn (v := xv37_2_X3_readOrder tf) rfl (fun x37_2 ex37_2 => ?_)
    refine ag_putX3 hx hb hG hown hK hP hD hS 0 2 rfl (by decide) k_173 (by decide) rfl rfl (Nat.le_of_ble_eq_true rfl) dX3_readOrder_37 (fun H locs hP hD hS => ?_)
    have hP : va_P D vwCl [oT y1 y2 (upd (upd (upd (upd tf 2 x5_1) 3 0) 4 0) 1 x37_2), aC cC y2 60 ch] H := hP
    have hD : va_D A [oT y1 y2 (upd (upd (upd (upd tf 2 x5_1) 3 0) 4 0) 1 x37_2), aC cC y2 60 ch] := hD
    refine lv_aload_n hx hb dX3_readOrder_40 rfl (lv_at hl 0 rfl) ?_
    refine lv_aload_n hx hb dX3_readOrder_41 rfl (lv_at hl 0 rfl) ?_
    refine ag_callVi (As := []) (rest := [.ref y1]) hx hb hml hown hG hK hN hA hP hD hS hl (ct_X3_readNumber l D cI cC cL y1 y2 (upd (upd (upd (upd tf 2 x5_1) 3 0) 4 0) 1 x37_2) ch hch) fX3_readNumber k_507 ag_cut_all (q0 := 0) rfl rfl rfl rfl (Nat.le_of_ble_eq_true rfl) ⟨Nat.le_of_ble_eq_true rfl, Nat.le_of_ble_eq_true rfl⟩ ⟨Nat.zero_le _, Nat.zero_le _⟩ dX3_readOrder_42 (fun r w1 H locs hw hP hD hS => ?_)
    obtain ⟨rfl, hw⟩ := hw
    generalize eg42_3 : sw0_X3_readNumber (upd (upd (upd (upd tf 2 x5_1) 3 0) 4 0) 1 x37_2) ch = g42_3 at hw
    replace eg42_3 : gv42_3_X3_readOrder tf ch = g42_3 := (by rw [← eg42_3, ← ex5_1, ← ex37_2]; rfl)
    subst hw
    have hP : va_P D vwCl [oT y1 y2 g42_3, aC cC y2 60 ch] H := hP
    have hD : va_D A [oT y1 y2 g42_3, aC cC y2 60 ch] := hD
    refine ag_topn (v := xv45_4_X3_readOrder tf ch) (by rw [← ex5_1, ← ex37_2]; rfl) (fun x45_4 ex45_4 => ?_)
    refine ag_putX3 hx hb hG hown hK hP hD hS 0 4 rfl (by decide) k_176 (by decide) rfl rfl (Nat.le_of_ble_eq_true rfl) dX3_readOrder_45 (fun H locs hP hD hS => ?_)
    have hP : va_P D vwCl [oT y1 y2 (upd g42_3 3 x45_4), aC cC y2 60 ch] H := hP
    have hD : va_D A [oT y1 y2 (upd g42_3 3 x45_4), aC cC y2 60 ch] := hD
    refine lv_aload_n hx hb dX3_readOrder_48 rfl (lv_at hl 0 rfl) ?_
    refine ag_getX3 (v := .int x45_4) hx hb hG hown hK hP 0 4 rfl (by decide) k_176 rfl dX3_readOrder_49 ?_
    refine lv_if_ge (tgt := 57) hx hb dX3_readOrder_52 (by decide) (fun c_52 => ?_) (fun c_52 => ?_)
    · refine lv_aload_n hx hb dX3_readOrder_57 rfl (lv_at hl 0 rfl) ?_
      refine ag_getX3 (v := .int (g42_3 2)) hx hb hG hown hK hP 0 3 rfl (by decide) k_175 rfl dX3_readOrder_58 ?_
      refine lv_bipush (v := 98) hx hb dX3_readOrder_61 (by decide) ?_
      refine lv_icmp_ne (tgt := 85) hx hb dX3_readOrder_63 (by decide) (fun c_63 => ?_) (fun c_63 => ?_)
      · refine lv_aload_n hx hb dX3_readOrder_85 rfl (lv_at hl 0 rfl) ?_
        refine ag_getX3 (v := .int (g42_3 4)) hx hb hG hown hK hP 0 5 rfl (by decide) k_178 rfl dX3_readOrder_86 ?_
        refine lv_if_lt (tgt := 105) hx hb dX3_readOrder_89 (by decide) (fun c_89 => ?_) (fun c_89 => ?_)
        · refine lv_iconst (v := 0) hx hb dX3_readOrder_105 (by decide) ?_
          revert hP; revert hD; revert hS; revert hl
          subst ex45_4
          subst eg42_3
          subst ex37_2
          subst ex5_1
          intro hl hS hD hP
          exact ag_iret [y1, y2] hx hb hr (by decide) hlocks hP hS rfl rfl ⟨(by unfold sr_X3_readOrder; rw [if_neg c_25, if_pos c_52, if_neg c_63, if_pos c_89]), (by show _ = _; rw [show sw0_X3_readOrder tf ch = upd (gv42_3_X3_readOrder tf ch) 3 (xv45_4_X3_readOrder tf ch) from (by unfold sw0_X3_readOrder; rw [if_neg c_25, if_pos c_52, if_neg c_63, if_pos c_89])])⟩ dX3_readOrder_106
        · refine lv_aload_n hx hb dX3_readOrder_92 rfl (lv_at hl 0 rfl) ?_
          refine lv_bipush (v := 59) hx hb dX3_readOrder_93 (by decide) ?_
          refine ag_callVi (As := [.int 59]) (rest := []) hx hb hml hown hG hK hN hA hP hD hS hl (ct_X3_skip l D cI cC cL y1 y2 (upd g42_3 3 x45_4) ch 59 hch) fX3_skip k_512 ag_cut_all (q0 := 0) rfl rfl rfl rfl (Nat.le_of_ble_eq_true rfl) ⟨Nat.le_of_ble_eq_true rfl, Nat.le_of_ble_eq_true rfl⟩ ⟨Nat.zero_le _, Nat.zero_le _⟩ dX3_readOrder_95 (fun r w1 H locs hw hP hD hS => ?_)
          obtain ⟨rfl, hw⟩ := hw
          generalize eg95_5 : sw0_X3_skip (upd g42_3 3 x45_4) ch 59 = g95_5 at hw
          replace eg95_5 : gv95_5_X3_readOrder tf ch = g95_5 := (by rw [← eg95_5, ← eg42_3, ← ex45_4]; rfl)
          subst hw
          have hP : va_P D vwCl [oT y1 y2 g95_5, aC cC y2 60 ch] H := hP
          have hD : va_D A [oT y1 y2 g95_5, aC cC y2 60 ch] := hD
          refine lv_if_eq (tgt := 105) hx hb dX3_readOrder_98 (by decide) (fun c_98 => ?_) (fun c_98 => ?_)
          · refine lv_iconst (v := 0) hx hb dX3_readOrder_105 (by decide) ?_
            revert hP; revert hD; revert hS; revert hl
            subst eg95_5
            subst ex45_4
            subst eg42_3
            subst ex37_2
            subst ex5_1
            intro hl hS hD hP
            exact ag_iret [y1, y2] hx hb hr (by decide) hlocks hP hS rfl rfl ⟨(by unfold sr_X3_readOrder; rw [if_neg c_25, if_pos c_52, if_neg c_63, if_neg c_89, if_pos c_98]), (by show _ = _; rw [show sw0_X3_readOrder tf ch = (gv95_5_X3_readOrder tf ch) from (by unfold sw0_X3_readOrder; rw [if_neg c_25, if_pos c_52, if_neg c_63, if_neg c_89])])⟩ dX3_readOrder_106
          · refine lv_iconst (v := 1) hx hb dX3_readOrder_101 (by decide) ?_
            refine lv_goto (tgt := 106) hx hb dX3_readOrder_102 (by decide) ?_
            revert hP; revert hD; revert hS; revert hl
            subst eg95_5
            subst ex45_4
            subst eg42_3
            subst ex37_2
            subst ex5_1
            intro hl hS hD hP
            exact ag_iret [y1, y2] hx hb hr (by decide) hlocks hP hS rfl rfl ⟨(by unfold sr_X3_readOrder; rw [if_neg c_25, if_pos c_52, if_neg c_63, if_neg c_89, if_neg c_98]), (by show _ = _; rw [show sw0_X3_readOrder tf ch = (gv95_5_X3_readOrder tf ch) from (by unfold sw0_X3_readOrder; rw [if_neg c_25, if_pos c_52, if_neg c_63, if_neg c_89])])⟩ dX3_readOrder_106
      · refine lv_aload_n hx hb dX3_readOrder_66 rfl (lv_at hl 0 rfl) ?_
        refine lv_bipush (v := 44) hx hb dX3_readOrder_67 (by decide) ?_
        refine ag_callVi (As := [.int 44]) (rest := []) hx hb hml hown hG hK hN hA hP hD hS hl (ct_X3_skip l D cI cC cL y1 y2 (upd g42_3 3 x45_4) ch 44 hch) fX3_skip k_512 ag_cut_all (q0 := 0) rfl rfl rfl rfl (Nat.le_of_ble_eq_true rfl) ⟨Nat.le_of_ble_eq_true rfl, Nat.le_of_ble_eq_true rfl⟩ ⟨Nat.zero_le _, Nat.zero_le _⟩ dX3_readOrder_69 (fun r w1 H locs hw hP hD hS => ?_)
        obtain ⟨rfl, hw⟩ := hw
        generalize eg69_6 : sw0_X3_skip (upd g42_3 3 x45_4) ch 44 = g69_6 at hw
        replace eg69_6 : gv69_6_X3_readOrder tf ch = g69_6 := (by rw [← eg69_6, ← eg42_3, ← ex45_4]; rfl)
        subst hw
        have hP : va_P D vwCl [oT y1 y2 g69_6, aC cC y2 60 ch] H := hP
        have hD : va_D A [oT y1 y2 g69_6, aC cC y2 60 ch] := hD
        refine lv_if_ne (tgt := 77) hx hb dX3_readOrder_72 (by decide) (fun c_72 => ?_) (fun c_72 => ?_)
        · refine lv_aload_n hx hb dX3_readOrder_77 rfl (lv_at hl 0 rfl) ?_
          refine lv_aload_n hx hb dX3_readOrder_78 rfl (lv_at hl 0 rfl) ?_
          refine ag_callVi (As := []) (rest := [.ref y1]) hx hb hml hown hG hK hN hA hP hD hS hl (ct_X3_readNumber l D cI cC cL y1 y2 g69_6 ch hch) fX3_readNumber k_507 ag_cut_all (q0 := 0) rfl rfl rfl rfl (Nat.le_of_ble_eq_true rfl) ⟨Nat.le_of_ble_eq_true rfl, Nat.le_of_ble_eq_true rfl⟩ ⟨Nat.zero_le _, Nat.zero_le _⟩ dX3_readOrder_79 (fun r w1 H locs hw hP hD hS => ?_)
          obtain ⟨rfl, hw⟩ := hw
          generalize eg79_7 : sw0_X3_readNumber g69_6 ch = g79_7 at hw
          replace eg79_7 : gv79_7_X3_readOrder tf ch = g79_7 := (by rw [← eg79_7, ← eg69_6]; rfl)
          subst hw
          have hP : va_P D vwCl [oT y1 y2 g79_7, aC cC y2 60 ch] H := hP
          have hD : va_D A [oT y1 y2 g79_7, aC cC y2 60 ch] := hD
          refine ag_topn (v := xv82_8_X3_readOrder tf ch) (by rw [← eg69_6]; rfl) (fun x82_8 ex82_8 => ?_)
          refine ag_putX3 hx hb hG hown hK hP hD hS 0 5 rfl (by decide) k_178 (by decide) rfl rfl (Nat.le_of_ble_eq_true rfl) dX3_readOrder_82 (fun H locs hP hD hS => ?_)
          have hP : va_P D vwCl [oT y1 y2 (upd g79_7 4 x82_8), aC cC y2 60 ch] H := hP
          have hD : va_D A [oT y1 y2 (upd g79_7 4 x82_8), aC cC y2 60 ch] := hD
          refine lv_aload_n hx hb dX3_readOrder_85 rfl (lv_at hl 0 rfl) ?_
          refine ag_getX3 (v := .int x82_8) hx hb hG hown hK hP 0 5 rfl (by decide) k_178 rfl dX3_readOrder_86 ?_
          refine lv_if_lt (tgt := 105) hx hb dX3_readOrder_89 (by decide) (fun c_89 => ?_) (fun c_89 => ?_)
          · refine lv_iconst (v := 0) hx hb dX3_readOrder_105 (by decide) ?_
            revert hP; revert hD; revert hS; revert hl
            subst ex82_8
            subst eg79_7
            subst eg69_6
            subst ex45_4
            subst eg42_3
            subst ex37_2
            subst ex5_1
            intro hl hS hD hP
            exact ag_iret [y1, y2] hx hb hr (by decide) hlocks hP hS rfl rfl ⟨(by unfold sr_X3_readOrder; rw [if_neg c_25, if_pos c_52, if_pos c_63, if_neg c_72, if_pos c_89]), (by show _ = _; rw [show sw0_X3_readOrder tf ch = upd (gv79_7_X3_readOrder tf ch) 4 (xv82_8_X3_readOrder tf ch) from (by unfold sw0_X3_readOrder; rw [if_neg c_25, if_pos c_52, if_pos c_63, if_neg c_72, if_pos c_89])])⟩ dX3_readOrder_106
          · refine lv_aload_n hx hb dX3_readOrder_92 rfl (lv_at hl 0 rfl) ?_
            refine lv_bipush (v := 59) hx hb dX3_readOrder_93 (by decide) ?_
            refine ag_callVi (As := [.int 59]) (rest := []) hx hb hml hown hG hK hN hA hP hD hS hl (ct_X3_skip l D cI cC cL y1 y2 (upd g79_7 4 x82_8) ch 59 hch) fX3_skip k_512 ag_cut_all (q0 := 0) rfl rfl rfl rfl (Nat.le_of_ble_eq_true rfl) ⟨Nat.le_of_ble_eq_true rfl, Nat.le_of_ble_eq_true rfl⟩ ⟨Nat.zero_le _, Nat.zero_le _⟩ dX3_readOrder_95 (fun r w1 H locs hw hP hD hS => ?_)
            obtain ⟨rfl, hw⟩ := hw
            generalize eg95_9 : sw0_X3_skip (upd g79_7 4 x82_8) ch 59 = g95_9 at hw
            replace eg95_9 : gv95_9_X3_readOrder tf ch = g95_9 := (by rw [← eg95_9, ← eg79_7, ← ex82_8]; rfl)
            subst hw
            have hP : va_P D vwCl [oT y1 y2 g95_9, aC cC y2 60 ch] H := hP
            have hD : va_D A [oT y1 y2 g95_9, aC cC y2 60 ch] := hD
            refine lv_if_eq (tgt := 105) hx hb dX3_readOrder_98 (by decide) (fun c_98 => ?_) (fun c_98 => ?_)
            · refine lv_iconst (v := 0) hx hb dX3_readOrder_105 (by decide) ?_
              revert hP; revert hD; revert hS; revert hl
              subst eg95_9
              subst ex82_8
              subst eg79_7
              subst eg69_6
              subst ex45_4
              subst eg42_3
              subst ex37_2
              subst ex5_1
              intro hl hS hD hP
              exact ag_iret [y1, y2] hx hb hr (by decide) hlocks hP hS rfl rfl ⟨(by unfold sr_X3_readOrder; rw [if_neg c_25, if_pos c_52, if_pos c_63, if_neg c_72, if_neg c_89, if_pos c_98]), (by show _ = _; rw [show sw0_X3_readOrder tf ch = (gv95_9_X3_readOrder tf ch) from (by unfold sw0_X3_readOrder; rw [if_neg c_25, if_pos c_52, if_pos c_63, if_neg c_72, if_neg c_89])])⟩ dX3_readOrder_106
            · refine lv_iconst (v := 1) hx hb dX3_readOrder_101 (by decide) ?_
              refine lv_goto (tgt := 106) hx hb dX3_readOrder_102 (by decide) ?_
              revert hP; revert hD; revert hS; revert hl
              subst eg95_9
              subst ex82_8
              subst eg79_7
              subst eg69_6
              subst ex45_4
              subst eg42_3
              subst ex37_2
              subst ex5_1
              intro hl hS hD hP
              exact ag_iret [y1, y2] hx hb hr (by decide) hlocks hP hS rfl rfl ⟨(by unfold sr_X3_readOrder; rw [if_neg c_25, if_pos c_52, if_pos c_63, if_neg c_72, if_neg c_89, if_neg c_98]), (by show _ = _; rw [show sw0_X3_readOrder tf ch = (gv95_9_X3_readOrder tf ch) from (by unfold sw0_X3_readOrder; rw [if_neg c_25, if_pos c_52, if_pos c_63, if_neg c_72, if_neg c_89])])⟩ dX3_readOrder_106
        · refine lv_iconst (v := 0) hx hb dX3_readOrder_75 (by decide) ?_
          revert hP; revert hD; revert hS; revert hl
          subst eg69_6
          subst ex45_4
          subst eg42_3
          subst ex37_2
          subst ex5_1
          intro hl hS hD hP
          exact ag_iret [y1, y2] hx hb hr (by decide) hlocks hP hS rfl rfl ⟨(by unfold sr_X3_readOrder; rw [if_neg c_25, if_pos c_52, if_pos c_63, if_pos c_72]), (by show _ = _; rw [show sw0_X3_readOrder tf ch = (gv69_6_X3_readOrder tf ch) from (by unfold sw0_X3_readOrder; rw [if_neg c_25, if_pos c_52, if_pos c_63, if_pos c_72])])⟩ dX3_readOrder_76
    · refine lv_iconst (v := 0) hx hb dX3_readOrder_55 (by decide) ?_
      revert hP; revert hD; revert hS; revert hl
      subst ex45_4
      subst eg42_3
      subst ex37_2
      subst ex5_1
      intro hl hS hD hP
      exact ag_iret [y1, y2] hx hb hr (by decide) hlocks hP hS rfl rfl ⟨(by unfold sr_X3_readOrder; rw [if_neg c_25, if_neg c_52]), (by show _ = _; rw [show sw0_X3_readOrder tf ch = upd (gv42_3_X3_readOrder tf ch) 3 (xv45_4_X3_readOrder tf ch) from (by unfold sw0_X3_readOrder; rw [if_neg c_25, if_neg c_52])])⟩ dX3_readOrder_56
  · refine lv_iconst (v := 0) hx hb dX3_readOrder_28 (by decide) ?_
    revert hP; revert hD; revert hS; revert hl
    subst ex5_1
    intro hl hS hD hP
    exact ag_iret [y1, y2] hx hb hr (by decide) hlocks hP hS rfl rfl ⟨(by unfold sr_X3_readOrder; rw [if_pos c_25]), (by show _ = _; rw [show sw0_X3_readOrder tf ch = upd (upd (upd tf 2 (xv5_1_X3_readOrder tf ch)) 3 0) 4 0 from (by unfold sw0_X3_readOrder; rw [if_pos c_25])])⟩ dX3_readOrder_29
end
section
/-! orders, the history -/
def gv102_1_X2_obey (tf : Nat → Int32) (f : Nat → Int32) : Nat → Int32 := sw0_X1_setBirds f (tf 3) (tf 4)
def gv61_2_X2_obey (tf : Nat → Int32) (f : Nat → Int32) : Nat → Int32 := sw0_X1_openGates f (tf 3)
def gv79_3_X2_obey (tf : Nat → Int32) (f : Nat → Int32) : Nat → Int32 := sw0_X1_setPump f (tf 3)
def gv89_4_X2_obey (tf : Nat → Int32) (f : Nat → Int32) : Nat → Int32 := sw0_X1_setPump f (-(tf 3))
def gv70_5_X2_obey (tf : Nat → Int32) (f : Nat → Int32) : Nat → Int32 := sw0_X1_openTurbines f (tf 3)
def gv112_6_X2_obey (tf : Nat → Int32) (f : Nat → Int32) (se : Nat → Int32) (to : Nat → Int32) (re : Nat → Int32) (kf : Nat → Int32) : Nat → Int32 := sw0_X1_runTicks f se to re kf (tf 3)
def gv112_7_X2_obey (tf : Nat → Int32) (f : Nat → Int32) (se : Nat → Int32) (to : Nat → Int32) (re : Nat → Int32) (kf : Nat → Int32) : Nat → Int32 := sw2_X1_runTicks f se to re kf (tf 3)
def gv112_8_X2_obey (tf : Nat → Int32) (f : Nat → Int32) (se : Nat → Int32) (to : Nat → Int32) (re : Nat → Int32) (kf : Nat → Int32) : Nat → Int32 := sw3_X1_runTicks f se to re kf (tf 3)
def gv112_9_X2_obey (tf : Nat → Int32) (f : Nat → Int32) (se : Nat → Int32) (to : Nat → Int32) (re : Nat → Int32) (kf : Nat → Int32) : Nat → Int32 := sw4_X1_runTicks f se to re kf (tf 3)
def sr_X2_obey (tf : Nat → Int32) (f : Nat → Int32) (se : Nat → Int32) (to : Nat → Int32) (re : Nat → Int32) (kf : Nat → Int32) : Int32 := if (tf 2) = 98 then sr_X1_setBirds (tf 3) (tf 4) else if (tf 2) = 103 then sr_X1_openGates f (tf 3) else if (tf 2) = 112 then sr_X1_setPump f (tf 3) else if (tf 2) = 113 then sr_X1_setPump f (-(tf 3)) else if (tf 2) = 116 then sr_X1_openTurbines f (tf 3) else sr_X1_runTicks f se to re kf (tf 3)
def sw2_X2_obey (tf : Nat → Int32) (f : Nat → Int32) (se : Nat → Int32) (to : Nat → Int32) (re : Nat → Int32) (kf : Nat → Int32) : Nat → Int32 := if (tf 2) = 98 then (gv102_1_X2_obey tf f) else if (tf 2) = 103 then (gv61_2_X2_obey tf f) else if (tf 2) = 112 then (gv79_3_X2_obey tf f) else if (tf 2) = 113 then (gv89_4_X2_obey tf f) else if (tf 2) = 116 then (gv70_5_X2_obey tf f) else (gv112_6_X2_obey tf f se to re kf)
def sw4_X2_obey (tf : Nat → Int32) (f : Nat → Int32) (se : Nat → Int32) (to : Nat → Int32) (re : Nat → Int32) (kf : Nat → Int32) : Nat → Int32 := if (tf 2) = 98 then to else if (tf 2) = 103 then to else if (tf 2) = 112 then to else if (tf 2) = 113 then to else if (tf 2) = 116 then to else (gv112_7_X2_obey tf f se to re kf)
def sw5_X2_obey (tf : Nat → Int32) (f : Nat → Int32) (se : Nat → Int32) (to : Nat → Int32) (re : Nat → Int32) (kf : Nat → Int32) : Nat → Int32 := if (tf 2) = 98 then re else if (tf 2) = 103 then re else if (tf 2) = 112 then re else if (tf 2) = 113 then re else if (tf 2) = 116 then re else (gv112_8_X2_obey tf f se to re kf)
def sw6_X2_obey (tf : Nat → Int32) (f : Nat → Int32) (se : Nat → Int32) (to : Nat → Int32) (re : Nat → Int32) (kf : Nat → Int32) : Nat → Int32 := if (tf 2) = 98 then kf else if (tf 2) = 103 then kf else if (tf 2) = 112 then kf else if (tf 2) = 113 then kf else if (tf 2) = 116 then kf else (gv112_9_X2_obey tf f se to re kf)
abbrev po_X2_obey (cI cC cL : ClassId) (y1 h t1 y2 h1 h2 h3 : Nat) (tf ch f se to re kf : Nat → Int32) : Int32 → va_W → Prop := fun r w' => sr_X2_obey tf f se to re kf = r ∧ [oT y1 y2 tf, aC cC y2 60 ch, oL h h1 h2 h3 (sw2_X2_obey tf f se to re kf), aI cI h1 3 se, aI cI h2 7 (sw4_X2_obey tf f se to re kf), aI cI h3 60 (sw5_X2_obey tf f se to re kf), oK t1 (sw6_X2_obey tf f se to re kf)] = w'
set_option maxHeartbeats 4000000 in
set_option maxRecDepth 100000 in
theorem ct_X2_obey (l : Launch) (D : va_G) (cI cC cL : ClassId) (y1 h t1 y2 h1 h2 h3 : Nat) (tf ch f se to re kf : Nat → Int32) : ag_MI l yX2_obey cX2_obey 3 .int 5 110 D cI cC cL [.ref y1, .ref h, .ref t1] [oT y1 y2 tf, aC cC y2 60 ch, oL h h1 h2 h3 f, aI cI h1 3 se, aI cI h2 7 to, aI cI h3 60 re, oK t1 kf] (po_X2_obey cI cC cL y1 h t1 y2 h1 h2 h3 tf ch f se to re kf) := by
  refine ag_MI.of (plainFor_of_name (by decide)) (Nat.le_of_ble_eq_true rfl) ?_
  intro p e s m below meth c hx hb hr hlocks hml hown hmn hG hK A hN hA H locs hP hD hS ls hl
  have hl : lv_has ls 3 [(0, .ref y1), (1, .ref h), (2, .ref t1)] := hl
  refine lv_aload_n hx hb dX2_obey_0 rfl (lv_at hl 0 rfl) ?_
  refine ag_getX3 (v := .int (tf 2)) hx hb hG hown hK hP 0 3 rfl (by decide) k_174 rfl dX2_obey_1 ?_
  by_cases c_4_98 : (tf 2) = 98
  · refine lv_lookup (off := 89) (tgt := 93) hx hb dX2_obey_4 (by decide) (by rw [c_4_98]; rfl) (by decide) ?_
    refine lv_aload_n hx hb dX2_obey_93 rfl (lv_at hl 1 rfl) ?_
    refine lv_aload_n hx hb dX2_obey_94 rfl (lv_at hl 0 rfl) ?_
    refine ag_getX3 (v := .int (tf 3)) hx hb hG hown hK hP 0 4 rfl (by decide) k_177 rfl dX2_obey_95 ?_
    refine lv_aload_n hx hb dX2_obey_98 rfl (lv_at hl 0 rfl) ?_
    refine ag_getX3 (v := .int (tf 4)) hx hb hG hown hK hP 0 5 rfl (by decide) k_179 rfl dX2_obey_99 ?_
    refine ag_callVi (As := [.int (tf 3), .int (tf 4)]) (rest := []) hx hb hml hown hG hK hN hA hP hD hS hl (ct_X1_setBirds l D cI cC cL h h1 h2 h3 f se to re (tf 3) (tf 4)) fX1_setBirds k_522 (ag_cut_1 [oT y1 y2 tf, aC cC y2 60 ch] [oK t1 kf] rfl) (q0 := 2) rfl rfl rfl rfl (Nat.le_of_ble_eq_true rfl) ⟨Nat.le_of_ble_eq_true rfl, Nat.le_of_ble_eq_true rfl⟩ ⟨Nat.zero_le _, Nat.zero_le _⟩ dX2_obey_102 (fun r w1 H locs hw hP hD hS => ?_)
    obtain ⟨rfl, hw⟩ := hw
    generalize eg102_1 : sw0_X1_setBirds f (tf 3) (tf 4) = g102_1 at hw
    replace eg102_1 : gv102_1_X2_obey tf f = g102_1 := (by rw [← eg102_1]; rfl)
    subst hw
    have hP : va_P D vwCl [oT y1 y2 tf, aC cC y2 60 ch, oL h h1 h2 h3 g102_1, aI cI h1 3 se, aI cI h2 7 to, aI cI h3 60 re, oK t1 kf] H := hP
    have hD : va_D A [oT y1 y2 tf, aC cC y2 60 ch, oL h h1 h2 h3 g102_1, aI cI h1 3 se, aI cI h2 7 to, aI cI h3 60 re, oK t1 kf] := hD
    revert hP; revert hD; revert hS; revert hl
    subst eg102_1
    intro hl hS hD hP
    exact ag_iret [y1, y2, h, h1, h2, h3, t1] hx hb hr rfl hlocks hP hS rfl rfl ⟨(by unfold sr_X2_obey; rw [if_pos c_4_98]), (by show _ = _; rw [show sw2_X2_obey tf f se to re kf = (gv102_1_X2_obey tf f) from (by unfold sw2_X2_obey; rw [if_pos c_4_98]), show sw4_X2_obey tf f se to re kf = to from (by unfold sw4_X2_obey; rw [if_pos c_4_98]), show sw5_X2_obey tf f se to re kf = re from (by unfold sw5_X2_obey; rw [if_pos c_4_98]), show sw6_X2_obey tf f se to re kf = kf from (by unfold sw6_X2_obey; rw [if_pos c_4_98])])⟩ dX2_obey_105
  · by_cases c_4_103 : (tf 2) = 103
    · refine lv_lookup (off := 52) (tgt := 56) hx hb dX2_obey_4 (by decide) (by rw [c_4_103]; rfl) (by decide) ?_
      refine lv_aload_n hx hb dX2_obey_56 rfl (lv_at hl 1 rfl) ?_
      refine lv_aload_n hx hb dX2_obey_57 rfl (lv_at hl 0 rfl) ?_
      refine ag_getX3 (v := .int (tf 3)) hx hb hG hown hK hP 0 4 rfl (by decide) k_177 rfl dX2_obey_58 ?_
      refine ag_callVi (As := [.int (tf 3)]) (rest := []) hx hb hml hown hG hK hN hA hP hD hS hl (ct_X1_openGates l D cI cC cL h h1 h2 h3 f se to re (tf 3)) fX1_openGates k_519 (ag_cut_1 [oT y1 y2 tf, aC cC y2 60 ch] [oK t1 kf] rfl) (q0 := 2) rfl rfl rfl rfl (Nat.le_of_ble_eq_true rfl) ⟨Nat.le_of_ble_eq_true rfl, Nat.le_of_ble_eq_true rfl⟩ ⟨Nat.zero_le _, Nat.zero_le _⟩ dX2_obey_61 (fun r w1 H locs hw hP hD hS => ?_)
      obtain ⟨rfl, hw⟩ := hw
      generalize eg61_2 : sw0_X1_openGates f (tf 3) = g61_2 at hw
      replace eg61_2 : gv61_2_X2_obey tf f = g61_2 := (by rw [← eg61_2]; rfl)
      subst hw
      have hP : va_P D vwCl [oT y1 y2 tf, aC cC y2 60 ch, oL h h1 h2 h3 g61_2, aI cI h1 3 se, aI cI h2 7 to, aI cI h3 60 re, oK t1 kf] H := hP
      have hD : va_D A [oT y1 y2 tf, aC cC y2 60 ch, oL h h1 h2 h3 g61_2, aI cI h1 3 se, aI cI h2 7 to, aI cI h3 60 re, oK t1 kf] := hD
      revert hP; revert hD; revert hS; revert hl
      subst eg61_2
      intro hl hS hD hP
      exact ag_iret [y1, y2, h, h1, h2, h3, t1] hx hb hr rfl hlocks hP hS rfl rfl ⟨(by unfold sr_X2_obey; rw [if_neg c_4_98, if_pos c_4_103]), (by show _ = _; rw [show sw2_X2_obey tf f se to re kf = (gv61_2_X2_obey tf f) from (by unfold sw2_X2_obey; rw [if_neg c_4_98, if_pos c_4_103]), show sw4_X2_obey tf f se to re kf = to from (by unfold sw4_X2_obey; rw [if_neg c_4_98, if_pos c_4_103]), show sw5_X2_obey tf f se to re kf = re from (by unfold sw5_X2_obey; rw [if_neg c_4_98, if_pos c_4_103]), show sw6_X2_obey tf f se to re kf = kf from (by unfold sw6_X2_obey; rw [if_neg c_4_98, if_pos c_4_103])])⟩ dX2_obey_64
    · by_cases c_4_112 : (tf 2) = 112
      · refine lv_lookup (off := 70) (tgt := 74) hx hb dX2_obey_4 (by decide) (by rw [c_4_112]; rfl) (by decide) ?_
        refine lv_aload_n hx hb dX2_obey_74 rfl (lv_at hl 1 rfl) ?_
        refine lv_aload_n hx hb dX2_obey_75 rfl (lv_at hl 0 rfl) ?_
        refine ag_getX3 (v := .int (tf 3)) hx hb hG hown hK hP 0 4 rfl (by decide) k_177 rfl dX2_obey_76 ?_
        refine ag_callVi (As := [.int (tf 3)]) (rest := []) hx hb hml hown hG hK hN hA hP hD hS hl (ct_X1_setPump l D cI cC cL h h1 h2 h3 f se to re (tf 3)) fX1_setPump k_521 (ag_cut_1 [oT y1 y2 tf, aC cC y2 60 ch] [oK t1 kf] rfl) (q0 := 2) rfl rfl rfl rfl (Nat.le_of_ble_eq_true rfl) ⟨Nat.le_of_ble_eq_true rfl, Nat.le_of_ble_eq_true rfl⟩ ⟨Nat.zero_le _, Nat.zero_le _⟩ dX2_obey_79 (fun r w1 H locs hw hP hD hS => ?_)
        obtain ⟨rfl, hw⟩ := hw
        generalize eg79_3 : sw0_X1_setPump f (tf 3) = g79_3 at hw
        replace eg79_3 : gv79_3_X2_obey tf f = g79_3 := (by rw [← eg79_3]; rfl)
        subst hw
        have hP : va_P D vwCl [oT y1 y2 tf, aC cC y2 60 ch, oL h h1 h2 h3 g79_3, aI cI h1 3 se, aI cI h2 7 to, aI cI h3 60 re, oK t1 kf] H := hP
        have hD : va_D A [oT y1 y2 tf, aC cC y2 60 ch, oL h h1 h2 h3 g79_3, aI cI h1 3 se, aI cI h2 7 to, aI cI h3 60 re, oK t1 kf] := hD
        revert hP; revert hD; revert hS; revert hl
        subst eg79_3
        intro hl hS hD hP
        exact ag_iret [y1, y2, h, h1, h2, h3, t1] hx hb hr rfl hlocks hP hS rfl rfl ⟨(by unfold sr_X2_obey; rw [if_neg c_4_98, if_neg c_4_103, if_pos c_4_112]), (by show _ = _; rw [show sw2_X2_obey tf f se to re kf = (gv79_3_X2_obey tf f) from (by unfold sw2_X2_obey; rw [if_neg c_4_98, if_neg c_4_103, if_pos c_4_112]), show sw4_X2_obey tf f se to re kf = to from (by unfold sw4_X2_obey; rw [if_neg c_4_98, if_neg c_4_103, if_pos c_4_112]), show sw5_X2_obey tf f se to re kf = re from (by unfold sw5_X2_obey; rw [if_neg c_4_98, if_neg c_4_103, if_pos c_4_112]), show sw6_X2_obey tf f se to re kf = kf from (by unfold sw6_X2_obey; rw [if_neg c_4_98, if_neg c_4_103, if_pos c_4_112])])⟩ dX2_obey_82
      · by_cases c_4_113 : (tf 2) = 113
        · refine lv_lookup (off := 79) (tgt := 83) hx hb dX2_obey_4 (by decide) (by rw [c_4_113]; rfl) (by decide) ?_
          refine lv_aload_n hx hb dX2_obey_83 rfl (lv_at hl 1 rfl) ?_
          refine lv_aload_n hx hb dX2_obey_84 rfl (lv_at hl 0 rfl) ?_
          refine ag_getX3 (v := .int (tf 3)) hx hb hG hown hK hP 0 4 rfl (by decide) k_177 rfl dX2_obey_85 ?_
          refine lv_ineg hx hb dX2_obey_88 ?_
          refine ag_callVi (As := [.int (-(tf 3))]) (rest := []) hx hb hml hown hG hK hN hA hP hD hS hl (ct_X1_setPump l D cI cC cL h h1 h2 h3 f se to re (-(tf 3))) fX1_setPump k_521 (ag_cut_1 [oT y1 y2 tf, aC cC y2 60 ch] [oK t1 kf] rfl) (q0 := 2) rfl rfl rfl rfl (Nat.le_of_ble_eq_true rfl) ⟨Nat.le_of_ble_eq_true rfl, Nat.le_of_ble_eq_true rfl⟩ ⟨Nat.zero_le _, Nat.zero_le _⟩ dX2_obey_89 (fun r w1 H locs hw hP hD hS => ?_)
          obtain ⟨rfl, hw⟩ := hw
          generalize eg89_4 : sw0_X1_setPump f (-(tf 3)) = g89_4 at hw
          replace eg89_4 : gv89_4_X2_obey tf f = g89_4 := (by rw [← eg89_4]; rfl)
          subst hw
          have hP : va_P D vwCl [oT y1 y2 tf, aC cC y2 60 ch, oL h h1 h2 h3 g89_4, aI cI h1 3 se, aI cI h2 7 to, aI cI h3 60 re, oK t1 kf] H := hP
          have hD : va_D A [oT y1 y2 tf, aC cC y2 60 ch, oL h h1 h2 h3 g89_4, aI cI h1 3 se, aI cI h2 7 to, aI cI h3 60 re, oK t1 kf] := hD
          revert hP; revert hD; revert hS; revert hl
          subst eg89_4
          intro hl hS hD hP
          exact ag_iret [y1, y2, h, h1, h2, h3, t1] hx hb hr rfl hlocks hP hS rfl rfl ⟨(by unfold sr_X2_obey; rw [if_neg c_4_98, if_neg c_4_103, if_neg c_4_112, if_pos c_4_113]), (by show _ = _; rw [show sw2_X2_obey tf f se to re kf = (gv89_4_X2_obey tf f) from (by unfold sw2_X2_obey; rw [if_neg c_4_98, if_neg c_4_103, if_neg c_4_112, if_pos c_4_113]), show sw4_X2_obey tf f se to re kf = to from (by unfold sw4_X2_obey; rw [if_neg c_4_98, if_neg c_4_103, if_neg c_4_112, if_pos c_4_113]), show sw5_X2_obey tf f se to re kf = re from (by unfold sw5_X2_obey; rw [if_neg c_4_98, if_neg c_4_103, if_neg c_4_112, if_pos c_4_113]), show sw6_X2_obey tf f se to re kf = kf from (by unfold sw6_X2_obey; rw [if_neg c_4_98, if_neg c_4_103, if_neg c_4_112, if_pos c_4_113])])⟩ dX2_obey_92
        · by_cases c_4_116 : (tf 2) = 116
          · refine lv_lookup (off := 61) (tgt := 65) hx hb dX2_obey_4 (by decide) (by rw [c_4_116]; rfl) (by decide) ?_
            refine lv_aload_n hx hb dX2_obey_65 rfl (lv_at hl 1 rfl) ?_
            refine lv_aload_n hx hb dX2_obey_66 rfl (lv_at hl 0 rfl) ?_
            refine ag_getX3 (v := .int (tf 3)) hx hb hG hown hK hP 0 4 rfl (by decide) k_177 rfl dX2_obey_67 ?_
            refine ag_callVi (As := [.int (tf 3)]) (rest := []) hx hb hml hown hG hK hN hA hP hD hS hl (ct_X1_openTurbines l D cI cC cL h h1 h2 h3 f se to re (tf 3)) fX1_openTurbines k_520 (ag_cut_1 [oT y1 y2 tf, aC cC y2 60 ch] [oK t1 kf] rfl) (q0 := 2) rfl rfl rfl rfl (Nat.le_of_ble_eq_true rfl) ⟨Nat.le_of_ble_eq_true rfl, Nat.le_of_ble_eq_true rfl⟩ ⟨Nat.zero_le _, Nat.zero_le _⟩ dX2_obey_70 (fun r w1 H locs hw hP hD hS => ?_)
            obtain ⟨rfl, hw⟩ := hw
            generalize eg70_5 : sw0_X1_openTurbines f (tf 3) = g70_5 at hw
            replace eg70_5 : gv70_5_X2_obey tf f = g70_5 := (by rw [← eg70_5]; rfl)
            subst hw
            have hP : va_P D vwCl [oT y1 y2 tf, aC cC y2 60 ch, oL h h1 h2 h3 g70_5, aI cI h1 3 se, aI cI h2 7 to, aI cI h3 60 re, oK t1 kf] H := hP
            have hD : va_D A [oT y1 y2 tf, aC cC y2 60 ch, oL h h1 h2 h3 g70_5, aI cI h1 3 se, aI cI h2 7 to, aI cI h3 60 re, oK t1 kf] := hD
            revert hP; revert hD; revert hS; revert hl
            subst eg70_5
            intro hl hS hD hP
            exact ag_iret [y1, y2, h, h1, h2, h3, t1] hx hb hr rfl hlocks hP hS rfl rfl ⟨(by unfold sr_X2_obey; rw [if_neg c_4_98, if_neg c_4_103, if_neg c_4_112, if_neg c_4_113, if_pos c_4_116]), (by show _ = _; rw [show sw2_X2_obey tf f se to re kf = (gv70_5_X2_obey tf f) from (by unfold sw2_X2_obey; rw [if_neg c_4_98, if_neg c_4_103, if_neg c_4_112, if_neg c_4_113, if_pos c_4_116]), show sw4_X2_obey tf f se to re kf = to from (by unfold sw4_X2_obey; rw [if_neg c_4_98, if_neg c_4_103, if_neg c_4_112, if_neg c_4_113, if_pos c_4_116]), show sw5_X2_obey tf f se to re kf = re from (by unfold sw5_X2_obey; rw [if_neg c_4_98, if_neg c_4_103, if_neg c_4_112, if_neg c_4_113, if_pos c_4_116]), show sw6_X2_obey tf f se to re kf = kf from (by unfold sw6_X2_obey; rw [if_neg c_4_98, if_neg c_4_103, if_neg c_4_112, if_neg c_4_113, if_pos c_4_116])])⟩ dX2_obey_73
          · refine lv_lookup (off := 102) (tgt := 106) hx hb dX2_obey_4 (by decide) (by show Op.lookupswitch.offset [(98, 89), (103, 52), (112, 70), (113, 79), (116, 61)] 102 (tf 2).toInt = _; rw [lv_osw (a := 98) c_4_98 rfl, lv_osw (a := 103) c_4_103 rfl, lv_osw (a := 112) c_4_112 rfl, lv_osw (a := 113) c_4_113 rfl, lv_osw (a := 116) c_4_116 rfl]; rfl) (by decide) ?_
            refine lv_aload_n hx hb dX2_obey_106 rfl (lv_at hl 1 rfl) ?_
            refine lv_aload_n hx hb dX2_obey_107 rfl (lv_at hl 0 rfl) ?_
            refine ag_getX3 (v := .int (tf 3)) hx hb hG hown hK hP 0 4 rfl (by decide) k_177 rfl dX2_obey_108 ?_
            refine lv_aload_n hx hb dX2_obey_111 rfl (lv_at hl 2 rfl) ?_
            refine ag_callVi (As := [.int (tf 3), .ref t1]) (rest := []) hx hb hml hown hG hK hN hA hP hD hS hl (ct_X1_runTicks l D cI cC cL h t1 h1 h2 h3 f se to re kf (tf 3)) fX1_runTicks k_523 (ag_cut_1 [oT y1 y2 tf, aC cC y2 60 ch] [] rfl) (q0 := 2) rfl rfl rfl rfl (Nat.le_of_ble_eq_true rfl) ⟨Nat.le_of_ble_eq_true rfl, Nat.le_of_ble_eq_true rfl⟩ ⟨Nat.zero_le _, Nat.zero_le _⟩ dX2_obey_112 (fun r w1 H locs hw hP hD hS => ?_)
            obtain ⟨rfl, hw⟩ := hw
            generalize eg112_6 : sw0_X1_runTicks f se to re kf (tf 3) = g112_6 at hw
            replace eg112_6 : gv112_6_X2_obey tf f se to re kf = g112_6 := (by rw [← eg112_6]; rfl)
            generalize eg112_7 : sw2_X1_runTicks f se to re kf (tf 3) = g112_7 at hw
            replace eg112_7 : gv112_7_X2_obey tf f se to re kf = g112_7 := (by rw [← eg112_7]; rfl)
            generalize eg112_8 : sw3_X1_runTicks f se to re kf (tf 3) = g112_8 at hw
            replace eg112_8 : gv112_8_X2_obey tf f se to re kf = g112_8 := (by rw [← eg112_8]; rfl)
            generalize eg112_9 : sw4_X1_runTicks f se to re kf (tf 3) = g112_9 at hw
            replace eg112_9 : gv112_9_X2_obey tf f se to re kf = g112_9 := (by rw [← eg112_9]; rfl)
            subst hw
            have hP : va_P D vwCl [oT y1 y2 tf, aC cC y2 60 ch, oL h h1 h2 h3 g112_6, aI cI h1 3 se, aI cI h2 7 g112_7, aI cI h3 60 g112_8, oK t1 g112_9] H := hP
            have hD : va_D A [oT y1 y2 tf, aC cC y2 60 ch, oL h h1 h2 h3 g112_6, aI cI h1 3 se, aI cI h2 7 g112_7, aI cI h3 60 g112_8, oK t1 g112_9] := hD
            revert hP; revert hD; revert hS; revert hl
            subst eg112_9
            subst eg112_8
            subst eg112_7
            subst eg112_6
            intro hl hS hD hP
            exact ag_iret [y1, y2, h, h1, h2, h3, t1] hx hb hr rfl hlocks hP hS rfl rfl ⟨(by unfold sr_X2_obey; rw [if_neg c_4_98, if_neg c_4_103, if_neg c_4_112, if_neg c_4_113, if_neg c_4_116]), (by show _ = _; rw [show sw2_X2_obey tf f se to re kf = (gv112_6_X2_obey tf f se to re kf) from (by unfold sw2_X2_obey; rw [if_neg c_4_98, if_neg c_4_103, if_neg c_4_112, if_neg c_4_113, if_neg c_4_116]), show sw4_X2_obey tf f se to re kf = (gv112_7_X2_obey tf f se to re kf) from (by unfold sw4_X2_obey; rw [if_neg c_4_98, if_neg c_4_103, if_neg c_4_112, if_neg c_4_113, if_neg c_4_116]), show sw5_X2_obey tf f se to re kf = (gv112_8_X2_obey tf f se to re kf) from (by unfold sw5_X2_obey; rw [if_neg c_4_98, if_neg c_4_103, if_neg c_4_112, if_neg c_4_113, if_neg c_4_116]), show sw6_X2_obey tf f se to re kf = (gv112_9_X2_obey tf f se to re kf) from (by unfold sw6_X2_obey; rw [if_neg c_4_98, if_neg c_4_103, if_neg c_4_112, if_neg c_4_113, if_neg c_4_116])])⟩ dX2_obey_115
abbrev plu : Type := (Nat → Int32) × (Nat → Int32) × (Nat → Int32) × (Nat → Int32) × (Nat → Int32) × (Nat → Int32)
def plT (ch : Nat → Int32) (x : plu) : Nat → Int32 := sw0_X3_readOrder x.2.1 ch
def plR (se ch : Nat → Int32) (x : plu) : Int32 := sr_X2_obey (plT ch x) x.2.2.1 se x.2.2.2.1 x.2.2.2.2.1 x.2.2.2.2.2
def plO (se ch : Nat → Int32) (x : plu) : ltu := (sw2_X2_obey (plT ch x) x.2.2.1 se x.2.2.2.1 x.2.2.2.2.1 x.2.2.2.2.2, sw4_X2_obey (plT ch x) x.2.2.1 se x.2.2.2.1 x.2.2.2.2.1 x.2.2.2.2.2, sw5_X2_obey (plT ch x) x.2.2.1 se x.2.2.2.1 x.2.2.2.2.1 x.2.2.2.2.2, sw6_X2_obey (plT ch x) x.2.2.1 se x.2.2.2.1 x.2.2.2.2.1 x.2.2.2.2.2)
/-- a text's orders from a place on, so many at most: the player, the text, the lagoon, its sums, its records, the tick -/
def pl (se ch : Nat → Int32) : Nat → plu → plu
  | 0, x => x
  | n + 1, x =>
    if x.2.1 0 ≤ x.2.1 1 then x
    else if sr_X3_readOrder x.2.1 ch = 0 then (upd (upd (upd x.1 1 (x.2.1 1)) 2 1) 3 (plT ch x 1 - x.2.1 1), plT ch x, x.2.2)
    else if sr_X5_isError (plR se ch x) = 0 then pl se ch n (upd (upd x.1 1 (x.2.1 1)) 0 (x.1 0 + 1), plT ch x, plO se ch x)
    else (upd (upd (upd x.1 1 (x.2.1 1)) 2 2) 3 (plR se ch x), plT ch x, plO se ch x)
theorem pl_a {se ch : Nat → Int32} {n : Nat} {x : plu} (h : x.2.1 0 ≤ x.2.1 1) : pl se ch (n + 1) x = x := by rw [pl, if_pos h]
theorem pl_b {se ch : Nat → Int32} {n : Nat} {x : plu} (h : ¬ x.2.1 0 ≤ x.2.1 1) (h2 : sr_X3_readOrder x.2.1 ch = 0) : pl se ch (n + 1) x = (upd (upd (upd x.1 1 (x.2.1 1)) 2 1) 3 (plT ch x 1 - x.2.1 1), plT ch x, x.2.2) := by rw [pl, if_neg h, if_pos h2]
theorem pl_c {se ch : Nat → Int32} {n : Nat} {x : plu} (h : ¬ x.2.1 0 ≤ x.2.1 1) (h2 : ¬ sr_X3_readOrder x.2.1 ch = 0) (h3 : sr_X5_isError (plR se ch x) = 0) : pl se ch (n + 1) x = pl se ch n (upd (upd x.1 1 (x.2.1 1)) 0 (x.1 0 + 1), plT ch x, plO se ch x) := by rw [pl, if_neg h, if_neg h2, if_pos h3]
theorem pl_d {se ch : Nat → Int32} {n : Nat} {x : plu} (h : ¬ x.2.1 0 ≤ x.2.1 1) (h2 : ¬ sr_X3_readOrder x.2.1 ch = 0) (h3 : ¬ sr_X5_isError (plR se ch x) = 0) : pl se ch (n + 1) x = (upd (upd (upd x.1 1 (x.2.1 1)) 2 2) 3 (plR se ch x), plT ch x, plO se ch x) := by rw [pl, if_neg h, if_neg h2, if_neg h3]

def gv45_1_X2_perform (ch : Nat → Int32) (xi : Nat → Int32) : Nat → Int32 := sw0_X3_readOrder xi ch
def gv73_2_X2_perform (ch : Nat → Int32) (se : Nat → Int32) (xi : Nat → Int32) (fi : Nat → Int32) (ti : Nat → Int32) (ri : Nat → Int32) (ki : Nat → Int32) : Nat → Int32 := sw2_X2_obey (gv45_1_X2_perform ch xi) fi se ti ri ki
def gv73_3_X2_perform (ch : Nat → Int32) (se : Nat → Int32) (xi : Nat → Int32) (fi : Nat → Int32) (ti : Nat → Int32) (ri : Nat → Int32) (ki : Nat → Int32) : Nat → Int32 := sw4_X2_obey (gv45_1_X2_perform ch xi) fi se ti ri ki
def gv73_4_X2_perform (ch : Nat → Int32) (se : Nat → Int32) (xi : Nat → Int32) (fi : Nat → Int32) (ti : Nat → Int32) (ri : Nat → Int32) (ki : Nat → Int32) : Nat → Int32 := sw5_X2_obey (gv45_1_X2_perform ch xi) fi se ti ri ki
def gv73_5_X2_perform (ch : Nat → Int32) (se : Nat → Int32) (xi : Nat → Int32) (fi : Nat → Int32) (ti : Nat → Int32) (ri : Nat → Int32) (ki : Nat → Int32) : Nat → Int32 := sw6_X2_obey (gv45_1_X2_perform ch xi) fi se ti ri ki
def xv105_6_X2_perform (qi : Nat → Int32) : Int32 := (qi 0) + 1
def xv94_7_X2_perform (ch : Nat → Int32) (se : Nat → Int32) (xi : Nat → Int32) (fi : Nat → Int32) (ti : Nat → Int32) (ri : Nat → Int32) (ki : Nat → Int32) : Int32 := sr_X2_obey (gv45_1_X2_perform ch xi) fi se ti ri ki
def xv66_8_X2_perform (ch : Nat → Int32) (xi : Nat → Int32) : Int32 := ((gv45_1_X2_perform ch xi) 1) - (xi 1)
abbrev po_X2_perform (cI cC cL : ClassId) (z1 y1 h t1 y2 h1 h2 h3 : Nat) (pf tf ch f se to re kf : Nat → Int32) (hch : ∀ j : Nat, ∃ q : Nat, q < 128 ∧ ch j = nI q) : va_W → Prop := fun w' => [oP z1 ((pl se ch 60 (upd (upd pf 0 0) 2 0, upd tf 1 0, f, to, re, kf)).1), oT y1 y2 ((pl se ch 60 (upd (upd pf 0 0) 2 0, upd tf 1 0, f, to, re, kf)).2.1), aC cC y2 60 ch, oL h h1 h2 h3 ((pl se ch 60 (upd (upd pf 0 0) 2 0, upd tf 1 0, f, to, re, kf)).2.2.1), aI cI h1 3 se, aI cI h2 7 ((pl se ch 60 (upd (upd pf 0 0) 2 0, upd tf 1 0, f, to, re, kf)).2.2.2.1), aI cI h3 60 ((pl se ch 60 (upd (upd pf 0 0) 2 0, upd tf 1 0, f, to, re, kf)).2.2.2.2.1), oK t1 ((pl se ch 60 (upd (upd pf 0 0) 2 0, upd tf 1 0, f, to, re, kf)).2.2.2.2.2)] = w'
set_option maxHeartbeats 4000000 in
set_option maxRecDepth 100000 in
theorem ct_X2_perform (l : Launch) (D : va_G) (cI cC cL : ClassId) (z1 y1 h t1 y2 h1 h2 h3 : Nat) (pf tf ch f se to re kf : Nat → Int32) (hch : ∀ j : Nat, ∃ q : Nat, q < 128 ∧ ch j = nI q) : ag_MV l yX2_perform cX2_perform 6 6 132 D cI cC cL [.ref z1, .ref y1, .ref h, .ref t1] [oP z1 pf, oT y1 y2 tf, aC cC y2 60 ch, oL h h1 h2 h3 f, aI cI h1 3 se, aI cI h2 7 to, aI cI h3 60 re, oK t1 kf] (po_X2_perform cI cC cL z1 y1 h t1 y2 h1 h2 h3 pf tf ch f se to re kf hch) := by
  refine ag_MV.of (plainFor_of_name (by decide)) (Nat.le_of_ble_eq_true rfl) ?_
  intro p e s m below meth c hx hb hr hlocks hml hown hmn hG hK A hN hA H locs hP hD hS ls hl
  have hl : lv_has ls 6 [(0, .ref z1), (1, .ref y1), (2, .ref h), (3, .ref t1)] := hl
  refine lv_aload_n hx hb dX2_perform_0 rfl (lv_at hl 0 rfl) ?_
  refine lv_iconst (v := 0) hx hb dX2_perform_1 (by decide) ?_
  refine ag_putX2 hx hb hG hown hK hP hD hS 0 0 rfl (by decide) k_200 (by decide) rfl rfl (Nat.le_of_ble_eq_true rfl) dX2_perform_2 (fun H locs hP hD hS => ?_)
  have hP : va_P D vwCl [oP z1 (upd pf 0 0), oT y1 y2 tf, aC cC y2 60 ch, oL h h1 h2 h3 f, aI cI h1 3 se, aI cI h2 7 to, aI cI h3 60 re, oK t1 kf] H := hP
  have hD : va_D A [oP z1 (upd pf 0 0), oT y1 y2 tf, aC cC y2 60 ch, oL h h1 h2 h3 f, aI cI h1 3 se, aI cI h2 7 to, aI cI h3 60 re, oK t1 kf] := hD
  refine lv_aload_n hx hb dX2_perform_5 rfl (lv_at hl 0 rfl) ?_
  refine lv_iconst (v := 0) hx hb dX2_perform_6 (by decide) ?_
  refine ag_putX2 hx hb hG hown hK hP hD hS 0 2 rfl (by decide) k_204 (by decide) rfl rfl (Nat.le_of_ble_eq_true rfl) dX2_perform_7 (fun H locs hP hD hS => ?_)
  have hP : va_P D vwCl [oP z1 (upd (upd pf 0 0) 2 0), oT y1 y2 tf, aC cC y2 60 ch, oL h h1 h2 h3 f, aI cI h1 3 se, aI cI h2 7 to, aI cI h3 60 re, oK t1 kf] H := hP
  have hD : va_D A [oP z1 (upd (upd pf 0 0) 2 0), oT y1 y2 tf, aC cC y2 60 ch, oL h h1 h2 h3 f, aI cI h1 3 se, aI cI h2 7 to, aI cI h3 60 re, oK t1 kf] := hD
  refine lv_aload_n hx hb dX2_perform_10 rfl (lv_at hl 1 rfl) ?_
  refine lv_iconst (v := 0) hx hb dX2_perform_11 (by decide) ?_
  refine ag_putX3 hx hb hG hown hK hP hD hS 1 2 rfl (by decide) k_172 (by decide) rfl rfl (Nat.le_of_ble_eq_true rfl) dX2_perform_12 (fun H locs hP hD hS => ?_)
  have hP : va_P D vwCl [oP z1 (upd (upd pf 0 0) 2 0), oT y1 y2 (upd tf 1 0), aC cC y2 60 ch, oL h h1 h2 h3 f, aI cI h1 3 se, aI cI h2 7 to, aI cI h3 60 re, oK t1 kf] H := hP
  have hD : va_D A [oP z1 (upd (upd pf 0 0) 2 0), oT y1 y2 (upd tf 1 0), aC cC y2 60 ch, oL h h1 h2 h3 f, aI cI h1 3 se, aI cI h2 7 to, aI cI h3 60 re, oK t1 kf] := hD
  refine lv_iconst (v := 0) hx hb dX2_perform_15 (by decide) ?_
  refine lv_istore (lv' := [(4, .int 0), (0, .ref z1), (1, .ref y1), (2, .ref h), (3, .ref t1)]) hx hb dX2_perform_16 hl (by decide) rfl (fun ls hl => ?_)
  suffices L18 : ∀ (n : Nat) (i : Nat) (qi xi fi ti ri ki : Nat → Int32), (hi : i + n = 60) → (hR : pl se ch n (qi, xi, fi, ti, ri, ki) = pl se ch 60 (upd (upd pf 0 0) 2 0, upd tf 1 0, f, to, re, kf)) → ∀ (H : Heap) (locs : List Loc) (ls : Array Slot), lv_has ls 6 [(0, .ref z1), (1, .ref y1), (2, .ref h), (3, .ref t1), (4, .int (nI i))] → va_P D vwCl [oP z1 qi, oT y1 y2 xi, aC cC y2 60 ch, oL h h1 h2 h3 fi, aI cI h1 3 se, aI cI h2 7 ti, aI cI h3 60 ri, oK t1 ki] H → va_D A [oP z1 qi, oT y1 y2 xi, aC cC y2 60 ch, oL h h1 h2 h3 fi, aI cI h1 3 se, aI cI h2 7 ti, aI cI h3 60 ri, oK t1 ki] → va_S A s.heap H locs → W p l e (ag_rm 6 132) s m ([.ref z1, .ref y1, .ref h, .ref t1] : List Value).toArray below meth c H locs 0 0 (MQ below (va_Qv (po_X2_perform cI cC cL z1 y1 h t1 y2 h1 h2 h3 pf tf ch f se to re kf hch) (ag_Out D [oP z1 pf, oT y1 y2 tf, aC cC y2 60 ch, oL h h1 h2 h3 f, aI cI h1 3 se, aI cI h2 7 to, aI cI h3 60 re, oK t1 kf]) A) ([.ref z1, .ref y1, .ref h, .ref t1] : List Value).toArray s 0 0 A) (F0 m 18 ls []) from L18 60 0 (upd (upd pf 0 0) 2 0) (upd tf 1 0) f to re kf (by omega) rfl H locs ls (lv_sub hl [1, 2, 3, 4, 0] rfl) hP hD hS
  intro n
  induction n with
  | zero =>
    intro i qi xi fi ti ri ki hi hR H locs ls hl hP hD hS
    refine lv_iload hx hb dX2_perform_18 (lv_at hl 4 rfl) ?_
    refine lv_bipush (v := 60) hx hb dX2_perform_20 (by decide) ?_
    refine lv_icmp_ge (tgt := 114) hx hb dX2_perform_22 (by decide) (fun _ => ?_) (fun h0 => absurd (nI_le (a := 60) (by omega) (by omega)) h0)
    exact ag_vret [z1, y1, y2, h, h1, h2, h3, t1] hx hb hr hlocks hP hS rfl rfl (by show _ = _; rw [← hR]; rfl) dX2_perform_114
  | succ n ih =>
    intro i qi xi fi ti ri ki hi hR H locs ls hl hP hD hS
    refine lv_iload hx hb dX2_perform_18 (lv_at hl 4 rfl) ?_
    refine lv_bipush (v := 60) hx hb dX2_perform_20 (by decide) ?_
    refine lv_icmp_ge (tgt := 114) hx hb dX2_perform_22 (by decide) (fun h0 => absurd h0 (nI_ge (b := 60) (by omega) (by omega))) (fun _ => ?_)
    refine lv_aload_n hx hb dX2_perform_25 rfl (lv_at hl 1 rfl) ?_
    refine ag_getX3 (v := .int (xi 1)) hx hb hG hown hK hP 1 2 rfl (by decide) k_172 rfl dX2_perform_26 ?_
    refine lv_aload_n hx hb dX2_perform_29 rfl (lv_at hl 1 rfl) ?_
    refine ag_getX3 (v := .int (xi 0)) hx hb hG hown hK hP 1 1 rfl (by decide) k_170 rfl dX2_perform_30 ?_
    refine lv_icmp_ge (tgt := 114) hx hb dX2_perform_33 (by decide) (fun c_33 => ?_) (fun c_33 => ?_)
    · exact ag_vret [z1, y1, y2, h, h1, h2, h3, t1] hx hb hr hlocks hP hS rfl rfl (by show _ = _; rw [← hR, pl_a (x := (qi, xi, fi, ti, ri, ki)) c_33]) dX2_perform_114
    · refine lv_aload_n hx hb dX2_perform_36 rfl (lv_at hl 0 rfl) ?_
      refine lv_aload_n hx hb dX2_perform_37 rfl (lv_at hl 1 rfl) ?_
      refine ag_getX3 (v := .int (xi 1)) hx hb hG hown hK hP 1 2 rfl (by decide) k_172 rfl dX2_perform_38 ?_
      refine ag_putX2 hx hb hG hown hK hP hD hS 0 1 rfl (by decide) k_202 (by decide) rfl rfl (Nat.le_of_ble_eq_true rfl) dX2_perform_41 (fun H locs hP hD hS => ?_)
      have hP : va_P D vwCl [oP z1 (upd qi 1 (xi 1)), oT y1 y2 xi, aC cC y2 60 ch, oL h h1 h2 h3 fi, aI cI h1 3 se, aI cI h2 7 ti, aI cI h3 60 ri, oK t1 ki] H := hP
      have hD : va_D A [oP z1 (upd qi 1 (xi 1)), oT y1 y2 xi, aC cC y2 60 ch, oL h h1 h2 h3 fi, aI cI h1 3 se, aI cI h2 7 ti, aI cI h3 60 ri, oK t1 ki] := hD
      refine lv_aload_n hx hb dX2_perform_44 rfl (lv_at hl 1 rfl) ?_
      refine ag_callVi (As := []) (rest := []) hx hb hml hown hG hK hN hA hP hD hS hl (ct_X3_readOrder l D cI cC cL y1 y2 xi ch hch) fX3_readOrder k_496 (ag_cut_1 [oP z1 (upd qi 1 (xi 1))] [oL h h1 h2 h3 fi, aI cI h1 3 se, aI cI h2 7 ti, aI cI h3 60 ri, oK t1 ki] rfl) (q0 := 1) rfl rfl rfl rfl (Nat.le_of_ble_eq_true rfl) ⟨Nat.le_of_ble_eq_true rfl, Nat.le_of_ble_eq_true rfl⟩ ⟨Nat.zero_le _, Nat.zero_le _⟩ dX2_perform_45 (fun r w1 H locs hw hP hD hS => ?_)
      obtain ⟨rfl, hw⟩ := hw
      generalize eg45_1 : sw0_X3_readOrder xi ch = g45_1 at hw
      replace eg45_1 : gv45_1_X2_perform ch xi = g45_1 := (by rw [← eg45_1]; rfl)
      subst hw
      have hP : va_P D vwCl [oP z1 (upd qi 1 (xi 1)), oT y1 y2 g45_1, aC cC y2 60 ch, oL h h1 h2 h3 fi, aI cI h1 3 se, aI cI h2 7 ti, aI cI h3 60 ri, oK t1 ki] H := hP
      have hD : va_D A [oP z1 (upd qi 1 (xi 1)), oT y1 y2 g45_1, aC cC y2 60 ch, oL h h1 h2 h3 fi, aI cI h1 3 se, aI cI h2 7 ti, aI cI h3 60 ri, oK t1 ki] := hD
      refine lv_if_ne (tgt := 70) hx hb dX2_perform_48 (by decide) (fun c_48 => ?_) (fun c_48 => ?_)
      · refine lv_aload_n hx hb dX2_perform_70 rfl (lv_at hl 1 rfl) ?_
        refine lv_aload_n hx hb dX2_perform_71 rfl (lv_at hl 2 rfl) ?_
        refine lv_aload_n hx hb dX2_perform_72 rfl (lv_at hl 3 rfl) ?_
        refine ag_callSi (As := [.ref y1, .ref h, .ref t1]) (rest := []) hx hb hml hown hG hK hN hA hP hD hS hl (ct_X2_obey l D cI cC cL y1 h t1 y2 h1 h2 h3 g45_1 ch fi se ti ri ki) fX2_obey k_516 (ag_cut_1 [oP z1 (upd qi 1 (xi 1))] [] rfl) rfl (Nat.le_of_ble_eq_true rfl) ⟨Nat.le_of_ble_eq_true rfl, Nat.le_of_ble_eq_true rfl⟩ ⟨Nat.zero_le _, Nat.zero_le _⟩ dX2_perform_73 (fun r w1 H locs hw hP hD hS => ?_)
        obtain ⟨rfl, hw⟩ := hw
        generalize eg73_2 : sw2_X2_obey g45_1 fi se ti ri ki = g73_2 at hw
        replace eg73_2 : gv73_2_X2_perform ch se xi fi ti ri ki = g73_2 := (by rw [← eg73_2, ← eg45_1]; rfl)
        generalize eg73_3 : sw4_X2_obey g45_1 fi se ti ri ki = g73_3 at hw
        replace eg73_3 : gv73_3_X2_perform ch se xi fi ti ri ki = g73_3 := (by rw [← eg73_3, ← eg45_1]; rfl)
        generalize eg73_4 : sw5_X2_obey g45_1 fi se ti ri ki = g73_4 at hw
        replace eg73_4 : gv73_4_X2_perform ch se xi fi ti ri ki = g73_4 := (by rw [← eg73_4, ← eg45_1]; rfl)
        generalize eg73_5 : sw6_X2_obey g45_1 fi se ti ri ki = g73_5 at hw
        replace eg73_5 : gv73_5_X2_perform ch se xi fi ti ri ki = g73_5 := (by rw [← eg73_5, ← eg45_1]; rfl)
        subst hw
        have hP : va_P D vwCl [oP z1 (upd qi 1 (xi 1)), oT y1 y2 g45_1, aC cC y2 60 ch, oL h h1 h2 h3 g73_2, aI cI h1 3 se, aI cI h2 7 g73_3, aI cI h3 60 g73_4, oK t1 g73_5] H := hP
        have hD : va_D A [oP z1 (upd qi 1 (xi 1)), oT y1 y2 g45_1, aC cC y2 60 ch, oL h h1 h2 h3 g73_2, aI cI h1 3 se, aI cI h2 7 g73_3, aI cI h3 60 g73_4, oK t1 g73_5] := hD
        refine lv_istore (lv' := [(5, .int (sr_X2_obey g45_1 fi se ti ri ki)), (0, .ref z1), (1, .ref y1), (2, .ref h), (3, .ref t1), (4, .int (nI i))]) hx hb dX2_perform_76 hl (by decide) rfl (fun ls hl => ?_)
        refine lv_iload hx hb dX2_perform_78 (lv_at hl 0 rfl) ?_
        refine ag_callNi (As := [.int (sr_X2_obey g45_1 fi se ti ri ki)]) (rest := []) hx hb hml hown hG hK hN hA hP hD hS hl (ct_X5_isError l D cI cC cL (sr_X2_obey g45_1 fi se ti ri ki)) fX5_isError hN.1.2.2.2.2.2.2.2.2.1 ag_cut_0 rfl (Nat.le_of_ble_eq_true rfl) ⟨Nat.le_of_ble_eq_true rfl, Nat.le_of_ble_eq_true rfl⟩ ⟨Nat.zero_le _, Nat.zero_le _⟩ dX2_perform_80 (fun r w1 H locs hw hP hD hS => ?_)
        obtain ⟨rfl, hw⟩ := hw
        subst hw
        have hP : va_P D vwCl [oP z1 (upd qi 1 (xi 1)), oT y1 y2 g45_1, aC cC y2 60 ch, oL h h1 h2 h3 g73_2, aI cI h1 3 se, aI cI h2 7 g73_3, aI cI h3 60 g73_4, oK t1 g73_5] H := hP
        have hD : va_D A [oP z1 (upd qi 1 (xi 1)), oT y1 y2 g45_1, aC cC y2 60 ch, oL h h1 h2 h3 g73_2, aI cI h1 3 se, aI cI h2 7 g73_3, aI cI h3 60 g73_4, oK t1 g73_5] := hD
        refine lv_if_eq (tgt := 98) hx hb dX2_perform_83 (by decide) (fun c_83 => ?_) (fun c_83 => ?_)
        · refine lv_aload_n hx hb dX2_perform_98 rfl (lv_at hl 1 rfl) ?_
          refine lv_dup hx hb dX2_perform_99 rfl ?_
          refine ag_getX2 (v := .int (qi 0)) hx hb hG hown hK hP 0 0 rfl (by decide) k_200 rfl dX2_perform_100 ?_
          refine lv_iconst (v := 1) hx hb dX2_perform_103 (by decide) ?_
          refine lv_iadd hx hb dX2_perform_104 ?_
          refine ag_topn (v := xv105_6_X2_perform qi) rfl (fun x105_6 ex105_6 => ?_)
          refine ag_putX2 hx hb hG hown hK hP hD hS 0 0 rfl (by decide) k_200 (by decide) rfl rfl (Nat.le_of_ble_eq_true rfl) dX2_perform_105 (fun H locs hP hD hS => ?_)
          have hP : va_P D vwCl [oP z1 (upd (upd qi 1 (xi 1)) 0 x105_6), oT y1 y2 g45_1, aC cC y2 60 ch, oL h h1 h2 h3 g73_2, aI cI h1 3 se, aI cI h2 7 g73_3, aI cI h3 60 g73_4, oK t1 g73_5] H := hP
          have hD : va_D A [oP z1 (upd (upd qi 1 (xi 1)) 0 x105_6), oT y1 y2 g45_1, aC cC y2 60 ch, oL h h1 h2 h3 g73_2, aI cI h1 3 se, aI cI h2 7 g73_3, aI cI h3 60 g73_4, oK t1 g73_5] := hD
          refine lv_iinc (v := nI (i + 1)) (lv' := [(4, .int (nI (i + 1))), (5, .int (sr_X2_obey g45_1 fi se ti ri ki)), (0, .ref z1), (1, .ref y1), (2, .ref h), (3, .ref t1)]) hx hb dX2_perform_108 hl (k := 5) rfl (nI_1 i) (by decide) rfl (fun ls hl => ?_)
          refine lv_goto (tgt := 18) hx hb dX2_perform_111 (by decide) ?_
          revert hP; revert hD; revert hS; revert hl
          subst ex105_6
          subst eg73_5
          subst eg73_4
          subst eg73_3
          subst eg73_2
          subst eg45_1
          intro hl hS hD hP
          exact ih (i + 1) (upd (upd qi 1 (xi 1)) 0 (xv105_6_X2_perform qi)) (gv45_1_X2_perform ch xi) (gv73_2_X2_perform ch se xi fi ti ri ki) (gv73_3_X2_perform ch se xi fi ti ri ki) (gv73_4_X2_perform ch se xi fi ti ri ki) (gv73_5_X2_perform ch se xi fi ti ri ki) (by omega) ((pl_c (x := (qi, xi, fi, ti, ri, ki)) c_33 c_48 c_83).symm.trans hR) H locs ls (lv_sub hl [2, 3, 4, 5, 0] rfl) hP hD hS
        · refine lv_aload_n hx hb dX2_perform_86 rfl (lv_at hl 1 rfl) ?_
          refine lv_iconst (v := 2) hx hb dX2_perform_87 (by decide) ?_
          refine ag_putX2 hx hb hG hown hK hP hD hS 0 2 rfl (by decide) k_204 (by decide) rfl rfl (Nat.le_of_ble_eq_true rfl) dX2_perform_88 (fun H locs hP hD hS => ?_)
          have hP : va_P D vwCl [oP z1 (upd (upd qi 1 (xi 1)) 2 2), oT y1 y2 g45_1, aC cC y2 60 ch, oL h h1 h2 h3 g73_2, aI cI h1 3 se, aI cI h2 7 g73_3, aI cI h3 60 g73_4, oK t1 g73_5] H := hP
          have hD : va_D A [oP z1 (upd (upd qi 1 (xi 1)) 2 2), oT y1 y2 g45_1, aC cC y2 60 ch, oL h h1 h2 h3 g73_2, aI cI h1 3 se, aI cI h2 7 g73_3, aI cI h3 60 g73_4, oK t1 g73_5] := hD
          refine lv_aload_n hx hb dX2_perform_91 rfl (lv_at hl 1 rfl) ?_
          refine lv_iload hx hb dX2_perform_92 (lv_at hl 0 rfl) ?_
          refine ag_topn (v := xv94_7_X2_perform ch se xi fi ti ri ki) (by rw [← eg45_1]; rfl) (fun x94_7 ex94_7 => ?_)
          refine ag_putX2 hx hb hG hown hK hP hD hS 0 3 rfl (by decide) k_206 (by decide) rfl rfl (Nat.le_of_ble_eq_true rfl) dX2_perform_94 (fun H locs hP hD hS => ?_)
          have hP : va_P D vwCl [oP z1 (upd (upd (upd qi 1 (xi 1)) 2 2) 3 x94_7), oT y1 y2 g45_1, aC cC y2 60 ch, oL h h1 h2 h3 g73_2, aI cI h1 3 se, aI cI h2 7 g73_3, aI cI h3 60 g73_4, oK t1 g73_5] H := hP
          have hD : va_D A [oP z1 (upd (upd (upd qi 1 (xi 1)) 2 2) 3 x94_7), oT y1 y2 g45_1, aC cC y2 60 ch, oL h h1 h2 h3 g73_2, aI cI h1 3 se, aI cI h2 7 g73_3, aI cI h3 60 g73_4, oK t1 g73_5] := hD
          revert hP; revert hD; revert hS; revert hl
          subst ex94_7
          subst eg73_5
          subst eg73_4
          subst eg73_3
          subst eg73_2
          subst eg45_1
          intro hl hS hD hP
          exact ag_vret [z1, y1, y2, h, h1, h2, h3, t1] hx hb hr hlocks hP hS rfl rfl (by show _ = _; rw [← hR, pl_d (x := (qi, xi, fi, ti, ri, ki)) c_33 c_48 c_83]; rfl) dX2_perform_97
      · refine lv_aload_n hx hb dX2_perform_51 rfl (lv_at hl 0 rfl) ?_
        refine lv_iconst (v := 1) hx hb dX2_perform_52 (by decide) ?_
        refine ag_putX2 hx hb hG hown hK hP hD hS 0 2 rfl (by decide) k_204 (by decide) rfl rfl (Nat.le_of_ble_eq_true rfl) dX2_perform_53 (fun H locs hP hD hS => ?_)
        have hP : va_P D vwCl [oP z1 (upd (upd qi 1 (xi 1)) 2 1), oT y1 y2 g45_1, aC cC y2 60 ch, oL h h1 h2 h3 fi, aI cI h1 3 se, aI cI h2 7 ti, aI cI h3 60 ri, oK t1 ki] H := hP
        have hD : va_D A [oP z1 (upd (upd qi 1 (xi 1)) 2 1), oT y1 y2 g45_1, aC cC y2 60 ch, oL h h1 h2 h3 fi, aI cI h1 3 se, aI cI h2 7 ti, aI cI h3 60 ri, oK t1 ki] := hD
        refine lv_aload_n hx hb dX2_perform_56 rfl (lv_at hl 0 rfl) ?_
        refine lv_aload_n hx hb dX2_perform_57 rfl (lv_at hl 1 rfl) ?_
        refine ag_getX3 (v := .int (g45_1 1)) hx hb hG hown hK hP 1 2 rfl (by decide) k_172 rfl dX2_perform_58 ?_
        refine lv_aload_n hx hb dX2_perform_61 rfl (lv_at hl 0 rfl) ?_
        refine ag_getX2 (v := .int (xi 1)) hx hb hG hown hK hP 0 1 rfl (by decide) k_202 rfl dX2_perform_62 ?_
        refine lv_isub hx hb dX2_perform_65 ?_
        refine ag_topn (v := xv66_8_X2_perform ch xi) (by rw [← eg45_1]; rfl) (fun x66_8 ex66_8 => ?_)
        refine ag_putX2 hx hb hG hown hK hP hD hS 0 3 rfl (by decide) k_206 (by decide) rfl rfl (Nat.le_of_ble_eq_true rfl) dX2_perform_66 (fun H locs hP hD hS => ?_)
        have hP : va_P D vwCl [oP z1 (upd (upd (upd qi 1 (xi 1)) 2 1) 3 x66_8), oT y1 y2 g45_1, aC cC y2 60 ch, oL h h1 h2 h3 fi, aI cI h1 3 se, aI cI h2 7 ti, aI cI h3 60 ri, oK t1 ki] H := hP
        have hD : va_D A [oP z1 (upd (upd (upd qi 1 (xi 1)) 2 1) 3 x66_8), oT y1 y2 g45_1, aC cC y2 60 ch, oL h h1 h2 h3 fi, aI cI h1 3 se, aI cI h2 7 ti, aI cI h3 60 ri, oK t1 ki] := hD
        revert hP; revert hD; revert hS; revert hl
        subst ex66_8
        subst eg45_1
        intro hl hS hD hP
        exact ag_vret [z1, y1, y2, h, h1, h2, h3, t1] hx hb hr hlocks hP hS rfl rfl (by show _ = _; rw [← hR, pl_b (x := (qi, xi, fi, ti, ri, ki)) c_33 c_48]; rfl) dX2_perform_69
def rox (x : Int32) : Nat := (sr_J9_floorMod_7cf53 x 4).toNatClampNeg
theorem rox_at (x : Int32) : sr_J9_floorMod_7cf53 x 4 = nI (rox x) ∧ rox x < 4 := by
  obtain ⟨k, h1, h2⟩ := fm_in x (d := 4) (by decide) (by decide)
  have e : (4 : Int32) = nI 4 := rfl
  unfold rox
  rw [e, h2, nI_clamp (by omega)]
  exact ⟨rfl, h1⟩
theorem rox_4 (x : Int32) : rox x = 0 ∨ rox x = 1 ∨ rox x = 2 ∨ rox x = 3 := by
  have := (rox_at x).2
  omega
def gS (a b c d : Nat) : Nat → Option Nat := fun j => if j = 0 then some a else if j = 1 then some b else if j = 2 then some c else some d

def sr_X0_rowOf (hf : Nat → Int32) (p1 : Int32) : Int32 := sr_J9_floorMod_7cf53 ((hf 0) + p1) 4
abbrev po_X0_rowOf (cI cC cL : ClassId) (x1 x2 : Nat) (hf : Nat → Int32) (p1 : Int32) : Int32 → va_W → Prop := fun r w' => sr_X0_rowOf hf p1 = r ∧ [oH x1 x2 hf] = w'
set_option maxHeartbeats 4000000 in
set_option maxRecDepth 100000 in
theorem ct_X0_rowOf (l : Launch) (D : va_G) (cI cC cL : ClassId) (x1 x2 : Nat) (hf : Nat → Int32) (p1 : Int32) : ag_MI l yX0_rowOf cX0_rowOf 2 .int 1 22 D cI cC cL [.ref x1, .int p1] [oH x1 x2 hf] (po_X0_rowOf cI cC cL x1 x2 hf p1) := by
  refine ag_MI.of (plainFor_of_name (by decide)) (Nat.le_of_ble_eq_true rfl) ?_
  intro p e s m below meth c hx hb hr hlocks hml hown hmn hG hK A hN hA H locs hP hD hS ls hl
  have hl : lv_has ls 2 [(0, .ref x1), (1, .int p1)] := hl
  refine lv_aload_n hx hb dX0_rowOf_0 rfl (lv_at hl 0 rfl) ?_
  refine ag_getX0 (v := .int (hf 0)) hx hb hG hown hK hP 0 1 rfl (by decide) k_152 rfl dX0_rowOf_1 ?_
  refine lv_iload_n hx hb dX0_rowOf_4 rfl (lv_at hl 1 rfl) ?_
  refine lv_iadd hx hb dX0_rowOf_5 ?_
  refine lv_iconst (v := 4) hx hb dX0_rowOf_6 (by decide) ?_
  refine ag_callSi (As := [.int ((hf 0) + p1), .int 4]) (rest := []) hx hb hml hown hG hK hN hA hP hD hS hl (ct_J9_floorMod_7cf53 l D cI cC cL ((hf 0) + p1) 4 (by decide)) fJ9_floorMod_7cf53 k_268 ag_cut_0 rfl (Nat.le_of_ble_eq_true rfl) ⟨Nat.le_of_ble_eq_true rfl, Nat.le_of_ble_eq_true rfl⟩ ⟨Nat.zero_le _, Nat.zero_le _⟩ dX0_rowOf_7 (fun r w1 H locs hw hP hD hS => ?_)
  obtain ⟨rfl, hw⟩ := hw
  subst hw
  have hP : va_P D vwCl [oH x1 x2 hf] H := hP
  have hD : va_D A [oH x1 x2 hf] := hD
  exact ag_iret [x1] hx hb hr rfl hlocks hP hS rfl rfl ⟨rfl, rfl⟩ dX0_rowOf_10
theorem row_at (hf : Nat → Int32) (x : Int32) : sr_X0_rowOf hf x = nI (rox (hf 0 + x)) := (rox_at (hf 0 + x)).1
section AGQ
variable {p : Program} {l : Launch} {e : Env} {R : Room} {s : State} {m : MethodId} {args : Array Value} {below : List Frame} {meth : Method} {c : Code} {H : Heap} {locs : List Loc} {cells slots : Nat} {Q : State → Prop}
variable {cc : ByteArray} {pc : Nat} {ls : Array Slot} {rest : List Value} {D : va_G} {A : Nat → Prop} {a : Nat} {cI cC cL : ClassId} {w : va_W} {H0 : Heap}
theorem ag_qld (hx : p.tables.exec = Jvm.exec) (hb : c.code = cc) (hK : va_K D vwCl (ag_T cI cC cL) s) (hP : va_P D vwCl w H) {k v : Nat} {f : Nat → Option Nat} {i : Int32} (q0 : Nat) (ha : w[q0]? = some (a, .inl (cL, 4, .inr (.inr (.inr (.inr f)))))) (hi : i = nI k) (hk : k < 4) (hv : f k = some v) (hdg : decode cc pc = .ok (.aaload, 1))
    (kk : W p l e R s m args below meth c H locs cells slots Q (F0 m (pc + 1) ls (.ref v :: rest))) : W p l e R s m args below meth c H locs cells slots Q (F0 m pc ls (.int i :: .ref a :: rest)) := by
  subst hi
  have hc : (nI k).toNatClampNeg = k := nI_clamp (by omega)
  refine va_aldq hx hb hK hP q0 2 ha rfl (vp_in_nI hk (by decide)) hdg ?_
  rw [hc, hv]
  exact kk
end AGQ

def hk_k (hf : Nat → Int32) : Nat → Int32 := if 4 ≤ hf 1 then upd hf 0 (sr_X0_rowOf hf 1) else upd hf 1 (hf 1 + 1)
def xv44_1_X0_keep (hf : Nat → Int32) : Int32 := sr_X0_rowOf hf 1
def xv32_2_X0_keep (hf : Nat → Int32) : Int32 := (hf 1) + 1
def xv44_3_X0_keep (hf : Nat → Int32) : Int32 := sr_X0_rowOf hf 1
def xv32_4_X0_keep (hf : Nat → Int32) : Int32 := (hf 1) + 1
def xv44_5_X0_keep (hf : Nat → Int32) : Int32 := sr_X0_rowOf hf 1
def xv32_6_X0_keep (hf : Nat → Int32) : Int32 := (hf 1) + 1
def xv44_7_X0_keep (hf : Nat → Int32) : Int32 := sr_X0_rowOf hf 1
def xv32_8_X0_keep (hf : Nat → Int32) : Int32 := (hf 1) + 1
abbrev po_X0_keep (cI cC cL : ClassId) (x1 o x2 s0 s01 s02 s03 s1 s11 s12 s13 s2 s21 s22 s23 s3 s31 s32 s33 o1 o2 o3 : Nat) (hf of ose oto ore : Nat → Int32) (sf : Nat → Nat → Int32) (sse : Nat → Nat → Int32) (sto : Nat → Nat → Int32) (sre : Nat → Nat → Int32) : va_W → Prop := fun w' => [oH x1 x2 (hk_k hf), aL cL x2 (gS s0 s1 s2 s3), oL s0 s01 s02 s03 (va_up sf (rox (hf 0 + hf 1)) of 0), aI cI s01 3 (va_up sse (rox (hf 0 + hf 1)) ose 0), aI cI s02 7 (va_up sto (rox (hf 0 + hf 1)) oto 0), aI cI s03 60 (va_up sre (rox (hf 0 + hf 1)) ore 0), oL s1 s11 s12 s13 (va_up sf (rox (hf 0 + hf 1)) of 1), aI cI s11 3 (va_up sse (rox (hf 0 + hf 1)) ose 1), aI cI s12 7 (va_up sto (rox (hf 0 + hf 1)) oto 1), aI cI s13 60 (va_up sre (rox (hf 0 + hf 1)) ore 1), oL s2 s21 s22 s23 (va_up sf (rox (hf 0 + hf 1)) of 2), aI cI s21 3 (va_up sse (rox (hf 0 + hf 1)) ose 2), aI cI s22 7 (va_up sto (rox (hf 0 + hf 1)) oto 2), aI cI s23 60 (va_up sre (rox (hf 0 + hf 1)) ore 2), oL s3 s31 s32 s33 (va_up sf (rox (hf 0 + hf 1)) of 3), aI cI s31 3 (va_up sse (rox (hf 0 + hf 1)) ose 3), aI cI s32 7 (va_up sto (rox (hf 0 + hf 1)) oto 3), aI cI s33 60 (va_up sre (rox (hf 0 + hf 1)) ore 3), oL o o1 o2 o3 of, aI cI o1 3 ose, aI cI o2 7 oto, aI cI o3 60 ore] = w'
set_option maxHeartbeats 4000000 in
set_option maxRecDepth 100000 in
theorem ct_X0_keep (l : Launch) (D : va_G) (cI cC cL : ClassId) (x1 o x2 s0 s01 s02 s03 s1 s11 s12 s13 s2 s21 s22 s23 s3 s31 s32 s33 o1 o2 o3 : Nat) (hf of ose oto ore : Nat → Int32) (sf : Nat → Nat → Int32) (sse : Nat → Nat → Int32) (sto : Nat → Nat → Int32) (sre : Nat → Nat → Int32) : ag_MV l yX0_keep cX0_keep 2 2 51 D cI cC cL [.ref x1, .ref o] [oH x1 x2 hf, aL cL x2 (gS s0 s1 s2 s3), oL s0 s01 s02 s03 (sf 0), aI cI s01 3 (sse 0), aI cI s02 7 (sto 0), aI cI s03 60 (sre 0), oL s1 s11 s12 s13 (sf 1), aI cI s11 3 (sse 1), aI cI s12 7 (sto 1), aI cI s13 60 (sre 1), oL s2 s21 s22 s23 (sf 2), aI cI s21 3 (sse 2), aI cI s22 7 (sto 2), aI cI s23 60 (sre 2), oL s3 s31 s32 s33 (sf 3), aI cI s31 3 (sse 3), aI cI s32 7 (sto 3), aI cI s33 60 (sre 3), oL o o1 o2 o3 of, aI cI o1 3 ose, aI cI o2 7 oto, aI cI o3 60 ore] (po_X0_keep cI cC cL x1 o x2 s0 s01 s02 s03 s1 s11 s12 s13 s2 s21 s22 s23 s3 s31 s32 s33 o1 o2 o3 hf of ose oto ore sf sse sto sre) := by
  refine ag_MV.of (plainFor_of_name (by decide)) (Nat.le_of_ble_eq_true rfl) ?_
  intro p e s m below meth c hx hb hr hlocks hml hown hmn hG hK A hN hA H locs hP hD hS ls hl
  have hl : lv_has ls 2 [(0, .ref x1), (1, .ref o)] := hl
  refine lv_aload_n hx hb dX0_keep_0 rfl (lv_at hl 0 rfl) ?_
  refine ag_getX0 (v := .ref x2) hx hb hG hown hK hP 0 0 rfl (by decide) k_151 rfl dX0_keep_1 ?_
  refine lv_aload_n hx hb dX0_keep_4 rfl (lv_at hl 0 rfl) ?_
  refine lv_aload_n hx hb dX0_keep_5 rfl (lv_at hl 0 rfl) ?_
  refine ag_getX0 (v := .int (hf 1)) hx hb hG hown hK hP 0 2 rfl (by decide) k_153 rfl dX0_keep_6 ?_
  refine ag_callVi (As := [.int (hf 1)]) (rest := [.ref x2]) hx hb hml hown hG hK hN hA hP hD hS hl (ct_X0_rowOf l D cI cC cL x1 x2 hf (hf 1)) fX0_rowOf k_264 (ag_cut_1 [] [aL cL x2 (gS s0 s1 s2 s3), oL s0 s01 s02 s03 (sf 0), aI cI s01 3 (sse 0), aI cI s02 7 (sto 0), aI cI s03 60 (sre 0), oL s1 s11 s12 s13 (sf 1), aI cI s11 3 (sse 1), aI cI s12 7 (sto 1), aI cI s13 60 (sre 1), oL s2 s21 s22 s23 (sf 2), aI cI s21 3 (sse 2), aI cI s22 7 (sto 2), aI cI s23 60 (sre 2), oL s3 s31 s32 s33 (sf 3), aI cI s31 3 (sse 3), aI cI s32 7 (sto 3), aI cI s33 60 (sre 3), oL o o1 o2 o3 of, aI cI o1 3 ose, aI cI o2 7 oto, aI cI o3 60 ore] rfl) (q0 := 0) rfl rfl rfl rfl (Nat.le_of_ble_eq_true rfl) ⟨Nat.le_of_ble_eq_true rfl, Nat.le_of_ble_eq_true rfl⟩ ⟨Nat.zero_le _, Nat.zero_le _⟩ dX0_keep_9 (fun r w1 H locs hw hP hD hS => ?_)
  obtain ⟨rfl, hw⟩ := hw
  subst hw
  have hP : va_P D vwCl [oH x1 x2 hf, aL cL x2 (gS s0 s1 s2 s3), oL s0 s01 s02 s03 (sf 0), aI cI s01 3 (sse 0), aI cI s02 7 (sto 0), aI cI s03 60 (sre 0), oL s1 s11 s12 s13 (sf 1), aI cI s11 3 (sse 1), aI cI s12 7 (sto 1), aI cI s13 60 (sre 1), oL s2 s21 s22 s23 (sf 2), aI cI s21 3 (sse 2), aI cI s22 7 (sto 2), aI cI s23 60 (sre 2), oL s3 s31 s32 s33 (sf 3), aI cI s31 3 (sse 3), aI cI s32 7 (sto 3), aI cI s33 60 (sre 3), oL o o1 o2 o3 of, aI cI o1 3 ose, aI cI o2 7 oto, aI cI o3 60 ore] H := hP
  have hD : va_D A [oH x1 x2 hf, aL cL x2 (gS s0 s1 s2 s3), oL s0 s01 s02 s03 (sf 0), aI cI s01 3 (sse 0), aI cI s02 7 (sto 0), aI cI s03 60 (sre 0), oL s1 s11 s12 s13 (sf 1), aI cI s11 3 (sse 1), aI cI s12 7 (sto 1), aI cI s13 60 (sre 1), oL s2 s21 s22 s23 (sf 2), aI cI s21 3 (sse 2), aI cI s22 7 (sto 2), aI cI s23 60 (sre 2), oL s3 s31 s32 s33 (sf 3), aI cI s31 3 (sse 3), aI cI s32 7 (sto 3), aI cI s33 60 (sre 3), oL o o1 o2 o3 of, aI cI o1 3 ose, aI cI o2 7 oto, aI cI o3 60 ore] := hD
  rcases rox_4 (hf 0 + hf 1) with hk | hk | hk | hk
  · refine ag_qld (k := 0) (v := s0) hx hb hK hP 1 rfl ((row_at hf (hf 1)).trans (by rw [hk])) (by decide) rfl dX0_keep_12 ?_
    refine lv_aload_n hx hb dX0_keep_13 rfl (lv_at hl 1 rfl) ?_
    refine ag_callVv (As := [.ref o]) (rest := []) hx hb hml hown hG hK hN hA hP hD hS hl (ct_X1_copyFrom l D cI cC cL s0 o s01 s02 s03 o1 o2 o3 (sf 0) (sse 0) (sto 0) (sre 0) of ose oto ore) fX1_copyFrom k_271 (ag_cut_2 4 [oH x1 x2 hf, aL cL x2 (gS s0 s1 s2 s3)] [oL s0 s01 s02 s03 (sf 0), aI cI s01 3 (sse 0), aI cI s02 7 (sto 0), aI cI s03 60 (sre 0)] [oL s1 s11 s12 s13 (sf 1), aI cI s11 3 (sse 1), aI cI s12 7 (sto 1), aI cI s13 60 (sre 1), oL s2 s21 s22 s23 (sf 2), aI cI s21 3 (sse 2), aI cI s22 7 (sto 2), aI cI s23 60 (sre 2), oL s3 s31 s32 s33 (sf 3), aI cI s31 3 (sse 3), aI cI s32 7 (sto 3), aI cI s33 60 (sre 3)] [oL o o1 o2 o3 of, aI cI o1 3 ose, aI cI o2 7 oto, aI cI o3 60 ore] [] rfl rfl rfl) (q0 := 2) rfl rfl rfl rfl (Nat.le_of_ble_eq_true rfl) ⟨Nat.le_of_ble_eq_true rfl, Nat.le_of_ble_eq_true rfl⟩ ⟨Nat.zero_le _, Nat.zero_le _⟩ dX0_keep_14 (fun w1 H locs hw hP hD hS => ?_)
    have hw : _ = w1 := hw
    subst hw
    have hP : va_P D vwCl [oH x1 x2 hf, aL cL x2 (gS s0 s1 s2 s3), oL s0 s01 s02 s03 of, aI cI s01 3 ose, aI cI s02 7 oto, aI cI s03 60 ore, oL s1 s11 s12 s13 (sf 1), aI cI s11 3 (sse 1), aI cI s12 7 (sto 1), aI cI s13 60 (sre 1), oL s2 s21 s22 s23 (sf 2), aI cI s21 3 (sse 2), aI cI s22 7 (sto 2), aI cI s23 60 (sre 2), oL s3 s31 s32 s33 (sf 3), aI cI s31 3 (sse 3), aI cI s32 7 (sto 3), aI cI s33 60 (sre 3), oL o o1 o2 o3 of, aI cI o1 3 ose, aI cI o2 7 oto, aI cI o3 60 ore] H := hP
    have hD : va_D A [oH x1 x2 hf, aL cL x2 (gS s0 s1 s2 s3), oL s0 s01 s02 s03 of, aI cI s01 3 ose, aI cI s02 7 oto, aI cI s03 60 ore, oL s1 s11 s12 s13 (sf 1), aI cI s11 3 (sse 1), aI cI s12 7 (sto 1), aI cI s13 60 (sre 1), oL s2 s21 s22 s23 (sf 2), aI cI s21 3 (sse 2), aI cI s22 7 (sto 2), aI cI s23 60 (sre 2), oL s3 s31 s32 s33 (sf 3), aI cI s31 3 (sse 3), aI cI s32 7 (sto 3), aI cI s33 60 (sre 3), oL o o1 o2 o3 of, aI cI o1 3 ose, aI cI o2 7 oto, aI cI o3 60 ore] := hD
    refine lv_aload_n hx hb dX0_keep_17 rfl (lv_at hl 0 rfl) ?_
    refine ag_getX0 (v := .int (hf 1)) hx hb hG hown hK hP 0 2 rfl (by decide) k_153 rfl dX0_keep_18 ?_
    refine lv_iconst (v := 4) hx hb dX0_keep_21 (by decide) ?_
    refine lv_icmp_ge (tgt := 38) hx hb dX0_keep_22 (by decide) (fun c_22 => ?_) (fun c_22 => ?_)
    · refine lv_aload_n hx hb dX0_keep_38 rfl (lv_at hl 0 rfl) ?_
      refine lv_aload_n hx hb dX0_keep_39 rfl (lv_at hl 0 rfl) ?_
      refine lv_iconst (v := 1) hx hb dX0_keep_40 (by decide) ?_
      refine ag_callVi (As := [.int 1]) (rest := [.ref x1]) hx hb hml hown hG hK hN hA hP hD hS hl (ct_X0_rowOf l D cI cC cL x1 x2 hf 1) fX0_rowOf k_264 (ag_cut_1 [] [aL cL x2 (gS s0 s1 s2 s3), oL s0 s01 s02 s03 of, aI cI s01 3 ose, aI cI s02 7 oto, aI cI s03 60 ore, oL s1 s11 s12 s13 (sf 1), aI cI s11 3 (sse 1), aI cI s12 7 (sto 1), aI cI s13 60 (sre 1), oL s2 s21 s22 s23 (sf 2), aI cI s21 3 (sse 2), aI cI s22 7 (sto 2), aI cI s23 60 (sre 2), oL s3 s31 s32 s33 (sf 3), aI cI s31 3 (sse 3), aI cI s32 7 (sto 3), aI cI s33 60 (sre 3), oL o o1 o2 o3 of, aI cI o1 3 ose, aI cI o2 7 oto, aI cI o3 60 ore] rfl) (q0 := 0) rfl rfl rfl rfl (Nat.le_of_ble_eq_true rfl) ⟨Nat.le_of_ble_eq_true rfl, Nat.le_of_ble_eq_true rfl⟩ ⟨Nat.zero_le _, Nat.zero_le _⟩ dX0_keep_41 (fun r w1 H locs hw hP hD hS => ?_)
      obtain ⟨rfl, hw⟩ := hw
      subst hw
      have hP : va_P D vwCl [oH x1 x2 hf, aL cL x2 (gS s0 s1 s2 s3), oL s0 s01 s02 s03 of, aI cI s01 3 ose, aI cI s02 7 oto, aI cI s03 60 ore, oL s1 s11 s12 s13 (sf 1), aI cI s11 3 (sse 1), aI cI s12 7 (sto 1), aI cI s13 60 (sre 1), oL s2 s21 s22 s23 (sf 2), aI cI s21 3 (sse 2), aI cI s22 7 (sto 2), aI cI s23 60 (sre 2), oL s3 s31 s32 s33 (sf 3), aI cI s31 3 (sse 3), aI cI s32 7 (sto 3), aI cI s33 60 (sre 3), oL o o1 o2 o3 of, aI cI o1 3 ose, aI cI o2 7 oto, aI cI o3 60 ore] H := hP
      have hD : va_D A [oH x1 x2 hf, aL cL x2 (gS s0 s1 s2 s3), oL s0 s01 s02 s03 of, aI cI s01 3 ose, aI cI s02 7 oto, aI cI s03 60 ore, oL s1 s11 s12 s13 (sf 1), aI cI s11 3 (sse 1), aI cI s12 7 (sto 1), aI cI s13 60 (sre 1), oL s2 s21 s22 s23 (sf 2), aI cI s21 3 (sse 2), aI cI s22 7 (sto 2), aI cI s23 60 (sre 2), oL s3 s31 s32 s33 (sf 3), aI cI s31 3 (sse 3), aI cI s32 7 (sto 3), aI cI s33 60 (sre 3), oL o o1 o2 o3 of, aI cI o1 3 ose, aI cI o2 7 oto, aI cI o3 60 ore] := hD
      refine ag_topn (v := xv44_1_X0_keep hf) rfl (fun x44_1 ex44_1 => ?_)
      refine ag_putX0 hx hb hG hown hK hP hD hS 0 1 rfl (by decide) k_152 (by decide) rfl rfl (Nat.le_of_ble_eq_true rfl) dX0_keep_44 (fun H locs hP hD hS => ?_)
      have hP : va_P D vwCl [oH x1 x2 (upd hf 0 x44_1), aL cL x2 (gS s0 s1 s2 s3), oL s0 s01 s02 s03 of, aI cI s01 3 ose, aI cI s02 7 oto, aI cI s03 60 ore, oL s1 s11 s12 s13 (sf 1), aI cI s11 3 (sse 1), aI cI s12 7 (sto 1), aI cI s13 60 (sre 1), oL s2 s21 s22 s23 (sf 2), aI cI s21 3 (sse 2), aI cI s22 7 (sto 2), aI cI s23 60 (sre 2), oL s3 s31 s32 s33 (sf 3), aI cI s31 3 (sse 3), aI cI s32 7 (sto 3), aI cI s33 60 (sre 3), oL o o1 o2 o3 of, aI cI o1 3 ose, aI cI o2 7 oto, aI cI o3 60 ore] H := hP
      have hD : va_D A [oH x1 x2 (upd hf 0 x44_1), aL cL x2 (gS s0 s1 s2 s3), oL s0 s01 s02 s03 of, aI cI s01 3 ose, aI cI s02 7 oto, aI cI s03 60 ore, oL s1 s11 s12 s13 (sf 1), aI cI s11 3 (sse 1), aI cI s12 7 (sto 1), aI cI s13 60 (sre 1), oL s2 s21 s22 s23 (sf 2), aI cI s21 3 (sse 2), aI cI s22 7 (sto 2), aI cI s23 60 (sre 2), oL s3 s31 s32 s33 (sf 3), aI cI s31 3 (sse 3), aI cI s32 7 (sto 3), aI cI s33 60 (sre 3), oL o o1 o2 o3 of, aI cI o1 3 ose, aI cI o2 7 oto, aI cI o3 60 ore] := hD
      revert hP; revert hD; revert hS; revert hl
      subst ex44_1
      intro hl hS hD hP
      exact ag_vret [x1, x2, s0, s01, s02, s03, s1, s11, s12, s13, s2, s21, s22, s23, s3, s31, s32, s33, o, o1, o2, o3] hx hb hr hlocks hP hS rfl rfl (by show _ = _; unfold hk_k; rw [show rox (hf 0 + hf 1) = 0 from hk, if_pos c_22]; rfl) dX0_keep_47
    · refine lv_aload_n hx hb dX0_keep_25 rfl (lv_at hl 0 rfl) ?_
      refine lv_dup hx hb dX0_keep_26 rfl ?_
      refine ag_getX0 (v := .int (hf 1)) hx hb hG hown hK hP 0 2 rfl (by decide) k_153 rfl dX0_keep_27 ?_
      refine lv_iconst (v := 1) hx hb dX0_keep_30 (by decide) ?_
      refine lv_iadd hx hb dX0_keep_31 ?_
      refine ag_topn (v := xv32_2_X0_keep hf) rfl (fun x32_2 ex32_2 => ?_)
      refine ag_putX0 hx hb hG hown hK hP hD hS 0 2 rfl (by decide) k_153 (by decide) rfl rfl (Nat.le_of_ble_eq_true rfl) dX0_keep_32 (fun H locs hP hD hS => ?_)
      have hP : va_P D vwCl [oH x1 x2 (upd hf 1 x32_2), aL cL x2 (gS s0 s1 s2 s3), oL s0 s01 s02 s03 of, aI cI s01 3 ose, aI cI s02 7 oto, aI cI s03 60 ore, oL s1 s11 s12 s13 (sf 1), aI cI s11 3 (sse 1), aI cI s12 7 (sto 1), aI cI s13 60 (sre 1), oL s2 s21 s22 s23 (sf 2), aI cI s21 3 (sse 2), aI cI s22 7 (sto 2), aI cI s23 60 (sre 2), oL s3 s31 s32 s33 (sf 3), aI cI s31 3 (sse 3), aI cI s32 7 (sto 3), aI cI s33 60 (sre 3), oL o o1 o2 o3 of, aI cI o1 3 ose, aI cI o2 7 oto, aI cI o3 60 ore] H := hP
      have hD : va_D A [oH x1 x2 (upd hf 1 x32_2), aL cL x2 (gS s0 s1 s2 s3), oL s0 s01 s02 s03 of, aI cI s01 3 ose, aI cI s02 7 oto, aI cI s03 60 ore, oL s1 s11 s12 s13 (sf 1), aI cI s11 3 (sse 1), aI cI s12 7 (sto 1), aI cI s13 60 (sre 1), oL s2 s21 s22 s23 (sf 2), aI cI s21 3 (sse 2), aI cI s22 7 (sto 2), aI cI s23 60 (sre 2), oL s3 s31 s32 s33 (sf 3), aI cI s31 3 (sse 3), aI cI s32 7 (sto 3), aI cI s33 60 (sre 3), oL o o1 o2 o3 of, aI cI o1 3 ose, aI cI o2 7 oto, aI cI o3 60 ore] := hD
      refine lv_goto (tgt := 47) hx hb dX0_keep_35 (by decide) ?_
      revert hP; revert hD; revert hS; revert hl
      subst ex32_2
      intro hl hS hD hP
      exact ag_vret [x1, x2, s0, s01, s02, s03, s1, s11, s12, s13, s2, s21, s22, s23, s3, s31, s32, s33, o, o1, o2, o3] hx hb hr hlocks hP hS rfl rfl (by show _ = _; unfold hk_k; rw [show rox (hf 0 + hf 1) = 0 from hk, if_neg c_22]; rfl) dX0_keep_47
  · refine ag_qld (k := 1) (v := s1) hx hb hK hP 1 rfl ((row_at hf (hf 1)).trans (by rw [hk])) (by decide) rfl dX0_keep_12 ?_
    refine lv_aload_n hx hb dX0_keep_13 rfl (lv_at hl 1 rfl) ?_
    refine ag_callVv (As := [.ref o]) (rest := []) hx hb hml hown hG hK hN hA hP hD hS hl (ct_X1_copyFrom l D cI cC cL s1 o s11 s12 s13 o1 o2 o3 (sf 1) (sse 1) (sto 1) (sre 1) of ose oto ore) fX1_copyFrom k_271 (ag_cut_2 4 [oH x1 x2 hf, aL cL x2 (gS s0 s1 s2 s3), oL s0 s01 s02 s03 (sf 0), aI cI s01 3 (sse 0), aI cI s02 7 (sto 0), aI cI s03 60 (sre 0)] [oL s1 s11 s12 s13 (sf 1), aI cI s11 3 (sse 1), aI cI s12 7 (sto 1), aI cI s13 60 (sre 1)] [oL s2 s21 s22 s23 (sf 2), aI cI s21 3 (sse 2), aI cI s22 7 (sto 2), aI cI s23 60 (sre 2), oL s3 s31 s32 s33 (sf 3), aI cI s31 3 (sse 3), aI cI s32 7 (sto 3), aI cI s33 60 (sre 3)] [oL o o1 o2 o3 of, aI cI o1 3 ose, aI cI o2 7 oto, aI cI o3 60 ore] [] rfl rfl rfl) (q0 := 6) rfl rfl rfl rfl (Nat.le_of_ble_eq_true rfl) ⟨Nat.le_of_ble_eq_true rfl, Nat.le_of_ble_eq_true rfl⟩ ⟨Nat.zero_le _, Nat.zero_le _⟩ dX0_keep_14 (fun w1 H locs hw hP hD hS => ?_)
    have hw : _ = w1 := hw
    subst hw
    have hP : va_P D vwCl [oH x1 x2 hf, aL cL x2 (gS s0 s1 s2 s3), oL s0 s01 s02 s03 (sf 0), aI cI s01 3 (sse 0), aI cI s02 7 (sto 0), aI cI s03 60 (sre 0), oL s1 s11 s12 s13 of, aI cI s11 3 ose, aI cI s12 7 oto, aI cI s13 60 ore, oL s2 s21 s22 s23 (sf 2), aI cI s21 3 (sse 2), aI cI s22 7 (sto 2), aI cI s23 60 (sre 2), oL s3 s31 s32 s33 (sf 3), aI cI s31 3 (sse 3), aI cI s32 7 (sto 3), aI cI s33 60 (sre 3), oL o o1 o2 o3 of, aI cI o1 3 ose, aI cI o2 7 oto, aI cI o3 60 ore] H := hP
    have hD : va_D A [oH x1 x2 hf, aL cL x2 (gS s0 s1 s2 s3), oL s0 s01 s02 s03 (sf 0), aI cI s01 3 (sse 0), aI cI s02 7 (sto 0), aI cI s03 60 (sre 0), oL s1 s11 s12 s13 of, aI cI s11 3 ose, aI cI s12 7 oto, aI cI s13 60 ore, oL s2 s21 s22 s23 (sf 2), aI cI s21 3 (sse 2), aI cI s22 7 (sto 2), aI cI s23 60 (sre 2), oL s3 s31 s32 s33 (sf 3), aI cI s31 3 (sse 3), aI cI s32 7 (sto 3), aI cI s33 60 (sre 3), oL o o1 o2 o3 of, aI cI o1 3 ose, aI cI o2 7 oto, aI cI o3 60 ore] := hD
    refine lv_aload_n hx hb dX0_keep_17 rfl (lv_at hl 0 rfl) ?_
    refine ag_getX0 (v := .int (hf 1)) hx hb hG hown hK hP 0 2 rfl (by decide) k_153 rfl dX0_keep_18 ?_
    refine lv_iconst (v := 4) hx hb dX0_keep_21 (by decide) ?_
    refine lv_icmp_ge (tgt := 38) hx hb dX0_keep_22 (by decide) (fun c_22 => ?_) (fun c_22 => ?_)
    · refine lv_aload_n hx hb dX0_keep_38 rfl (lv_at hl 0 rfl) ?_
      refine lv_aload_n hx hb dX0_keep_39 rfl (lv_at hl 0 rfl) ?_
      refine lv_iconst (v := 1) hx hb dX0_keep_40 (by decide) ?_
      refine ag_callVi (As := [.int 1]) (rest := [.ref x1]) hx hb hml hown hG hK hN hA hP hD hS hl (ct_X0_rowOf l D cI cC cL x1 x2 hf 1) fX0_rowOf k_264 (ag_cut_1 [] [aL cL x2 (gS s0 s1 s2 s3), oL s0 s01 s02 s03 (sf 0), aI cI s01 3 (sse 0), aI cI s02 7 (sto 0), aI cI s03 60 (sre 0), oL s1 s11 s12 s13 of, aI cI s11 3 ose, aI cI s12 7 oto, aI cI s13 60 ore, oL s2 s21 s22 s23 (sf 2), aI cI s21 3 (sse 2), aI cI s22 7 (sto 2), aI cI s23 60 (sre 2), oL s3 s31 s32 s33 (sf 3), aI cI s31 3 (sse 3), aI cI s32 7 (sto 3), aI cI s33 60 (sre 3), oL o o1 o2 o3 of, aI cI o1 3 ose, aI cI o2 7 oto, aI cI o3 60 ore] rfl) (q0 := 0) rfl rfl rfl rfl (Nat.le_of_ble_eq_true rfl) ⟨Nat.le_of_ble_eq_true rfl, Nat.le_of_ble_eq_true rfl⟩ ⟨Nat.zero_le _, Nat.zero_le _⟩ dX0_keep_41 (fun r w1 H locs hw hP hD hS => ?_)
      obtain ⟨rfl, hw⟩ := hw
      subst hw
      have hP : va_P D vwCl [oH x1 x2 hf, aL cL x2 (gS s0 s1 s2 s3), oL s0 s01 s02 s03 (sf 0), aI cI s01 3 (sse 0), aI cI s02 7 (sto 0), aI cI s03 60 (sre 0), oL s1 s11 s12 s13 of, aI cI s11 3 ose, aI cI s12 7 oto, aI cI s13 60 ore, oL s2 s21 s22 s23 (sf 2), aI cI s21 3 (sse 2), aI cI s22 7 (sto 2), aI cI s23 60 (sre 2), oL s3 s31 s32 s33 (sf 3), aI cI s31 3 (sse 3), aI cI s32 7 (sto 3), aI cI s33 60 (sre 3), oL o o1 o2 o3 of, aI cI o1 3 ose, aI cI o2 7 oto, aI cI o3 60 ore] H := hP
      have hD : va_D A [oH x1 x2 hf, aL cL x2 (gS s0 s1 s2 s3), oL s0 s01 s02 s03 (sf 0), aI cI s01 3 (sse 0), aI cI s02 7 (sto 0), aI cI s03 60 (sre 0), oL s1 s11 s12 s13 of, aI cI s11 3 ose, aI cI s12 7 oto, aI cI s13 60 ore, oL s2 s21 s22 s23 (sf 2), aI cI s21 3 (sse 2), aI cI s22 7 (sto 2), aI cI s23 60 (sre 2), oL s3 s31 s32 s33 (sf 3), aI cI s31 3 (sse 3), aI cI s32 7 (sto 3), aI cI s33 60 (sre 3), oL o o1 o2 o3 of, aI cI o1 3 ose, aI cI o2 7 oto, aI cI o3 60 ore] := hD
      refine ag_topn (v := xv44_3_X0_keep hf) rfl (fun x44_3 ex44_3 => ?_)
      refine ag_putX0 hx hb hG hown hK hP hD hS 0 1 rfl (by decide) k_152 (by decide) rfl rfl (Nat.le_of_ble_eq_true rfl) dX0_keep_44 (fun H locs hP hD hS => ?_)
      have hP : va_P D vwCl [oH x1 x2 (upd hf 0 x44_3), aL cL x2 (gS s0 s1 s2 s3), oL s0 s01 s02 s03 (sf 0), aI cI s01 3 (sse 0), aI cI s02 7 (sto 0), aI cI s03 60 (sre 0), oL s1 s11 s12 s13 of, aI cI s11 3 ose, aI cI s12 7 oto, aI cI s13 60 ore, oL s2 s21 s22 s23 (sf 2), aI cI s21 3 (sse 2), aI cI s22 7 (sto 2), aI cI s23 60 (sre 2), oL s3 s31 s32 s33 (sf 3), aI cI s31 3 (sse 3), aI cI s32 7 (sto 3), aI cI s33 60 (sre 3), oL o o1 o2 o3 of, aI cI o1 3 ose, aI cI o2 7 oto, aI cI o3 60 ore] H := hP
      have hD : va_D A [oH x1 x2 (upd hf 0 x44_3), aL cL x2 (gS s0 s1 s2 s3), oL s0 s01 s02 s03 (sf 0), aI cI s01 3 (sse 0), aI cI s02 7 (sto 0), aI cI s03 60 (sre 0), oL s1 s11 s12 s13 of, aI cI s11 3 ose, aI cI s12 7 oto, aI cI s13 60 ore, oL s2 s21 s22 s23 (sf 2), aI cI s21 3 (sse 2), aI cI s22 7 (sto 2), aI cI s23 60 (sre 2), oL s3 s31 s32 s33 (sf 3), aI cI s31 3 (sse 3), aI cI s32 7 (sto 3), aI cI s33 60 (sre 3), oL o o1 o2 o3 of, aI cI o1 3 ose, aI cI o2 7 oto, aI cI o3 60 ore] := hD
      revert hP; revert hD; revert hS; revert hl
      subst ex44_3
      intro hl hS hD hP
      exact ag_vret [x1, x2, s0, s01, s02, s03, s1, s11, s12, s13, s2, s21, s22, s23, s3, s31, s32, s33, o, o1, o2, o3] hx hb hr hlocks hP hS rfl rfl (by show _ = _; unfold hk_k; rw [show rox (hf 0 + hf 1) = 1 from hk, if_pos c_22]; rfl) dX0_keep_47
    · refine lv_aload_n hx hb dX0_keep_25 rfl (lv_at hl 0 rfl) ?_
      refine lv_dup hx hb dX0_keep_26 rfl ?_
      refine ag_getX0 (v := .int (hf 1)) hx hb hG hown hK hP 0 2 rfl (by decide) k_153 rfl dX0_keep_27 ?_
      refine lv_iconst (v := 1) hx hb dX0_keep_30 (by decide) ?_
      refine lv_iadd hx hb dX0_keep_31 ?_
      refine ag_topn (v := xv32_4_X0_keep hf) rfl (fun x32_4 ex32_4 => ?_)
      refine ag_putX0 hx hb hG hown hK hP hD hS 0 2 rfl (by decide) k_153 (by decide) rfl rfl (Nat.le_of_ble_eq_true rfl) dX0_keep_32 (fun H locs hP hD hS => ?_)
      have hP : va_P D vwCl [oH x1 x2 (upd hf 1 x32_4), aL cL x2 (gS s0 s1 s2 s3), oL s0 s01 s02 s03 (sf 0), aI cI s01 3 (sse 0), aI cI s02 7 (sto 0), aI cI s03 60 (sre 0), oL s1 s11 s12 s13 of, aI cI s11 3 ose, aI cI s12 7 oto, aI cI s13 60 ore, oL s2 s21 s22 s23 (sf 2), aI cI s21 3 (sse 2), aI cI s22 7 (sto 2), aI cI s23 60 (sre 2), oL s3 s31 s32 s33 (sf 3), aI cI s31 3 (sse 3), aI cI s32 7 (sto 3), aI cI s33 60 (sre 3), oL o o1 o2 o3 of, aI cI o1 3 ose, aI cI o2 7 oto, aI cI o3 60 ore] H := hP
      have hD : va_D A [oH x1 x2 (upd hf 1 x32_4), aL cL x2 (gS s0 s1 s2 s3), oL s0 s01 s02 s03 (sf 0), aI cI s01 3 (sse 0), aI cI s02 7 (sto 0), aI cI s03 60 (sre 0), oL s1 s11 s12 s13 of, aI cI s11 3 ose, aI cI s12 7 oto, aI cI s13 60 ore, oL s2 s21 s22 s23 (sf 2), aI cI s21 3 (sse 2), aI cI s22 7 (sto 2), aI cI s23 60 (sre 2), oL s3 s31 s32 s33 (sf 3), aI cI s31 3 (sse 3), aI cI s32 7 (sto 3), aI cI s33 60 (sre 3), oL o o1 o2 o3 of, aI cI o1 3 ose, aI cI o2 7 oto, aI cI o3 60 ore] := hD
      refine lv_goto (tgt := 47) hx hb dX0_keep_35 (by decide) ?_
      revert hP; revert hD; revert hS; revert hl
      subst ex32_4
      intro hl hS hD hP
      exact ag_vret [x1, x2, s0, s01, s02, s03, s1, s11, s12, s13, s2, s21, s22, s23, s3, s31, s32, s33, o, o1, o2, o3] hx hb hr hlocks hP hS rfl rfl (by show _ = _; unfold hk_k; rw [show rox (hf 0 + hf 1) = 1 from hk, if_neg c_22]; rfl) dX0_keep_47
  · refine ag_qld (k := 2) (v := s2) hx hb hK hP 1 rfl ((row_at hf (hf 1)).trans (by rw [hk])) (by decide) rfl dX0_keep_12 ?_
    refine lv_aload_n hx hb dX0_keep_13 rfl (lv_at hl 1 rfl) ?_
    refine ag_callVv (As := [.ref o]) (rest := []) hx hb hml hown hG hK hN hA hP hD hS hl (ct_X1_copyFrom l D cI cC cL s2 o s21 s22 s23 o1 o2 o3 (sf 2) (sse 2) (sto 2) (sre 2) of ose oto ore) fX1_copyFrom k_271 (ag_cut_2 4 [oH x1 x2 hf, aL cL x2 (gS s0 s1 s2 s3), oL s0 s01 s02 s03 (sf 0), aI cI s01 3 (sse 0), aI cI s02 7 (sto 0), aI cI s03 60 (sre 0), oL s1 s11 s12 s13 (sf 1), aI cI s11 3 (sse 1), aI cI s12 7 (sto 1), aI cI s13 60 (sre 1)] [oL s2 s21 s22 s23 (sf 2), aI cI s21 3 (sse 2), aI cI s22 7 (sto 2), aI cI s23 60 (sre 2)] [oL s3 s31 s32 s33 (sf 3), aI cI s31 3 (sse 3), aI cI s32 7 (sto 3), aI cI s33 60 (sre 3)] [oL o o1 o2 o3 of, aI cI o1 3 ose, aI cI o2 7 oto, aI cI o3 60 ore] [] rfl rfl rfl) (q0 := 10) rfl rfl rfl rfl (Nat.le_of_ble_eq_true rfl) ⟨Nat.le_of_ble_eq_true rfl, Nat.le_of_ble_eq_true rfl⟩ ⟨Nat.zero_le _, Nat.zero_le _⟩ dX0_keep_14 (fun w1 H locs hw hP hD hS => ?_)
    have hw : _ = w1 := hw
    subst hw
    have hP : va_P D vwCl [oH x1 x2 hf, aL cL x2 (gS s0 s1 s2 s3), oL s0 s01 s02 s03 (sf 0), aI cI s01 3 (sse 0), aI cI s02 7 (sto 0), aI cI s03 60 (sre 0), oL s1 s11 s12 s13 (sf 1), aI cI s11 3 (sse 1), aI cI s12 7 (sto 1), aI cI s13 60 (sre 1), oL s2 s21 s22 s23 of, aI cI s21 3 ose, aI cI s22 7 oto, aI cI s23 60 ore, oL s3 s31 s32 s33 (sf 3), aI cI s31 3 (sse 3), aI cI s32 7 (sto 3), aI cI s33 60 (sre 3), oL o o1 o2 o3 of, aI cI o1 3 ose, aI cI o2 7 oto, aI cI o3 60 ore] H := hP
    have hD : va_D A [oH x1 x2 hf, aL cL x2 (gS s0 s1 s2 s3), oL s0 s01 s02 s03 (sf 0), aI cI s01 3 (sse 0), aI cI s02 7 (sto 0), aI cI s03 60 (sre 0), oL s1 s11 s12 s13 (sf 1), aI cI s11 3 (sse 1), aI cI s12 7 (sto 1), aI cI s13 60 (sre 1), oL s2 s21 s22 s23 of, aI cI s21 3 ose, aI cI s22 7 oto, aI cI s23 60 ore, oL s3 s31 s32 s33 (sf 3), aI cI s31 3 (sse 3), aI cI s32 7 (sto 3), aI cI s33 60 (sre 3), oL o o1 o2 o3 of, aI cI o1 3 ose, aI cI o2 7 oto, aI cI o3 60 ore] := hD
    refine lv_aload_n hx hb dX0_keep_17 rfl (lv_at hl 0 rfl) ?_
    refine ag_getX0 (v := .int (hf 1)) hx hb hG hown hK hP 0 2 rfl (by decide) k_153 rfl dX0_keep_18 ?_
    refine lv_iconst (v := 4) hx hb dX0_keep_21 (by decide) ?_
    refine lv_icmp_ge (tgt := 38) hx hb dX0_keep_22 (by decide) (fun c_22 => ?_) (fun c_22 => ?_)
    · refine lv_aload_n hx hb dX0_keep_38 rfl (lv_at hl 0 rfl) ?_
      refine lv_aload_n hx hb dX0_keep_39 rfl (lv_at hl 0 rfl) ?_
      refine lv_iconst (v := 1) hx hb dX0_keep_40 (by decide) ?_
      refine ag_callVi (As := [.int 1]) (rest := [.ref x1]) hx hb hml hown hG hK hN hA hP hD hS hl (ct_X0_rowOf l D cI cC cL x1 x2 hf 1) fX0_rowOf k_264 (ag_cut_1 [] [aL cL x2 (gS s0 s1 s2 s3), oL s0 s01 s02 s03 (sf 0), aI cI s01 3 (sse 0), aI cI s02 7 (sto 0), aI cI s03 60 (sre 0), oL s1 s11 s12 s13 (sf 1), aI cI s11 3 (sse 1), aI cI s12 7 (sto 1), aI cI s13 60 (sre 1), oL s2 s21 s22 s23 of, aI cI s21 3 ose, aI cI s22 7 oto, aI cI s23 60 ore, oL s3 s31 s32 s33 (sf 3), aI cI s31 3 (sse 3), aI cI s32 7 (sto 3), aI cI s33 60 (sre 3), oL o o1 o2 o3 of, aI cI o1 3 ose, aI cI o2 7 oto, aI cI o3 60 ore] rfl) (q0 := 0) rfl rfl rfl rfl (Nat.le_of_ble_eq_true rfl) ⟨Nat.le_of_ble_eq_true rfl, Nat.le_of_ble_eq_true rfl⟩ ⟨Nat.zero_le _, Nat.zero_le _⟩ dX0_keep_41 (fun r w1 H locs hw hP hD hS => ?_)
      obtain ⟨rfl, hw⟩ := hw
      subst hw
      have hP : va_P D vwCl [oH x1 x2 hf, aL cL x2 (gS s0 s1 s2 s3), oL s0 s01 s02 s03 (sf 0), aI cI s01 3 (sse 0), aI cI s02 7 (sto 0), aI cI s03 60 (sre 0), oL s1 s11 s12 s13 (sf 1), aI cI s11 3 (sse 1), aI cI s12 7 (sto 1), aI cI s13 60 (sre 1), oL s2 s21 s22 s23 of, aI cI s21 3 ose, aI cI s22 7 oto, aI cI s23 60 ore, oL s3 s31 s32 s33 (sf 3), aI cI s31 3 (sse 3), aI cI s32 7 (sto 3), aI cI s33 60 (sre 3), oL o o1 o2 o3 of, aI cI o1 3 ose, aI cI o2 7 oto, aI cI o3 60 ore] H := hP
      have hD : va_D A [oH x1 x2 hf, aL cL x2 (gS s0 s1 s2 s3), oL s0 s01 s02 s03 (sf 0), aI cI s01 3 (sse 0), aI cI s02 7 (sto 0), aI cI s03 60 (sre 0), oL s1 s11 s12 s13 (sf 1), aI cI s11 3 (sse 1), aI cI s12 7 (sto 1), aI cI s13 60 (sre 1), oL s2 s21 s22 s23 of, aI cI s21 3 ose, aI cI s22 7 oto, aI cI s23 60 ore, oL s3 s31 s32 s33 (sf 3), aI cI s31 3 (sse 3), aI cI s32 7 (sto 3), aI cI s33 60 (sre 3), oL o o1 o2 o3 of, aI cI o1 3 ose, aI cI o2 7 oto, aI cI o3 60 ore] := hD
      refine ag_topn (v := xv44_5_X0_keep hf) rfl (fun x44_5 ex44_5 => ?_)
      refine ag_putX0 hx hb hG hown hK hP hD hS 0 1 rfl (by decide) k_152 (by decide) rfl rfl (Nat.le_of_ble_eq_true rfl) dX0_keep_44 (fun H locs hP hD hS => ?_)
      have hP : va_P D vwCl [oH x1 x2 (upd hf 0 x44_5), aL cL x2 (gS s0 s1 s2 s3), oL s0 s01 s02 s03 (sf 0), aI cI s01 3 (sse 0), aI cI s02 7 (sto 0), aI cI s03 60 (sre 0), oL s1 s11 s12 s13 (sf 1), aI cI s11 3 (sse 1), aI cI s12 7 (sto 1), aI cI s13 60 (sre 1), oL s2 s21 s22 s23 of, aI cI s21 3 ose, aI cI s22 7 oto, aI cI s23 60 ore, oL s3 s31 s32 s33 (sf 3), aI cI s31 3 (sse 3), aI cI s32 7 (sto 3), aI cI s33 60 (sre 3), oL o o1 o2 o3 of, aI cI o1 3 ose, aI cI o2 7 oto, aI cI o3 60 ore] H := hP
      have hD : va_D A [oH x1 x2 (upd hf 0 x44_5), aL cL x2 (gS s0 s1 s2 s3), oL s0 s01 s02 s03 (sf 0), aI cI s01 3 (sse 0), aI cI s02 7 (sto 0), aI cI s03 60 (sre 0), oL s1 s11 s12 s13 (sf 1), aI cI s11 3 (sse 1), aI cI s12 7 (sto 1), aI cI s13 60 (sre 1), oL s2 s21 s22 s23 of, aI cI s21 3 ose, aI cI s22 7 oto, aI cI s23 60 ore, oL s3 s31 s32 s33 (sf 3), aI cI s31 3 (sse 3), aI cI s32 7 (sto 3), aI cI s33 60 (sre 3), oL o o1 o2 o3 of, aI cI o1 3 ose, aI cI o2 7 oto, aI cI o3 60 ore] := hD
      revert hP; revert hD; revert hS; revert hl
      subst ex44_5
      intro hl hS hD hP
      exact ag_vret [x1, x2, s0, s01, s02, s03, s1, s11, s12, s13, s2, s21, s22, s23, s3, s31, s32, s33, o, o1, o2, o3] hx hb hr hlocks hP hS rfl rfl (by show _ = _; unfold hk_k; rw [show rox (hf 0 + hf 1) = 2 from hk, if_pos c_22]; rfl) dX0_keep_47
    · refine lv_aload_n hx hb dX0_keep_25 rfl (lv_at hl 0 rfl) ?_
      refine lv_dup hx hb dX0_keep_26 rfl ?_
      refine ag_getX0 (v := .int (hf 1)) hx hb hG hown hK hP 0 2 rfl (by decide) k_153 rfl dX0_keep_27 ?_
      refine lv_iconst (v := 1) hx hb dX0_keep_30 (by decide) ?_
      refine lv_iadd hx hb dX0_keep_31 ?_
      refine ag_topn (v := xv32_6_X0_keep hf) rfl (fun x32_6 ex32_6 => ?_)
      refine ag_putX0 hx hb hG hown hK hP hD hS 0 2 rfl (by decide) k_153 (by decide) rfl rfl (Nat.le_of_ble_eq_true rfl) dX0_keep_32 (fun H locs hP hD hS => ?_)
      have hP : va_P D vwCl [oH x1 x2 (upd hf 1 x32_6), aL cL x2 (gS s0 s1 s2 s3), oL s0 s01 s02 s03 (sf 0), aI cI s01 3 (sse 0), aI cI s02 7 (sto 0), aI cI s03 60 (sre 0), oL s1 s11 s12 s13 (sf 1), aI cI s11 3 (sse 1), aI cI s12 7 (sto 1), aI cI s13 60 (sre 1), oL s2 s21 s22 s23 of, aI cI s21 3 ose, aI cI s22 7 oto, aI cI s23 60 ore, oL s3 s31 s32 s33 (sf 3), aI cI s31 3 (sse 3), aI cI s32 7 (sto 3), aI cI s33 60 (sre 3), oL o o1 o2 o3 of, aI cI o1 3 ose, aI cI o2 7 oto, aI cI o3 60 ore] H := hP
      have hD : va_D A [oH x1 x2 (upd hf 1 x32_6), aL cL x2 (gS s0 s1 s2 s3), oL s0 s01 s02 s03 (sf 0), aI cI s01 3 (sse 0), aI cI s02 7 (sto 0), aI cI s03 60 (sre 0), oL s1 s11 s12 s13 (sf 1), aI cI s11 3 (sse 1), aI cI s12 7 (sto 1), aI cI s13 60 (sre 1), oL s2 s21 s22 s23 of, aI cI s21 3 ose, aI cI s22 7 oto, aI cI s23 60 ore, oL s3 s31 s32 s33 (sf 3), aI cI s31 3 (sse 3), aI cI s32 7 (sto 3), aI cI s33 60 (sre 3), oL o o1 o2 o3 of, aI cI o1 3 ose, aI cI o2 7 oto, aI cI o3 60 ore] := hD
      refine lv_goto (tgt := 47) hx hb dX0_keep_35 (by decide) ?_
      revert hP; revert hD; revert hS; revert hl
      subst ex32_6
      intro hl hS hD hP
      exact ag_vret [x1, x2, s0, s01, s02, s03, s1, s11, s12, s13, s2, s21, s22, s23, s3, s31, s32, s33, o, o1, o2, o3] hx hb hr hlocks hP hS rfl rfl (by show _ = _; unfold hk_k; rw [show rox (hf 0 + hf 1) = 2 from hk, if_neg c_22]; rfl) dX0_keep_47
  · refine ag_qld (k := 3) (v := s3) hx hb hK hP 1 rfl ((row_at hf (hf 1)).trans (by rw [hk])) (by decide) rfl dX0_keep_12 ?_
    refine lv_aload_n hx hb dX0_keep_13 rfl (lv_at hl 1 rfl) ?_
    refine ag_callVv (As := [.ref o]) (rest := []) hx hb hml hown hG hK hN hA hP hD hS hl (ct_X1_copyFrom l D cI cC cL s3 o s31 s32 s33 o1 o2 o3 (sf 3) (sse 3) (sto 3) (sre 3) of ose oto ore) fX1_copyFrom k_271 (ag_cut_1 [oH x1 x2 hf, aL cL x2 (gS s0 s1 s2 s3), oL s0 s01 s02 s03 (sf 0), aI cI s01 3 (sse 0), aI cI s02 7 (sto 0), aI cI s03 60 (sre 0), oL s1 s11 s12 s13 (sf 1), aI cI s11 3 (sse 1), aI cI s12 7 (sto 1), aI cI s13 60 (sre 1), oL s2 s21 s22 s23 (sf 2), aI cI s21 3 (sse 2), aI cI s22 7 (sto 2), aI cI s23 60 (sre 2)] [] rfl) (q0 := 14) rfl rfl rfl rfl (Nat.le_of_ble_eq_true rfl) ⟨Nat.le_of_ble_eq_true rfl, Nat.le_of_ble_eq_true rfl⟩ ⟨Nat.zero_le _, Nat.zero_le _⟩ dX0_keep_14 (fun w1 H locs hw hP hD hS => ?_)
    have hw : _ = w1 := hw
    subst hw
    have hP : va_P D vwCl [oH x1 x2 hf, aL cL x2 (gS s0 s1 s2 s3), oL s0 s01 s02 s03 (sf 0), aI cI s01 3 (sse 0), aI cI s02 7 (sto 0), aI cI s03 60 (sre 0), oL s1 s11 s12 s13 (sf 1), aI cI s11 3 (sse 1), aI cI s12 7 (sto 1), aI cI s13 60 (sre 1), oL s2 s21 s22 s23 (sf 2), aI cI s21 3 (sse 2), aI cI s22 7 (sto 2), aI cI s23 60 (sre 2), oL s3 s31 s32 s33 of, aI cI s31 3 ose, aI cI s32 7 oto, aI cI s33 60 ore, oL o o1 o2 o3 of, aI cI o1 3 ose, aI cI o2 7 oto, aI cI o3 60 ore] H := hP
    have hD : va_D A [oH x1 x2 hf, aL cL x2 (gS s0 s1 s2 s3), oL s0 s01 s02 s03 (sf 0), aI cI s01 3 (sse 0), aI cI s02 7 (sto 0), aI cI s03 60 (sre 0), oL s1 s11 s12 s13 (sf 1), aI cI s11 3 (sse 1), aI cI s12 7 (sto 1), aI cI s13 60 (sre 1), oL s2 s21 s22 s23 (sf 2), aI cI s21 3 (sse 2), aI cI s22 7 (sto 2), aI cI s23 60 (sre 2), oL s3 s31 s32 s33 of, aI cI s31 3 ose, aI cI s32 7 oto, aI cI s33 60 ore, oL o o1 o2 o3 of, aI cI o1 3 ose, aI cI o2 7 oto, aI cI o3 60 ore] := hD
    refine lv_aload_n hx hb dX0_keep_17 rfl (lv_at hl 0 rfl) ?_
    refine ag_getX0 (v := .int (hf 1)) hx hb hG hown hK hP 0 2 rfl (by decide) k_153 rfl dX0_keep_18 ?_
    refine lv_iconst (v := 4) hx hb dX0_keep_21 (by decide) ?_
    refine lv_icmp_ge (tgt := 38) hx hb dX0_keep_22 (by decide) (fun c_22 => ?_) (fun c_22 => ?_)
    · refine lv_aload_n hx hb dX0_keep_38 rfl (lv_at hl 0 rfl) ?_
      refine lv_aload_n hx hb dX0_keep_39 rfl (lv_at hl 0 rfl) ?_
      refine lv_iconst (v := 1) hx hb dX0_keep_40 (by decide) ?_
      refine ag_callVi (As := [.int 1]) (rest := [.ref x1]) hx hb hml hown hG hK hN hA hP hD hS hl (ct_X0_rowOf l D cI cC cL x1 x2 hf 1) fX0_rowOf k_264 (ag_cut_1 [] [aL cL x2 (gS s0 s1 s2 s3), oL s0 s01 s02 s03 (sf 0), aI cI s01 3 (sse 0), aI cI s02 7 (sto 0), aI cI s03 60 (sre 0), oL s1 s11 s12 s13 (sf 1), aI cI s11 3 (sse 1), aI cI s12 7 (sto 1), aI cI s13 60 (sre 1), oL s2 s21 s22 s23 (sf 2), aI cI s21 3 (sse 2), aI cI s22 7 (sto 2), aI cI s23 60 (sre 2), oL s3 s31 s32 s33 of, aI cI s31 3 ose, aI cI s32 7 oto, aI cI s33 60 ore, oL o o1 o2 o3 of, aI cI o1 3 ose, aI cI o2 7 oto, aI cI o3 60 ore] rfl) (q0 := 0) rfl rfl rfl rfl (Nat.le_of_ble_eq_true rfl) ⟨Nat.le_of_ble_eq_true rfl, Nat.le_of_ble_eq_true rfl⟩ ⟨Nat.zero_le _, Nat.zero_le _⟩ dX0_keep_41 (fun r w1 H locs hw hP hD hS => ?_)
      obtain ⟨rfl, hw⟩ := hw
      subst hw
      have hP : va_P D vwCl [oH x1 x2 hf, aL cL x2 (gS s0 s1 s2 s3), oL s0 s01 s02 s03 (sf 0), aI cI s01 3 (sse 0), aI cI s02 7 (sto 0), aI cI s03 60 (sre 0), oL s1 s11 s12 s13 (sf 1), aI cI s11 3 (sse 1), aI cI s12 7 (sto 1), aI cI s13 60 (sre 1), oL s2 s21 s22 s23 (sf 2), aI cI s21 3 (sse 2), aI cI s22 7 (sto 2), aI cI s23 60 (sre 2), oL s3 s31 s32 s33 of, aI cI s31 3 ose, aI cI s32 7 oto, aI cI s33 60 ore, oL o o1 o2 o3 of, aI cI o1 3 ose, aI cI o2 7 oto, aI cI o3 60 ore] H := hP
      have hD : va_D A [oH x1 x2 hf, aL cL x2 (gS s0 s1 s2 s3), oL s0 s01 s02 s03 (sf 0), aI cI s01 3 (sse 0), aI cI s02 7 (sto 0), aI cI s03 60 (sre 0), oL s1 s11 s12 s13 (sf 1), aI cI s11 3 (sse 1), aI cI s12 7 (sto 1), aI cI s13 60 (sre 1), oL s2 s21 s22 s23 (sf 2), aI cI s21 3 (sse 2), aI cI s22 7 (sto 2), aI cI s23 60 (sre 2), oL s3 s31 s32 s33 of, aI cI s31 3 ose, aI cI s32 7 oto, aI cI s33 60 ore, oL o o1 o2 o3 of, aI cI o1 3 ose, aI cI o2 7 oto, aI cI o3 60 ore] := hD
      refine ag_topn (v := xv44_7_X0_keep hf) rfl (fun x44_7 ex44_7 => ?_)
      refine ag_putX0 hx hb hG hown hK hP hD hS 0 1 rfl (by decide) k_152 (by decide) rfl rfl (Nat.le_of_ble_eq_true rfl) dX0_keep_44 (fun H locs hP hD hS => ?_)
      have hP : va_P D vwCl [oH x1 x2 (upd hf 0 x44_7), aL cL x2 (gS s0 s1 s2 s3), oL s0 s01 s02 s03 (sf 0), aI cI s01 3 (sse 0), aI cI s02 7 (sto 0), aI cI s03 60 (sre 0), oL s1 s11 s12 s13 (sf 1), aI cI s11 3 (sse 1), aI cI s12 7 (sto 1), aI cI s13 60 (sre 1), oL s2 s21 s22 s23 (sf 2), aI cI s21 3 (sse 2), aI cI s22 7 (sto 2), aI cI s23 60 (sre 2), oL s3 s31 s32 s33 of, aI cI s31 3 ose, aI cI s32 7 oto, aI cI s33 60 ore, oL o o1 o2 o3 of, aI cI o1 3 ose, aI cI o2 7 oto, aI cI o3 60 ore] H := hP
      have hD : va_D A [oH x1 x2 (upd hf 0 x44_7), aL cL x2 (gS s0 s1 s2 s3), oL s0 s01 s02 s03 (sf 0), aI cI s01 3 (sse 0), aI cI s02 7 (sto 0), aI cI s03 60 (sre 0), oL s1 s11 s12 s13 (sf 1), aI cI s11 3 (sse 1), aI cI s12 7 (sto 1), aI cI s13 60 (sre 1), oL s2 s21 s22 s23 (sf 2), aI cI s21 3 (sse 2), aI cI s22 7 (sto 2), aI cI s23 60 (sre 2), oL s3 s31 s32 s33 of, aI cI s31 3 ose, aI cI s32 7 oto, aI cI s33 60 ore, oL o o1 o2 o3 of, aI cI o1 3 ose, aI cI o2 7 oto, aI cI o3 60 ore] := hD
      revert hP; revert hD; revert hS; revert hl
      subst ex44_7
      intro hl hS hD hP
      exact ag_vret [x1, x2, s0, s01, s02, s03, s1, s11, s12, s13, s2, s21, s22, s23, s3, s31, s32, s33, o, o1, o2, o3] hx hb hr hlocks hP hS rfl rfl (by show _ = _; unfold hk_k; rw [show rox (hf 0 + hf 1) = 3 from hk, if_pos c_22]; rfl) dX0_keep_47
    · refine lv_aload_n hx hb dX0_keep_25 rfl (lv_at hl 0 rfl) ?_
      refine lv_dup hx hb dX0_keep_26 rfl ?_
      refine ag_getX0 (v := .int (hf 1)) hx hb hG hown hK hP 0 2 rfl (by decide) k_153 rfl dX0_keep_27 ?_
      refine lv_iconst (v := 1) hx hb dX0_keep_30 (by decide) ?_
      refine lv_iadd hx hb dX0_keep_31 ?_
      refine ag_topn (v := xv32_8_X0_keep hf) rfl (fun x32_8 ex32_8 => ?_)
      refine ag_putX0 hx hb hG hown hK hP hD hS 0 2 rfl (by decide) k_153 (by decide) rfl rfl (Nat.le_of_ble_eq_true rfl) dX0_keep_32 (fun H locs hP hD hS => ?_)
      have hP : va_P D vwCl [oH x1 x2 (upd hf 1 x32_8), aL cL x2 (gS s0 s1 s2 s3), oL s0 s01 s02 s03 (sf 0), aI cI s01 3 (sse 0), aI cI s02 7 (sto 0), aI cI s03 60 (sre 0), oL s1 s11 s12 s13 (sf 1), aI cI s11 3 (sse 1), aI cI s12 7 (sto 1), aI cI s13 60 (sre 1), oL s2 s21 s22 s23 (sf 2), aI cI s21 3 (sse 2), aI cI s22 7 (sto 2), aI cI s23 60 (sre 2), oL s3 s31 s32 s33 of, aI cI s31 3 ose, aI cI s32 7 oto, aI cI s33 60 ore, oL o o1 o2 o3 of, aI cI o1 3 ose, aI cI o2 7 oto, aI cI o3 60 ore] H := hP
      have hD : va_D A [oH x1 x2 (upd hf 1 x32_8), aL cL x2 (gS s0 s1 s2 s3), oL s0 s01 s02 s03 (sf 0), aI cI s01 3 (sse 0), aI cI s02 7 (sto 0), aI cI s03 60 (sre 0), oL s1 s11 s12 s13 (sf 1), aI cI s11 3 (sse 1), aI cI s12 7 (sto 1), aI cI s13 60 (sre 1), oL s2 s21 s22 s23 (sf 2), aI cI s21 3 (sse 2), aI cI s22 7 (sto 2), aI cI s23 60 (sre 2), oL s3 s31 s32 s33 of, aI cI s31 3 ose, aI cI s32 7 oto, aI cI s33 60 ore, oL o o1 o2 o3 of, aI cI o1 3 ose, aI cI o2 7 oto, aI cI o3 60 ore] := hD
      refine lv_goto (tgt := 47) hx hb dX0_keep_35 (by decide) ?_
      revert hP; revert hD; revert hS; revert hl
      subst ex32_8
      intro hl hS hD hP
      exact ag_vret [x1, x2, s0, s01, s02, s03, s1, s11, s12, s13, s2, s21, s22, s23, s3, s31, s32, s33, o, o1, o2, o3] hx hb hr hlocks hP hS rfl rfl (by show _ = _; unfold hk_k; rw [show rox (hf 0 + hf 1) = 3 from hk, if_neg c_22]; rfl) dX0_keep_47
def gb_k (hf : Nat → Int32) : Nat → Int32 := if hf 1 ≤ 0 then hf else upd hf 1 (hf 1 - 1)
def gb_o (hf : Nat → Int32) (sf : Nat → Nat → Int32) (of : Nat → Int32) : Nat → Int32 := if hf 1 ≤ 0 then of else sf (rox (hf 0 + (hf 1 - 1)))
def xv14_1_X0_giveBack (hf : Nat → Int32) : Int32 := (hf 1) - 1
abbrev po_X0_giveBack (cI cC cL : ClassId) (x1 o x2 s0 s01 s02 s03 s1 s11 s12 s13 s2 s21 s22 s23 s3 s31 s32 s33 o1 o2 o3 : Nat) (hf of ose oto ore : Nat → Int32) (sf : Nat → Nat → Int32) (sse : Nat → Nat → Int32) (sto : Nat → Nat → Int32) (sre : Nat → Nat → Int32) : va_W → Prop := fun w' => [oH x1 x2 (gb_k hf), aL cL x2 (gS s0 s1 s2 s3), oL s0 s01 s02 s03 (sf 0), aI cI s01 3 (sse 0), aI cI s02 7 (sto 0), aI cI s03 60 (sre 0), oL s1 s11 s12 s13 (sf 1), aI cI s11 3 (sse 1), aI cI s12 7 (sto 1), aI cI s13 60 (sre 1), oL s2 s21 s22 s23 (sf 2), aI cI s21 3 (sse 2), aI cI s22 7 (sto 2), aI cI s23 60 (sre 2), oL s3 s31 s32 s33 (sf 3), aI cI s31 3 (sse 3), aI cI s32 7 (sto 3), aI cI s33 60 (sre 3), oL o o1 o2 o3 (gb_o hf sf of), aI cI o1 3 (gb_o hf sse ose), aI cI o2 7 (gb_o hf sto oto), aI cI o3 60 (gb_o hf sre ore)] = w'
set_option maxHeartbeats 4000000 in
set_option maxRecDepth 100000 in
theorem ct_X0_giveBack (l : Launch) (D : va_G) (cI cC cL : ClassId) (x1 o x2 s0 s01 s02 s03 s1 s11 s12 s13 s2 s21 s22 s23 s3 s31 s32 s33 o1 o2 o3 : Nat) (hf of ose oto ore : Nat → Int32) (sf : Nat → Nat → Int32) (sse : Nat → Nat → Int32) (sto : Nat → Nat → Int32) (sre : Nat → Nat → Int32) : ag_MV l yX0_giveBack cX0_giveBack 2 2 51 D cI cC cL [.ref x1, .ref o] [oH x1 x2 hf, aL cL x2 (gS s0 s1 s2 s3), oL s0 s01 s02 s03 (sf 0), aI cI s01 3 (sse 0), aI cI s02 7 (sto 0), aI cI s03 60 (sre 0), oL s1 s11 s12 s13 (sf 1), aI cI s11 3 (sse 1), aI cI s12 7 (sto 1), aI cI s13 60 (sre 1), oL s2 s21 s22 s23 (sf 2), aI cI s21 3 (sse 2), aI cI s22 7 (sto 2), aI cI s23 60 (sre 2), oL s3 s31 s32 s33 (sf 3), aI cI s31 3 (sse 3), aI cI s32 7 (sto 3), aI cI s33 60 (sre 3), oL o o1 o2 o3 of, aI cI o1 3 ose, aI cI o2 7 oto, aI cI o3 60 ore] (po_X0_giveBack cI cC cL x1 o x2 s0 s01 s02 s03 s1 s11 s12 s13 s2 s21 s22 s23 s3 s31 s32 s33 o1 o2 o3 hf of ose oto ore sf sse sto sre) := by
  refine ag_MV.of (plainFor_of_name (by decide)) (Nat.le_of_ble_eq_true rfl) ?_
  intro p e s m below meth c hx hb hr hlocks hml hown hmn hG hK A hN hA H locs hP hD hS ls hl
  have hl : lv_has ls 2 [(0, .ref x1), (1, .ref o)] := hl
  refine lv_aload_n hx hb dX0_giveBack_0 rfl (lv_at hl 0 rfl) ?_
  refine ag_getX0 (v := .int (hf 1)) hx hb hG hown hK hP 0 2 rfl (by decide) k_153 rfl dX0_giveBack_1 ?_
  refine lv_if_le (tgt := 34) hx hb dX0_giveBack_4 (by decide) (fun c_4 => ?_) (fun c_4 => ?_)
  · exact ag_vret [x1, x2, s0, s01, s02, s03, s1, s11, s12, s13, s2, s21, s22, s23, s3, s31, s32, s33, o, o1, o2, o3] hx hb hr hlocks hP hS rfl rfl (by show _ = _; unfold gb_k gb_o; simp only [if_pos c_4]) dX0_giveBack_34
  · refine lv_aload_n hx hb dX0_giveBack_7 rfl (lv_at hl 0 rfl) ?_
    refine lv_dup hx hb dX0_giveBack_8 rfl ?_
    refine ag_getX0 (v := .int (hf 1)) hx hb hG hown hK hP 0 2 rfl (by decide) k_153 rfl dX0_giveBack_9 ?_
    refine lv_iconst (v := 1) hx hb dX0_giveBack_12 (by decide) ?_
    refine lv_isub hx hb dX0_giveBack_13 ?_
    refine ag_topn (v := xv14_1_X0_giveBack hf) rfl (fun x14_1 ex14_1 => ?_)
    refine ag_putX0 hx hb hG hown hK hP hD hS 0 2 rfl (by decide) k_153 (by decide) rfl rfl (Nat.le_of_ble_eq_true rfl) dX0_giveBack_14 (fun H locs hP hD hS => ?_)
    have hP : va_P D vwCl [oH x1 x2 (upd hf 1 x14_1), aL cL x2 (gS s0 s1 s2 s3), oL s0 s01 s02 s03 (sf 0), aI cI s01 3 (sse 0), aI cI s02 7 (sto 0), aI cI s03 60 (sre 0), oL s1 s11 s12 s13 (sf 1), aI cI s11 3 (sse 1), aI cI s12 7 (sto 1), aI cI s13 60 (sre 1), oL s2 s21 s22 s23 (sf 2), aI cI s21 3 (sse 2), aI cI s22 7 (sto 2), aI cI s23 60 (sre 2), oL s3 s31 s32 s33 (sf 3), aI cI s31 3 (sse 3), aI cI s32 7 (sto 3), aI cI s33 60 (sre 3), oL o o1 o2 o3 of, aI cI o1 3 ose, aI cI o2 7 oto, aI cI o3 60 ore] H := hP
    have hD : va_D A [oH x1 x2 (upd hf 1 x14_1), aL cL x2 (gS s0 s1 s2 s3), oL s0 s01 s02 s03 (sf 0), aI cI s01 3 (sse 0), aI cI s02 7 (sto 0), aI cI s03 60 (sre 0), oL s1 s11 s12 s13 (sf 1), aI cI s11 3 (sse 1), aI cI s12 7 (sto 1), aI cI s13 60 (sre 1), oL s2 s21 s22 s23 (sf 2), aI cI s21 3 (sse 2), aI cI s22 7 (sto 2), aI cI s23 60 (sre 2), oL s3 s31 s32 s33 (sf 3), aI cI s31 3 (sse 3), aI cI s32 7 (sto 3), aI cI s33 60 (sre 3), oL o o1 o2 o3 of, aI cI o1 3 ose, aI cI o2 7 oto, aI cI o3 60 ore] := hD
    refine lv_aload_n hx hb dX0_giveBack_17 rfl (lv_at hl 1 rfl) ?_
    refine lv_aload_n hx hb dX0_giveBack_18 rfl (lv_at hl 0 rfl) ?_
    refine ag_getX0 (v := .ref x2) hx hb hG hown hK hP 0 0 rfl (by decide) k_151 rfl dX0_giveBack_19 ?_
    refine lv_aload_n hx hb dX0_giveBack_22 rfl (lv_at hl 0 rfl) ?_
    refine lv_aload_n hx hb dX0_giveBack_23 rfl (lv_at hl 0 rfl) ?_
    refine ag_getX0 (v := .int x14_1) hx hb hG hown hK hP 0 2 rfl (by decide) k_153 rfl dX0_giveBack_24 ?_
    refine ag_callVi (As := [.int x14_1]) (rest := [.ref x2, .ref o]) hx hb hml hown hG hK hN hA hP hD hS hl (ct_X0_rowOf l D cI cC cL x1 x2 (upd hf 1 x14_1) x14_1) fX0_rowOf k_264 (ag_cut_1 [] [aL cL x2 (gS s0 s1 s2 s3), oL s0 s01 s02 s03 (sf 0), aI cI s01 3 (sse 0), aI cI s02 7 (sto 0), aI cI s03 60 (sre 0), oL s1 s11 s12 s13 (sf 1), aI cI s11 3 (sse 1), aI cI s12 7 (sto 1), aI cI s13 60 (sre 1), oL s2 s21 s22 s23 (sf 2), aI cI s21 3 (sse 2), aI cI s22 7 (sto 2), aI cI s23 60 (sre 2), oL s3 s31 s32 s33 (sf 3), aI cI s31 3 (sse 3), aI cI s32 7 (sto 3), aI cI s33 60 (sre 3), oL o o1 o2 o3 of, aI cI o1 3 ose, aI cI o2 7 oto, aI cI o3 60 ore] rfl) (q0 := 0) rfl rfl rfl rfl (Nat.le_of_ble_eq_true rfl) ⟨Nat.le_of_ble_eq_true rfl, Nat.le_of_ble_eq_true rfl⟩ ⟨Nat.zero_le _, Nat.zero_le _⟩ dX0_giveBack_27 (fun r w1 H locs hw hP hD hS => ?_)
    obtain ⟨rfl, hw⟩ := hw
    subst hw
    have hP : va_P D vwCl [oH x1 x2 (upd hf 1 x14_1), aL cL x2 (gS s0 s1 s2 s3), oL s0 s01 s02 s03 (sf 0), aI cI s01 3 (sse 0), aI cI s02 7 (sto 0), aI cI s03 60 (sre 0), oL s1 s11 s12 s13 (sf 1), aI cI s11 3 (sse 1), aI cI s12 7 (sto 1), aI cI s13 60 (sre 1), oL s2 s21 s22 s23 (sf 2), aI cI s21 3 (sse 2), aI cI s22 7 (sto 2), aI cI s23 60 (sre 2), oL s3 s31 s32 s33 (sf 3), aI cI s31 3 (sse 3), aI cI s32 7 (sto 3), aI cI s33 60 (sre 3), oL o o1 o2 o3 of, aI cI o1 3 ose, aI cI o2 7 oto, aI cI o3 60 ore] H := hP
    have hD : va_D A [oH x1 x2 (upd hf 1 x14_1), aL cL x2 (gS s0 s1 s2 s3), oL s0 s01 s02 s03 (sf 0), aI cI s01 3 (sse 0), aI cI s02 7 (sto 0), aI cI s03 60 (sre 0), oL s1 s11 s12 s13 (sf 1), aI cI s11 3 (sse 1), aI cI s12 7 (sto 1), aI cI s13 60 (sre 1), oL s2 s21 s22 s23 (sf 2), aI cI s21 3 (sse 2), aI cI s22 7 (sto 2), aI cI s23 60 (sre 2), oL s3 s31 s32 s33 (sf 3), aI cI s31 3 (sse 3), aI cI s32 7 (sto 3), aI cI s33 60 (sre 3), oL o o1 o2 o3 of, aI cI o1 3 ose, aI cI o2 7 oto, aI cI o3 60 ore] := hD
    rcases rox_4 (hf 0 + xv14_1_X0_giveBack hf) with hk | hk | hk | hk
    · refine ag_qld (k := 0) (v := s0) hx hb hK hP 1 rfl ((row_at (upd hf 1 x14_1) x14_1).trans (by rw [← ex14_1]; exact congrArg nI hk)) (by decide) rfl dX0_giveBack_30 ?_
      refine ag_callVv (As := [.ref s0]) (rest := []) hx hb hml hown hG hK hN hA hP hD hS hl (ct_X1_copyFrom l D cI cC cL o s0 o1 o2 o3 s01 s02 s03 of ose oto ore (sf 0) (sse 0) (sto 0) (sre 0)) fX1_copyFrom k_271 (ag_cut_2s 4 [oH x1 x2 (upd hf 1 x14_1), aL cL x2 (gS s0 s1 s2 s3)] [oL o o1 o2 o3 of, aI cI o1 3 ose, aI cI o2 7 oto, aI cI o3 60 ore] [oL s1 s11 s12 s13 (sf 1), aI cI s11 3 (sse 1), aI cI s12 7 (sto 1), aI cI s13 60 (sre 1), oL s2 s21 s22 s23 (sf 2), aI cI s21 3 (sse 2), aI cI s22 7 (sto 2), aI cI s23 60 (sre 2), oL s3 s31 s32 s33 (sf 3), aI cI s31 3 (sse 3), aI cI s32 7 (sto 3), aI cI s33 60 (sre 3)] [oL s0 s01 s02 s03 (sf 0), aI cI s01 3 (sse 0), aI cI s02 7 (sto 0), aI cI s03 60 (sre 0)] [] rfl rfl rfl) (q0 := 18) rfl rfl rfl rfl (Nat.le_of_ble_eq_true rfl) ⟨Nat.le_of_ble_eq_true rfl, Nat.le_of_ble_eq_true rfl⟩ ⟨Nat.zero_le _, Nat.zero_le _⟩ dX0_giveBack_31 (fun w1 H locs hw hP hD hS => ?_)
      have hw : _ = w1 := hw
      subst hw
      have hP : va_P D vwCl [oH x1 x2 (upd hf 1 x14_1), aL cL x2 (gS s0 s1 s2 s3), oL s0 s01 s02 s03 (sf 0), aI cI s01 3 (sse 0), aI cI s02 7 (sto 0), aI cI s03 60 (sre 0), oL s1 s11 s12 s13 (sf 1), aI cI s11 3 (sse 1), aI cI s12 7 (sto 1), aI cI s13 60 (sre 1), oL s2 s21 s22 s23 (sf 2), aI cI s21 3 (sse 2), aI cI s22 7 (sto 2), aI cI s23 60 (sre 2), oL s3 s31 s32 s33 (sf 3), aI cI s31 3 (sse 3), aI cI s32 7 (sto 3), aI cI s33 60 (sre 3), oL o o1 o2 o3 (sf 0), aI cI o1 3 (sse 0), aI cI o2 7 (sto 0), aI cI o3 60 (sre 0)] H := hP
      have hD : va_D A [oH x1 x2 (upd hf 1 x14_1), aL cL x2 (gS s0 s1 s2 s3), oL s0 s01 s02 s03 (sf 0), aI cI s01 3 (sse 0), aI cI s02 7 (sto 0), aI cI s03 60 (sre 0), oL s1 s11 s12 s13 (sf 1), aI cI s11 3 (sse 1), aI cI s12 7 (sto 1), aI cI s13 60 (sre 1), oL s2 s21 s22 s23 (sf 2), aI cI s21 3 (sse 2), aI cI s22 7 (sto 2), aI cI s23 60 (sre 2), oL s3 s31 s32 s33 (sf 3), aI cI s31 3 (sse 3), aI cI s32 7 (sto 3), aI cI s33 60 (sre 3), oL o o1 o2 o3 (sf 0), aI cI o1 3 (sse 0), aI cI o2 7 (sto 0), aI cI o3 60 (sre 0)] := hD
      revert hP; revert hD; revert hS; revert hl
      subst ex14_1
      intro hl hS hD hP
      exact ag_vret [x1, x2, s0, s01, s02, s03, s1, s11, s12, s13, s2, s21, s22, s23, s3, s31, s32, s33, o, o1, o2, o3] hx hb hr hlocks hP hS rfl rfl (by show _ = _; unfold gb_k gb_o; simp only [if_neg c_4]; rw [show rox (hf 0 + (hf 1 - 1)) = 0 from hk]; rfl) dX0_giveBack_34
    · refine ag_qld (k := 1) (v := s1) hx hb hK hP 1 rfl ((row_at (upd hf 1 x14_1) x14_1).trans (by rw [← ex14_1]; exact congrArg nI hk)) (by decide) rfl dX0_giveBack_30 ?_
      refine ag_callVv (As := [.ref s1]) (rest := []) hx hb hml hown hG hK hN hA hP hD hS hl (ct_X1_copyFrom l D cI cC cL o s1 o1 o2 o3 s11 s12 s13 of ose oto ore (sf 1) (sse 1) (sto 1) (sre 1)) fX1_copyFrom k_271 (ag_cut_2s 4 [oH x1 x2 (upd hf 1 x14_1), aL cL x2 (gS s0 s1 s2 s3), oL s0 s01 s02 s03 (sf 0), aI cI s01 3 (sse 0), aI cI s02 7 (sto 0), aI cI s03 60 (sre 0)] [oL o o1 o2 o3 of, aI cI o1 3 ose, aI cI o2 7 oto, aI cI o3 60 ore] [oL s2 s21 s22 s23 (sf 2), aI cI s21 3 (sse 2), aI cI s22 7 (sto 2), aI cI s23 60 (sre 2), oL s3 s31 s32 s33 (sf 3), aI cI s31 3 (sse 3), aI cI s32 7 (sto 3), aI cI s33 60 (sre 3)] [oL s1 s11 s12 s13 (sf 1), aI cI s11 3 (sse 1), aI cI s12 7 (sto 1), aI cI s13 60 (sre 1)] [] rfl rfl rfl) (q0 := 18) rfl rfl rfl rfl (Nat.le_of_ble_eq_true rfl) ⟨Nat.le_of_ble_eq_true rfl, Nat.le_of_ble_eq_true rfl⟩ ⟨Nat.zero_le _, Nat.zero_le _⟩ dX0_giveBack_31 (fun w1 H locs hw hP hD hS => ?_)
      have hw : _ = w1 := hw
      subst hw
      have hP : va_P D vwCl [oH x1 x2 (upd hf 1 x14_1), aL cL x2 (gS s0 s1 s2 s3), oL s0 s01 s02 s03 (sf 0), aI cI s01 3 (sse 0), aI cI s02 7 (sto 0), aI cI s03 60 (sre 0), oL s1 s11 s12 s13 (sf 1), aI cI s11 3 (sse 1), aI cI s12 7 (sto 1), aI cI s13 60 (sre 1), oL s2 s21 s22 s23 (sf 2), aI cI s21 3 (sse 2), aI cI s22 7 (sto 2), aI cI s23 60 (sre 2), oL s3 s31 s32 s33 (sf 3), aI cI s31 3 (sse 3), aI cI s32 7 (sto 3), aI cI s33 60 (sre 3), oL o o1 o2 o3 (sf 1), aI cI o1 3 (sse 1), aI cI o2 7 (sto 1), aI cI o3 60 (sre 1)] H := hP
      have hD : va_D A [oH x1 x2 (upd hf 1 x14_1), aL cL x2 (gS s0 s1 s2 s3), oL s0 s01 s02 s03 (sf 0), aI cI s01 3 (sse 0), aI cI s02 7 (sto 0), aI cI s03 60 (sre 0), oL s1 s11 s12 s13 (sf 1), aI cI s11 3 (sse 1), aI cI s12 7 (sto 1), aI cI s13 60 (sre 1), oL s2 s21 s22 s23 (sf 2), aI cI s21 3 (sse 2), aI cI s22 7 (sto 2), aI cI s23 60 (sre 2), oL s3 s31 s32 s33 (sf 3), aI cI s31 3 (sse 3), aI cI s32 7 (sto 3), aI cI s33 60 (sre 3), oL o o1 o2 o3 (sf 1), aI cI o1 3 (sse 1), aI cI o2 7 (sto 1), aI cI o3 60 (sre 1)] := hD
      revert hP; revert hD; revert hS; revert hl
      subst ex14_1
      intro hl hS hD hP
      exact ag_vret [x1, x2, s0, s01, s02, s03, s1, s11, s12, s13, s2, s21, s22, s23, s3, s31, s32, s33, o, o1, o2, o3] hx hb hr hlocks hP hS rfl rfl (by show _ = _; unfold gb_k gb_o; simp only [if_neg c_4]; rw [show rox (hf 0 + (hf 1 - 1)) = 1 from hk]; rfl) dX0_giveBack_34
    · refine ag_qld (k := 2) (v := s2) hx hb hK hP 1 rfl ((row_at (upd hf 1 x14_1) x14_1).trans (by rw [← ex14_1]; exact congrArg nI hk)) (by decide) rfl dX0_giveBack_30 ?_
      refine ag_callVv (As := [.ref s2]) (rest := []) hx hb hml hown hG hK hN hA hP hD hS hl (ct_X1_copyFrom l D cI cC cL o s2 o1 o2 o3 s21 s22 s23 of ose oto ore (sf 2) (sse 2) (sto 2) (sre 2)) fX1_copyFrom k_271 (ag_cut_2s 4 [oH x1 x2 (upd hf 1 x14_1), aL cL x2 (gS s0 s1 s2 s3), oL s0 s01 s02 s03 (sf 0), aI cI s01 3 (sse 0), aI cI s02 7 (sto 0), aI cI s03 60 (sre 0), oL s1 s11 s12 s13 (sf 1), aI cI s11 3 (sse 1), aI cI s12 7 (sto 1), aI cI s13 60 (sre 1)] [oL o o1 o2 o3 of, aI cI o1 3 ose, aI cI o2 7 oto, aI cI o3 60 ore] [oL s3 s31 s32 s33 (sf 3), aI cI s31 3 (sse 3), aI cI s32 7 (sto 3), aI cI s33 60 (sre 3)] [oL s2 s21 s22 s23 (sf 2), aI cI s21 3 (sse 2), aI cI s22 7 (sto 2), aI cI s23 60 (sre 2)] [] rfl rfl rfl) (q0 := 18) rfl rfl rfl rfl (Nat.le_of_ble_eq_true rfl) ⟨Nat.le_of_ble_eq_true rfl, Nat.le_of_ble_eq_true rfl⟩ ⟨Nat.zero_le _, Nat.zero_le _⟩ dX0_giveBack_31 (fun w1 H locs hw hP hD hS => ?_)
      have hw : _ = w1 := hw
      subst hw
      have hP : va_P D vwCl [oH x1 x2 (upd hf 1 x14_1), aL cL x2 (gS s0 s1 s2 s3), oL s0 s01 s02 s03 (sf 0), aI cI s01 3 (sse 0), aI cI s02 7 (sto 0), aI cI s03 60 (sre 0), oL s1 s11 s12 s13 (sf 1), aI cI s11 3 (sse 1), aI cI s12 7 (sto 1), aI cI s13 60 (sre 1), oL s2 s21 s22 s23 (sf 2), aI cI s21 3 (sse 2), aI cI s22 7 (sto 2), aI cI s23 60 (sre 2), oL s3 s31 s32 s33 (sf 3), aI cI s31 3 (sse 3), aI cI s32 7 (sto 3), aI cI s33 60 (sre 3), oL o o1 o2 o3 (sf 2), aI cI o1 3 (sse 2), aI cI o2 7 (sto 2), aI cI o3 60 (sre 2)] H := hP
      have hD : va_D A [oH x1 x2 (upd hf 1 x14_1), aL cL x2 (gS s0 s1 s2 s3), oL s0 s01 s02 s03 (sf 0), aI cI s01 3 (sse 0), aI cI s02 7 (sto 0), aI cI s03 60 (sre 0), oL s1 s11 s12 s13 (sf 1), aI cI s11 3 (sse 1), aI cI s12 7 (sto 1), aI cI s13 60 (sre 1), oL s2 s21 s22 s23 (sf 2), aI cI s21 3 (sse 2), aI cI s22 7 (sto 2), aI cI s23 60 (sre 2), oL s3 s31 s32 s33 (sf 3), aI cI s31 3 (sse 3), aI cI s32 7 (sto 3), aI cI s33 60 (sre 3), oL o o1 o2 o3 (sf 2), aI cI o1 3 (sse 2), aI cI o2 7 (sto 2), aI cI o3 60 (sre 2)] := hD
      revert hP; revert hD; revert hS; revert hl
      subst ex14_1
      intro hl hS hD hP
      exact ag_vret [x1, x2, s0, s01, s02, s03, s1, s11, s12, s13, s2, s21, s22, s23, s3, s31, s32, s33, o, o1, o2, o3] hx hb hr hlocks hP hS rfl rfl (by show _ = _; unfold gb_k gb_o; simp only [if_neg c_4]; rw [show rox (hf 0 + (hf 1 - 1)) = 2 from hk]; rfl) dX0_giveBack_34
    · refine ag_qld (k := 3) (v := s3) hx hb hK hP 1 rfl ((row_at (upd hf 1 x14_1) x14_1).trans (by rw [← ex14_1]; exact congrArg nI hk)) (by decide) rfl dX0_giveBack_30 ?_
      refine ag_callVv (As := [.ref s3]) (rest := []) hx hb hml hown hG hK hN hA hP hD hS hl (ct_X1_copyFrom l D cI cC cL o s3 o1 o2 o3 s31 s32 s33 of ose oto ore (sf 3) (sse 3) (sto 3) (sre 3)) fX1_copyFrom k_271 (ag_cut_2s 4 [oH x1 x2 (upd hf 1 x14_1), aL cL x2 (gS s0 s1 s2 s3), oL s0 s01 s02 s03 (sf 0), aI cI s01 3 (sse 0), aI cI s02 7 (sto 0), aI cI s03 60 (sre 0), oL s1 s11 s12 s13 (sf 1), aI cI s11 3 (sse 1), aI cI s12 7 (sto 1), aI cI s13 60 (sre 1), oL s2 s21 s22 s23 (sf 2), aI cI s21 3 (sse 2), aI cI s22 7 (sto 2), aI cI s23 60 (sre 2)] [oL o o1 o2 o3 of, aI cI o1 3 ose, aI cI o2 7 oto, aI cI o3 60 ore] [] [oL s3 s31 s32 s33 (sf 3), aI cI s31 3 (sse 3), aI cI s32 7 (sto 3), aI cI s33 60 (sre 3)] [] rfl rfl rfl) (q0 := 18) rfl rfl rfl rfl (Nat.le_of_ble_eq_true rfl) ⟨Nat.le_of_ble_eq_true rfl, Nat.le_of_ble_eq_true rfl⟩ ⟨Nat.zero_le _, Nat.zero_le _⟩ dX0_giveBack_31 (fun w1 H locs hw hP hD hS => ?_)
      have hw : _ = w1 := hw
      subst hw
      have hP : va_P D vwCl [oH x1 x2 (upd hf 1 x14_1), aL cL x2 (gS s0 s1 s2 s3), oL s0 s01 s02 s03 (sf 0), aI cI s01 3 (sse 0), aI cI s02 7 (sto 0), aI cI s03 60 (sre 0), oL s1 s11 s12 s13 (sf 1), aI cI s11 3 (sse 1), aI cI s12 7 (sto 1), aI cI s13 60 (sre 1), oL s2 s21 s22 s23 (sf 2), aI cI s21 3 (sse 2), aI cI s22 7 (sto 2), aI cI s23 60 (sre 2), oL s3 s31 s32 s33 (sf 3), aI cI s31 3 (sse 3), aI cI s32 7 (sto 3), aI cI s33 60 (sre 3), oL o o1 o2 o3 (sf 3), aI cI o1 3 (sse 3), aI cI o2 7 (sto 3), aI cI o3 60 (sre 3)] H := hP
      have hD : va_D A [oH x1 x2 (upd hf 1 x14_1), aL cL x2 (gS s0 s1 s2 s3), oL s0 s01 s02 s03 (sf 0), aI cI s01 3 (sse 0), aI cI s02 7 (sto 0), aI cI s03 60 (sre 0), oL s1 s11 s12 s13 (sf 1), aI cI s11 3 (sse 1), aI cI s12 7 (sto 1), aI cI s13 60 (sre 1), oL s2 s21 s22 s23 (sf 2), aI cI s21 3 (sse 2), aI cI s22 7 (sto 2), aI cI s23 60 (sre 2), oL s3 s31 s32 s33 (sf 3), aI cI s31 3 (sse 3), aI cI s32 7 (sto 3), aI cI s33 60 (sre 3), oL o o1 o2 o3 (sf 3), aI cI o1 3 (sse 3), aI cI o2 7 (sto 3), aI cI o3 60 (sre 3)] := hD
      revert hP; revert hD; revert hS; revert hl
      subst ex14_1
      intro hl hS hD hP
      exact ag_vret [x1, x2, s0, s01, s02, s03, s1, s11, s12, s13, s2, s21, s22, s23, s3, s31, s32, s33, o, o1, o2, o3] hx hb hr hlocks hP hS rfl rfl (by show _ = _; unfold gb_k gb_o; simp only [if_neg c_4]; rw [show rox (hf 0 + (hf 1 - 1)) = 3 from hk]; rfl) dX0_giveBack_34
end
