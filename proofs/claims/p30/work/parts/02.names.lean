-- ===== PART A: goes FIRST, ahead of the names: the tables' words, and 'selects' of the private methods out of them =====
/-- a private method of a class that the tables say can be made, by its rows of tables_1 -/
def lw_okq (q : MethodName × Nat) : Prop := (q.1.cls ≠ "java/lang/invoke/MethodHandle" ∧ q.1.cls ≠ "java/lang/invoke/VarHandle") ∧ Cond.instantiable q.1.cls q.2 ∈ tables_1 ∧ Cond.privateMethod q.1 ∈ tables_1 ∧ Cond.instanceMethod q.1 ∈ tables_1
theorem lw_p0 : lw_okq (⟨"java/lang/Throwable", "fillInStackTrace", "(I)Ljava/lang/Throwable;"⟩, 6) := ⟨⟨by decide +kernel, by decide +kernel⟩, List.mem_of_getElem? (i := 307) (by decide +kernel), List.mem_of_getElem? (i := 305) (by decide +kernel), List.mem_of_getElem? (i := 306) (by decide +kernel)⟩
theorem lw_p1 : lw_okq (⟨"RemontoirClock$Winders", "copyWinder", "(LRemontoirClock$Winders;II)V"⟩, 6) := ⟨⟨by decide +kernel, by decide +kernel⟩, List.mem_of_getElem? (i := 53) (by decide +kernel), List.mem_of_getElem? (i := 375) (by decide +kernel), List.mem_of_getElem? (i := 376) (by decide +kernel)⟩
theorem lw_p2 : lw_okq (⟨"RemontoirClock", "requireWinder", "(I)V"⟩, 5) := ⟨⟨by decide +kernel, by decide +kernel⟩, List.mem_of_getElem? (i := 18) (by decide +kernel), List.mem_of_getElem? (i := 433) (by decide +kernel), List.mem_of_getElem? (i := 434) (by decide +kernel)⟩
theorem lw_p3 : lw_okq (⟨"RemontoirClock$State", "passUpToDebts", "()V"⟩, 16) := ⟨⟨by decide +kernel, by decide +kernel⟩, List.mem_of_getElem? (i := 26) (by decide +kernel), List.mem_of_getElem? (i := 494) (by decide +kernel), List.mem_of_getElem? (i := 495) (by decide +kernel)⟩
theorem lw_p4 : lw_okq (⟨"RemontoirClock$State", "letWinderCome", "()V"⟩, 16) := ⟨⟨by decide +kernel, by decide +kernel⟩, List.mem_of_getElem? (i := 26) (by decide +kernel), List.mem_of_getElem? (i := 498) (by decide +kernel), List.mem_of_getElem? (i := 499) (by decide +kernel)⟩
theorem lw_p5 : lw_okq (⟨"RemontoirClock$State", "areStrikersKeptOut", "()Z"⟩, 16) := ⟨⟨by decide +kernel, by decide +kernel⟩, List.mem_of_getElem? (i := 26) (by decide +kernel), List.mem_of_getElem? (i := 502) (by decide +kernel), List.mem_of_getElem? (i := 503) (by decide +kernel)⟩
theorem lw_p6 : lw_okq (⟨"RemontoirClock$State", "moveHands", "()Z"⟩, 16) := ⟨⟨by decide +kernel, by decide +kernel⟩, List.mem_of_getElem? (i := 26) (by decide +kernel), List.mem_of_getElem? (i := 520) (by decide +kernel), List.mem_of_getElem? (i := 521) (by decide +kernel)⟩
theorem lw_p7 : lw_okq (⟨"RemontoirClock$State", "isSlippery", "()Z"⟩, 16) := ⟨⟨by decide +kernel, by decide +kernel⟩, List.mem_of_getElem? (i := 26) (by decide +kernel), List.mem_of_getElem? (i := 524) (by decide +kernel), List.mem_of_getElem? (i := 525) (by decide +kernel)⟩
theorem lw_p8 : lw_okq (⟨"RemontoirClock$State", "slip", "()V"⟩, 16) := ⟨⟨by decide +kernel, by decide +kernel⟩, List.mem_of_getElem? (i := 26) (by decide +kernel), List.mem_of_getElem? (i := 528) (by decide +kernel), List.mem_of_getElem? (i := 529) (by decide +kernel)⟩
theorem lw_p9 : lw_okq (⟨"RemontoirClock$State", "chime", "()V"⟩, 16) := ⟨⟨by decide +kernel, by decide +kernel⟩, List.mem_of_getElem? (i := 26) (by decide +kernel), List.mem_of_getElem? (i := 532) (by decide +kernel), List.mem_of_getElem? (i := 533) (by decide +kernel)⟩
theorem lw_p10 : lw_okq (⟨"RemontoirClock$State", "hourShown", "()I"⟩, 16) := ⟨⟨by decide +kernel, by decide +kernel⟩, List.mem_of_getElem? (i := 26) (by decide +kernel), List.mem_of_getElem? (i := 540) (by decide +kernel), List.mem_of_getElem? (i := 541) (by decide +kernel)⟩
theorem lw_p11 : lw_okq (⟨"RemontoirClock$State", "owe", "()V"⟩, 16) := ⟨⟨by decide +kernel, by decide +kernel⟩, List.mem_of_getElem? (i := 26) (by decide +kernel), List.mem_of_getElem? (i := 545) (by decide +kernel), List.mem_of_getElem? (i := 546) (by decide +kernel)⟩
theorem lw_p12 : lw_okq (⟨"RemontoirClock$State", "strike", "()V"⟩, 16) := ⟨⟨by decide +kernel, by decide +kernel⟩, List.mem_of_getElem? (i := 26) (by decide +kernel), List.mem_of_getElem? (i := 557) (by decide +kernel), List.mem_of_getElem? (i := 558) (by decide +kernel)⟩
def lw_privs_1 : List (MethodName × Nat) := [(⟨"java/lang/Throwable", "fillInStackTrace", "(I)Ljava/lang/Throwable;"⟩, 6), (⟨"RemontoirClock$Winders", "copyWinder", "(LRemontoirClock$Winders;II)V"⟩, 6), (⟨"RemontoirClock", "requireWinder", "(I)V"⟩, 5), (⟨"RemontoirClock$State", "passUpToDebts", "()V"⟩, 16), (⟨"RemontoirClock$State", "letWinderCome", "()V"⟩, 16), (⟨"RemontoirClock$State", "areStrikersKeptOut", "()Z"⟩, 16), (⟨"RemontoirClock$State", "moveHands", "()Z"⟩, 16), (⟨"RemontoirClock$State", "isSlippery", "()Z"⟩, 16), (⟨"RemontoirClock$State", "slip", "()V"⟩, 16), (⟨"RemontoirClock$State", "chime", "()V"⟩, 16), (⟨"RemontoirClock$State", "hourShown", "()I"⟩, 16), (⟨"RemontoirClock$State", "owe", "()V"⟩, 16), (⟨"RemontoirClock$State", "strike", "()V"⟩, 16)]
theorem lw_r1 : ∀ q ∈ lw_privs_1, lw_okq q := List.forall_mem_cons.mpr ⟨lw_p0, List.forall_mem_cons.mpr ⟨lw_p1, List.forall_mem_cons.mpr ⟨lw_p2, List.forall_mem_cons.mpr ⟨lw_p3, List.forall_mem_cons.mpr ⟨lw_p4, List.forall_mem_cons.mpr ⟨lw_p5, List.forall_mem_cons.mpr ⟨lw_p6, List.forall_mem_cons.mpr ⟨lw_p7, List.forall_mem_cons.mpr ⟨lw_p8, List.forall_mem_cons.mpr ⟨lw_p9, List.forall_mem_cons.mpr ⟨lw_p10, List.forall_mem_cons.mpr ⟨lw_p11, List.forall_mem_cons.mpr ⟨lw_p12, fun _ h => absurd h List.not_mem_nil⟩⟩⟩⟩⟩⟩⟩⟩⟩⟩⟩⟩⟩
def lw_privs : List (MethodName × Nat) := lw_privs_1
def lw_tbl : List Cond := k2_sels lw_privs ++ tables_1
theorem lw_privs_ok : ∀ q ∈ lw_privs, lw_okq q := lw_r1
def RX0 : String := "RemontoirClock$Debts"
def TX0 : u_T := fun k => match k with
  | 0 => ("RemontoirClock$Debts", "size", "I", false)
  | 1 => ("RemontoirClock$Debts", "hour", "[I", true)
  | _ => ("RemontoirClock$Debts", "left", "[I", true)
def tyX0 : Nat → FieldType := fun k => match k with
  | 0 => .int
  | 1 => .array .int
  | _ => .array .int
abbrev wsX00 : List Cond := u_ws RX0 TX0 3
theorem nmX0 : ∀ a, a < 3 → ∀ b, b < 3 → a ≠ b → (TX0 a).2.1 ≠ (TX0 b).2.1 := by decide +kernel
theorem tyX0_ok : ∀ k, k < 3 → parseFieldDescriptor (TX0 k).2.2.1 = some (tyX0 k) := by decide +kernel
abbrev cX0_init : ByteArray := prog_2_method_1_code
def yX0_init : MethodName := ⟨RX0, "<init>", "()V"⟩
abbrev cX0_copyFrom : ByteArray := prog_2_method_2_code
def yX0_copyFrom : MethodName := ⟨RX0, "copyFrom", "(LRemontoirClock$Debts;)V"⟩
abbrev cX0_owed : ByteArray := prog_2_method_3_code
def yX0_owed : MethodName := ⟨RX0, "owed", "()I"⟩
abbrev cX0_add : ByteArray := prog_2_method_4_code
def yX0_add : MethodName := ⟨RX0, "add", "(I)V"⟩
abbrev cX0_payFirst : ByteArray := prog_2_method_5_code
def yX0_payFirst : MethodName := ⟨RX0, "payFirst", "(I)V"⟩
abbrev cX0_dropFirst : ByteArray := prog_2_method_6_code
def yX0_dropFirst : MethodName := ⟨RX0, "dropFirst", "()V"⟩
def RX1 : String := "RemontoirClock$History"
def TX1 : u_T := fun k => match k with
  | 0 => ("RemontoirClock$History", "size", "I", false)
  | 1 => ("RemontoirClock$History", "oldest", "I", false)
  | _ => ("RemontoirClock$History", "saved", "[LRemontoirClock$State;", true)
def tyX1 : Nat → FieldType := fun k => match k with
  | 0 => .int
  | 1 => .int
  | _ => .array (.object "RemontoirClock$State")
abbrev wsX10 : List Cond := u_ws RX1 TX1 3
theorem nmX1 : ∀ a, a < 3 → ∀ b, b < 3 → a ≠ b → (TX1 a).2.1 ≠ (TX1 b).2.1 := by decide +kernel
theorem tyX1_ok : ∀ k, k < 3 → parseFieldDescriptor (TX1 k).2.2.1 = some (tyX1 k) := by decide +kernel
abbrev cX1_init : ByteArray := prog_3_method_1_code
def yX1_init : MethodName := ⟨RX1, "<init>", "()V"⟩
abbrev cX1_keep : ByteArray := prog_3_method_2_code
def yX1_keep : MethodName := ⟨RX1, "keep", "(LRemontoirClock$State;)V"⟩
def RX2 : String := "RemontoirClock$Reader"
def TX2 : u_T := fun k => match k with
  | 0 => ("RemontoirClock$Reader", "place", "I", false)
  | 1 => ("RemontoirClock$Reader", "weightRead", "I", false)
  | 2 => ("RemontoirClock$Reader", "turnsRead", "I", false)
  | _ => ("RemontoirClock$Reader", "periodRead", "I", false)
def tyX2 : Nat → FieldType := fun k => match k with
  | 0 => .int
  | 1 => .int
  | 2 => .int
  | _ => .int
abbrev wsX20 : List Cond := u_ws RX2 TX2 4
theorem nmX2 : ∀ a, a < 4 → ∀ b, b < 4 → a ≠ b → (TX2 a).2.1 ≠ (TX2 b).2.1 := by decide +kernel
theorem tyX2_ok : ∀ k, k < 4 → parseFieldDescriptor (TX2 k).2.2.1 = some (tyX2 k) := by decide +kernel
abbrev cX2_init : ByteArray := prog_4_method_1_code
def yX2_init : MethodName := ⟨RX2, "<init>", "()V"⟩
def RX3 : String := "RemontoirClock$State"
def TX3 : u_T := fun k => match k with
  | 0 => ("RemontoirClock$State", "weights", "LRemontoirClock$Weights;", true)
  | 1 => ("RemontoirClock$State", "winders", "LRemontoirClock$Winders;", true)
  | 2 => ("RemontoirClock$State", "debts", "LRemontoirClock$Debts;", true)
  | 3 => ("RemontoirClock$State", "settings", "[I", true)
  | 4 => ("RemontoirClock$State", "minute", "I", false)
  | 5 => ("RemontoirClock$State", "time", "I", false)
  | 6 => ("RemontoirClock$State", "charge", "I", false)
  | 7 => ("RemontoirClock$State", "snow", "I", false)
  | 8 => ("RemontoirClock$State", "wear", "I", false)
  | 9 => ("RemontoirClock$State", "struck", "I", false)
  | 10 => ("RemontoirClock$State", "forgiven", "I", false)
  | 11 => ("RemontoirClock$State", "chimed", "I", false)
  | 12 => ("RemontoirClock$State", "missed", "I", false)
  | 13 => ("RemontoirClock$State", "slips", "I", false)
  | 14 => ("RemontoirClock$State", "stood", "I", false)
  | _ => ("RemontoirClock$State", "rewindings", "I", false)
def tyX3 : Nat → FieldType := fun k => match k with
  | 0 => .object "RemontoirClock$Weights"
  | 1 => .object "RemontoirClock$Winders"
  | 2 => .object "RemontoirClock$Debts"
  | 3 => .array .int
  | 4 => .int
  | 5 => .int
  | 6 => .int
  | 7 => .int
  | 8 => .int
  | 9 => .int
  | 10 => .int
  | 11 => .int
  | 12 => .int
  | 13 => .int
  | 14 => .int
  | _ => .int
abbrev wsX30 : List Cond := u_ws RX3 TX3 16
theorem nmX3 : ∀ a, a < 16 → ∀ b, b < 16 → a ≠ b → (TX3 a).2.1 ≠ (TX3 b).2.1 := by decide +kernel
theorem tyX3_ok : ∀ k, k < 16 → parseFieldDescriptor (TX3 k).2.2.1 = some (tyX3 k) := by decide +kernel
abbrev cX3_init : ByteArray := prog_5_method_1_code
def yX3_init : MethodName := ⟨RX3, "<init>", "()V"⟩
abbrev cX3_copyFrom : ByteArray := prog_5_method_2_code
def yX3_copyFrom : MethodName := ⟨RX3, "copyFrom", "(LRemontoirClock$State;)V"⟩
abbrev cX3_isSilent : ByteArray := prog_5_method_3_code
def yX3_isSilent : MethodName := ⟨RX3, "isSilent", "()Z"⟩
abbrev cX3_hourShown : ByteArray := prog_5_method_4_code
def yX3_hourShown : MethodName := ⟨RX3, "hourShown", "()I"⟩
abbrev cX3_passMinutes : ByteArray := prog_5_method_5_code
def yX3_passMinutes : MethodName := ⟨RX3, "passMinutes", "(I)V"⟩
abbrev cX3_passMinute : ByteArray := prog_5_method_6_code
def yX3_passMinute : MethodName := ⟨RX3, "passMinute", "()V"⟩
abbrev cX3_passUpToDebts : ByteArray := prog_5_method_7_code
def yX3_passUpToDebts : MethodName := ⟨RX3, "passUpToDebts", "()V"⟩
abbrev cX3_letWinderCome : ByteArray := prog_5_method_8_code
def yX3_letWinderCome : MethodName := ⟨RX3, "letWinderCome", "()V"⟩
abbrev cX3_areStrikersKeptOut : ByteArray := prog_5_method_9_code
def yX3_areStrikersKeptOut : MethodName := ⟨RX3, "areStrikersKeptOut", "()Z"⟩
abbrev cX3_rewind : ByteArray := prog_5_method_10_code
def yX3_rewind : MethodName := ⟨RX3, "rewind", "()V"⟩
abbrev cX3_moveHands : ByteArray := prog_5_method_11_code
def yX3_moveHands : MethodName := ⟨RX3, "moveHands", "()Z"⟩
abbrev cX3_isSlippery : ByteArray := prog_5_method_12_code
def yX3_isSlippery : MethodName := ⟨RX3, "isSlippery", "()Z"⟩
abbrev cX3_slip : ByteArray := prog_5_method_13_code
def yX3_slip : MethodName := ⟨RX3, "slip", "()V"⟩
abbrev cX3_chime : ByteArray := prog_5_method_14_code
def yX3_chime : MethodName := ⟨RX3, "chime", "()V"⟩
abbrev cX3_owe : ByteArray := prog_5_method_15_code
def yX3_owe : MethodName := ⟨RX3, "owe", "()V"⟩
abbrev cX3_strike : ByteArray := prog_5_method_16_code
def yX3_strike : MethodName := ⟨RX3, "strike", "()V"⟩
abbrev cX3_isDueAndKeptOut : ByteArray := prog_5_method_17_code
def yX3_isDueAndKeptOut : MethodName := ⟨RX3, "isDueAndKeptOut", "(I)Z"⟩
def RX4 : String := "RemontoirClock$Text"
def TX4 : u_T := fun k => match k with
  | 0 => ("RemontoirClock$Text", "length", "I", false)
  | 1 => ("RemontoirClock$Text", "signs", "[C", true)
  | _ => ("RemontoirClock$Text", "reader", "LRemontoirClock$Reader;", true)
def tyX4 : Nat → FieldType := fun k => match k with
  | 0 => .int
  | 1 => .array .char
  | _ => .object "RemontoirClock$Reader"
abbrev wsX40 : List Cond := u_ws RX4 TX4 3
theorem nmX4 : ∀ a, a < 3 → ∀ b, b < 3 → a ≠ b → (TX4 a).2.1 ≠ (TX4 b).2.1 := by decide +kernel
theorem tyX4_ok : ∀ k, k < 3 → parseFieldDescriptor (TX4 k).2.2.1 = some (tyX4 k) := by decide +kernel
abbrev cX4_init : ByteArray := prog_6_method_1_code
def yX4_init : MethodName := ⟨RX4, "<init>", "()V"⟩
def RX5 : String := "RemontoirClock$Weights"
def TX5 : u_T := fun k => match k with
  | 0 => ("RemontoirClock$Weights", "height", "[I", true)
  | 1 => ("RemontoirClock$Weights", "taken", "[I", true)
  | _ => ("RemontoirClock$Weights", "wound", "[I", true)
def tyX5 : Nat → FieldType := fun k => match k with
  | 0 => .array .int
  | 1 => .array .int
  | _ => .array .int
abbrev wsX50 : List Cond := u_ws RX5 TX5 3
theorem nmX5 : ∀ a, a < 3 → ∀ b, b < 3 → a ≠ b → (TX5 a).2.1 ≠ (TX5 b).2.1 := by decide +kernel
theorem tyX5_ok : ∀ k, k < 3 → parseFieldDescriptor (TX5 k).2.2.1 = some (tyX5 k) := by decide +kernel
abbrev cX5_init : ByteArray := prog_7_method_1_code
def yX5_init : MethodName := ⟨RX5, "<init>", "()V"⟩
abbrev cX5_copyFrom : ByteArray := prog_7_method_2_code
def yX5_copyFrom : MethodName := ⟨RX5, "copyFrom", "(LRemontoirClock$Weights;)V"⟩
abbrev cX5_raise : ByteArray := prog_7_method_3_code
def yX5_raise : MethodName := ⟨RX5, "raise", "(II)I"⟩
abbrev cX5_take : ByteArray := prog_7_method_4_code
def yX5_take : MethodName := ⟨RX5, "take", "(II)V"⟩
def RX6 : String := "RemontoirClock$Winders"
def TX6 : u_T := fun k => match k with
  | 0 => ("RemontoirClock$Winders", "size", "I", false)
  | 1 => ("RemontoirClock$Winders", "weightOf", "[I", true)
  | 2 => ("RemontoirClock$Winders", "turns", "[I", true)
  | 3 => ("RemontoirClock$Winders", "period", "[I", true)
  | 4 => ("RemontoirClock$Winders", "dueFrom", "[I", true)
  | _ => ("RemontoirClock$Winders", "came", "[I", true)
def tyX6 : Nat → FieldType := fun k => match k with
  | 0 => .int
  | 1 => .array .int
  | 2 => .array .int
  | 3 => .array .int
  | 4 => .array .int
  | _ => .array .int
abbrev wsX60 : List Cond := u_ws RX6 TX6 6
theorem nmX6 : ∀ a, a < 6 → ∀ b, b < 6 → a ≠ b → (TX6 a).2.1 ≠ (TX6 b).2.1 := by decide +kernel
theorem tyX6_ok : ∀ k, k < 6 → parseFieldDescriptor (TX6 k).2.2.1 = some (tyX6 k) := by decide +kernel
abbrev cX6_init : ByteArray := prog_8_method_1_code
def yX6_init : MethodName := ⟨RX6, "<init>", "()V"⟩
abbrev cX6_copyFrom : ByteArray := prog_8_method_2_code
def yX6_copyFrom : MethodName := ⟨RX6, "copyFrom", "(LRemontoirClock$Winders;)V"⟩
abbrev cX6_copyWinder : ByteArray := prog_8_method_3_code
def yX6_copyWinder : MethodName := ⟨RX6, "copyWinder", "(LRemontoirClock$Winders;II)V"⟩
abbrev cX6_add : ByteArray := prog_8_method_4_code
def yX6_add : MethodName := ⟨RX6, "add", "(IIII)V"⟩
abbrev cX6_remove : ByteArray := prog_8_method_5_code
def yX6_remove : MethodName := ⟨RX6, "remove", "(I)V"⟩
abbrev cX6_whoComes : ByteArray := prog_8_method_7_code
def yX6_whoComes : MethodName := ⟨RX6, "whoComes", "(IZ)I"⟩
def RX7 : String := "RemontoirClock"
def TX7 : u_T := fun k => match k with
  | 0 => ("RemontoirClock", "now", "LRemontoirClock$State;", true)
  | 1 => ("RemontoirClock", "trial", "LRemontoirClock$State;", true)
  | 2 => ("RemontoirClock", "history", "LRemontoirClock$History;", true)
  | 3 => ("RemontoirClock", "text", "LRemontoirClock$Text;", true)
  | _ => ("RemontoirClock", "goingRounds", "[I", true)
def tyX7 : Nat → FieldType := fun k => match k with
  | 0 => .object "RemontoirClock$State"
  | 1 => .object "RemontoirClock$State"
  | 2 => .object "RemontoirClock$History"
  | 3 => .object "RemontoirClock$Text"
  | _ => .array .int
abbrev wsX70 : List Cond := u_ws RX7 TX7 5
theorem nmX7 : ∀ a, a < 5 → ∀ b, b < 5 → a ≠ b → (TX7 a).2.1 ≠ (TX7 b).2.1 := by decide +kernel
theorem tyX7_ok : ∀ k, k < 5 → parseFieldDescriptor (TX7 k).2.2.1 = some (tyX7 k) := by decide +kernel
abbrev cX7_init : ByteArray := prog_1_method_1_code
def yX7_init : MethodName := ⟨RX7, "<init>", "()V"⟩
abbrev cX7_wind : ByteArray := prog_1_method_2_code
def yX7_wind : MethodName := ⟨RX7, "wind", "(II)I"⟩
abbrev cX7_set : ByteArray := prog_1_method_3_code
def yX7_set : MethodName := ⟨RX7, "set", "(II)I"⟩
abbrev cX7_setSnow : ByteArray := prog_1_method_4_code
def yX7_setSnow : MethodName := ⟨RX7, "setSnow", "(I)I"⟩
abbrev cX7_setHands : ByteArray := prog_1_method_5_code
def yX7_setHands : MethodName := ⟨RX7, "setHands", "(I)I"⟩
abbrev cX7_mend : ByteArray := prog_1_method_6_code
def yX7_mend : MethodName := ⟨RX7, "mend", "()I"⟩
abbrev cX7_forgive : ByteArray := prog_1_method_7_code
def yX7_forgive : MethodName := ⟨RX7, "forgive", "()I"⟩
abbrev cX7_hire : ByteArray := prog_1_method_8_code
def yX7_hire : MethodName := ⟨RX7, "hire", "(III)I"⟩
abbrev cX7_dismiss : ByteArray := prog_1_method_9_code
def yX7_dismiss : MethodName := ⟨RX7, "dismiss", "(I)I"⟩
abbrev cX7_pass : ByteArray := prog_1_method_10_code
def yX7_pass : MethodName := ⟨RX7, "pass", "(I)I"⟩
abbrev cX7_weight : ByteArray := prog_1_method_16_code
def yX7_weight : MethodName := ⟨RX7, "weight", "(II)I"⟩
abbrev cX7_winder : ByteArray := prog_1_method_17_code
def yX7_winder : MethodName := ⟨RX7, "winder", "(II)I"⟩
abbrev cX7_debt : ByteArray := prog_1_method_18_code
def yX7_debt : MethodName := ⟨RX7, "debt", "(II)I"⟩
abbrev cX7_count : ByteArray := prog_1_method_19_code
def yX7_count : MethodName := ⟨RX7, "count", "(I)I"⟩
abbrev cX7_setting : ByteArray := prog_1_method_20_code
def yX7_setting : MethodName := ⟨RX7, "setting", "(I)I"⟩
abbrev cX7_requireWeight : ByteArray := prog_1_method_29_code
def yX7_requireWeight : MethodName := ⟨RX7, "requireWeight", "(I)V"⟩
abbrev cX7_requireSetting : ByteArray := prog_1_method_30_code
def yX7_requireSetting : MethodName := ⟨RX7, "requireSetting", "(I)V"⟩
abbrev cX7_requireWinder : ByteArray := prog_1_method_31_code
def yX7_requireWinder : MethodName := ⟨RX7, "requireWinder", "(I)V"⟩
abbrev cX7_requireRange : ByteArray := prog_1_method_32_code
def yX7_requireRange : MethodName := ⟨RX7, "requireRange", "(III)V"⟩
def RX8 : String := "RemontoirClockModel"
def TX8 : u_T := fun k => match k with
  | _ => ("", "", "", false)
def tyX8 : Nat → FieldType := fun k => match k with
  | _ => .int
abbrev wsX80 : List Cond := u_ws RX8 TX8 0
theorem nmX8 : ∀ a, a < 0 → ∀ b, b < 0 → a ≠ b → (TX8 a).2.1 ≠ (TX8 b).2.1 := by decide +kernel
theorem tyX8_ok : ∀ k, k < 0 → parseFieldDescriptor (TX8 k).2.2.1 = some (tyX8 k) := by decide +kernel
def RJ9 : String := "java/lang/Math"
def TJ9 : u_T := fun k => match k with
  | _ => ("", "", "", false)
def tyJ9 : Nat → FieldType := fun k => match k with
  | _ => .int
abbrev wsJ90 : List Cond := u_ws RJ9 TJ9 0
theorem nmJ9 : ∀ a, a < 0 → ∀ b, b < 0 → a ≠ b → (TJ9 a).2.1 ≠ (TJ9 b).2.1 := by decide +kernel
theorem tyJ9_ok : ∀ k, k < 0 → parseFieldDescriptor (TJ9 k).2.2.1 = some (tyJ9 k) := by decide +kernel
abbrev cJ9_floorMod_7cf53 : ByteArray := prog_15_method_50_code
def yJ9_floorMod_7cf53 : MethodName := ⟨RJ9, "floorMod", "(II)I"⟩
abbrev cJ9_max_7cf53 : ByteArray := prog_15_method_65_code
def yJ9_max_7cf53 : MethodName := ⟨RJ9, "max", "(II)I"⟩
abbrev cJ9_min_7cf53 : ByteArray := prog_15_method_69_code
def yJ9_min_7cf53 : MethodName := ⟨RJ9, "min", "(II)I"⟩
def RJ0 : String := "java/lang/String"
def TJ0 : u_T := fun k => match k with
  | _ => ("", "", "", false)
def tyJ0 : Nat → FieldType := fun k => match k with
  | _ => .int
abbrev wsJ00 : List Cond := u_ws RJ0 TJ0 0
theorem nmJ0 : ∀ a, a < 0 → ∀ b, b < 0 → a ≠ b → (TJ0 a).2.1 ≠ (TJ0 b).2.1 := by decide +kernel
theorem tyJ0_ok : ∀ k, k < 0 → parseFieldDescriptor (TJ0 k).2.2.1 = some (tyJ0 k) := by decide +kernel
def RJ10 : String := "java/lang/System"
def TJ10 : u_T := fun k => match k with
  | _ => ("", "", "", false)
def tyJ10 : Nat → FieldType := fun k => match k with
  | _ => .int
abbrev wsJ100 : List Cond := u_ws RJ10 TJ10 0
theorem nmJ10 : ∀ a, a < 0 → ∀ b, b < 0 → a ≠ b → (TJ10 a).2.1 ≠ (TJ10 b).2.1 := by decide +kernel
theorem tyJ10_ok : ∀ k, k < 0 → parseFieldDescriptor (TJ10 k).2.2.1 = some (tyJ10 k) := by decide +kernel
def RL : String := "RemontoirClockLaw"
abbrev cL_cell : ByteArray := method_2_code
def yL_cell : MethodName := ⟨RL, "cell", "([II)I"⟩
abbrev cL_at : ByteArray := method_3_code
def yL_at : MethodName := ⟨RL, "at", "(II)I"⟩
abbrev cL_hour : ByteArray := method_4_code
def yL_hour : MethodName := ⟨RL, "hour", "(I)I"⟩
abbrev cL_silent : ByteArray := method_5_code
def yL_silent : MethodName := ⟨RL, "silent", "([I[I)Z"⟩
abbrev cL_drop : ByteArray := method_6_code
def yL_drop : MethodName := ⟨RL, "drop", "([I[I)V"⟩
abbrev cL_up : ByteArray := method_7_code
def yL_up : MethodName := ⟨RL, "up", "(II[I)I"⟩
abbrev cL_minute : ByteArray := method_8_code
def yL_minute : MethodName := ⟨RL, "minute", "([I[I[I[I[I)V"⟩
abbrev cL_fresh : ByteArray := method_9_code
def yL_fresh : MethodName := ⟨RL, "fresh", "([I[I[I)V"⟩
abbrev cL_hands : ByteArray := method_10_code
def yL_hands : MethodName := ⟨RL, "hands", "(LRemontoirClock;II[I[I[I[I)Z"⟩
abbrev cL_winders : ByteArray := method_11_code
def yL_winders : MethodName := ⟨RL, "winders", "(LRemontoirClock;II[I[I)Z"⟩
abbrev cL_passes : ByteArray := method_12_code
def yL_passes : MethodName := ⟨RL, "passes", "(LRemontoirClock;I[I[I[I[I[I)Z"⟩
abbrev cL_told : ByteArray := method_13_code
def yL_told : MethodName := ⟨RL, "told", "(LRemontoirClock;[I[I[I[I[I)Z"⟩
abbrev cL_law : ByteArray := code
def yL_law : MethodName := ⟨RL, "law", "([I)Z"⟩
abbrev vwCl : List vw_C := [(RX0, TX0, 3), (RX1, TX1, 3), (RX2, TX2, 4), (RX3, TX3, 16), (RX4, TX4, 3), (RX5, TX5, 3), (RX6, TX6, 6), (RX7, TX7, 5)]
